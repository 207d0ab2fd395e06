noncomputable def C7_bestRank_L14 (a1 : Int32) (g : CG) : Nat → Int32 → Int32 → Int32 → RS → Option (Int32 × Int32 × Int32 × RS)
  | 0, _, _, _, _ => none
  | m13 + 1, y4, y5, y6, u7 => if 9 < y4 then (some ((y4, y5, y6, u7))) else (if y5 < 0 then (some ((y4, y5, y6, u7))) else ((C7_copyOfLine g u7).bind fun t16 => (ix 6 a1).bind fun n18 => (pt t16 (10 + 1) (113 + 4 * n18 + 0) y4).bind fun u20 => (C7_ticksUntil_e1 g u20 1 (a1) (y5)).bind fun t22 => (if (t22.1) = (-1) then (some (y5, y6)) else (some (((t22.1) - 1), y4)) : Option (Int32 × Int32)).bind fun t25 => C7_bestRank_L14 a1 g m13 ((y4 + 1)) ((t25.1)) ((t25.2)) (t22.2)))
noncomputable def C7_bestRank (g : CG) (u0 : RS) (a1 : Int32) : Option (Sum Int32 (Int32 × RS)) := (C7_needLot g u0 (a1)).bind fun t1 => tr t1 fun t3 => (C7_bestRank_L14 a1 g FUEL (0 : Int32) (2000 : Int32) (-1 : Int32) u0).bind fun t8 => some (.inr ((t8.2.2.1), (t8.2.2.2)))
set_option maxHeartbeats 4000000 in
set_option maxRecDepth 100000 in
theorem c_X7_bestRank (l : Launch) (dC : Nat → ClassId) (dI : Nat → Nat → Nat) (cy : Nat → ClassId) (nb : Nat → Nat) (ad : CK → Nat) (ks : List CK) (g : CG) (hk : GA nb ad g ks) (u0 : RS) (a1 : Int32) (ro : Int32) (uz : RS) (sz : Nat) (hF : C7_bestRank g u0 a1 = some (.inr (ro, uz))) : Met l yX7_bestRank (wsg yX7_bestRank cX7_bestRank 7 (some .int)) ({ frames := 13, cells := 0, slots := 0, locals := 800 }) (va_Pc [.ref (ad .cl), .int a1] (fun U => U.heap.size = sz ∧ va_P (dC, dI) vwCl (WC cy ad ks g u0) U.heap ∧ va_K (dC, dI) vwCl (tyL cy) U ∧ va_D (fun _ => True) (WC cy ad ks g u0) ∧ GE nb (va_A (WC cy ad ks g u0) sz) U)) (va_Qi (fun (r : Int32) (_ : Unit) => r = ro) (fun _ t => va_P (dC, dI) vwCl (WC cy ad ks g uz) t.heap ∧ va_D (va_A (WC cy ad ks g u0) sz) (WC cy ad ks g uz)) (va_A (WC cy ad ks g u0) sz)) 0 0 (va_A (WC cy ad ks g u0) sz) := by
  refine Met.ofW (cc := cX7_bestRank) (maxL := 7) (ret := (some .int)) pn_X7 rfl ?_
  intro p e s m args below meth c s₁ B hml hv
  obtain ⟨rfl, hsz, hP, hK, hD0, hE⟩ := hv
  have hx := B.exec
  have hb := B.bytes
  have hr := B.returns
  have hts0 := atoms_spec (ws := (wsg yX7_bestRank cX7_bestRank 7 (some .int))) B.pre
  have hts : ∀ w ∈ wsL_law, w.before _ s = true := fun w h => hts0 w (List.mem_cons_of_mem _ h)
  have hown : s.vm.findClass RX7 = some m.cls := by have h9 := findClass_of_methodNamed B.named; exact h9
  have hlocks := B.notSynchronized
  subst hsz
  have hD := hD0.self (sz := s.heap.size)
  generalize hAe : va_A (WC cy ad ks g u0) s.heap.size = A at hD hE ⊢
  have hA : ∀ q : Nat, s.heap.size ≤ q → A q := fun q h => by rw [← hAe]; exact Or.inr h
  have hS : va_S A s.heap s.heap [] := va_S.rf
  have hl := lv_entry ([.ref (ad .cl), .int a1]) (n := 7) (Nat.le_of_ble_eq_true rfl)
  rw [lg_entry_eq]
  generalize (lg_sl ([.ref (ad .cl), .int a1]) ++ List.replicate (7 - (lg_sl ([.ref (ad .cl), .int a1])).length) Slot.unset).toArray = ls at hl ⊢
  have hl : lv_has ls 7 [(0, .ref (ad .cl)), (1, .int a1)] := hl
  generalize hHe : s.heap = H at hP hS ⊢
  have hS : va_S A s.heap H [] := by rw [hHe]; exact hS
  refine my_Q (fun Qn hQ => ?_)
  simp only [C7_bestRank] at hF
  refine lv_aload_n hx hb dX7_bestRank_0 rfl (lv_at hl 0 rfl) ?_
  refine lv_iload_n hx hb dX7_bestRank_1 rfl (lv_at hl 1 rfl) ?_
  obtain ⟨t1, e2, hF⟩ := ob hF
  rcases t1 with xz9 | t3
  · have hF : some (Sum.inl xz9) = some (.inr (ro, uz)) := hF
    cases hF
  · dsimp only [tr] at hF
    have hPc := hP
    have hDc := hD
    have hFc := my_free hD hS hA
    obtain ⟨q8, h8⟩ := wc_at (cy := cy) (ad := ad) (ks := ks) (g := g) (u := u0) (κ := .cl) hk.1 True.intro
    refine va_callv (va_runV (As := [.int a1]) (rest := []) ⟨hx, hb, hml, hown, hts⟩ (c_X7_needLot l dC dI cy nb ad ks g hk u0 (a1) H.size e2) (cwV 1 hts (gV mw_704 mw_705 mw_706 mw_2 mw_707) rfl rfl rfl (by decide +kernel) ⟨Nat.le_of_ble_eq_true rfl, Nat.le_of_ble_eq_true rfl⟩) (my_preV hPc hK hDc hE hS hFc (va_recv (q := (RX7, TX7, 12)) hK hP (ci := 7) (q0 := q8) rfl h8)) rfl rfl hl.1 rfl (lv_room (Nat.le_of_ble_eq_true rfl)) dX7_bestRank_2 ⟨Nat.le_of_ble_eq_true rfl, Nat.le_of_ble_eq_true rfl⟩) hS (fun q _ h => hFc q h) hFc (fun u t H1 locs ht hvm hw hB hz1 hk1 hS => ?_)
    clear h8
    obtain ⟨hP1, hD1⟩ := hB
    rw [ht] at hP1
    have hP := hP1
    have hD := hD1.weaken (fun k q _ h => hFc q.1 h)
    generalize H1 = H at hP hS ⊢
    clear hP1 hD1 hPc hDc hFc hk1 hz1 hvm ht
    refine lv_iconst (v := (-1)) hx hb dX7_bestRank_5 (by decide) ?_
    refine lv_istore_n (lv' := [(2, .int (-1)), (0, .ref (ad .cl)), (1, .int a1)]) hx hb dX7_bestRank_6 rfl hl (by decide) rfl (fun ls hl => ?_)
    refine lv_sipush (v := 2000) hx hb dX7_bestRank_7 (by decide) ?_
    refine lv_istore_n (lv' := [(3, .int 2000), (2, .int (-1)), (0, .ref (ad .cl)), (1, .int a1)]) hx hb dX7_bestRank_10 rfl hl (by decide) rfl (fun ls hl => ?_)
    refine lv_iconst (v := 0) hx hb dX7_bestRank_11 (by decide) ?_
    refine lv_istore (lv' := [(4, .int 0), (3, .int 2000), (2, .int (-1)), (0, .ref (ad .cl)), (1, .int a1)]) hx hb dX7_bestRank_12 hl (by decide) rfl (fun ls hl => ?_)
    obtain ⟨t8, hL9, hF⟩ := ob hF
    have kx10 : ∀ (H : Heap) (locs : List Loc) (ls : Array Slot), va_P (dC, dI) vwCl (WC cy ad ks g (t8.2.2.2)) H → va_D A (WC cy ad ks g (t8.2.2.2)) → va_S A s.heap H locs → lv_has ls 7 [(4, .int (t8.1)), (3, .int (t8.2.1)), (2, .int (t8.2.2.1)), (0, .ref (ad .cl)), (1, .int a1)] → W p l e (headSpec (wsg yX7_bestRank cX7_bestRank 7 (some .int)) ({ frames := 13, cells := 0, slots := 0, locals := 800 })).room s m ([.ref (ad .cl), .int a1] : List Value).toArray below meth c H locs 0 0 Qn (F0 m 75 ls []) := by
      intro H locs ls hP hD hS hl
      refine lv_iload_n hx hb dX7_bestRank_75 rfl (lv_at hl 2 rfl) ?_
      have hZ := s3 hF
      have zro : (t8.2.2.1) = ro := (congrArg (fun q => q.1) hZ)
      have zuz : (t8.2.2.2) = uz := (congrArg (fun q => q.2) hZ)
      have hP9 : va_P (dC, dI) vwCl (WC cy ad ks g uz) H := by rw [← zuz]; exact hP
      have hD9 : va_D A (WC cy ad ks g uz) := by rw [← zuz]; exact hD
      rw [hQ]
      exact W.iret (v := (t8.2.2.1)) hx hb hr (fun t ht hW => ⟨⟨(t8.2.2.1), (), rfl, zro, by rw [ht]; exact hP9, hD9⟩, hS.F ht⟩) hS.2.2 dX7_bestRank_76
    clear hF
    have loop12 : ∀ (m13 : Nat) (y4 : Int32) (y5 : Int32) (y6 : Int32) (u7 : RS), C7_bestRank_L14 a1 g m13 y4 y5 y6 u7 = some t8 → ∀ (H : Heap) (locs : List Loc) (ls : Array Slot), va_P (dC, dI) vwCl (WC cy ad ks g u7) H → va_D A (WC cy ad ks g u7) → va_S A s.heap H locs → lv_has ls 7 [(4, .int y4), (3, .int y5), (2, .int y6), (0, .ref (ad .cl)), (1, .int a1)] → W p l e (headSpec (wsg yX7_bestRank cX7_bestRank 7 (some .int)) ({ frames := 13, cells := 0, slots := 0, locals := 800 })).room s m ([.ref (ad .cl), .int a1] : List Value).toArray below meth c H locs 0 0 Qn (F0 m 14 ls []) := by
      intro m13
      induction m13 with
      | zero => intro y4 y5 y6 u7 hF; cases hF
      | succ m13 ih =>
        intro y4 y5 y6 u7 hF H locs ls hP hD hS hl
        simp only [C7_bestRank_L14] at hF
        refine lv_iload hx hb dX7_bestRank_14 (lv_at hl 0 rfl) ?_
        refine lv_bipush (v := 9) hx hb dX7_bestRank_16 (by decide) ?_
        refine lv_icmp_gt (tgt := 75) hx hb dX7_bestRank_18 (by decide) (fun c14 => ?_) (fun c14 => ?_)
        · rw [if_pos c14] at hF
          have ht := s1 hF
          subst ht
          exact kx10 _ _ _ hP hD hS (lv_sub hl [0, 1, 2, 3, 4] rfl)
        · rw [if_neg c14] at hF
          refine lv_iload_n hx hb dX7_bestRank_21 rfl (lv_at hl 1 rfl) ?_
          refine lv_if_lt (tgt := 75) hx hb dX7_bestRank_22 (by decide) (fun c15 => ?_) (fun c15 => ?_)
          · rw [if_pos c15] at hF
            have ht := s1 hF
            subst ht
            exact kx10 _ _ _ hP hD hS (lv_sub hl [0, 1, 2, 3, 4] rfl)
          · rw [if_neg c15] at hF
            refine lv_aload_n hx hb dX7_bestRank_25 rfl (lv_at hl 3 rfl) ?_
            obtain ⟨t16, e17, hF⟩ := ob hF
            have hPc := hP
            have hDc := hD
            have hFc := my_free hD hS hA
            obtain ⟨q8, h8⟩ := wc_at (cy := cy) (ad := ad) (ks := ks) (g := g) (u := u7) (κ := .cl) hk.1 True.intro
            refine va_callr (va_runV (As := []) (rest := []) ⟨hx, hb, hml, hown, hts⟩ (c_X7_copyOfLine l dC dI cy nb ad ks g hk u7 (t16) H.size e17) (cwV 0 hts (gV mw_1298 mw_1299 mw_1300 mw_2 mw_1301) rfl rfl rfl (by decide +kernel) ⟨Nat.le_of_ble_eq_true rfl, Nat.le_of_ble_eq_true rfl⟩) (my_preV hPc hK hDc hE hS hFc (va_recv (q := (RX7, TX7, 12)) hK hP (ci := 7) (q0 := q8) rfl h8)) rfl rfl hl.1 rfl (lv_room (Nat.le_of_ble_eq_true rfl)) dX7_bestRank_26 ⟨Nat.le_of_ble_eq_true rfl, Nat.le_of_ble_eq_true rfl⟩) hS (fun q _ h => hFc q h) hFc (fun u ra t H1 locs ht hvm hw hB hz1 hk1 hS => ?_)
            clear h8
            obtain ⟨hra, hP1, hD1⟩ := hB
            rw [ht] at hP1
            have hP := hP1
            have hD := hD1.weaken (fun k q _ h => hFc q.1 h)
            generalize H1 = H at hP hS ⊢
            clear hP1 hD1 hPc hDc hFc hk1 hz1 hvm ht
            obtain rfl := hra.symm
            refine lv_astore (lv' := [(5, .ref (ad (.ln 1))), (4, .int y4), (3, .int y5), (2, .int y6), (0, .ref (ad .cl)), (1, .int a1)]) hx hb dX7_bestRank_29 hl (by decide) rfl (fun ls hl => ?_)
            refine lv_aload hx hb dX7_bestRank_31 (lv_at hl 0 rfl) ?_
            obtain ⟨q9, h9⟩ := wc_at (cy := cy) (ad := ad) (ks := ks) (g := g) (u := t16) (κ := (.ln 1)) hk.1 (Or.inl (by decide))
            refine va_get (D := (dC, dI)) (ci := 3) (v := .ref (ad (.ls 1))) (C := RX3) (T := TX3) (N := 17) hx hb hts inlX3 hown hK hP q9 h9 rfl 11 (by decide) (hts _ mw_697) (fun _ h9 => h9) rfl dX7_bestRank_33 ?_
            clear h9
            refine lv_iload_n hx hb dX7_bestRank_36 rfl (lv_at hl 5 rfl) ?_
            obtain ⟨n18, e19, hF⟩ := ob hF
            obtain ⟨q9, h9⟩ := wc_at (cy := cy) (ad := ad) (ks := ks) (g := g) (u := t16) (κ := (.ls 1)) hk.1 (Or.inl (by decide))
            refine va_aldq hx hb hK hP q9 7 h9 rfl (ix_in e19) dX7_bestRank_37 ?_
            refine my_top (y := .ref (ad (.lo 1 n18))) (ixv (F := fun j => ad (.lo 1 j)) e19) ?_
            clear h9
            refine lv_iload hx hb dX7_bestRank_38 (lv_at hl 1 rfl) ?_
            obtain ⟨q9, h9, ez9⟩ := wc_set (cy := cy) (ad := ad) (ks := ks) (g := g) (u := t16) (κ := (.lo 1 n18)) (r := (10 + 1)) (i := (113 + 4 * n18 + 0)) (v := y4) hk.1 ⟨(Or.inl (by decide)), (ix_lt e19)⟩ (own_lo (show 1 < 12 by decide) (ix_lt e19) (by decide)) (sf_lo_0)
            refine va_put (D := (dC, dI)) (ci := 4) (v := .int y4) (ty := .int) (C := RX4) (T := TX4) (N := 12) hx hb hts inlX4 tyX4 tyX4_ok nmX4 hown hK hP hD hS q9 h9 rfl 0 (by decide) (hts _ mw_698) (fun _ h9 => h9) rfl (by decide +kernel) rfl rfl (Nat.le_of_ble_eq_true rfl) dX7_bestRank_40 (fun H locs hP hD hS => ?_)
            obtain ⟨u20, e21, hF⟩ := ob hF
            have hP : va_P (dC, dI) vwCl (WC cy ad ks g u20) H := by rw [← pt_eq e21, ← ez9]; exact hP
            have hD : va_D A (WC cy ad ks g u20) := by rw [← pt_eq e21, ← ez9]; exact hD
            clear ez9 h9
            refine lv_aload hx hb dX7_bestRank_43 (lv_at hl 0 rfl) ?_
            refine va_gets (C := RX2) (n := "LOT_FINISHED") (d := "LCardLine$Event;") (ref := "CardLine$Event") (v := .ref (nb (40 + 1))) hx hb (hE.evk 1 rfl).1 hS hown (hts _ mw_1349) (fun _ h9 => h9) dX7_bestRank_45 ?_
            refine lv_iload_n hx hb dX7_bestRank_48 rfl (lv_at hl 5 rfl) ?_
            refine lv_iload_n hx hb dX7_bestRank_49 rfl (lv_at hl 2 rfl) ?_
            obtain ⟨t22, e23, hF⟩ := ob hF
            have hPc := hP
            have hDc := hD
            have hFc := my_free hD hS hA
            refine va_calli (va_runS (As := [.ref (ad (.ln 1)), .ref (nb (40 + 1)), .int a1, .int y5]) (rest := []) ⟨hx, hb, hml, hown, hts⟩ (c_X7_ticksUntil_e1 l dC dI cy nb ad ks g hk u20 1 (a1) (y5) (t22.1) (t22.2) H.size (Or.inl (by decide)) e23) (va_cwS 4 hts (gS mw_1302 mw_1303 mw_2 mw_1304) rfl rfl rfl (by decide +kernel) ⟨Nat.le_of_ble_eq_true rfl, Nat.le_of_ble_eq_true rfl⟩) (my_preS hPc hK hDc hE hS hFc) rfl rfl hl.1 rfl (lv_room (Nat.le_of_ble_eq_true rfl)) dX7_bestRank_50 ⟨Nat.le_of_ble_eq_true rfl, Nat.le_of_ble_eq_true rfl⟩) hS (fun q _ h => hFc q h) hFc (fun r u t H1 locs ht hvm hw hB hz1 hk1 hS => ?_)
            obtain ⟨hP1, hD1⟩ := hB
            rw [ht] at hP1
            have hP := hP1
            have hD := hD1.weaken (fun k q _ h => hFc q.1 h)
            generalize H1 = H at hP hS ⊢
            clear hP1 hD1 hPc hDc hFc hk1 hz1 hvm ht
            obtain rfl := hw.symm
            refine lv_istore (lv' := [(6, .int (t22.1)), (5, .ref (ad (.ln 1))), (4, .int y4), (3, .int y5), (2, .int y6), (0, .ref (ad .cl)), (1, .int a1)]) hx hb dX7_bestRank_53 hl (by decide) rfl (fun ls hl => ?_)
            refine lv_iload hx hb dX7_bestRank_55 (lv_at hl 0 rfl) ?_
            refine lv_iconst (v := (-1)) hx hb dX7_bestRank_57 (by decide) ?_
            obtain ⟨t25, hJ26, hF⟩ := ob hF
            have join27 : ∀ (H : Heap) (locs : List Loc) (ls : Array Slot), va_P (dC, dI) vwCl (WC cy ad ks g (t22.2)) H → va_D A (WC cy ad ks g (t22.2)) → va_S A s.heap H locs → lv_has ls 7 [(6, .int (t22.1)), (5, .ref (ad (.ln 1))), (4, .int y4), (3, .int (t25.1)), (2, .int (t25.2)), (0, .ref (ad .cl)), (1, .int a1)] → W p l e (headSpec (wsg yX7_bestRank cX7_bestRank 7 (some .int)) ({ frames := 13, cells := 0, slots := 0, locals := 800 })).room s m ([.ref (ad .cl), .int a1] : List Value).toArray below meth c H locs 0 0 Qn (F0 m 69 ls []) := by
              intro H locs ls hP hD hS hl
              refine lv_iinc (v := (y4 + 1)) (lv' := [(4, .int (y4 + 1)), (6, .int (t22.1)), (5, .ref (ad (.ln 1))), (3, .int (t25.1)), (2, .int (t25.2)), (0, .ref (ad .cl)), (1, .int a1)]) hx hb dX7_bestRank_69 hl (k := 2) rfl (by rfl) (by decide) rfl (fun ls hl => ?_)
              refine lv_goto (tgt := 14) hx hb dX7_bestRank_72 (by decide) ?_
              exact ih _ _ _ _ hF _ _ _ hP hD hS (lv_sub hl [0, 3, 4, 5, 6] rfl)
            clear hF
            have hF := hJ26
            clear hJ26
            refine lv_icmp_eq (tgt := 69) hx hb dX7_bestRank_58 (by decide) (fun c24 => ?_) (fun c24 => ?_)
            · rw [if_pos c24] at hF
              have ht := s1 hF
              subst ht
              exact join27 _ _ _ hP hD hS (lv_sub hl [0, 1, 2, 3, 4, 5, 6] rfl)
            · rw [if_neg c24] at hF
              refine lv_iload hx hb dX7_bestRank_61 (lv_at hl 2 rfl) ?_
              refine lv_istore_n (lv' := [(2, .int y4), (6, .int (t22.1)), (5, .ref (ad (.ln 1))), (4, .int y4), (3, .int y5), (0, .ref (ad .cl)), (1, .int a1)]) hx hb dX7_bestRank_63 rfl hl (by decide) rfl (fun ls hl => ?_)
              refine lv_iload hx hb dX7_bestRank_64 (lv_at hl 1 rfl) ?_
              refine lv_iconst (v := 1) hx hb dX7_bestRank_66 (by decide) ?_
              refine lv_isub hx hb dX7_bestRank_67 ?_
              refine lv_istore_n (lv' := [(3, .int ((t22.1) - 1)), (2, .int y4), (6, .int (t22.1)), (5, .ref (ad (.ln 1))), (4, .int y4), (0, .ref (ad .cl)), (1, .int a1)]) hx hb dX7_bestRank_68 rfl hl (by decide) rfl (fun ls hl => ?_)
              have ht := s1 hF
              subst ht
              exact join27 _ _ _ hP hD hS (lv_sub hl [2, 3, 4, 0, 1, 5, 6] rfl)
    exact loop12 FUEL _ _ _ _ hL9 _ _ _ hP hD hS (lv_sub hl [0, 1, 2, 3, 4] rfl)
noncomputable def C7_bestTray_L8 (g : CG) : Nat → Int32 → Int32 → Int32 → RS → Option (Int32 × Int32 × Int32 × RS)
  | 0, _, _, _, _ => none
  | m10 + 1, y1, y2, y3, u4 => if 20 < y1 then (some ((y1, y2, y3, u4))) else (if y2 < 0 then (some ((y1, y2, y3, u4))) else ((C7_copyOfLine g u4).bind fun t13 => (pt t13 (10 + 1) 1 y1).bind fun u15 => (C7_ticksUntil_e2 g u15 1 (-1) (y2)).bind fun t17 => (if (t17.1) = (-1) then (some (y2, y3)) else (some (((t17.1) - 1), y1)) : Option (Int32 × Int32)).bind fun t20 => C7_bestTray_L8 g m10 ((y1 + 1)) ((t20.1)) ((t20.2)) (t17.2)))
noncomputable def C7_bestTray (g : CG) (u0 : RS)  : Option (Int32 × RS) := (C7_bestTray_L8 g FUEL (1 : Int32) (2000 : Int32) (-1 : Int32) u0).bind fun t5 => some ((t5.2.2.1), (t5.2.2.2))
set_option maxHeartbeats 4000000 in
set_option maxRecDepth 100000 in
theorem c_X7_bestTray (l : Launch) (dC : Nat → ClassId) (dI : Nat → Nat → Nat) (cy : Nat → ClassId) (nb : Nat → Nat) (ad : CK → Nat) (ks : List CK) (g : CG) (hk : GA nb ad g ks) (u0 : RS)  (ro : Int32) (uz : RS) (sz : Nat) (hF : C7_bestTray g u0  = some (ro, uz)) : Met l yX7_bestTray (wsg yX7_bestTray cX7_bestTray 6 (some .int)) ({ frames := 13, cells := 0, slots := 0, locals := 800 }) (va_Pc [.ref (ad .cl)] (fun U => U.heap.size = sz ∧ va_P (dC, dI) vwCl (WC cy ad ks g u0) U.heap ∧ va_K (dC, dI) vwCl (tyL cy) U ∧ va_D (fun _ => True) (WC cy ad ks g u0) ∧ GE nb (va_A (WC cy ad ks g u0) sz) U)) (va_Qi (fun (r : Int32) (_ : Unit) => r = ro) (fun _ t => va_P (dC, dI) vwCl (WC cy ad ks g uz) t.heap ∧ va_D (va_A (WC cy ad ks g u0) sz) (WC cy ad ks g uz)) (va_A (WC cy ad ks g u0) sz)) 0 0 (va_A (WC cy ad ks g u0) sz) := by
  refine Met.ofW (cc := cX7_bestTray) (maxL := 6) (ret := (some .int)) pn_X7 rfl ?_
  intro p e s m args below meth c s₁ B hml hv
  obtain ⟨rfl, hsz, hP, hK, hD0, hE⟩ := hv
  have hx := B.exec
  have hb := B.bytes
  have hr := B.returns
  have hts0 := atoms_spec (ws := (wsg yX7_bestTray cX7_bestTray 6 (some .int))) B.pre
  have hts : ∀ w ∈ wsL_law, w.before _ s = true := fun w h => hts0 w (List.mem_cons_of_mem _ h)
  have hown : s.vm.findClass RX7 = some m.cls := by have h9 := findClass_of_methodNamed B.named; exact h9
  have hlocks := B.notSynchronized
  subst hsz
  have hD := hD0.self (sz := s.heap.size)
  generalize hAe : va_A (WC cy ad ks g u0) s.heap.size = A at hD hE ⊢
  have hA : ∀ q : Nat, s.heap.size ≤ q → A q := fun q h => by rw [← hAe]; exact Or.inr h
  have hS : va_S A s.heap s.heap [] := va_S.rf
  have hl := lv_entry ([.ref (ad .cl)]) (n := 6) (Nat.le_of_ble_eq_true rfl)
  rw [lg_entry_eq]
  generalize (lg_sl ([.ref (ad .cl)]) ++ List.replicate (6 - (lg_sl ([.ref (ad .cl)])).length) Slot.unset).toArray = ls at hl ⊢
  have hl : lv_has ls 6 [(0, .ref (ad .cl))] := hl
  generalize hHe : s.heap = H at hP hS ⊢
  have hS : va_S A s.heap H [] := by rw [hHe]; exact hS
  refine my_Q (fun Qn hQ => ?_)
  simp only [C7_bestTray] at hF
  refine lv_iconst (v := (-1)) hx hb dX7_bestTray_0 (by decide) ?_
  refine lv_istore_n (lv' := [(1, .int (-1)), (0, .ref (ad .cl))]) hx hb dX7_bestTray_1 rfl hl (by decide) rfl (fun ls hl => ?_)
  refine lv_sipush (v := 2000) hx hb dX7_bestTray_2 (by decide) ?_
  refine lv_istore_n (lv' := [(2, .int 2000), (1, .int (-1)), (0, .ref (ad .cl))]) hx hb dX7_bestTray_5 rfl hl (by decide) rfl (fun ls hl => ?_)
  refine lv_iconst (v := 1) hx hb dX7_bestTray_6 (by decide) ?_
  refine lv_istore_n (lv' := [(3, .int 1), (2, .int 2000), (1, .int (-1)), (0, .ref (ad .cl))]) hx hb dX7_bestTray_7 rfl hl (by decide) rfl (fun ls hl => ?_)
  obtain ⟨t5, hL6, hF⟩ := ob hF
  have kx7 : ∀ (H : Heap) (locs : List Loc) (ls : Array Slot), va_P (dC, dI) vwCl (WC cy ad ks g (t5.2.2.2)) H → va_D A (WC cy ad ks g (t5.2.2.2)) → va_S A s.heap H locs → lv_has ls 6 [(3, .int (t5.1)), (2, .int (t5.2.1)), (1, .int (t5.2.2.1)), (0, .ref (ad .cl))] → W p l e (headSpec (wsg yX7_bestTray cX7_bestTray 6 (some .int)) ({ frames := 13, cells := 0, slots := 0, locals := 800 })).room s m ([.ref (ad .cl)] : List Value).toArray below meth c H locs 0 0 Qn (F0 m 61 ls []) := by
    intro H locs ls hP hD hS hl
    refine lv_iload_n hx hb dX7_bestTray_61 rfl (lv_at hl 2 rfl) ?_
    have hZ := s1 hF
    have zro : (t5.2.2.1) = ro := (congrArg (fun q => q.1) hZ)
    have zuz : (t5.2.2.2) = uz := (congrArg (fun q => q.2) hZ)
    have hP9 : va_P (dC, dI) vwCl (WC cy ad ks g uz) H := by rw [← zuz]; exact hP
    have hD9 : va_D A (WC cy ad ks g uz) := by rw [← zuz]; exact hD
    rw [hQ]
    exact W.iret (v := (t5.2.2.1)) hx hb hr (fun t ht hW => ⟨⟨(t5.2.2.1), (), rfl, zro, by rw [ht]; exact hP9, hD9⟩, hS.F ht⟩) hS.2.2 dX7_bestTray_62
  clear hF
  have loop9 : ∀ (m10 : Nat) (y1 : Int32) (y2 : Int32) (y3 : Int32) (u4 : RS), C7_bestTray_L8 g m10 y1 y2 y3 u4 = some t5 → ∀ (H : Heap) (locs : List Loc) (ls : Array Slot), va_P (dC, dI) vwCl (WC cy ad ks g u4) H → va_D A (WC cy ad ks g u4) → va_S A s.heap H locs → lv_has ls 6 [(3, .int y1), (2, .int y2), (1, .int y3), (0, .ref (ad .cl))] → W p l e (headSpec (wsg yX7_bestTray cX7_bestTray 6 (some .int)) ({ frames := 13, cells := 0, slots := 0, locals := 800 })).room s m ([.ref (ad .cl)] : List Value).toArray below meth c H locs 0 0 Qn (F0 m 8 ls []) := by
    intro m10
    induction m10 with
    | zero => intro y1 y2 y3 u4 hF; cases hF
    | succ m10 ih =>
      intro y1 y2 y3 u4 hF H locs ls hP hD hS hl
      simp only [C7_bestTray_L8] at hF
      refine lv_iload_n hx hb dX7_bestTray_8 rfl (lv_at hl 0 rfl) ?_
      refine lv_bipush (v := 20) hx hb dX7_bestTray_9 (by decide) ?_
      refine lv_icmp_gt (tgt := 61) hx hb dX7_bestTray_11 (by decide) (fun c11 => ?_) (fun c11 => ?_)
      · rw [if_pos c11] at hF
        have ht := s1 hF
        subst ht
        exact kx7 _ _ _ hP hD hS (lv_sub hl [0, 1, 2, 3] rfl)
      · rw [if_neg c11] at hF
        refine lv_iload_n hx hb dX7_bestTray_14 rfl (lv_at hl 1 rfl) ?_
        refine lv_if_lt (tgt := 61) hx hb dX7_bestTray_15 (by decide) (fun c12 => ?_) (fun c12 => ?_)
        · rw [if_pos c12] at hF
          have ht := s1 hF
          subst ht
          exact kx7 _ _ _ hP hD hS (lv_sub hl [0, 1, 2, 3] rfl)
        · rw [if_neg c12] at hF
          refine lv_aload_n hx hb dX7_bestTray_18 rfl (lv_at hl 3 rfl) ?_
          obtain ⟨t13, e14, hF⟩ := ob hF
          have hPc := hP
          have hDc := hD
          have hFc := my_free hD hS hA
          obtain ⟨q8, h8⟩ := wc_at (cy := cy) (ad := ad) (ks := ks) (g := g) (u := u4) (κ := .cl) hk.1 True.intro
          refine va_callr (va_runV (As := []) (rest := []) ⟨hx, hb, hml, hown, hts⟩ (c_X7_copyOfLine l dC dI cy nb ad ks g hk u4 (t13) H.size e14) (cwV 0 hts (gV mw_1298 mw_1299 mw_1300 mw_2 mw_1301) rfl rfl rfl (by decide +kernel) ⟨Nat.le_of_ble_eq_true rfl, Nat.le_of_ble_eq_true rfl⟩) (my_preV hPc hK hDc hE hS hFc (va_recv (q := (RX7, TX7, 12)) hK hP (ci := 7) (q0 := q8) rfl h8)) rfl rfl hl.1 rfl (lv_room (Nat.le_of_ble_eq_true rfl)) dX7_bestTray_19 ⟨Nat.le_of_ble_eq_true rfl, Nat.le_of_ble_eq_true rfl⟩) hS (fun q _ h => hFc q h) hFc (fun u ra t H1 locs ht hvm hw hB hz1 hk1 hS => ?_)
          clear h8
          obtain ⟨hra, hP1, hD1⟩ := hB
          rw [ht] at hP1
          have hP := hP1
          have hD := hD1.weaken (fun k q _ h => hFc q.1 h)
          generalize H1 = H at hP hS ⊢
          clear hP1 hD1 hPc hDc hFc hk1 hz1 hvm ht
          obtain rfl := hra.symm
          refine lv_astore (lv' := [(4, .ref (ad (.ln 1))), (3, .int y1), (2, .int y2), (1, .int y3), (0, .ref (ad .cl))]) hx hb dX7_bestTray_22 hl (by decide) rfl (fun ls hl => ?_)
          refine lv_aload hx hb dX7_bestTray_24 (lv_at hl 0 rfl) ?_
          refine lv_iload_n hx hb dX7_bestTray_26 rfl (lv_at hl 1 rfl) ?_
          obtain ⟨q9, h9, ez9⟩ := wc_set (cy := cy) (ad := ad) (ks := ks) (g := g) (u := t13) (κ := (.ln 1)) (r := (10 + 1)) (i := 1) (v := y1) hk.1 (Or.inl (by decide)) (own_ln (show 1 < 12 by decide) (by decide)) (sf_ln_1)
          refine va_put (D := (dC, dI)) (ci := 3) (v := .int y1) (ty := .int) (C := RX3) (T := TX3) (N := 17) hx hb hts inlX3 tyX3 tyX3_ok nmX3 hown hK hP hD hS q9 h9 rfl 1 (by decide) (hts _ mw_600) (fun _ h9 => h9) rfl (by decide +kernel) rfl rfl (Nat.le_of_ble_eq_true rfl) dX7_bestTray_27 (fun H locs hP hD hS => ?_)
          obtain ⟨u15, e16, hF⟩ := ob hF
          have hP : va_P (dC, dI) vwCl (WC cy ad ks g u15) H := by rw [← pt_eq e16, ← ez9]; exact hP
          have hD : va_D A (WC cy ad ks g u15) := by rw [← pt_eq e16, ← ez9]; exact hD
          clear ez9 h9
          refine lv_aload hx hb dX7_bestTray_30 (lv_at hl 0 rfl) ?_
          refine va_gets (C := RX2) (n := "ALL_FINISHED") (d := "LCardLine$Event;") (ref := "CardLine$Event") (v := .ref (nb (40 + 2))) hx hb (hE.evk 2 rfl).1 hS hown (hts _ mw_1358) (fun _ h9 => h9) dX7_bestTray_32 ?_
          refine lv_iconst (v := (-1)) hx hb dX7_bestTray_35 (by decide) ?_
          refine lv_iload_n hx hb dX7_bestTray_36 rfl (lv_at hl 2 rfl) ?_
          obtain ⟨t17, e18, hF⟩ := ob hF
          have hPc := hP
          have hDc := hD
          have hFc := my_free hD hS hA
          refine va_calli (va_runS (As := [.ref (ad (.ln 1)), .ref (nb (40 + 2)), .int (-1), .int y2]) (rest := []) ⟨hx, hb, hml, hown, hts⟩ (c_X7_ticksUntil_e2 l dC dI cy nb ad ks g hk u15 1 (-1) (y2) (t17.1) (t17.2) H.size (Or.inl (by decide)) e18) (va_cwS 4 hts (gS mw_1302 mw_1303 mw_2 mw_1304) rfl rfl rfl (by decide +kernel) ⟨Nat.le_of_ble_eq_true rfl, Nat.le_of_ble_eq_true rfl⟩) (my_preS hPc hK hDc hE hS hFc) rfl rfl hl.1 rfl (lv_room (Nat.le_of_ble_eq_true rfl)) dX7_bestTray_37 ⟨Nat.le_of_ble_eq_true rfl, Nat.le_of_ble_eq_true rfl⟩) hS (fun q _ h => hFc q h) hFc (fun r u t H1 locs ht hvm hw hB hz1 hk1 hS => ?_)
          obtain ⟨hP1, hD1⟩ := hB
          rw [ht] at hP1
          have hP := hP1
          have hD := hD1.weaken (fun k q _ h => hFc q.1 h)
          generalize H1 = H at hP hS ⊢
          clear hP1 hD1 hPc hDc hFc hk1 hz1 hvm ht
          obtain rfl := hw.symm
          refine lv_istore (lv' := [(5, .int (t17.1)), (4, .ref (ad (.ln 1))), (3, .int y1), (2, .int y2), (1, .int y3), (0, .ref (ad .cl))]) hx hb dX7_bestTray_40 hl (by decide) rfl (fun ls hl => ?_)
          refine lv_iload hx hb dX7_bestTray_42 (lv_at hl 0 rfl) ?_
          refine lv_iconst (v := (-1)) hx hb dX7_bestTray_44 (by decide) ?_
          obtain ⟨t20, hJ21, hF⟩ := ob hF
          have join22 : ∀ (H : Heap) (locs : List Loc) (ls : Array Slot), va_P (dC, dI) vwCl (WC cy ad ks g (t17.2)) H → va_D A (WC cy ad ks g (t17.2)) → va_S A s.heap H locs → lv_has ls 6 [(5, .int (t17.1)), (4, .ref (ad (.ln 1))), (3, .int y1), (2, .int (t20.1)), (1, .int (t20.2)), (0, .ref (ad .cl))] → W p l e (headSpec (wsg yX7_bestTray cX7_bestTray 6 (some .int)) ({ frames := 13, cells := 0, slots := 0, locals := 800 })).room s m ([.ref (ad .cl)] : List Value).toArray below meth c H locs 0 0 Qn (F0 m 55 ls []) := by
            intro H locs ls hP hD hS hl
            refine lv_iinc (v := (y1 + 1)) (lv' := [(3, .int (y1 + 1)), (5, .int (t17.1)), (4, .ref (ad (.ln 1))), (2, .int (t20.1)), (1, .int (t20.2)), (0, .ref (ad .cl))]) hx hb dX7_bestTray_55 hl (k := 2) rfl (by rfl) (by decide) rfl (fun ls hl => ?_)
            refine lv_goto (tgt := 8) hx hb dX7_bestTray_58 (by decide) ?_
            exact ih _ _ _ _ hF _ _ _ hP hD hS (lv_sub hl [0, 3, 4, 5] rfl)
          clear hF
          have hF := hJ21
          clear hJ21
          refine lv_icmp_eq (tgt := 55) hx hb dX7_bestTray_45 (by decide) (fun c19 => ?_) (fun c19 => ?_)
          · rw [if_pos c19] at hF
            have ht := s1 hF
            subst ht
            exact join22 _ _ _ hP hD hS (lv_sub hl [0, 1, 2, 3, 4, 5] rfl)
          · rw [if_neg c19] at hF
            refine lv_iload_n hx hb dX7_bestTray_48 rfl (lv_at hl 2 rfl) ?_
            refine lv_istore_n (lv' := [(1, .int y1), (5, .int (t17.1)), (4, .ref (ad (.ln 1))), (3, .int y1), (2, .int y2), (0, .ref (ad .cl))]) hx hb dX7_bestTray_49 rfl hl (by decide) rfl (fun ls hl => ?_)
            refine lv_iload hx hb dX7_bestTray_50 (lv_at hl 1 rfl) ?_
            refine lv_iconst (v := 1) hx hb dX7_bestTray_52 (by decide) ?_
            refine lv_isub hx hb dX7_bestTray_53 ?_
            refine lv_istore_n (lv' := [(2, .int ((t17.1) - 1)), (1, .int y1), (5, .int (t17.1)), (4, .ref (ad (.ln 1))), (3, .int y1), (0, .ref (ad .cl))]) hx hb dX7_bestTray_54 rfl hl (by decide) rfl (fun ls hl => ?_)
            have ht := s1 hF
            subst ht
            exact join22 _ _ _ hP hD hS (lv_sub hl [2, 3, 4, 0, 1, 5] rfl)
  exact loop9 FUEL _ _ _ _ hL6 _ _ _ hP hD hS (lv_sub hl [0, 1, 2, 3] rfl)
noncomputable def C7_needRange (a1 : Int32) (a2 : Int32) (a3 : Int32) : Option (Sum Int32 (Unit)) := if a1 < a2 then (some (.inl (2 : Int32))) else (if a1 ≤ a3 then (some (.inr ())) else (some (.inl (2 : Int32))))
set_option maxHeartbeats 4000000 in
set_option maxRecDepth 100000 in
theorem c_X7_needRange (l : Launch) (dC : Nat → ClassId) (dI : Nat → Nat → Nat) (cy : Nat → ClassId) (nb : Nat → Nat)  (a1 : Int32) (a2 : Int32) (a3 : Int32)  (sz : Nat) (hF : C7_needRange a1 a2 a3 = some (.inr ())) : Met l yX7_needRange (wsg yX7_needRange cX7_needRange 3 none) ({ frames := 7, cells := 0, slots := 0, locals := 200 }) (va_Pc [.int a1, .int a2, .int a3] (fun U => U.heap.size = sz ∧ va_P (dC, dI) vwCl ([] : va_W) U.heap ∧ va_K (dC, dI) vwCl (tyL cy) U ∧ va_D (fun _ => True) ([] : va_W) ∧ GE nb (va_A ([] : va_W) sz) U)) (va_Qv (fun (_ : Unit) => True) (fun _ t => va_P (dC, dI) vwCl ([] : va_W) t.heap ∧ va_D (va_A ([] : va_W) sz) ([] : va_W)) (va_A ([] : va_W) sz)) 0 0 (va_A ([] : va_W) sz) := by
  refine Met.ofW (cc := cX7_needRange) (maxL := 3) (ret := none) pn_X7 rfl ?_
  intro p e s m args below meth c s₁ B hml hv
  obtain ⟨rfl, hsz, hP, hK, hD0, hE⟩ := hv
  have hx := B.exec
  have hb := B.bytes
  have hr := B.returns
  have hts0 := atoms_spec (ws := (wsg yX7_needRange cX7_needRange 3 none)) B.pre
  have hts : ∀ w ∈ wsL_law, w.before _ s = true := fun w h => hts0 w (List.mem_cons_of_mem _ h)
  have hown : s.vm.findClass RX7 = some m.cls := by have h9 := findClass_of_methodNamed B.named; exact h9
  have hlocks := B.notSynchronized
  subst hsz
  have hD := hD0.self (sz := s.heap.size)
  generalize hAe : va_A ([] : va_W) s.heap.size = A at hD hE ⊢
  have hA : ∀ q : Nat, s.heap.size ≤ q → A q := fun q h => by rw [← hAe]; exact Or.inr h
  have hS : va_S A s.heap s.heap [] := va_S.rf
  have hl := lv_entry ([.int a1, .int a2, .int a3]) (n := 3) (Nat.le_of_ble_eq_true rfl)
  rw [lg_entry_eq]
  generalize (lg_sl ([.int a1, .int a2, .int a3]) ++ List.replicate (3 - (lg_sl ([.int a1, .int a2, .int a3])).length) Slot.unset).toArray = ls at hl ⊢
  have hl : lv_has ls 3 [(0, .int a1), (1, .int a2), (2, .int a3)] := hl
  generalize hHe : s.heap = H at hP hS ⊢
  have hS : va_S A s.heap H [] := by rw [hHe]; exact hS
  refine my_Q (fun Qn hQ => ?_)
  simp only [C7_needRange] at hF
  refine lv_iload_n hx hb dX7_needRange_0 rfl (lv_at hl 0 rfl) ?_
  refine lv_iload_n hx hb dX7_needRange_1 rfl (lv_at hl 1 rfl) ?_
  refine lv_icmp_lt (tgt := 10) hx hb dX7_needRange_2 (by decide) (fun c1 => ?_) (fun c1 => ?_)
  · rw [if_pos c1] at hF
    cases hF
  · rw [if_neg c1] at hF
    refine lv_iload_n hx hb dX7_needRange_5 rfl (lv_at hl 0 rfl) ?_
    refine lv_iload_n hx hb dX7_needRange_6 rfl (lv_at hl 2 rfl) ?_
    refine lv_icmp_le (tgt := 20) hx hb dX7_needRange_7 (by decide) (fun c2 => ?_) (fun c2 => ?_)
    · rw [if_pos c2] at hF
      have hZ := s3 hF
      have hP9 := hP
      have hD9 := hD
      rw [hQ]
      exact W.vret hx hb hr (fun t ht hW => ⟨⟨(), rfl, trivial, by rw [ht]; exact hP9, hD9⟩, hS.F ht⟩) hS.2.2 dX7_needRange_20
    · rw [if_neg c2] at hF
      cases hF
set_option maxHeartbeats 4000000 in
set_option maxRecDepth 100000 in
theorem c_X7_needRange_x (l : Launch) (hst : l.stackTraces = false) (dC : Nat → ClassId) (dI : Nat → Nat → Nat) (cy : Nat → ClassId) (nb : Nat → Nat)  (a1 : Int32) (a2 : Int32) (a3 : Int32) (xc : Int32) (sz : Nat) (hF : C7_needRange a1 a2 a3 = some (.inl xc)) : vx_Met l yX7_needRange (wsg yX7_needRange cX7_needRange 3 none) ({ frames := 7, cells := 1, slots := 6, locals := 200 }) (va_Pc [.int a1, .int a2, .int a3] (fun U => U.heap.size = sz ∧ va_P (dC, dI) vwCl ([] : va_W) U.heap ∧ va_K (dC, dI) vwCl (tyL cy) U ∧ va_D (fun _ => True) ([] : va_W) ∧ GE nb (va_A ([] : va_W) sz) U)) (va_Qv (fun (_ : Unit) => False) (fun _ _ => True) (va_A ([] : va_W) sz)) (vx_X (fun (_ : Unit) => True) (fun E9 _ _ => E9 = exn xc) (va_A ([] : va_W) sz)) 1 6 (va_A ([] : va_W) sz) := by
  refine vx_ofW (cc := cX7_needRange) (maxL := 3) (ret := none) pn_X7 rfl ?_
  intro p e s m args below meth c s₁ B hml hout hv
  obtain ⟨rfl, hsz, hP, hK, hD0, hE⟩ := hv
  have hx := B.exec
  have hb := B.bytes
  have hr := B.returns
  have hts0 := atoms_spec (ws := (wsg yX7_needRange cX7_needRange 3 none)) B.pre
  have hts : ∀ w ∈ wsL_law, w.before _ s = true := fun w h => hts0 w (List.mem_cons_of_mem _ h)
  have hown : s.vm.findClass RX7 = some m.cls := by have h9 := findClass_of_methodNamed B.named; exact h9
  have hlocks := B.notSynchronized
  subst hsz
  have hD := hD0.self (sz := s.heap.size)
  generalize hAe : va_A ([] : va_W) s.heap.size = A at hD hE ⊢
  have hA : ∀ q : Nat, s.heap.size ≤ q → A q := fun q h => by rw [← hAe]; exact Or.inr h
  have hS : va_S A s.heap s.heap [] := va_S.rf
  have hl := lv_entry ([.int a1, .int a2, .int a3]) (n := 3) (Nat.le_of_ble_eq_true rfl)
  rw [lg_entry_eq]
  generalize (lg_sl ([.int a1, .int a2, .int a3]) ++ List.replicate (3 - (lg_sl ([.int a1, .int a2, .int a3])).length) Slot.unset).toArray = ls at hl ⊢
  have hl : lv_has ls 3 [(0, .int a1), (1, .int a2), (2, .int a3)] := hl
  generalize hHe : s.heap = H at hP hS ⊢
  have hS : va_S A s.heap H [] := by rw [hHe]; exact hS
  refine my_Q (fun Qn hQ => ?_)
  simp only [C7_needRange] at hF
  refine lv_iload_n hx hb dX7_needRange_0 rfl (lv_at hl 0 rfl) ?_
  refine lv_iload_n hx hb dX7_needRange_1 rfl (lv_at hl 1 rfl) ?_
  refine lv_icmp_lt (tgt := 10) hx hb dX7_needRange_2 (by decide) (fun c1 => ?_) (fun c1 => ?_)
  · rw [if_pos c1] at hF
    have hZ := s4 hF
    subst hZ
    obtain ⟨sa, hsa⟩ := hE.t107
    rw [hQ]
    exact vx_throwS (A := A) (own := RX7) (cls := xA) (text := "a number is out of range") (names := ["java/lang/RuntimeException", "java/lang/Exception"]) (ik := 105) (is := 107) (ic := 109) hx hb hst hown (by decide) (by decide) (hts _ mw_569) (hts _ mw_570) hsa (my_hat (fun w h => hts w (List.mem_append_left _ (List.mem_append_right _ h))) my_atA hE.cA hE.dc) my_gA hE.zU hE.zN hS (by rw [hml]; exact hl.1) dX7_needRange_10 dX7_needRange_13 dX7_needRange_14 dX7_needRange_16 dX7_needRange_19 (fun x hx => (hout x hx).elim) (Nat.le_of_ble_eq_true rfl) (Nat.le_of_ble_eq_true rfl) (Nat.le_of_ble_eq_true rfl) (Nat.le_of_ble_eq_true rfl) hlocks (fun t _ h1 h2 => ⟨(), trivial, rfl, my_F hS h1 h2⟩) hS.2.2 (Nat.le_of_ble_eq_true rfl) (Nat.le_of_ble_eq_true rfl)
  · rw [if_neg c1] at hF
    refine lv_iload_n hx hb dX7_needRange_5 rfl (lv_at hl 0 rfl) ?_
    refine lv_iload_n hx hb dX7_needRange_6 rfl (lv_at hl 2 rfl) ?_
    refine lv_icmp_le (tgt := 20) hx hb dX7_needRange_7 (by decide) (fun c2 => ?_) (fun c2 => ?_)
    · rw [if_pos c2] at hF
      cases hF
    · rw [if_neg c2] at hF
      have hZ := s4 hF
      subst hZ
      obtain ⟨sa, hsa⟩ := hE.t107
      rw [hQ]
      exact vx_throwS (A := A) (own := RX7) (cls := xA) (text := "a number is out of range") (names := ["java/lang/RuntimeException", "java/lang/Exception"]) (ik := 105) (is := 107) (ic := 109) hx hb hst hown (by decide) (by decide) (hts _ mw_569) (hts _ mw_570) hsa (my_hat (fun w h => hts w (List.mem_append_left _ (List.mem_append_right _ h))) my_atA hE.cA hE.dc) my_gA hE.zU hE.zN hS (by rw [hml]; exact hl.1) dX7_needRange_10 dX7_needRange_13 dX7_needRange_14 dX7_needRange_16 dX7_needRange_19 (fun x hx => (hout x hx).elim) (Nat.le_of_ble_eq_true rfl) (Nat.le_of_ble_eq_true rfl) (Nat.le_of_ble_eq_true rfl) (Nat.le_of_ble_eq_true rfl) hlocks (fun t _ h1 h2 => ⟨(), trivial, rfl, my_F hS h1 h2⟩) hS.2.2 (Nat.le_of_ble_eq_true rfl) (Nat.le_of_ble_eq_true rfl)
noncomputable def C7_copyBehind_L10 (a1 : Int32) (g : CG) : Nat → Int32 → Int32 → RS → Option (Int32 × Int32 × RS)
  | 0, _, _, _ => none
  | m11 + 1, y3, y4, u5 => if a1 ≤ y3 then (some ((y3, y4, u5))) else (if y4 = 0 then (some ((y3, y4, u5))) else ((C3_tick g u5 1).bind fun t14 => C7_copyBehind_L10 a1 g m11 ((y3 + 1)) ((t14.1)) (t14.2)))
noncomputable def C7_copyBehind (g : CG) (u0 : RS) (a1 : Int32) : Option (RS) := (C7_copyOfLine g u0).bind fun t1 => (C7_copyBehind_L10 a1 g FUEL (0 : Int32) (1 : Int32) t1).bind fun t6 => some (t6.2.2)
set_option maxHeartbeats 4000000 in
set_option maxRecDepth 100000 in
theorem c_X7_copyBehind (l : Launch) (dC : Nat → ClassId) (dI : Nat → Nat → Nat) (cy : Nat → ClassId) (nb : Nat → Nat) (ad : CK → Nat) (ks : List CK) (g : CG) (hk : GA nb ad g ks) (u0 : RS) (a1 : Int32) (uz : RS) (sz : Nat) (hF : C7_copyBehind g u0 a1 = some uz) : Met l yX7_copyBehind (wsg yX7_copyBehind cX7_copyBehind 5 (some (.object "CardLine$Line"))) ({ frames := 12, cells := 0, slots := 0, locals := 700 }) (va_Pc [.ref (ad .cl), .int a1] (fun U => U.heap.size = sz ∧ va_P (dC, dI) vwCl (WC cy ad ks g u0) U.heap ∧ va_K (dC, dI) vwCl (tyL cy) U ∧ va_D (fun _ => True) (WC cy ad ks g u0) ∧ GE nb (va_A (WC cy ad ks g u0) sz) U)) (va_Qr (fun (_ : Unit) => True) (fun _ ra t => ra = ad (.ln 1) ∧ va_P (dC, dI) vwCl (WC cy ad ks g uz) t.heap ∧ va_D (va_A (WC cy ad ks g u0) sz) (WC cy ad ks g uz)) (va_A (WC cy ad ks g u0) sz)) 0 0 (va_A (WC cy ad ks g u0) sz) := by
  refine Met.ofW (cc := cX7_copyBehind) (maxL := 5) (ret := (some (.object "CardLine$Line"))) pn_X7 rfl ?_
  intro p e s m args below meth c s₁ B hml hv
  obtain ⟨rfl, hsz, hP, hK, hD0, hE⟩ := hv
  have hx := B.exec
  have hb := B.bytes
  have hr := B.returns
  have hts0 := atoms_spec (ws := (wsg yX7_copyBehind cX7_copyBehind 5 (some (.object "CardLine$Line")))) B.pre
  have hts : ∀ w ∈ wsL_law, w.before _ s = true := fun w h => hts0 w (List.mem_cons_of_mem _ h)
  have hown : s.vm.findClass RX7 = some m.cls := by have h9 := findClass_of_methodNamed B.named; exact h9
  have hlocks := B.notSynchronized
  subst hsz
  have hD := hD0.self (sz := s.heap.size)
  generalize hAe : va_A (WC cy ad ks g u0) s.heap.size = A at hD hE ⊢
  have hA : ∀ q : Nat, s.heap.size ≤ q → A q := fun q h => by rw [← hAe]; exact Or.inr h
  have hS : va_S A s.heap s.heap [] := va_S.rf
  have hl := lv_entry ([.ref (ad .cl), .int a1]) (n := 5) (Nat.le_of_ble_eq_true rfl)
  rw [lg_entry_eq]
  generalize (lg_sl ([.ref (ad .cl), .int a1]) ++ List.replicate (5 - (lg_sl ([.ref (ad .cl), .int a1])).length) Slot.unset).toArray = ls at hl ⊢
  have hl : lv_has ls 5 [(0, .ref (ad .cl)), (1, .int a1)] := hl
  generalize hHe : s.heap = H at hP hS ⊢
  have hS : va_S A s.heap H [] := by rw [hHe]; exact hS
  refine my_Q (fun Qn hQ => ?_)
  simp only [C7_copyBehind] at hF
  refine lv_aload_n hx hb dX7_copyBehind_0 rfl (lv_at hl 0 rfl) ?_
  obtain ⟨t1, e2, hF⟩ := ob hF
  have hPc := hP
  have hDc := hD
  have hFc := my_free hD hS hA
  obtain ⟨q8, h8⟩ := wc_at (cy := cy) (ad := ad) (ks := ks) (g := g) (u := u0) (κ := .cl) hk.1 True.intro
  refine va_callr (va_runV (As := []) (rest := []) ⟨hx, hb, hml, hown, hts⟩ (c_X7_copyOfLine l dC dI cy nb ad ks g hk u0 (t1) H.size e2) (cwV 0 hts (gV mw_1298 mw_1299 mw_1300 mw_2 mw_1301) rfl rfl rfl (by decide +kernel) ⟨Nat.le_of_ble_eq_true rfl, Nat.le_of_ble_eq_true rfl⟩) (my_preV hPc hK hDc hE hS hFc (va_recv (q := (RX7, TX7, 12)) hK hP (ci := 7) (q0 := q8) rfl h8)) rfl rfl hl.1 rfl (lv_room (Nat.le_of_ble_eq_true rfl)) dX7_copyBehind_1 ⟨Nat.le_of_ble_eq_true rfl, Nat.le_of_ble_eq_true rfl⟩) hS (fun q _ h => hFc q h) hFc (fun u ra t H1 locs ht hvm hw hB hz1 hk1 hS => ?_)
  clear h8
  obtain ⟨hra, hP1, hD1⟩ := hB
  rw [ht] at hP1
  have hP := hP1
  have hD := hD1.weaken (fun k q _ h => hFc q.1 h)
  generalize H1 = H at hP hS ⊢
  clear hP1 hD1 hPc hDc hFc hk1 hz1 hvm ht
  obtain rfl := hra.symm
  refine lv_astore_n (lv' := [(2, .ref (ad (.ln 1))), (0, .ref (ad .cl)), (1, .int a1)]) hx hb dX7_copyBehind_4 rfl hl (by decide) rfl (fun ls hl => ?_)
  refine lv_iconst (v := 1) hx hb dX7_copyBehind_5 (by decide) ?_
  refine lv_istore_n (lv' := [(3, .int 1), (2, .ref (ad (.ln 1))), (0, .ref (ad .cl)), (1, .int a1)]) hx hb dX7_copyBehind_6 rfl hl (by decide) rfl (fun ls hl => ?_)
  refine lv_iconst (v := 0) hx hb dX7_copyBehind_7 (by decide) ?_
  refine lv_istore (lv' := [(4, .int 0), (3, .int 1), (2, .ref (ad (.ln 1))), (0, .ref (ad .cl)), (1, .int a1)]) hx hb dX7_copyBehind_8 hl (by decide) rfl (fun ls hl => ?_)
  obtain ⟨t6, hL7, hF⟩ := ob hF
  have kx8 : ∀ (H : Heap) (locs : List Loc) (ls : Array Slot), va_P (dC, dI) vwCl (WC cy ad ks g (t6.2.2)) H → va_D A (WC cy ad ks g (t6.2.2)) → va_S A s.heap H locs → lv_has ls 5 [(4, .int (t6.1)), (3, .int (t6.2.1)), (2, .ref (ad (.ln 1))), (0, .ref (ad .cl)), (1, .int a1)] → W p l e (headSpec (wsg yX7_copyBehind cX7_copyBehind 5 (some (.object "CardLine$Line"))) ({ frames := 12, cells := 0, slots := 0, locals := 700 })).room s m ([.ref (ad .cl), .int a1] : List Value).toArray below meth c H locs 0 0 Qn (F0 m 31 ls []) := by
    intro H locs ls hP hD hS hl
    refine lv_aload_n hx hb dX7_copyBehind_31 rfl (lv_at hl 2 rfl) ?_
    have hZ := s1 hF
    have zuz : (t6.2.2) = uz := hZ
    have hP9 : va_P (dC, dI) vwCl (WC cy ad ks g uz) H := by rw [← zuz]; exact hP
    have hD9 : va_D A (WC cy ad ks g uz) := by rw [← zuz]; exact hD
    rw [hQ]
    exact W.aret (v := .ref (ad (.ln 1))) hx hb hr (by first | exact Or.inl ⟨_, rfl⟩ | exact Or.inr ⟨_, rfl⟩) (Or.inr ⟨_, rfl⟩) (fun t ht hW => ⟨⟨(), (ad (.ln 1)), rfl, trivial, rfl, by rw [ht]; exact hP9, hD9⟩, hS.F ht⟩) hS.2.2 dX7_copyBehind_32
  clear hF
  have loop10 : ∀ (m11 : Nat) (y3 : Int32) (y4 : Int32) (u5 : RS), C7_copyBehind_L10 a1 g m11 y3 y4 u5 = some t6 → ∀ (H : Heap) (locs : List Loc) (ls : Array Slot), va_P (dC, dI) vwCl (WC cy ad ks g u5) H → va_D A (WC cy ad ks g u5) → va_S A s.heap H locs → lv_has ls 5 [(4, .int y3), (3, .int y4), (2, .ref (ad (.ln 1))), (0, .ref (ad .cl)), (1, .int a1)] → W p l e (headSpec (wsg yX7_copyBehind cX7_copyBehind 5 (some (.object "CardLine$Line"))) ({ frames := 12, cells := 0, slots := 0, locals := 700 })).room s m ([.ref (ad .cl), .int a1] : List Value).toArray below meth c H locs 0 0 Qn (F0 m 10 ls []) := by
    intro m11
    induction m11 with
    | zero => intro y3 y4 u5 hF; cases hF
    | succ m11 ih =>
      intro y3 y4 u5 hF H locs ls hP hD hS hl
      simp only [C7_copyBehind_L10] at hF
      refine lv_iload hx hb dX7_copyBehind_10 (lv_at hl 0 rfl) ?_
      refine lv_iload_n hx hb dX7_copyBehind_12 rfl (lv_at hl 4 rfl) ?_
      refine lv_icmp_ge (tgt := 31) hx hb dX7_copyBehind_13 (by decide) (fun c12 => ?_) (fun c12 => ?_)
      · rw [if_pos c12] at hF
        have ht := s1 hF
        subst ht
        exact kx8 _ _ _ hP hD hS (lv_sub hl [0, 1, 2, 3, 4] rfl)
      · rw [if_neg c12] at hF
        refine lv_iload_n hx hb dX7_copyBehind_16 rfl (lv_at hl 1 rfl) ?_
        refine lv_if_eq (tgt := 31) hx hb dX7_copyBehind_17 (by decide) (fun c13 => ?_) (fun c13 => ?_)
        · rw [if_pos c13] at hF
          have ht := s1 hF
          subst ht
          exact kx8 _ _ _ hP hD hS (lv_sub hl [0, 1, 2, 3, 4] rfl)
        · rw [if_neg c13] at hF
          refine lv_aload_n hx hb dX7_copyBehind_20 rfl (lv_at hl 2 rfl) ?_
          obtain ⟨t14, e15, hF⟩ := ob hF
          have hPc := hP
          have hDc := hD
          have hFc := my_free hD hS hA
          obtain ⟨q8, h8⟩ := wc_at (cy := cy) (ad := ad) (ks := ks) (g := g) (u := u5) (κ := (.ln 1)) hk.1 (Or.inl (by decide))
          refine va_calli (va_runV (As := []) (rest := []) ⟨hx, hb, hml, hown, hts⟩ (c_X3_tick l dC dI cy nb ad ks g hk u5 1 (t14.1) (t14.2) H.size (Or.inl (by decide)) e15) (cwV 0 hts (gV mw_1137 mw_1138 mw_1139 mw_17 mw_1140) rfl rfl rfl (by decide +kernel) ⟨Nat.le_of_ble_eq_true rfl, Nat.le_of_ble_eq_true rfl⟩) (my_preV hPc hK hDc hE hS hFc (va_recv (q := (RX3, TX3, 17)) hK hP (ci := 3) (q0 := q8) rfl h8)) rfl rfl hl.1 rfl (lv_room (Nat.le_of_ble_eq_true rfl)) dX7_copyBehind_21 ⟨Nat.le_of_ble_eq_true rfl, Nat.le_of_ble_eq_true rfl⟩) hS (fun q _ h => hFc q h) hFc (fun r u t H1 locs ht hvm hw hB hz1 hk1 hS => ?_)
          clear h8
          obtain ⟨hP1, hD1⟩ := hB
          rw [ht] at hP1
          have hP := hP1
          have hD := hD1.weaken (fun k q _ h => hFc q.1 h)
          generalize H1 = H at hP hS ⊢
          clear hP1 hD1 hPc hDc hFc hk1 hz1 hvm ht
          obtain rfl := hw.symm
          refine lv_istore_n (lv' := [(3, .int (t14.1)), (4, .int y3), (2, .ref (ad (.ln 1))), (0, .ref (ad .cl)), (1, .int a1)]) hx hb dX7_copyBehind_24 rfl hl (by decide) rfl (fun ls hl => ?_)
          refine lv_iinc (v := (y3 + 1)) (lv' := [(4, .int (y3 + 1)), (3, .int (t14.1)), (2, .ref (ad (.ln 1))), (0, .ref (ad .cl)), (1, .int a1)]) hx hb dX7_copyBehind_25 hl (k := 1) rfl (by rfl) (by decide) rfl (fun ls hl => ?_)
          refine lv_goto (tgt := 10) hx hb dX7_copyBehind_28 (by decide) ?_
          exact ih _ _ _ hF _ _ _ hP hD hS (lv_sub hl [0, 1, 2, 3, 4] rfl)
  exact loop10 FUEL _ _ _ hL7 _ _ _ hP hD hS (lv_sub hl [0, 1, 2, 3, 4] rfl)
noncomputable def C7_blanksIn (g : CG) (u0 : RS) (a1 : Int32) : Option (Sum Int32 (Int32 × RS)) := (C7_needRange (a1) (1) (2000)).bind fun t1 => tr t1 fun t3 => (C7_copyBehind g u0 (a1)).bind fun t4 => some (.inr ((t4 (10 + 1) 5), t4))
set_option maxHeartbeats 4000000 in
set_option maxRecDepth 100000 in
theorem c_X7_blanksIn (l : Launch) (dC : Nat → ClassId) (dI : Nat → Nat → Nat) (cy : Nat → ClassId) (nb : Nat → Nat) (ad : CK → Nat) (ks : List CK) (g : CG) (hk : GA nb ad g ks) (u0 : RS) (a1 : Int32) (ro : Int32) (uz : RS) (sz : Nat) (hF : C7_blanksIn g u0 a1 = some (.inr (ro, uz))) : Met l yX7_blanksIn (wsg yX7_blanksIn cX7_blanksIn 2 (some .int)) ({ frames := 13, cells := 0, slots := 0, locals := 800 }) (va_Pc [.ref (ad .cl), .int a1] (fun U => U.heap.size = sz ∧ va_P (dC, dI) vwCl (WC cy ad ks g u0) U.heap ∧ va_K (dC, dI) vwCl (tyL cy) U ∧ va_D (fun _ => True) (WC cy ad ks g u0) ∧ GE nb (va_A (WC cy ad ks g u0) sz) U)) (va_Qi (fun (r : Int32) (_ : Unit) => r = ro) (fun _ t => va_P (dC, dI) vwCl (WC cy ad ks g uz) t.heap ∧ va_D (va_A (WC cy ad ks g u0) sz) (WC cy ad ks g uz)) (va_A (WC cy ad ks g u0) sz)) 0 0 (va_A (WC cy ad ks g u0) sz) := by
  refine Met.ofW (cc := cX7_blanksIn) (maxL := 2) (ret := (some .int)) pn_X7 rfl ?_
  intro p e s m args below meth c s₁ B hml hv
  obtain ⟨rfl, hsz, hP, hK, hD0, hE⟩ := hv
  have hx := B.exec
  have hb := B.bytes
  have hr := B.returns
  have hts0 := atoms_spec (ws := (wsg yX7_blanksIn cX7_blanksIn 2 (some .int))) B.pre
  have hts : ∀ w ∈ wsL_law, w.before _ s = true := fun w h => hts0 w (List.mem_cons_of_mem _ h)
  have hown : s.vm.findClass RX7 = some m.cls := by have h9 := findClass_of_methodNamed B.named; exact h9
  have hlocks := B.notSynchronized
  subst hsz
  have hD := hD0.self (sz := s.heap.size)
  generalize hAe : va_A (WC cy ad ks g u0) s.heap.size = A at hD hE ⊢
  have hA : ∀ q : Nat, s.heap.size ≤ q → A q := fun q h => by rw [← hAe]; exact Or.inr h
  have hS : va_S A s.heap s.heap [] := va_S.rf
  have hl := lv_entry ([.ref (ad .cl), .int a1]) (n := 2) (Nat.le_of_ble_eq_true rfl)
  rw [lg_entry_eq]
  generalize (lg_sl ([.ref (ad .cl), .int a1]) ++ List.replicate (2 - (lg_sl ([.ref (ad .cl), .int a1])).length) Slot.unset).toArray = ls at hl ⊢
  have hl : lv_has ls 2 [(0, .ref (ad .cl)), (1, .int a1)] := hl
  generalize hHe : s.heap = H at hP hS ⊢
  have hS : va_S A s.heap H [] := by rw [hHe]; exact hS
  refine my_Q (fun Qn hQ => ?_)
  simp only [C7_blanksIn] at hF
  refine lv_iload_n hx hb dX7_blanksIn_0 rfl (lv_at hl 1 rfl) ?_
  refine lv_iconst (v := 1) hx hb dX7_blanksIn_1 (by decide) ?_
  refine lv_sipush (v := 2000) hx hb dX7_blanksIn_2 (by decide) ?_
  obtain ⟨t1, e2, hF⟩ := ob hF
  rcases t1 with xz9 | t3
  · have hF : some (Sum.inl xz9) = some (.inr (ro, uz)) := hF
    cases hF
  · dsimp only [tr] at hF
    have hPc : va_P (dC, dI) vwCl ([] : va_W) H := fun k q h => by simp at h
    have hDc : va_D A ([] : va_W) := ⟨fun i j p q h => by simp at h, fun k q h => by simp at h⟩
    have hFc := my_free0 hS hA
    refine va_callv (va_runS (As := [.int a1, .int 1, .int 2000]) (rest := []) ⟨hx, hb, hml, hown, hts⟩ (c_X7_needRange l dC dI cy nb (a1) (1) (2000) H.size e2) (va_cwS 3 hts (gS mw_815 mw_816 mw_2 mw_817) rfl rfl rfl (by decide +kernel) ⟨Nat.le_of_ble_eq_true rfl, Nat.le_of_ble_eq_true rfl⟩) (my_preS hPc hK hDc hE hS hFc) rfl rfl hl.1 rfl (lv_room (Nat.le_of_ble_eq_true rfl)) dX7_blanksIn_5 ⟨Nat.le_of_ble_eq_true rfl, Nat.le_of_ble_eq_true rfl⟩) hS (fun q _ h => hFc q h) hFc (fun u t H1 locs ht hvm hw hB hz1 hk1 hS => ?_)
    obtain ⟨hP1, hD1⟩ := hB
    rw [ht] at hP1
    have hP := my_keep hP hk1
    generalize H1 = H at hP hS ⊢
    clear hP1 hD1 hPc hDc hFc hk1 hz1 hvm ht
    refine lv_aload_n hx hb dX7_blanksIn_8 rfl (lv_at hl 0 rfl) ?_
    refine lv_iload_n hx hb dX7_blanksIn_9 rfl (lv_at hl 1 rfl) ?_
    obtain ⟨t4, e5, hF⟩ := ob hF
    have hPc := hP
    have hDc := hD
    have hFc := my_free hD hS hA
    obtain ⟨q8, h8⟩ := wc_at (cy := cy) (ad := ad) (ks := ks) (g := g) (u := u0) (κ := .cl) hk.1 True.intro
    refine va_callr (va_runV (As := [.int a1]) (rest := []) ⟨hx, hb, hml, hown, hts⟩ (c_X7_copyBehind l dC dI cy nb ad ks g hk u0 (a1) (t4) H.size e5) (cwV 1 hts (gV mw_1370 mw_1371 mw_1372 mw_2 mw_1373) rfl rfl rfl (by decide +kernel) ⟨Nat.le_of_ble_eq_true rfl, Nat.le_of_ble_eq_true rfl⟩) (my_preV hPc hK hDc hE hS hFc (va_recv (q := (RX7, TX7, 12)) hK hP (ci := 7) (q0 := q8) rfl h8)) rfl rfl hl.1 rfl (lv_room (Nat.le_of_ble_eq_true rfl)) dX7_blanksIn_10 ⟨Nat.le_of_ble_eq_true rfl, Nat.le_of_ble_eq_true rfl⟩) hS (fun q _ h => hFc q h) hFc (fun u ra t H1 locs ht hvm hw hB hz1 hk1 hS => ?_)
    clear h8
    obtain ⟨hra, hP1, hD1⟩ := hB
    rw [ht] at hP1
    have hP := hP1
    have hD := hD1.weaken (fun k q _ h => hFc q.1 h)
    generalize H1 = H at hP hS ⊢
    clear hP1 hD1 hPc hDc hFc hk1 hz1 hvm ht
    obtain rfl := hra.symm
    obtain ⟨q9, h9⟩ := wc_at (cy := cy) (ad := ad) (ks := ks) (g := g) (u := t4) (κ := (.ln 1)) hk.1 (Or.inl (by decide))
    refine va_get (D := (dC, dI)) (ci := 3) (v := .int (t4 (10 + 1) 5)) (C := RX3) (T := TX3) (N := 17) hx hb hts inlX3 hown hK hP q9 h9 rfl 5 (by decide) (hts _ mw_573) (fun _ h9 => h9) rfl dX7_blanksIn_13 ?_
    clear h9
    have hZ := s3 hF
    have zro : (t4 (10 + 1) 5) = ro := (congrArg (fun q => q.1) hZ)
    have zuz : t4 = uz := (congrArg (fun q => q.2) hZ)
    have hP9 : va_P (dC, dI) vwCl (WC cy ad ks g uz) H := by rw [← zuz]; exact hP
    have hD9 : va_D A (WC cy ad ks g uz) := by rw [← zuz]; exact hD
    rw [hQ]
    exact W.iret (v := (t4 (10 + 1) 5)) hx hb hr (fun t ht hW => ⟨⟨(t4 (10 + 1) 5), (), rfl, zro, by rw [ht]; exact hP9, hD9⟩, hS.F ht⟩) hS.2.2 dX7_blanksIn_16
noncomputable def C7_bottleneck_L6 (g : CG) (u0 : RS) : Nat → Int32 → Int32 → Int32 → Option (Int32 × Int32 × Int32)
  | 0, _, _, _ => none
  | m9 + 1, y1, y2, y3 => if (u0 (10 + 0) 7) ≤ y1 then (some ((y1, y2, y3))) else ((C3_ticksToCome g u0 0 (y1)).bind fun x11 => (if x11 ≤ y2 then (some (y2, y3)) else (some (x11, y1)) : Option (Int32 × Int32)).bind fun t14 => C7_bottleneck_L6 g u0 m9 ((y1 + 1)) ((t14.1)) ((t14.2)))
noncomputable def C7_bottleneck (g : CG) (u0 : RS)  : Option (Int32) := (C7_bottleneck_L6 g u0 FUEL (0 : Int32) (-1 : Int32) (-1 : Int32)).bind fun t4 => some (t4.2.2)
set_option maxHeartbeats 4000000 in
set_option maxRecDepth 100000 in
theorem c_X7_bottleneck (l : Launch) (dC : Nat → ClassId) (dI : Nat → Nat → Nat) (cy : Nat → ClassId) (nb : Nat → Nat) (ad : CK → Nat) (ks : List CK) (g : CG) (hk : GA nb ad g ks) (u0 : RS)  (ro : Int32) (sz : Nat) (hF : C7_bottleneck g u0  = some ro) : Met l yX7_bottleneck (wsg yX7_bottleneck cX7_bottleneck 5 (some .int)) ({ frames := 11, cells := 0, slots := 0, locals := 600 }) (va_Pc [.ref (ad .cl)] (fun U => U.heap.size = sz ∧ va_P (dC, dI) vwCl (WC cy ad ks g u0) U.heap ∧ va_K (dC, dI) vwCl (tyL cy) U ∧ va_D (fun _ => True) (WC cy ad ks g u0) ∧ GE nb (va_A (WC cy ad ks g u0) sz) U)) (va_Qi (fun (r : Int32) (_ : Unit) => r = ro) (fun _ t => va_P (dC, dI) vwCl (WC cy ad ks g u0) t.heap ∧ va_D (va_A (WC cy ad ks g u0) sz) (WC cy ad ks g u0)) (va_A (WC cy ad ks g u0) sz)) 0 0 (va_A (WC cy ad ks g u0) sz) := by
  refine Met.ofW (cc := cX7_bottleneck) (maxL := 5) (ret := (some .int)) pn_X7 rfl ?_
  intro p e s m args below meth c s₁ B hml hv
  obtain ⟨rfl, hsz, hP, hK, hD0, hE⟩ := hv
  have hx := B.exec
  have hb := B.bytes
  have hr := B.returns
  have hts0 := atoms_spec (ws := (wsg yX7_bottleneck cX7_bottleneck 5 (some .int))) B.pre
  have hts : ∀ w ∈ wsL_law, w.before _ s = true := fun w h => hts0 w (List.mem_cons_of_mem _ h)
  have hown : s.vm.findClass RX7 = some m.cls := by have h9 := findClass_of_methodNamed B.named; exact h9
  have hlocks := B.notSynchronized
  subst hsz
  have hD := hD0.self (sz := s.heap.size)
  generalize hAe : va_A (WC cy ad ks g u0) s.heap.size = A at hD hE ⊢
  have hA : ∀ q : Nat, s.heap.size ≤ q → A q := fun q h => by rw [← hAe]; exact Or.inr h
  have hS : va_S A s.heap s.heap [] := va_S.rf
  have hl := lv_entry ([.ref (ad .cl)]) (n := 5) (Nat.le_of_ble_eq_true rfl)
  rw [lg_entry_eq]
  generalize (lg_sl ([.ref (ad .cl)]) ++ List.replicate (5 - (lg_sl ([.ref (ad .cl)])).length) Slot.unset).toArray = ls at hl ⊢
  have hl : lv_has ls 5 [(0, .ref (ad .cl))] := hl
  generalize hHe : s.heap = H at hP hS ⊢
  have hS : va_S A s.heap H [] := by rw [hHe]; exact hS
  refine my_Q (fun Qn hQ => ?_)
  simp only [C7_bottleneck] at hF
  refine lv_iconst (v := (-1)) hx hb dX7_bottleneck_0 (by decide) ?_
  refine lv_istore_n (lv' := [(1, .int (-1)), (0, .ref (ad .cl))]) hx hb dX7_bottleneck_1 rfl hl (by decide) rfl (fun ls hl => ?_)
  refine lv_iconst (v := (-1)) hx hb dX7_bottleneck_2 (by decide) ?_
  refine lv_istore_n (lv' := [(2, .int (-1)), (1, .int (-1)), (0, .ref (ad .cl))]) hx hb dX7_bottleneck_3 rfl hl (by decide) rfl (fun ls hl => ?_)
  refine lv_iconst (v := 0) hx hb dX7_bottleneck_4 (by decide) ?_
  refine lv_istore_n (lv' := [(3, .int 0), (2, .int (-1)), (1, .int (-1)), (0, .ref (ad .cl))]) hx hb dX7_bottleneck_5 rfl hl (by decide) rfl (fun ls hl => ?_)
  obtain ⟨t4, hL5, hF⟩ := ob hF
  have kx6 : ∀ (H : Heap) (locs : List Loc) (ls : Array Slot), va_P (dC, dI) vwCl (WC cy ad ks g u0) H → va_D A (WC cy ad ks g u0) → va_S A s.heap H locs → lv_has ls 5 [(3, .int (t4.1)), (2, .int (t4.2.1)), (1, .int (t4.2.2)), (0, .ref (ad .cl))] → W p l e (headSpec (wsg yX7_bottleneck cX7_bottleneck 5 (some .int)) ({ frames := 11, cells := 0, slots := 0, locals := 600 })).room s m ([.ref (ad .cl)] : List Value).toArray below meth c H locs 0 0 Qn (F0 m 44 ls []) := by
    intro H locs ls hP hD hS hl
    refine lv_iload_n hx hb dX7_bottleneck_44 rfl (lv_at hl 2 rfl) ?_
    have hZ := s1 hF
    have zro : (t4.2.2) = ro := hZ
    have hP9 : va_P (dC, dI) vwCl (WC cy ad ks g u0) H := by exact hP
    have hD9 : va_D A (WC cy ad ks g u0) := by exact hD
    rw [hQ]
    exact W.iret (v := (t4.2.2)) hx hb hr (fun t ht hW => ⟨⟨(t4.2.2), (), rfl, zro, by rw [ht]; exact hP9, hD9⟩, hS.F ht⟩) hS.2.2 dX7_bottleneck_45
  clear hF
  have loop8 : ∀ (m9 : Nat) (y1 : Int32) (y2 : Int32) (y3 : Int32), C7_bottleneck_L6 g u0 m9 y1 y2 y3 = some t4 → ∀ (H : Heap) (locs : List Loc) (ls : Array Slot), va_P (dC, dI) vwCl (WC cy ad ks g u0) H → va_D A (WC cy ad ks g u0) → va_S A s.heap H locs → lv_has ls 5 [(3, .int y1), (2, .int y2), (1, .int y3), (0, .ref (ad .cl))] → W p l e (headSpec (wsg yX7_bottleneck cX7_bottleneck 5 (some .int)) ({ frames := 11, cells := 0, slots := 0, locals := 600 })).room s m ([.ref (ad .cl)] : List Value).toArray below meth c H locs 0 0 Qn (F0 m 6 ls []) := by
    intro m9
    induction m9 with
    | zero => intro y1 y2 y3 hF; cases hF
    | succ m9 ih =>
      intro y1 y2 y3 hF H locs ls hP hD hS hl
      simp only [C7_bottleneck_L6] at hF
      refine lv_iload_n hx hb dX7_bottleneck_6 rfl (lv_at hl 0 rfl) ?_
      refine lv_aload_n hx hb dX7_bottleneck_7 rfl (lv_at hl 3 rfl) ?_
      obtain ⟨q9, h9⟩ := wc_at (cy := cy) (ad := ad) (ks := ks) (g := g) (u := u0) (κ := .cl) hk.1 True.intro
      refine va_get (D := (dC, dI)) (ci := 7) (v := .ref (ad (.ln 0))) (C := RX7) (T := TX7) (N := 12) hx hb hts inlX7 hown hK hP q9 h9 rfl 0 (by decide) (hts _ mw_18) (fun _ h9 => h9) rfl dX7_bottleneck_8 ?_
      clear h9
      obtain ⟨q9, h9⟩ := wc_at (cy := cy) (ad := ad) (ks := ks) (g := g) (u := u0) (κ := (.ln 0)) hk.1 (Or.inl (by decide))
      refine va_get (D := (dC, dI)) (ci := 3) (v := .int (u0 (10 + 0) 7)) (C := RX3) (T := TX3) (N := 17) hx hb hts inlX3 hown hK hP q9 h9 rfl 7 (by decide) (hts _ mw_138) (fun _ h9 => h9) rfl dX7_bottleneck_11 ?_
      clear h9
      refine lv_icmp_ge (tgt := 44) hx hb dX7_bottleneck_14 (by decide) (fun c10 => ?_) (fun c10 => ?_)
      · rw [if_pos c10] at hF
        have ht := s1 hF
        subst ht
        exact kx6 _ _ _ hP hD hS (lv_sub hl [0, 1, 2, 3] rfl)
      · rw [if_neg c10] at hF
        refine lv_aload_n hx hb dX7_bottleneck_17 rfl (lv_at hl 3 rfl) ?_
        obtain ⟨q9, h9⟩ := wc_at (cy := cy) (ad := ad) (ks := ks) (g := g) (u := u0) (κ := .cl) hk.1 True.intro
        refine va_get (D := (dC, dI)) (ci := 7) (v := .ref (ad (.ln 0))) (C := RX7) (T := TX7) (N := 12) hx hb hts inlX7 hown hK hP q9 h9 rfl 0 (by decide) (hts _ mw_18) (fun _ h9 => h9) rfl dX7_bottleneck_18 ?_
        clear h9
        refine lv_iload_n hx hb dX7_bottleneck_21 rfl (lv_at hl 0 rfl) ?_
        obtain ⟨x11, e12, hF⟩ := ob hF
        have hPc := hP
        have hDc := hD
        have hFc := my_free hD hS hA
        obtain ⟨q8, h8⟩ := wc_at (cy := cy) (ad := ad) (ks := ks) (g := g) (u := u0) (κ := (.ln 0)) hk.1 (Or.inl (by decide))
        refine va_calli (va_runV (As := [.int y1]) (rest := []) ⟨hx, hb, hml, hown, hts⟩ (c_X3_ticksToCome l dC dI cy nb ad ks g hk u0 0 (y1) (x11) H.size (Or.inl (by decide)) e12) (cwV 1 hts (gV mw_945 mw_946 mw_947 mw_17 mw_948) rfl rfl rfl (by decide +kernel) ⟨Nat.le_of_ble_eq_true rfl, Nat.le_of_ble_eq_true rfl⟩) (my_preV hPc hK hDc hE hS hFc (va_recv (q := (RX3, TX3, 17)) hK hP (ci := 3) (q0 := q8) rfl h8)) rfl rfl hl.1 rfl (lv_room (Nat.le_of_ble_eq_true rfl)) dX7_bottleneck_22 ⟨Nat.le_of_ble_eq_true rfl, Nat.le_of_ble_eq_true rfl⟩) hS (fun q _ h => hFc q h) hFc (fun r u t H1 locs ht hvm hw hB hz1 hk1 hS => ?_)
        clear h8
        obtain ⟨hP1, hD1⟩ := hB
        rw [ht] at hP1
        have hP := hP1
        have hD := hD1.weaken (fun k q _ h => hFc q.1 h)
        generalize H1 = H at hP hS ⊢
        clear hP1 hD1 hPc hDc hFc hk1 hz1 hvm ht
        obtain rfl := hw.symm
        refine lv_istore (lv' := [(4, .int x11), (3, .int y1), (2, .int y2), (1, .int y3), (0, .ref (ad .cl))]) hx hb dX7_bottleneck_25 hl (by decide) rfl (fun ls hl => ?_)
        refine lv_iload hx hb dX7_bottleneck_27 (lv_at hl 0 rfl) ?_
        refine lv_iload_n hx hb dX7_bottleneck_29 rfl (lv_at hl 2 rfl) ?_
        obtain ⟨t14, hJ15, hF⟩ := ob hF
        have join16 : ∀ (H : Heap) (locs : List Loc) (ls : Array Slot), va_P (dC, dI) vwCl (WC cy ad ks g u0) H → va_D A (WC cy ad ks g u0) → va_S A s.heap H locs → lv_has ls 5 [(4, .int x11), (3, .int y1), (2, .int (t14.1)), (1, .int (t14.2)), (0, .ref (ad .cl))] → W p l e (headSpec (wsg yX7_bottleneck cX7_bottleneck 5 (some .int)) ({ frames := 11, cells := 0, slots := 0, locals := 600 })).room s m ([.ref (ad .cl)] : List Value).toArray below meth c H locs 0 0 Qn (F0 m 38 ls []) := by
          intro H locs ls hP hD hS hl
          refine lv_iinc (v := (y1 + 1)) (lv' := [(3, .int (y1 + 1)), (4, .int x11), (2, .int (t14.1)), (1, .int (t14.2)), (0, .ref (ad .cl))]) hx hb dX7_bottleneck_38 hl (k := 1) rfl (by rfl) (by decide) rfl (fun ls hl => ?_)
          refine lv_goto (tgt := 6) hx hb dX7_bottleneck_41 (by decide) ?_
          exact ih _ _ _ hF _ _ _ hP hD hS (lv_sub hl [0, 2, 3, 4] rfl)
        clear hF
        have hF := hJ15
        clear hJ15
        refine lv_icmp_le (tgt := 38) hx hb dX7_bottleneck_30 (by decide) (fun c13 => ?_) (fun c13 => ?_)
        · rw [if_pos c13] at hF
          have ht := s1 hF
          subst ht
          exact join16 _ _ _ hP hD hS (lv_sub hl [0, 1, 2, 3, 4] rfl)
        · rw [if_neg c13] at hF
          refine lv_iload hx hb dX7_bottleneck_33 (lv_at hl 0 rfl) ?_
          refine lv_istore_n (lv' := [(2, .int x11), (4, .int x11), (3, .int y1), (1, .int y3), (0, .ref (ad .cl))]) hx hb dX7_bottleneck_35 rfl hl (by decide) rfl (fun ls hl => ?_)
          refine lv_iload_n hx hb dX7_bottleneck_36 rfl (lv_at hl 2 rfl) ?_
          refine lv_istore_n (lv' := [(1, .int y1), (2, .int x11), (4, .int x11), (3, .int y1), (0, .ref (ad .cl))]) hx hb dX7_bottleneck_37 rfl hl (by decide) rfl (fun ls hl => ?_)
          have ht := s1 hF
          subst ht
          exact join16 _ _ _ hP hD hS (lv_sub hl [2, 3, 1, 0, 4] rfl)
  exact loop8 FUEL _ _ _ hL5 _ _ _ hP hD hS (lv_sub hl [0, 1, 2, 3] rfl)
noncomputable def C7_needStation (g : CG) (u0 : RS) (a1 : Int32) : Option (Sum Int32 (Unit)) := if a1 < 0 then (some (.inl (1 : Int32))) else (if a1 < (u0 (10 + 0) 7) then (some (.inr ())) else (some (.inl (1 : Int32))))
set_option maxHeartbeats 4000000 in
set_option maxRecDepth 100000 in
theorem c_X7_needStation (l : Launch) (dC : Nat → ClassId) (dI : Nat → Nat → Nat) (cy : Nat → ClassId) (nb : Nat → Nat) (ad : CK → Nat) (ks : List CK) (g : CG) (hk : GA nb ad g ks) (u0 : RS) (a1 : Int32)  (sz : Nat) (hF : C7_needStation g u0 a1 = some (.inr ())) : Met l yX7_needStation (wsg yX7_needStation cX7_needStation 2 none) ({ frames := 7, cells := 0, slots := 0, locals := 200 }) (va_Pc [.ref (ad .cl), .int a1] (fun U => U.heap.size = sz ∧ va_P (dC, dI) vwCl (WC cy ad ks g u0) U.heap ∧ va_K (dC, dI) vwCl (tyL cy) U ∧ va_D (fun _ => True) (WC cy ad ks g u0) ∧ GE nb (va_A (WC cy ad ks g u0) sz) U)) (va_Qv (fun (_ : Unit) => True) (fun _ t => va_P (dC, dI) vwCl (WC cy ad ks g u0) t.heap ∧ va_D (va_A (WC cy ad ks g u0) sz) (WC cy ad ks g u0)) (va_A (WC cy ad ks g u0) sz)) 0 0 (va_A (WC cy ad ks g u0) sz) := by
  refine Met.ofW (cc := cX7_needStation) (maxL := 2) (ret := none) pn_X7 rfl ?_
  intro p e s m args below meth c s₁ B hml hv
  obtain ⟨rfl, hsz, hP, hK, hD0, hE⟩ := hv
  have hx := B.exec
  have hb := B.bytes
  have hr := B.returns
  have hts0 := atoms_spec (ws := (wsg yX7_needStation cX7_needStation 2 none)) B.pre
  have hts : ∀ w ∈ wsL_law, w.before _ s = true := fun w h => hts0 w (List.mem_cons_of_mem _ h)
  have hown : s.vm.findClass RX7 = some m.cls := by have h9 := findClass_of_methodNamed B.named; exact h9
  have hlocks := B.notSynchronized
  subst hsz
  have hD := hD0.self (sz := s.heap.size)
  generalize hAe : va_A (WC cy ad ks g u0) s.heap.size = A at hD hE ⊢
  have hA : ∀ q : Nat, s.heap.size ≤ q → A q := fun q h => by rw [← hAe]; exact Or.inr h
  have hS : va_S A s.heap s.heap [] := va_S.rf
  have hl := lv_entry ([.ref (ad .cl), .int a1]) (n := 2) (Nat.le_of_ble_eq_true rfl)
  rw [lg_entry_eq]
  generalize (lg_sl ([.ref (ad .cl), .int a1]) ++ List.replicate (2 - (lg_sl ([.ref (ad .cl), .int a1])).length) Slot.unset).toArray = ls at hl ⊢
  have hl : lv_has ls 2 [(0, .ref (ad .cl)), (1, .int a1)] := hl
  generalize hHe : s.heap = H at hP hS ⊢
  have hS : va_S A s.heap H [] := by rw [hHe]; exact hS
  refine my_Q (fun Qn hQ => ?_)
  simp only [C7_needStation] at hF
  refine lv_iload_n hx hb dX7_needStation_0 rfl (lv_at hl 1 rfl) ?_
  refine lv_if_lt (tgt := 15) hx hb dX7_needStation_1 (by decide) (fun c1 => ?_) (fun c1 => ?_)
  · rw [if_pos c1] at hF
    cases hF
  · rw [if_neg c1] at hF
    refine lv_iload_n hx hb dX7_needStation_4 rfl (lv_at hl 1 rfl) ?_
    refine lv_aload_n hx hb dX7_needStation_5 rfl (lv_at hl 0 rfl) ?_
    obtain ⟨q9, h9⟩ := wc_at (cy := cy) (ad := ad) (ks := ks) (g := g) (u := u0) (κ := .cl) hk.1 True.intro
    refine va_get (D := (dC, dI)) (ci := 7) (v := .ref (ad (.ln 0))) (C := RX7) (T := TX7) (N := 12) hx hb hts inlX7 hown hK hP q9 h9 rfl 0 (by decide) (hts _ mw_18) (fun _ h9 => h9) rfl dX7_needStation_6 ?_
    clear h9
    obtain ⟨q9, h9⟩ := wc_at (cy := cy) (ad := ad) (ks := ks) (g := g) (u := u0) (κ := (.ln 0)) hk.1 (Or.inl (by decide))
    refine va_get (D := (dC, dI)) (ci := 3) (v := .int (u0 (10 + 0) 7)) (C := RX3) (T := TX3) (N := 17) hx hb hts inlX3 hown hK hP q9 h9 rfl 7 (by decide) (hts _ mw_138) (fun _ h9 => h9) rfl dX7_needStation_9 ?_
    clear h9
    refine lv_icmp_lt (tgt := 25) hx hb dX7_needStation_12 (by decide) (fun c2 => ?_) (fun c2 => ?_)
    · rw [if_pos c2] at hF
      have hZ := s3 hF
      have hP9 : va_P (dC, dI) vwCl (WC cy ad ks g u0) H := by exact hP
      have hD9 : va_D A (WC cy ad ks g u0) := by exact hD
      rw [hQ]
      exact W.vret hx hb hr (fun t ht hW => ⟨⟨(), rfl, trivial, by rw [ht]; exact hP9, hD9⟩, hS.F ht⟩) hS.2.2 dX7_needStation_25
    · rw [if_neg c2] at hF
      cases hF
noncomputable def C7_busyPart (g : CG) (u0 : RS) (a1 : Int32) : Option (Sum Int32 (UInt32)) := (C7_needStation g u0 (a1)).bind fun t1 => tr t1 fun t3 => (if (u0 (10 + 0) 6) = 0 then (some FP.fconst0) else ((ix 6 a1).bind fun n8 => (fd (FP.i2f (u0 (10 + 0) (17 + 16 * n8 + 12))) (FP.i2f (u0 (10 + 0) 6))).bind fun x10 => some x10) : Option (UInt32)).bind fun t5 => some (.inr t5)
set_option maxHeartbeats 4000000 in
set_option maxRecDepth 100000 in
theorem c_X7_busyPart (l : Launch) (dC : Nat → ClassId) (dI : Nat → Nat → Nat) (cy : Nat → ClassId) (nb : Nat → Nat) (ad : CK → Nat) (ks : List CK) (g : CG) (hk : GA nb ad g ks) (u0 : RS) (a1 : Int32) (ro : UInt32) (sz : Nat) (hF : C7_busyPart g u0 a1 = some (.inr ro)) : Met l yX7_busyPart (wsg yX7_busyPart cX7_busyPart 3 (some .float)) ({ frames := 8, cells := 0, slots := 0, locals := 300 }) (va_Pc [.ref (ad .cl), .int a1] (fun U => U.heap.size = sz ∧ va_P (dC, dI) vwCl (WC cy ad ks g u0) U.heap ∧ va_K (dC, dI) vwCl (tyL cy) U ∧ va_D (fun _ => True) (WC cy ad ks g u0) ∧ GE nb (va_A (WC cy ad ks g u0) sz) U)) (va_Qf (fun (r : UInt32) (_ : Unit) => r = ro) (fun _ t => va_P (dC, dI) vwCl (WC cy ad ks g u0) t.heap ∧ va_D (va_A (WC cy ad ks g u0) sz) (WC cy ad ks g u0)) (va_A (WC cy ad ks g u0) sz)) 0 0 (va_A (WC cy ad ks g u0) sz) := by
  refine Met.ofW (cc := cX7_busyPart) (maxL := 3) (ret := (some .float)) pn_X7 rfl ?_
  intro p e s m args below meth c s₁ B hml hv
  obtain ⟨rfl, hsz, hP, hK, hD0, hE⟩ := hv
  have hx := B.exec
  have hb := B.bytes
  have hr := B.returns
  have hts0 := atoms_spec (ws := (wsg yX7_busyPart cX7_busyPart 3 (some .float))) B.pre
  have hts : ∀ w ∈ wsL_law, w.before _ s = true := fun w h => hts0 w (List.mem_cons_of_mem _ h)
  have hown : s.vm.findClass RX7 = some m.cls := by have h9 := findClass_of_methodNamed B.named; exact h9
  have hlocks := B.notSynchronized
  subst hsz
  have hD := hD0.self (sz := s.heap.size)
  generalize hAe : va_A (WC cy ad ks g u0) s.heap.size = A at hD hE ⊢
  have hA : ∀ q : Nat, s.heap.size ≤ q → A q := fun q h => by rw [← hAe]; exact Or.inr h
  have hS : va_S A s.heap s.heap [] := va_S.rf
  have hl := lv_entry ([.ref (ad .cl), .int a1]) (n := 3) (Nat.le_of_ble_eq_true rfl)
  rw [lg_entry_eq]
  generalize (lg_sl ([.ref (ad .cl), .int a1]) ++ List.replicate (3 - (lg_sl ([.ref (ad .cl), .int a1])).length) Slot.unset).toArray = ls at hl ⊢
  have hl : lv_has ls 3 [(0, .ref (ad .cl)), (1, .int a1)] := hl
  generalize hHe : s.heap = H at hP hS ⊢
  have hS : va_S A s.heap H [] := by rw [hHe]; exact hS
  refine my_Q (fun Qn hQ => ?_)
  simp only [C7_busyPart] at hF
  refine lv_aload_n hx hb dX7_busyPart_0 rfl (lv_at hl 0 rfl) ?_
  refine lv_iload_n hx hb dX7_busyPart_1 rfl (lv_at hl 1 rfl) ?_
  obtain ⟨t1, e2, hF⟩ := ob hF
  rcases t1 with xz9 | t3
  · have hF : some (Sum.inl xz9) = some (.inr ro) := hF
    cases hF
  · dsimp only [tr] at hF
    have hPc := hP
    have hDc := hD
    have hFc := my_free hD hS hA
    obtain ⟨q8, h8⟩ := wc_at (cy := cy) (ad := ad) (ks := ks) (g := g) (u := u0) (κ := .cl) hk.1 True.intro
    refine va_callv (va_runV (As := [.int a1]) (rest := []) ⟨hx, hb, hml, hown, hts⟩ (c_X7_needStation l dC dI cy nb ad ks g hk u0 (a1) H.size e2) (cwV 1 hts (gV mw_631 mw_632 mw_633 mw_2 mw_634) rfl rfl rfl (by decide +kernel) ⟨Nat.le_of_ble_eq_true rfl, Nat.le_of_ble_eq_true rfl⟩) (my_preV hPc hK hDc hE hS hFc (va_recv (q := (RX7, TX7, 12)) hK hP (ci := 7) (q0 := q8) rfl h8)) rfl rfl hl.1 rfl (lv_room (Nat.le_of_ble_eq_true rfl)) dX7_busyPart_2 ⟨Nat.le_of_ble_eq_true rfl, Nat.le_of_ble_eq_true rfl⟩) hS (fun q _ h => hFc q h) hFc (fun u t H1 locs ht hvm hw hB hz1 hk1 hS => ?_)
    clear h8
    obtain ⟨hP1, hD1⟩ := hB
    rw [ht] at hP1
    have hP := hP1
    have hD := hD1.weaken (fun k q _ h => hFc q.1 h)
    generalize H1 = H at hP hS ⊢
    clear hP1 hD1 hPc hDc hFc hk1 hz1 hvm ht
    refine lv_aload_n hx hb dX7_busyPart_5 rfl (lv_at hl 0 rfl) ?_
    obtain ⟨q9, h9⟩ := wc_at (cy := cy) (ad := ad) (ks := ks) (g := g) (u := u0) (κ := .cl) hk.1 True.intro
    refine va_get (D := (dC, dI)) (ci := 7) (v := .ref (ad (.ln 0))) (C := RX7) (T := TX7) (N := 12) hx hb hts inlX7 hown hK hP q9 h9 rfl 0 (by decide) (hts _ mw_18) (fun _ h9 => h9) rfl dX7_busyPart_6 ?_
    clear h9
    obtain ⟨q9, h9⟩ := wc_at (cy := cy) (ad := ad) (ks := ks) (g := g) (u := u0) (κ := (.ln 0)) hk.1 (Or.inl (by decide))
    refine va_get (D := (dC, dI)) (ci := 3) (v := .int (u0 (10 + 0) 6)) (C := RX3) (T := TX3) (N := 17) hx hb hts inlX3 hown hK hP q9 h9 rfl 6 (by decide) (hts _ mw_867) (fun _ h9 => h9) rfl dX7_busyPart_9 ?_
    clear h9
    refine lv_istore_n (lv' := [(2, .int (u0 (10 + 0) 6)), (0, .ref (ad .cl)), (1, .int a1)]) hx hb dX7_busyPart_12 rfl hl (by decide) rfl (fun ls hl => ?_)
    refine lv_iload_n hx hb dX7_busyPart_13 rfl (lv_at hl 0 rfl) ?_
    obtain ⟨t5, hJ6, hF⟩ := ob hF
    have join7 : ∀ (H : Heap) (locs : List Loc) (ls : Array Slot), va_P (dC, dI) vwCl (WC cy ad ks g u0) H → va_D A (WC cy ad ks g u0) → va_S A s.heap H locs → lv_has ls 3 [(2, .int (u0 (10 + 0) 6)), (0, .ref (ad .cl)), (1, .int a1)] → W p l e (headSpec (wsg yX7_busyPart cX7_busyPart 3 (some .float)) ({ frames := 8, cells := 0, slots := 0, locals := 300 })).room s m ([.ref (ad .cl), .int a1] : List Value).toArray below meth c H locs 0 0 Qn (F0 m 37 ls [.float t5]) := by
      intro H locs ls hP hD hS hl
      have hZ := s3 hF
      have zro : t5 = ro := hZ
      have hP9 : va_P (dC, dI) vwCl (WC cy ad ks g u0) H := by exact hP
      have hD9 : va_D A (WC cy ad ks g u0) := by exact hD
      rw [hQ]
      exact W.fret (v := t5) hx hb hr (fun t ht hW => ⟨⟨t5, (), rfl, zro, by rw [ht]; exact hP9, hD9⟩, hS.F ht⟩) hS.2.2 dX7_busyPart_37
    clear hF
    have hF := hJ6
    clear hJ6
    refine lv_if_ne (tgt := 21) hx hb dX7_busyPart_14 (by decide) (fun c4 => ?_) (fun c4 => ?_)
    · rw [if_neg c4] at hF
      refine lv_aload_n hx hb dX7_busyPart_21 rfl (lv_at hl 1 rfl) ?_
      obtain ⟨q9, h9⟩ := wc_at (cy := cy) (ad := ad) (ks := ks) (g := g) (u := u0) (κ := .cl) hk.1 True.intro
      refine va_get (D := (dC, dI)) (ci := 7) (v := .ref (ad (.ln 0))) (C := RX7) (T := TX7) (N := 12) hx hb hts inlX7 hown hK hP q9 h9 rfl 0 (by decide) (hts _ mw_18) (fun _ h9 => h9) rfl dX7_busyPart_22 ?_
      clear h9
      obtain ⟨q9, h9⟩ := wc_at (cy := cy) (ad := ad) (ks := ks) (g := g) (u := u0) (κ := (.ln 0)) hk.1 (Or.inl (by decide))
      refine va_get (D := (dC, dI)) (ci := 3) (v := .ref (ad (.ss 0))) (C := RX3) (T := TX3) (N := 17) hx hb hts inlX3 hown hK hP q9 h9 rfl 10 (by decide) (hts _ mw_617) (fun _ h9 => h9) rfl dX7_busyPart_25 ?_
      clear h9
      refine lv_iload_n hx hb dX7_busyPart_28 rfl (lv_at hl 2 rfl) ?_
      obtain ⟨n8, e9, hF⟩ := ob hF
      obtain ⟨q9, h9⟩ := wc_at (cy := cy) (ad := ad) (ks := ks) (g := g) (u := u0) (κ := (.ss 0)) hk.1 (Or.inl (by decide))
      refine va_aldq hx hb hK hP q9 6 h9 rfl (ix_in e9) dX7_busyPart_29 ?_
      refine my_top (y := .ref (ad (.st 0 n8))) (ixv (F := fun j => ad (.st 0 j)) e9) ?_
      clear h9
      obtain ⟨q9, h9⟩ := wc_at (cy := cy) (ad := ad) (ks := ks) (g := g) (u := u0) (κ := (.st 0 n8)) hk.1 ⟨(Or.inl (by decide)), (ix_lt e9)⟩
      refine va_get (D := (dC, dI)) (ci := 6) (v := .int (u0 (10 + 0) (17 + 16 * n8 + 12))) (C := RX6) (T := TX6) (N := 15) hx hb hts inlX6 hown hK hP q9 h9 rfl 14 (by decide) (hts _ mw_630) (fun _ h9 => h9) rfl dX7_busyPart_30 ?_
      clear h9
      refine lv_i2f hx hb dX7_busyPart_33 ?_
      refine lv_iload_n hx hb dX7_busyPart_34 rfl (lv_at hl 0 rfl) ?_
      refine lv_i2f hx hb dX7_busyPart_35 ?_
      obtain ⟨x10, e11, hF⟩ := ob hF
      refine lv_fdiv hx hb dX7_busyPart_36 (fd_n e11) ?_
      refine my_top (y := .float x10) (by rw [fd_e e11]) ?_
      have ht := s1 hF
      subst ht
      exact join7 _ _ _ hP hD hS (lv_sub hl [0, 1, 2] rfl)
    · rw [if_pos c4] at hF
      refine lv_fconst0 hx hb dX7_busyPart_17 ?_
      refine lv_goto (tgt := 37) hx hb dX7_busyPart_18 (by decide) ?_
      have ht := s1 hF
      subst ht
      exact join7 _ _ _ hP hD hS (lv_sub hl [0, 1, 2] rfl)
noncomputable def C7_needCard (g : CG) (u0 : RS) (a1 : Int32) : Option (Sum Int32 (Unit)) := if a1 < 0 then (some (.inl (1 : Int32))) else (if a1 < (u0 (10 + 0) 9) then (some (.inr ())) else (some (.inl (1 : Int32))))
set_option maxHeartbeats 4000000 in
set_option maxRecDepth 100000 in
theorem c_X7_needCard (l : Launch) (dC : Nat → ClassId) (dI : Nat → Nat → Nat) (cy : Nat → ClassId) (nb : Nat → Nat) (ad : CK → Nat) (ks : List CK) (g : CG) (hk : GA nb ad g ks) (u0 : RS) (a1 : Int32)  (sz : Nat) (hF : C7_needCard g u0 a1 = some (.inr ())) : Met l yX7_needCard (wsg yX7_needCard cX7_needCard 2 none) ({ frames := 7, cells := 0, slots := 0, locals := 200 }) (va_Pc [.ref (ad .cl), .int a1] (fun U => U.heap.size = sz ∧ va_P (dC, dI) vwCl (WC cy ad ks g u0) U.heap ∧ va_K (dC, dI) vwCl (tyL cy) U ∧ va_D (fun _ => True) (WC cy ad ks g u0) ∧ GE nb (va_A (WC cy ad ks g u0) sz) U)) (va_Qv (fun (_ : Unit) => True) (fun _ t => va_P (dC, dI) vwCl (WC cy ad ks g u0) t.heap ∧ va_D (va_A (WC cy ad ks g u0) sz) (WC cy ad ks g u0)) (va_A (WC cy ad ks g u0) sz)) 0 0 (va_A (WC cy ad ks g u0) sz) := by
  refine Met.ofW (cc := cX7_needCard) (maxL := 2) (ret := none) pn_X7 rfl ?_
  intro p e s m args below meth c s₁ B hml hv
  obtain ⟨rfl, hsz, hP, hK, hD0, hE⟩ := hv
  have hx := B.exec
  have hb := B.bytes
  have hr := B.returns
  have hts0 := atoms_spec (ws := (wsg yX7_needCard cX7_needCard 2 none)) B.pre
  have hts : ∀ w ∈ wsL_law, w.before _ s = true := fun w h => hts0 w (List.mem_cons_of_mem _ h)
  have hown : s.vm.findClass RX7 = some m.cls := by have h9 := findClass_of_methodNamed B.named; exact h9
  have hlocks := B.notSynchronized
  subst hsz
  have hD := hD0.self (sz := s.heap.size)
  generalize hAe : va_A (WC cy ad ks g u0) s.heap.size = A at hD hE ⊢
  have hA : ∀ q : Nat, s.heap.size ≤ q → A q := fun q h => by rw [← hAe]; exact Or.inr h
  have hS : va_S A s.heap s.heap [] := va_S.rf
  have hl := lv_entry ([.ref (ad .cl), .int a1]) (n := 2) (Nat.le_of_ble_eq_true rfl)
  rw [lg_entry_eq]
  generalize (lg_sl ([.ref (ad .cl), .int a1]) ++ List.replicate (2 - (lg_sl ([.ref (ad .cl), .int a1])).length) Slot.unset).toArray = ls at hl ⊢
  have hl : lv_has ls 2 [(0, .ref (ad .cl)), (1, .int a1)] := hl
  generalize hHe : s.heap = H at hP hS ⊢
  have hS : va_S A s.heap H [] := by rw [hHe]; exact hS
  refine my_Q (fun Qn hQ => ?_)
  simp only [C7_needCard] at hF
  refine lv_iload_n hx hb dX7_needCard_0 rfl (lv_at hl 1 rfl) ?_
  refine lv_if_lt (tgt := 15) hx hb dX7_needCard_1 (by decide) (fun c1 => ?_) (fun c1 => ?_)
  · rw [if_pos c1] at hF
    cases hF
  · rw [if_neg c1] at hF
    refine lv_iload_n hx hb dX7_needCard_4 rfl (lv_at hl 1 rfl) ?_
    refine lv_aload_n hx hb dX7_needCard_5 rfl (lv_at hl 0 rfl) ?_
    obtain ⟨q9, h9⟩ := wc_at (cy := cy) (ad := ad) (ks := ks) (g := g) (u := u0) (κ := .cl) hk.1 True.intro
    refine va_get (D := (dC, dI)) (ci := 7) (v := .ref (ad (.ln 0))) (C := RX7) (T := TX7) (N := 12) hx hb hts inlX7 hown hK hP q9 h9 rfl 0 (by decide) (hts _ mw_18) (fun _ h9 => h9) rfl dX7_needCard_6 ?_
    clear h9
    obtain ⟨q9, h9⟩ := wc_at (cy := cy) (ad := ad) (ks := ks) (g := g) (u := u0) (κ := (.ln 0)) hk.1 (Or.inl (by decide))
    refine va_get (D := (dC, dI)) (ci := 3) (v := .int (u0 (10 + 0) 9)) (C := RX3) (T := TX3) (N := 17) hx hb hts inlX3 hown hK hP q9 h9 rfl 9 (by decide) (hts _ mw_572) (fun _ h9 => h9) rfl dX7_needCard_9 ?_
    clear h9
    refine lv_icmp_lt (tgt := 25) hx hb dX7_needCard_12 (by decide) (fun c2 => ?_) (fun c2 => ?_)
    · rw [if_pos c2] at hF
      have hZ := s3 hF
      have hP9 : va_P (dC, dI) vwCl (WC cy ad ks g u0) H := by exact hP
      have hD9 : va_D A (WC cy ad ks g u0) := by exact hD
      rw [hQ]
      exact W.vret hx hb hr (fun t ht hW => ⟨⟨(), rfl, trivial, by rw [ht]; exact hP9, hD9⟩, hS.F ht⟩) hS.2.2 dX7_needCard_25
    · rw [if_neg c2] at hF
      cases hF
noncomputable def C7_card (g : CG) (u0 : RS) (a1 : Int32) (a2 : Int32) : Option (Sum Int32 (Int32)) := (C7_needCard g u0 (a1)).bind fun t1 => tr t1 fun t3 => (ix 30 a1).bind fun n4 => if a2 = 0 then (some (.inr (u0 (10 + 0) (137 + 25 * n4 + 0)))) else (if a2 = 1 then (some (.inr (u0 (10 + 0) (137 + 25 * n4 + 1)))) else (if a2 = 2 then ((tln g u0 (u0 (10 + 0) (137 + 25 * n4 + 2))).bind fun x9 => some (.inr x9)) else (if a2 = 3 then (some (.inr (u0 (10 + 0) (137 + 25 * n4 + 3)))) else (if a2 = 4 then (some (.inr (u0 (10 + 0) (137 + 25 * n4 + 4)))) else (if a2 = 5 then (some (.inr (u0 (10 + 0) (137 + 25 * n4 + 5)))) else (if a2 = 6 then (some (.inr (u0 (10 + 0) (137 + 25 * n4 + 6)))) else (if a2 = 7 then (some (.inr (u0 (10 + 0) (137 + 25 * n4 + 7)))) else (some (.inl (2 : Int32))))))))))
set_option maxHeartbeats 4000000 in
set_option maxRecDepth 100000 in
theorem c_X7_card (l : Launch) (dC : Nat → ClassId) (dI : Nat → Nat → Nat) (cy : Nat → ClassId) (nb : Nat → Nat) (ad : CK → Nat) (ks : List CK) (g : CG) (hk : GA nb ad g ks) (u0 : RS) (a1 : Int32) (a2 : Int32) (ro : Int32) (sz : Nat) (hF : C7_card g u0 a1 a2 = some (.inr ro)) : Met l yX7_card (wsg yX7_card cX7_card 4 (some .int)) ({ frames := 8, cells := 0, slots := 0, locals := 300 }) (va_Pc [.ref (ad .cl), .int a1, .int a2] (fun U => U.heap.size = sz ∧ va_P (dC, dI) vwCl (WC cy ad ks g u0) U.heap ∧ va_K (dC, dI) vwCl (tyL cy) U ∧ va_D (fun _ => True) (WC cy ad ks g u0) ∧ GE nb (va_A (WC cy ad ks g u0) sz) U)) (va_Qi (fun (r : Int32) (_ : Unit) => r = ro) (fun _ t => va_P (dC, dI) vwCl (WC cy ad ks g u0) t.heap ∧ va_D (va_A (WC cy ad ks g u0) sz) (WC cy ad ks g u0)) (va_A (WC cy ad ks g u0) sz)) 0 0 (va_A (WC cy ad ks g u0) sz) := by
  refine Met.ofW (cc := cX7_card) (maxL := 4) (ret := (some .int)) pn_X7 rfl ?_
  intro p e s m args below meth c s₁ B hml hv
  obtain ⟨rfl, hsz, hP, hK, hD0, hE⟩ := hv
  have hx := B.exec
  have hb := B.bytes
  have hr := B.returns
  have hts0 := atoms_spec (ws := (wsg yX7_card cX7_card 4 (some .int))) B.pre
  have hts : ∀ w ∈ wsL_law, w.before _ s = true := fun w h => hts0 w (List.mem_cons_of_mem _ h)
  have hown : s.vm.findClass RX7 = some m.cls := by have h9 := findClass_of_methodNamed B.named; exact h9
  have hlocks := B.notSynchronized
  subst hsz
  have hD := hD0.self (sz := s.heap.size)
  generalize hAe : va_A (WC cy ad ks g u0) s.heap.size = A at hD hE ⊢
  have hA : ∀ q : Nat, s.heap.size ≤ q → A q := fun q h => by rw [← hAe]; exact Or.inr h
  have hS : va_S A s.heap s.heap [] := va_S.rf
  have hl := lv_entry ([.ref (ad .cl), .int a1, .int a2]) (n := 4) (Nat.le_of_ble_eq_true rfl)
  rw [lg_entry_eq]
  generalize (lg_sl ([.ref (ad .cl), .int a1, .int a2]) ++ List.replicate (4 - (lg_sl ([.ref (ad .cl), .int a1, .int a2])).length) Slot.unset).toArray = ls at hl ⊢
  have hl : lv_has ls 4 [(0, .ref (ad .cl)), (1, .int a1), (2, .int a2)] := hl
  generalize hHe : s.heap = H at hP hS ⊢
  have hS : va_S A s.heap H [] := by rw [hHe]; exact hS
  refine my_Q (fun Qn hQ => ?_)
  simp only [C7_card] at hF
  refine lv_aload_n hx hb dX7_card_0 rfl (lv_at hl 0 rfl) ?_
  refine lv_iload_n hx hb dX7_card_1 rfl (lv_at hl 1 rfl) ?_
  obtain ⟨t1, e2, hF⟩ := ob hF
  rcases t1 with xz9 | t3
  · have hF : some (Sum.inl xz9) = some (.inr ro) := hF
    cases hF
  · dsimp only [tr] at hF
    have hPc := hP
    have hDc := hD
    have hFc := my_free hD hS hA
    obtain ⟨q8, h8⟩ := wc_at (cy := cy) (ad := ad) (ks := ks) (g := g) (u := u0) (κ := .cl) hk.1 True.intro
    refine va_callv (va_runV (As := [.int a1]) (rest := []) ⟨hx, hb, hml, hown, hts⟩ (c_X7_needCard l dC dI cy nb ad ks g hk u0 (a1) H.size e2) (cwV 1 hts (gV mw_666 mw_667 mw_668 mw_2 mw_669) rfl rfl rfl (by decide +kernel) ⟨Nat.le_of_ble_eq_true rfl, Nat.le_of_ble_eq_true rfl⟩) (my_preV hPc hK hDc hE hS hFc (va_recv (q := (RX7, TX7, 12)) hK hP (ci := 7) (q0 := q8) rfl h8)) rfl rfl hl.1 rfl (lv_room (Nat.le_of_ble_eq_true rfl)) dX7_card_2 ⟨Nat.le_of_ble_eq_true rfl, Nat.le_of_ble_eq_true rfl⟩) hS (fun q _ h => hFc q h) hFc (fun u t H1 locs ht hvm hw hB hz1 hk1 hS => ?_)
    clear h8
    obtain ⟨hP1, hD1⟩ := hB
    rw [ht] at hP1
    have hP := hP1
    have hD := hD1.weaken (fun k q _ h => hFc q.1 h)
    generalize H1 = H at hP hS ⊢
    clear hP1 hD1 hPc hDc hFc hk1 hz1 hvm ht
    refine lv_aload_n hx hb dX7_card_5 rfl (lv_at hl 0 rfl) ?_
    obtain ⟨q9, h9⟩ := wc_at (cy := cy) (ad := ad) (ks := ks) (g := g) (u := u0) (κ := .cl) hk.1 True.intro
    refine va_get (D := (dC, dI)) (ci := 7) (v := .ref (ad (.ln 0))) (C := RX7) (T := TX7) (N := 12) hx hb hts inlX7 hown hK hP q9 h9 rfl 0 (by decide) (hts _ mw_18) (fun _ h9 => h9) rfl dX7_card_6 ?_
    clear h9
    obtain ⟨q9, h9⟩ := wc_at (cy := cy) (ad := ad) (ks := ks) (g := g) (u := u0) (κ := (.ln 0)) hk.1 (Or.inl (by decide))
    refine va_get (D := (dC, dI)) (ci := 3) (v := .ref (ad (.cs 0))) (C := RX3) (T := TX3) (N := 17) hx hb hts inlX3 hown hK hP q9 h9 rfl 12 (by decide) (hts _ mw_657) (fun _ h9 => h9) rfl dX7_card_9 ?_
    clear h9
    refine lv_iload_n hx hb dX7_card_12 rfl (lv_at hl 1 rfl) ?_
    obtain ⟨n4, e5, hF⟩ := ob hF
    obtain ⟨q9, h9⟩ := wc_at (cy := cy) (ad := ad) (ks := ks) (g := g) (u := u0) (κ := (.cs 0)) hk.1 (Or.inl (by decide))
    refine va_aldq hx hb hK hP q9 8 h9 rfl (ix_in e5) dX7_card_13 ?_
    refine my_top (y := .ref (ad (.cd 0 n4))) (ixv (F := fun j => ad (.cd 0 j)) e5) ?_
    clear h9
    refine lv_astore_n (lv' := [(3, .ref (ad (.cd 0 n4))), (0, .ref (ad .cl)), (1, .int a1), (2, .int a2)]) hx hb dX7_card_14 rfl hl (by decide) rfl (fun ls hl => ?_)
    refine lv_iload_n hx hb dX7_card_15 rfl (lv_at hl 3 rfl) ?_
    by_cases c6 : a2 = 0
    · rw [if_pos c6] at hF
      refine my_topi (y := 0) c6 ?_
      refine lv_tableIn (off := 48) (tgt := 64) hx hb dX7_card_16 (by decide) (by decide) (by decide) (by decide) ?_
      refine lv_aload_n hx hb dX7_card_64 rfl (lv_at hl 0 rfl) ?_
      obtain ⟨q9, h9⟩ := wc_at (cy := cy) (ad := ad) (ks := ks) (g := g) (u := u0) (κ := (.cd 0 n4)) hk.1 ⟨(Or.inl (by decide)), (ix_lt e5)⟩
      refine va_get (D := (dC, dI)) (ci := 2) (v := .int (u0 (10 + 0) (137 + 25 * n4 + 0))) (C := RX1) (T := TX1) (N := 9) hx hb hts inlX1 hown hK hP q9 h9 rfl 0 (by decide) (hts _ mw_658) (fun _ h9 => h9) rfl dX7_card_65 ?_
      clear h9
      have hZ := s3 hF
      have zro : (u0 (10 + 0) (137 + 25 * n4 + 0)) = ro := hZ
      have hP9 : va_P (dC, dI) vwCl (WC cy ad ks g u0) H := by exact hP
      have hD9 : va_D A (WC cy ad ks g u0) := by exact hD
      rw [hQ]
      exact W.iret (v := (u0 (10 + 0) (137 + 25 * n4 + 0))) hx hb hr (fun t ht hW => ⟨⟨(u0 (10 + 0) (137 + 25 * n4 + 0)), (), rfl, zro, by rw [ht]; exact hP9, hD9⟩, hS.F ht⟩) hS.2.2 dX7_card_68
    · rw [if_neg c6] at hF
      by_cases c7 : a2 = 1
      · rw [if_pos c7] at hF
        refine my_topi (y := 1) c7 ?_
        refine lv_tableIn (off := 53) (tgt := 69) hx hb dX7_card_16 (by decide) (by decide) (by decide) (by decide) ?_
        refine lv_aload_n hx hb dX7_card_69 rfl (lv_at hl 0 rfl) ?_
        obtain ⟨q9, h9⟩ := wc_at (cy := cy) (ad := ad) (ks := ks) (g := g) (u := u0) (κ := (.cd 0 n4)) hk.1 ⟨(Or.inl (by decide)), (ix_lt e5)⟩
        refine va_get (D := (dC, dI)) (ci := 2) (v := .int (u0 (10 + 0) (137 + 25 * n4 + 1))) (C := RX1) (T := TX1) (N := 9) hx hb hts inlX1 hown hK hP q9 h9 rfl 1 (by decide) (hts _ mw_659) (fun _ h9 => h9) rfl dX7_card_70 ?_
        clear h9
        have hZ := s3 hF
        have zro : (u0 (10 + 0) (137 + 25 * n4 + 1)) = ro := hZ
        have hP9 : va_P (dC, dI) vwCl (WC cy ad ks g u0) H := by exact hP
        have hD9 : va_D A (WC cy ad ks g u0) := by exact hD
        rw [hQ]
        exact W.iret (v := (u0 (10 + 0) (137 + 25 * n4 + 1))) hx hb hr (fun t ht hW => ⟨⟨(u0 (10 + 0) (137 + 25 * n4 + 1)), (), rfl, zro, by rw [ht]; exact hP9, hD9⟩, hS.F ht⟩) hS.2.2 dX7_card_73
      · rw [if_neg c7] at hF
        by_cases c8 : a2 = 2
        · rw [if_pos c8] at hF
          refine my_topi (y := 2) c8 ?_
          refine lv_tableIn (off := 58) (tgt := 74) hx hb dX7_card_16 (by decide) (by decide) (by decide) (by decide) ?_
          refine lv_aload_n hx hb dX7_card_74 rfl (lv_at hl 0 rfl) ?_
          obtain ⟨q9, h9⟩ := wc_at (cy := cy) (ad := ad) (ks := ks) (g := g) (u := u0) (κ := (.cd 0 n4)) hk.1 ⟨(Or.inl (by decide)), (ix_lt e5)⟩
          refine va_get (D := (dC, dI)) (ci := 2) (v := .ref (ad (.tx (u0 (10 + 0) (137 + 25 * n4 + 2)).toNatClampNeg))) (C := RX1) (T := TX1) (N := 9) hx hb hts inlX1 hown hK hP q9 h9 rfl 2 (by decide) (hts _ mw_660) (fun _ h9 => h9) rfl dX7_card_75 ?_
          clear h9
          obtain ⟨x9, e10, hF⟩ := ob hF
          obtain ⟨q9, h9⟩ := wc_at (cy := cy) (ad := ad) (ks := ks) (g := g) (u := u0) (κ := (.tx (u0 (10 + 0) (137 + 25 * n4 + 2)).toNatClampNeg)) hk.1 (tln_h e10)
          refine va_alen (v := x9) hx hb hK hP q9 0 h9 (ty := .byte) rfl (tln_l e10) dX7_card_78 ?_
          clear h9
          have hZ := s3 hF
          have zro : x9 = ro := hZ
          have hP9 : va_P (dC, dI) vwCl (WC cy ad ks g u0) H := by exact hP
          have hD9 : va_D A (WC cy ad ks g u0) := by exact hD
          rw [hQ]
          exact W.iret (v := x9) hx hb hr (fun t ht hW => ⟨⟨x9, (), rfl, zro, by rw [ht]; exact hP9, hD9⟩, hS.F ht⟩) hS.2.2 dX7_card_79
        · rw [if_neg c8] at hF
          by_cases c11 : a2 = 3
          · rw [if_pos c11] at hF
            refine my_topi (y := 3) c11 ?_
            refine lv_tableIn (off := 64) (tgt := 80) hx hb dX7_card_16 (by decide) (by decide) (by decide) (by decide) ?_
            refine lv_aload_n hx hb dX7_card_80 rfl (lv_at hl 0 rfl) ?_
            obtain ⟨q9, h9⟩ := wc_at (cy := cy) (ad := ad) (ks := ks) (g := g) (u := u0) (κ := (.cd 0 n4)) hk.1 ⟨(Or.inl (by decide)), (ix_lt e5)⟩
            refine va_get (D := (dC, dI)) (ci := 2) (v := .int (u0 (10 + 0) (137 + 25 * n4 + 3))) (C := RX1) (T := TX1) (N := 9) hx hb hts inlX1 hown hK hP q9 h9 rfl 3 (by decide) (hts _ mw_661) (fun _ h9 => h9) rfl dX7_card_81 ?_
            clear h9
            have hZ := s3 hF
            have zro : (u0 (10 + 0) (137 + 25 * n4 + 3)) = ro := hZ
            have hP9 : va_P (dC, dI) vwCl (WC cy ad ks g u0) H := by exact hP
            have hD9 : va_D A (WC cy ad ks g u0) := by exact hD
            rw [hQ]
            exact W.iret (v := (u0 (10 + 0) (137 + 25 * n4 + 3))) hx hb hr (fun t ht hW => ⟨⟨(u0 (10 + 0) (137 + 25 * n4 + 3)), (), rfl, zro, by rw [ht]; exact hP9, hD9⟩, hS.F ht⟩) hS.2.2 dX7_card_84
          · rw [if_neg c11] at hF
            by_cases c12 : a2 = 4
            · rw [if_pos c12] at hF
              refine my_topi (y := 4) c12 ?_
              refine lv_tableIn (off := 69) (tgt := 85) hx hb dX7_card_16 (by decide) (by decide) (by decide) (by decide) ?_
              refine lv_aload_n hx hb dX7_card_85 rfl (lv_at hl 0 rfl) ?_
              obtain ⟨q9, h9⟩ := wc_at (cy := cy) (ad := ad) (ks := ks) (g := g) (u := u0) (κ := (.cd 0 n4)) hk.1 ⟨(Or.inl (by decide)), (ix_lt e5)⟩
              refine va_get (D := (dC, dI)) (ci := 2) (v := .int (u0 (10 + 0) (137 + 25 * n4 + 4))) (C := RX1) (T := TX1) (N := 9) hx hb hts inlX1 hown hK hP q9 h9 rfl 4 (by decide) (hts _ mw_662) (fun _ h9 => h9) rfl dX7_card_86 ?_
              clear h9
              have hZ := s3 hF
              have zro : (u0 (10 + 0) (137 + 25 * n4 + 4)) = ro := hZ
              have hP9 : va_P (dC, dI) vwCl (WC cy ad ks g u0) H := by exact hP
              have hD9 : va_D A (WC cy ad ks g u0) := by exact hD
              rw [hQ]
              exact W.iret (v := (u0 (10 + 0) (137 + 25 * n4 + 4))) hx hb hr (fun t ht hW => ⟨⟨(u0 (10 + 0) (137 + 25 * n4 + 4)), (), rfl, zro, by rw [ht]; exact hP9, hD9⟩, hS.F ht⟩) hS.2.2 dX7_card_89
            · rw [if_neg c12] at hF
              by_cases c13 : a2 = 5
              · rw [if_pos c13] at hF
                refine my_topi (y := 5) c13 ?_
                refine lv_tableIn (off := 74) (tgt := 90) hx hb dX7_card_16 (by decide) (by decide) (by decide) (by decide) ?_
                refine lv_aload_n hx hb dX7_card_90 rfl (lv_at hl 0 rfl) ?_
                obtain ⟨q9, h9⟩ := wc_at (cy := cy) (ad := ad) (ks := ks) (g := g) (u := u0) (κ := (.cd 0 n4)) hk.1 ⟨(Or.inl (by decide)), (ix_lt e5)⟩
                refine va_get (D := (dC, dI)) (ci := 2) (v := .int (u0 (10 + 0) (137 + 25 * n4 + 5))) (C := RX1) (T := TX1) (N := 9) hx hb hts inlX1 hown hK hP q9 h9 rfl 5 (by decide) (hts _ mw_663) (fun _ h9 => h9) rfl dX7_card_91 ?_
                clear h9
                have hZ := s3 hF
                have zro : (u0 (10 + 0) (137 + 25 * n4 + 5)) = ro := hZ
                have hP9 : va_P (dC, dI) vwCl (WC cy ad ks g u0) H := by exact hP
                have hD9 : va_D A (WC cy ad ks g u0) := by exact hD
                rw [hQ]
                exact W.iret (v := (u0 (10 + 0) (137 + 25 * n4 + 5))) hx hb hr (fun t ht hW => ⟨⟨(u0 (10 + 0) (137 + 25 * n4 + 5)), (), rfl, zro, by rw [ht]; exact hP9, hD9⟩, hS.F ht⟩) hS.2.2 dX7_card_94
              · rw [if_neg c13] at hF
                by_cases c14 : a2 = 6
                · rw [if_pos c14] at hF
                  refine my_topi (y := 6) c14 ?_
                  refine lv_tableIn (off := 79) (tgt := 95) hx hb dX7_card_16 (by decide) (by decide) (by decide) (by decide) ?_
                  refine lv_aload_n hx hb dX7_card_95 rfl (lv_at hl 0 rfl) ?_
                  obtain ⟨q9, h9⟩ := wc_at (cy := cy) (ad := ad) (ks := ks) (g := g) (u := u0) (κ := (.cd 0 n4)) hk.1 ⟨(Or.inl (by decide)), (ix_lt e5)⟩
                  refine va_get (D := (dC, dI)) (ci := 2) (v := .int (u0 (10 + 0) (137 + 25 * n4 + 6))) (C := RX1) (T := TX1) (N := 9) hx hb hts inlX1 hown hK hP q9 h9 rfl 6 (by decide) (hts _ mw_664) (fun _ h9 => h9) rfl dX7_card_96 ?_
                  clear h9
                  have hZ := s3 hF
                  have zro : (u0 (10 + 0) (137 + 25 * n4 + 6)) = ro := hZ
                  have hP9 : va_P (dC, dI) vwCl (WC cy ad ks g u0) H := by exact hP
                  have hD9 : va_D A (WC cy ad ks g u0) := by exact hD
                  rw [hQ]
                  exact W.iret (v := (u0 (10 + 0) (137 + 25 * n4 + 6))) hx hb hr (fun t ht hW => ⟨⟨(u0 (10 + 0) (137 + 25 * n4 + 6)), (), rfl, zro, by rw [ht]; exact hP9, hD9⟩, hS.F ht⟩) hS.2.2 dX7_card_99
                · rw [if_neg c14] at hF
                  by_cases c15 : a2 = 7
                  · rw [if_pos c15] at hF
                    refine my_topi (y := 7) c15 ?_
                    refine lv_tableIn (off := 84) (tgt := 100) hx hb dX7_card_16 (by decide) (by decide) (by decide) (by decide) ?_
                    refine lv_aload_n hx hb dX7_card_100 rfl (lv_at hl 0 rfl) ?_
                    obtain ⟨q9, h9⟩ := wc_at (cy := cy) (ad := ad) (ks := ks) (g := g) (u := u0) (κ := (.cd 0 n4)) hk.1 ⟨(Or.inl (by decide)), (ix_lt e5)⟩
                    refine va_get (D := (dC, dI)) (ci := 2) (v := .int (u0 (10 + 0) (137 + 25 * n4 + 7))) (C := RX1) (T := TX1) (N := 9) hx hb hts inlX1 hown hK hP q9 h9 rfl 7 (by decide) (hts _ mw_665) (fun _ h9 => h9) rfl dX7_card_101 ?_
                    clear h9
                    have hZ := s3 hF
                    have zro : (u0 (10 + 0) (137 + 25 * n4 + 7)) = ro := hZ
                    have hP9 : va_P (dC, dI) vwCl (WC cy ad ks g u0) H := by exact hP
                    have hD9 : va_D A (WC cy ad ks g u0) := by exact hD
                    rw [hQ]
                    exact W.iret (v := (u0 (10 + 0) (137 + 25 * n4 + 7))) hx hb hr (fun t ht hW => ⟨⟨(u0 (10 + 0) (137 + 25 * n4 + 7)), (), rfl, zro, by rw [ht]; exact hP9, hD9⟩, hS.F ht⟩) hS.2.2 dX7_card_104
                  · rw [if_neg c15] at hF
                    refine lv_tableOut (tgt := 105) hx hb dX7_card_16 (sw_out (lo := 0) (hi := 7) (fun k h1 h2 => by rcases (show k = 0 ∨ k = 1 ∨ k = 2 ∨ k = 3 ∨ k = 4 ∨ k = 5 ∨ k = 6 ∨ k = 7 by omega) with rfl | rfl | rfl | rfl | rfl | rfl | rfl | rfl <;> intro q <;> first | exact c6 (q.trans (by decide)) | exact c7 (q.trans (by decide)) | exact c8 (q.trans (by decide)) | exact c11 (q.trans (by decide)) | exact c12 (q.trans (by decide)) | exact c13 (q.trans (by decide)) | exact c14 (q.trans (by decide)) | exact c15 (q.trans (by decide)))) (by decide) ?_
                    cases hF
noncomputable def C7_cardOf (g : CG) (u0 : RS) (a1 : Int32) (a2 : Int32) : Option (Sum Int32 (Int32)) := (C7_needLot g u0 (a1)).bind fun t1 => tr t1 fun t3 => (ix 6 a1).bind fun n4 => (C4_cardAt g u0 0 n4 (a2)).bind fun x6 => some (.inr x6)
set_option maxHeartbeats 4000000 in
set_option maxRecDepth 100000 in
theorem c_X7_cardOf (l : Launch) (dC : Nat → ClassId) (dI : Nat → Nat → Nat) (cy : Nat → ClassId) (nb : Nat → Nat) (ad : CK → Nat) (ks : List CK) (g : CG) (hk : GA nb ad g ks) (u0 : RS) (a1 : Int32) (a2 : Int32) (ro : Int32) (sz : Nat) (hF : C7_cardOf g u0 a1 a2 = some (.inr ro)) : Met l yX7_cardOf (wsg yX7_cardOf cX7_cardOf 3 (some .int)) ({ frames := 8, cells := 0, slots := 0, locals := 300 }) (va_Pc [.ref (ad .cl), .int a1, .int a2] (fun U => U.heap.size = sz ∧ va_P (dC, dI) vwCl (WC cy ad ks g u0) U.heap ∧ va_K (dC, dI) vwCl (tyL cy) U ∧ va_D (fun _ => True) (WC cy ad ks g u0) ∧ GE nb (va_A (WC cy ad ks g u0) sz) U)) (va_Qi (fun (r : Int32) (_ : Unit) => r = ro) (fun _ t => va_P (dC, dI) vwCl (WC cy ad ks g u0) t.heap ∧ va_D (va_A (WC cy ad ks g u0) sz) (WC cy ad ks g u0)) (va_A (WC cy ad ks g u0) sz)) 0 0 (va_A (WC cy ad ks g u0) sz) := by
  refine Met.ofW (cc := cX7_cardOf) (maxL := 3) (ret := (some .int)) pn_X7 rfl ?_
  intro p e s m args below meth c s₁ B hml hv
  obtain ⟨rfl, hsz, hP, hK, hD0, hE⟩ := hv
  have hx := B.exec
  have hb := B.bytes
  have hr := B.returns
  have hts0 := atoms_spec (ws := (wsg yX7_cardOf cX7_cardOf 3 (some .int))) B.pre
  have hts : ∀ w ∈ wsL_law, w.before _ s = true := fun w h => hts0 w (List.mem_cons_of_mem _ h)
  have hown : s.vm.findClass RX7 = some m.cls := by have h9 := findClass_of_methodNamed B.named; exact h9
  have hlocks := B.notSynchronized
  subst hsz
  have hD := hD0.self (sz := s.heap.size)
  generalize hAe : va_A (WC cy ad ks g u0) s.heap.size = A at hD hE ⊢
  have hA : ∀ q : Nat, s.heap.size ≤ q → A q := fun q h => by rw [← hAe]; exact Or.inr h
  have hS : va_S A s.heap s.heap [] := va_S.rf
  have hl := lv_entry ([.ref (ad .cl), .int a1, .int a2]) (n := 3) (Nat.le_of_ble_eq_true rfl)
  rw [lg_entry_eq]
  generalize (lg_sl ([.ref (ad .cl), .int a1, .int a2]) ++ List.replicate (3 - (lg_sl ([.ref (ad .cl), .int a1, .int a2])).length) Slot.unset).toArray = ls at hl ⊢
  have hl : lv_has ls 3 [(0, .ref (ad .cl)), (1, .int a1), (2, .int a2)] := hl
  generalize hHe : s.heap = H at hP hS ⊢
  have hS : va_S A s.heap H [] := by rw [hHe]; exact hS
  refine my_Q (fun Qn hQ => ?_)
  simp only [C7_cardOf] at hF
  refine lv_aload_n hx hb dX7_cardOf_0 rfl (lv_at hl 0 rfl) ?_
  refine lv_iload_n hx hb dX7_cardOf_1 rfl (lv_at hl 1 rfl) ?_
  obtain ⟨t1, e2, hF⟩ := ob hF
  rcases t1 with xz9 | t3
  · have hF : some (Sum.inl xz9) = some (.inr ro) := hF
    cases hF
  · dsimp only [tr] at hF
    have hPc := hP
    have hDc := hD
    have hFc := my_free hD hS hA
    obtain ⟨q8, h8⟩ := wc_at (cy := cy) (ad := ad) (ks := ks) (g := g) (u := u0) (κ := .cl) hk.1 True.intro
    refine va_callv (va_runV (As := [.int a1]) (rest := []) ⟨hx, hb, hml, hown, hts⟩ (c_X7_needLot l dC dI cy nb ad ks g hk u0 (a1) H.size e2) (cwV 1 hts (gV mw_704 mw_705 mw_706 mw_2 mw_707) rfl rfl rfl (by decide +kernel) ⟨Nat.le_of_ble_eq_true rfl, Nat.le_of_ble_eq_true rfl⟩) (my_preV hPc hK hDc hE hS hFc (va_recv (q := (RX7, TX7, 12)) hK hP (ci := 7) (q0 := q8) rfl h8)) rfl rfl hl.1 rfl (lv_room (Nat.le_of_ble_eq_true rfl)) dX7_cardOf_2 ⟨Nat.le_of_ble_eq_true rfl, Nat.le_of_ble_eq_true rfl⟩) hS (fun q _ h => hFc q h) hFc (fun u t H1 locs ht hvm hw hB hz1 hk1 hS => ?_)
    clear h8
    obtain ⟨hP1, hD1⟩ := hB
    rw [ht] at hP1
    have hP := hP1
    have hD := hD1.weaken (fun k q _ h => hFc q.1 h)
    generalize H1 = H at hP hS ⊢
    clear hP1 hD1 hPc hDc hFc hk1 hz1 hvm ht
    refine lv_aload_n hx hb dX7_cardOf_5 rfl (lv_at hl 0 rfl) ?_
    obtain ⟨q9, h9⟩ := wc_at (cy := cy) (ad := ad) (ks := ks) (g := g) (u := u0) (κ := .cl) hk.1 True.intro
    refine va_get (D := (dC, dI)) (ci := 7) (v := .ref (ad (.ln 0))) (C := RX7) (T := TX7) (N := 12) hx hb hts inlX7 hown hK hP q9 h9 rfl 0 (by decide) (hts _ mw_18) (fun _ h9 => h9) rfl dX7_cardOf_6 ?_
    clear h9
    obtain ⟨q9, h9⟩ := wc_at (cy := cy) (ad := ad) (ks := ks) (g := g) (u := u0) (κ := (.ln 0)) hk.1 (Or.inl (by decide))
    refine va_get (D := (dC, dI)) (ci := 3) (v := .ref (ad (.ls 0))) (C := RX3) (T := TX3) (N := 17) hx hb hts inlX3 hown hK hP q9 h9 rfl 11 (by decide) (hts _ mw_697) (fun _ h9 => h9) rfl dX7_cardOf_9 ?_
    clear h9
    refine lv_iload_n hx hb dX7_cardOf_12 rfl (lv_at hl 1 rfl) ?_
    obtain ⟨n4, e5, hF⟩ := ob hF
    obtain ⟨q9, h9⟩ := wc_at (cy := cy) (ad := ad) (ks := ks) (g := g) (u := u0) (κ := (.ls 0)) hk.1 (Or.inl (by decide))
    refine va_aldq hx hb hK hP q9 7 h9 rfl (ix_in e5) dX7_cardOf_13 ?_
    refine my_top (y := .ref (ad (.lo 0 n4))) (ixv (F := fun j => ad (.lo 0 j)) e5) ?_
    clear h9
    refine lv_iload_n hx hb dX7_cardOf_14 rfl (lv_at hl 2 rfl) ?_
    obtain ⟨x6, e7, hF⟩ := ob hF
    have hPc := hP
    have hDc := hD
    have hFc := my_free hD hS hA
    obtain ⟨q8, h8⟩ := wc_at (cy := cy) (ad := ad) (ks := ks) (g := g) (u := u0) (κ := (.lo 0 n4)) hk.1 ⟨(Or.inl (by decide)), (ix_lt e5)⟩
    refine va_calli (va_runV (As := [.int a2]) (rest := []) ⟨hx, hb, hml, hown, hts⟩ (c_X4_cardAt l dC dI cy nb ad ks g hk u0 0 n4 (a2) (x6) H.size ⟨(Or.inl (by decide)), (ix_lt e5)⟩ e7) (cwV 1 hts (gV mw_748 mw_713 mw_714 mw_52 mw_715) rfl rfl rfl (by decide +kernel) ⟨Nat.le_of_ble_eq_true rfl, Nat.le_of_ble_eq_true rfl⟩) (my_preV hPc hK hDc hE hS hFc (va_recv (q := (RX4, TX4, 12)) hK hP (ci := 4) (q0 := q8) rfl h8)) rfl rfl hl.1 rfl (lv_room (Nat.le_of_ble_eq_true rfl)) dX7_cardOf_15 ⟨Nat.le_of_ble_eq_true rfl, Nat.le_of_ble_eq_true rfl⟩) hS (fun q _ h => hFc q h) hFc (fun r u t H1 locs ht hvm hw hB hz1 hk1 hS => ?_)
    clear h8
    obtain ⟨hP1, hD1⟩ := hB
    rw [ht] at hP1
    have hP := hP1
    have hD := hD1.weaken (fun k q _ h => hFc q.1 h)
    generalize H1 = H at hP hS ⊢
    clear hP1 hD1 hPc hDc hFc hk1 hz1 hvm ht
    obtain rfl := hw.symm
    have hZ := s3 hF
    have zro : x6 = ro := hZ
    have hP9 : va_P (dC, dI) vwCl (WC cy ad ks g u0) H := by exact hP
    have hD9 : va_D A (WC cy ad ks g u0) := by exact hD
    rw [hQ]
    exact W.iret (v := x6) hx hb hr (fun t ht hW => ⟨⟨x6, (), rfl, zro, by rw [ht]; exact hP9, hD9⟩, hS.F ht⟩) hS.2.2 dX7_cardOf_18
noncomputable def C7_count (g : CG) (u0 : RS) (a1 : Int32) : Option (Sum Int32 (Int32)) := if a1 = 0 then (some (.inr (u0 (10 + 0) 7))) else (if a1 = 1 then (some (.inr (u0 (10 + 0) 8))) else (if a1 = 2 then (some (.inr (u0 (10 + 0) 9))) else (if a1 = 3 then (some (.inr (u0 (10 + 0) 5))) else (if a1 = 4 then (some (.inr (u0 (400 + 0) 0))) else (if a1 = 5 then (some (.inr (u0 (400 + 0) 1))) else (if a1 = 6 then (some (.inr (u0 (400 + 0) 2))) else (if a1 = 7 then (some (.inr (u0 (400 + 0) 3))) else (if a1 = 8 then (some (.inr (u0 (400 + 0) 4))) else (if a1 = 9 then (some (.inr (u0 0 4))) else (some (.inl (2 : Int32))))))))))))
set_option maxHeartbeats 4000000 in
set_option maxRecDepth 100000 in
theorem c_X7_count (l : Launch) (dC : Nat → ClassId) (dI : Nat → Nat → Nat) (cy : Nat → ClassId) (nb : Nat → Nat) (ad : CK → Nat) (ks : List CK) (g : CG) (hk : GA nb ad g ks) (u0 : RS) (a1 : Int32) (ro : Int32) (sz : Nat) (hF : C7_count g u0 a1 = some (.inr ro)) : Met l yX7_count (wsg yX7_count cX7_count 2 (some .int)) ({ frames := 7, cells := 0, slots := 0, locals := 200 }) (va_Pc [.ref (ad .cl), .int a1] (fun U => U.heap.size = sz ∧ va_P (dC, dI) vwCl (WC cy ad ks g u0) U.heap ∧ va_K (dC, dI) vwCl (tyL cy) U ∧ va_D (fun _ => True) (WC cy ad ks g u0) ∧ GE nb (va_A (WC cy ad ks g u0) sz) U)) (va_Qi (fun (r : Int32) (_ : Unit) => r = ro) (fun _ t => va_P (dC, dI) vwCl (WC cy ad ks g u0) t.heap ∧ va_D (va_A (WC cy ad ks g u0) sz) (WC cy ad ks g u0)) (va_A (WC cy ad ks g u0) sz)) 0 0 (va_A (WC cy ad ks g u0) sz) := by
  refine Met.ofW (cc := cX7_count) (maxL := 2) (ret := (some .int)) pn_X7 rfl ?_
  intro p e s m args below meth c s₁ B hml hv
  obtain ⟨rfl, hsz, hP, hK, hD0, hE⟩ := hv
  have hx := B.exec
  have hb := B.bytes
  have hr := B.returns
  have hts0 := atoms_spec (ws := (wsg yX7_count cX7_count 2 (some .int))) B.pre
  have hts : ∀ w ∈ wsL_law, w.before _ s = true := fun w h => hts0 w (List.mem_cons_of_mem _ h)
  have hown : s.vm.findClass RX7 = some m.cls := by have h9 := findClass_of_methodNamed B.named; exact h9
  have hlocks := B.notSynchronized
  subst hsz
  have hD := hD0.self (sz := s.heap.size)
  generalize hAe : va_A (WC cy ad ks g u0) s.heap.size = A at hD hE ⊢
  have hA : ∀ q : Nat, s.heap.size ≤ q → A q := fun q h => by rw [← hAe]; exact Or.inr h
  have hS : va_S A s.heap s.heap [] := va_S.rf
  have hl := lv_entry ([.ref (ad .cl), .int a1]) (n := 2) (Nat.le_of_ble_eq_true rfl)
  rw [lg_entry_eq]
  generalize (lg_sl ([.ref (ad .cl), .int a1]) ++ List.replicate (2 - (lg_sl ([.ref (ad .cl), .int a1])).length) Slot.unset).toArray = ls at hl ⊢
  have hl : lv_has ls 2 [(0, .ref (ad .cl)), (1, .int a1)] := hl
  generalize hHe : s.heap = H at hP hS ⊢
  have hS : va_S A s.heap H [] := by rw [hHe]; exact hS
  refine my_Q (fun Qn hQ => ?_)
  simp only [C7_count] at hF
  refine lv_iload_n hx hb dX7_count_0 rfl (lv_at hl 1 rfl) ?_
  by_cases c1 : a1 = 0
  · rw [if_pos c1] at hF
    refine my_topi (y := 0) c1 ?_
    refine lv_tableIn (off := 55) (tgt := 56) hx hb dX7_count_1 (by decide) (by decide) (by decide) (by decide) ?_
    refine lv_aload_n hx hb dX7_count_56 rfl (lv_at hl 0 rfl) ?_
    obtain ⟨q9, h9⟩ := wc_at (cy := cy) (ad := ad) (ks := ks) (g := g) (u := u0) (κ := .cl) hk.1 True.intro
    refine va_get (D := (dC, dI)) (ci := 7) (v := .ref (ad (.ln 0))) (C := RX7) (T := TX7) (N := 12) hx hb hts inlX7 hown hK hP q9 h9 rfl 0 (by decide) (hts _ mw_18) (fun _ h9 => h9) rfl dX7_count_57 ?_
    clear h9
    obtain ⟨q9, h9⟩ := wc_at (cy := cy) (ad := ad) (ks := ks) (g := g) (u := u0) (κ := (.ln 0)) hk.1 (Or.inl (by decide))
    refine va_get (D := (dC, dI)) (ci := 3) (v := .int (u0 (10 + 0) 7)) (C := RX3) (T := TX3) (N := 17) hx hb hts inlX3 hown hK hP q9 h9 rfl 7 (by decide) (hts _ mw_138) (fun _ h9 => h9) rfl dX7_count_60 ?_
    clear h9
    have hZ := s3 hF
    have zro : (u0 (10 + 0) 7) = ro := hZ
    have hP9 : va_P (dC, dI) vwCl (WC cy ad ks g u0) H := by exact hP
    have hD9 : va_D A (WC cy ad ks g u0) := by exact hD
    rw [hQ]
    exact W.iret (v := (u0 (10 + 0) 7)) hx hb hr (fun t ht hW => ⟨⟨(u0 (10 + 0) 7), (), rfl, zro, by rw [ht]; exact hP9, hD9⟩, hS.F ht⟩) hS.2.2 dX7_count_63
  · rw [if_neg c1] at hF
    by_cases c2 : a1 = 1
    · rw [if_pos c2] at hF
      refine my_topi (y := 1) c2 ?_
      refine lv_tableIn (off := 63) (tgt := 64) hx hb dX7_count_1 (by decide) (by decide) (by decide) (by decide) ?_
      refine lv_aload_n hx hb dX7_count_64 rfl (lv_at hl 0 rfl) ?_
      obtain ⟨q9, h9⟩ := wc_at (cy := cy) (ad := ad) (ks := ks) (g := g) (u := u0) (κ := .cl) hk.1 True.intro
      refine va_get (D := (dC, dI)) (ci := 7) (v := .ref (ad (.ln 0))) (C := RX7) (T := TX7) (N := 12) hx hb hts inlX7 hown hK hP q9 h9 rfl 0 (by decide) (hts _ mw_18) (fun _ h9 => h9) rfl dX7_count_65 ?_
      clear h9
      obtain ⟨q9, h9⟩ := wc_at (cy := cy) (ad := ad) (ks := ks) (g := g) (u := u0) (κ := (.ln 0)) hk.1 (Or.inl (by decide))
      refine va_get (D := (dC, dI)) (ci := 3) (v := .int (u0 (10 + 0) 8)) (C := RX3) (T := TX3) (N := 17) hx hb hts inlX3 hown hK hP q9 h9 rfl 8 (by decide) (hts _ mw_571) (fun _ h9 => h9) rfl dX7_count_68 ?_
      clear h9
      have hZ := s3 hF
      have zro : (u0 (10 + 0) 8) = ro := hZ
      have hP9 : va_P (dC, dI) vwCl (WC cy ad ks g u0) H := by exact hP
      have hD9 : va_D A (WC cy ad ks g u0) := by exact hD
      rw [hQ]
      exact W.iret (v := (u0 (10 + 0) 8)) hx hb hr (fun t ht hW => ⟨⟨(u0 (10 + 0) 8), (), rfl, zro, by rw [ht]; exact hP9, hD9⟩, hS.F ht⟩) hS.2.2 dX7_count_71
    · rw [if_neg c2] at hF
      by_cases c3 : a1 = 2
      · rw [if_pos c3] at hF
        refine my_topi (y := 2) c3 ?_
        refine lv_tableIn (off := 71) (tgt := 72) hx hb dX7_count_1 (by decide) (by decide) (by decide) (by decide) ?_
        refine lv_aload_n hx hb dX7_count_72 rfl (lv_at hl 0 rfl) ?_
        obtain ⟨q9, h9⟩ := wc_at (cy := cy) (ad := ad) (ks := ks) (g := g) (u := u0) (κ := .cl) hk.1 True.intro
        refine va_get (D := (dC, dI)) (ci := 7) (v := .ref (ad (.ln 0))) (C := RX7) (T := TX7) (N := 12) hx hb hts inlX7 hown hK hP q9 h9 rfl 0 (by decide) (hts _ mw_18) (fun _ h9 => h9) rfl dX7_count_73 ?_
        clear h9
        obtain ⟨q9, h9⟩ := wc_at (cy := cy) (ad := ad) (ks := ks) (g := g) (u := u0) (κ := (.ln 0)) hk.1 (Or.inl (by decide))
        refine va_get (D := (dC, dI)) (ci := 3) (v := .int (u0 (10 + 0) 9)) (C := RX3) (T := TX3) (N := 17) hx hb hts inlX3 hown hK hP q9 h9 rfl 9 (by decide) (hts _ mw_572) (fun _ h9 => h9) rfl dX7_count_76 ?_
        clear h9
        have hZ := s3 hF
        have zro : (u0 (10 + 0) 9) = ro := hZ
        have hP9 : va_P (dC, dI) vwCl (WC cy ad ks g u0) H := by exact hP
        have hD9 : va_D A (WC cy ad ks g u0) := by exact hD
        rw [hQ]
        exact W.iret (v := (u0 (10 + 0) 9)) hx hb hr (fun t ht hW => ⟨⟨(u0 (10 + 0) 9), (), rfl, zro, by rw [ht]; exact hP9, hD9⟩, hS.F ht⟩) hS.2.2 dX7_count_79
      · rw [if_neg c3] at hF
        by_cases c4 : a1 = 3
        · rw [if_pos c4] at hF
          refine my_topi (y := 3) c4 ?_
          refine lv_tableIn (off := 79) (tgt := 80) hx hb dX7_count_1 (by decide) (by decide) (by decide) (by decide) ?_
          refine lv_aload_n hx hb dX7_count_80 rfl (lv_at hl 0 rfl) ?_
          obtain ⟨q9, h9⟩ := wc_at (cy := cy) (ad := ad) (ks := ks) (g := g) (u := u0) (κ := .cl) hk.1 True.intro
          refine va_get (D := (dC, dI)) (ci := 7) (v := .ref (ad (.ln 0))) (C := RX7) (T := TX7) (N := 12) hx hb hts inlX7 hown hK hP q9 h9 rfl 0 (by decide) (hts _ mw_18) (fun _ h9 => h9) rfl dX7_count_81 ?_
          clear h9
          obtain ⟨q9, h9⟩ := wc_at (cy := cy) (ad := ad) (ks := ks) (g := g) (u := u0) (κ := (.ln 0)) hk.1 (Or.inl (by decide))
          refine va_get (D := (dC, dI)) (ci := 3) (v := .int (u0 (10 + 0) 5)) (C := RX3) (T := TX3) (N := 17) hx hb hts inlX3 hown hK hP q9 h9 rfl 5 (by decide) (hts _ mw_573) (fun _ h9 => h9) rfl dX7_count_84 ?_
          clear h9
          have hZ := s3 hF
          have zro : (u0 (10 + 0) 5) = ro := hZ
          have hP9 : va_P (dC, dI) vwCl (WC cy ad ks g u0) H := by exact hP
          have hD9 : va_D A (WC cy ad ks g u0) := by exact hD
          rw [hQ]
          exact W.iret (v := (u0 (10 + 0) 5)) hx hb hr (fun t ht hW => ⟨⟨(u0 (10 + 0) 5), (), rfl, zro, by rw [ht]; exact hP9, hD9⟩, hS.F ht⟩) hS.2.2 dX7_count_87
        · rw [if_neg c4] at hF
          by_cases c5 : a1 = 4
          · rw [if_pos c5] at hF
            refine my_topi (y := 4) c5 ?_
            refine lv_tableIn (off := 87) (tgt := 88) hx hb dX7_count_1 (by decide) (by decide) (by decide) (by decide) ?_
            refine lv_aload_n hx hb dX7_count_88 rfl (lv_at hl 0 rfl) ?_
            obtain ⟨q9, h9⟩ := wc_at (cy := cy) (ad := ad) (ks := ks) (g := g) (u := u0) (κ := .cl) hk.1 True.intro
            refine va_get (D := (dC, dI)) (ci := 7) (v := .ref (ad (.ln 0))) (C := RX7) (T := TX7) (N := 12) hx hb hts inlX7 hown hK hP q9 h9 rfl 0 (by decide) (hts _ mw_18) (fun _ h9 => h9) rfl dX7_count_89 ?_
            clear h9
            obtain ⟨q9, h9⟩ := wc_at (cy := cy) (ad := ad) (ks := ks) (g := g) (u := u0) (κ := (.ln 0)) hk.1 (Or.inl (by decide))
            refine va_get (D := (dC, dI)) (ci := 3) (v := .ref (ad (.is 0))) (C := RX3) (T := TX3) (N := 17) hx hb hts inlX3 hown hK hP q9 h9 rfl 13 (by decide) (hts _ mw_574) (fun _ h9 => h9) rfl dX7_count_92 ?_
            clear h9
            refine lv_iconst (v := 0) hx hb dX7_count_95 (by decide) ?_
            obtain ⟨q9, h9⟩ := wc_at (cy := cy) (ad := ad) (ks := ks) (g := g) (u := u0) (κ := (.is 0)) hk.1 (Or.inl (by decide))
            refine va_iald hx hb hK hP q9 1 h9 rfl (vp_in_nI (n := 0) (by decide) (by decide)) dX7_count_96 ?_
            refine my_topi (y := (u0 (400 + 0) 0)) (by rfl) ?_
            clear h9
            have hZ := s3 hF
            have zro : (u0 (400 + 0) 0) = ro := hZ
            have hP9 : va_P (dC, dI) vwCl (WC cy ad ks g u0) H := by exact hP
            have hD9 : va_D A (WC cy ad ks g u0) := by exact hD
            rw [hQ]
            exact W.iret (v := (u0 (400 + 0) 0)) hx hb hr (fun t ht hW => ⟨⟨(u0 (400 + 0) 0), (), rfl, zro, by rw [ht]; exact hP9, hD9⟩, hS.F ht⟩) hS.2.2 dX7_count_97
          · rw [if_neg c5] at hF
            by_cases c6 : a1 = 5
            · rw [if_pos c6] at hF
              refine my_topi (y := 5) c6 ?_
              refine lv_tableIn (off := 97) (tgt := 98) hx hb dX7_count_1 (by decide) (by decide) (by decide) (by decide) ?_
              refine lv_aload_n hx hb dX7_count_98 rfl (lv_at hl 0 rfl) ?_
              obtain ⟨q9, h9⟩ := wc_at (cy := cy) (ad := ad) (ks := ks) (g := g) (u := u0) (κ := .cl) hk.1 True.intro
              refine va_get (D := (dC, dI)) (ci := 7) (v := .ref (ad (.ln 0))) (C := RX7) (T := TX7) (N := 12) hx hb hts inlX7 hown hK hP q9 h9 rfl 0 (by decide) (hts _ mw_18) (fun _ h9 => h9) rfl dX7_count_99 ?_
              clear h9
              obtain ⟨q9, h9⟩ := wc_at (cy := cy) (ad := ad) (ks := ks) (g := g) (u := u0) (κ := (.ln 0)) hk.1 (Or.inl (by decide))
              refine va_get (D := (dC, dI)) (ci := 3) (v := .ref (ad (.is 0))) (C := RX3) (T := TX3) (N := 17) hx hb hts inlX3 hown hK hP q9 h9 rfl 13 (by decide) (hts _ mw_574) (fun _ h9 => h9) rfl dX7_count_102 ?_
              clear h9
              refine lv_iconst (v := 1) hx hb dX7_count_105 (by decide) ?_
              obtain ⟨q9, h9⟩ := wc_at (cy := cy) (ad := ad) (ks := ks) (g := g) (u := u0) (κ := (.is 0)) hk.1 (Or.inl (by decide))
              refine va_iald hx hb hK hP q9 1 h9 rfl (vp_in_nI (n := 1) (by decide) (by decide)) dX7_count_106 ?_
              refine my_topi (y := (u0 (400 + 0) 1)) (by rfl) ?_
              clear h9
              have hZ := s3 hF
              have zro : (u0 (400 + 0) 1) = ro := hZ
              have hP9 : va_P (dC, dI) vwCl (WC cy ad ks g u0) H := by exact hP
              have hD9 : va_D A (WC cy ad ks g u0) := by exact hD
              rw [hQ]
              exact W.iret (v := (u0 (400 + 0) 1)) hx hb hr (fun t ht hW => ⟨⟨(u0 (400 + 0) 1), (), rfl, zro, by rw [ht]; exact hP9, hD9⟩, hS.F ht⟩) hS.2.2 dX7_count_107
            · rw [if_neg c6] at hF
              by_cases c7 : a1 = 6
              · rw [if_pos c7] at hF
                refine my_topi (y := 6) c7 ?_
                refine lv_tableIn (off := 107) (tgt := 108) hx hb dX7_count_1 (by decide) (by decide) (by decide) (by decide) ?_
                refine lv_aload_n hx hb dX7_count_108 rfl (lv_at hl 0 rfl) ?_
                obtain ⟨q9, h9⟩ := wc_at (cy := cy) (ad := ad) (ks := ks) (g := g) (u := u0) (κ := .cl) hk.1 True.intro
                refine va_get (D := (dC, dI)) (ci := 7) (v := .ref (ad (.ln 0))) (C := RX7) (T := TX7) (N := 12) hx hb hts inlX7 hown hK hP q9 h9 rfl 0 (by decide) (hts _ mw_18) (fun _ h9 => h9) rfl dX7_count_109 ?_
                clear h9
                obtain ⟨q9, h9⟩ := wc_at (cy := cy) (ad := ad) (ks := ks) (g := g) (u := u0) (κ := (.ln 0)) hk.1 (Or.inl (by decide))
                refine va_get (D := (dC, dI)) (ci := 3) (v := .ref (ad (.is 0))) (C := RX3) (T := TX3) (N := 17) hx hb hts inlX3 hown hK hP q9 h9 rfl 13 (by decide) (hts _ mw_574) (fun _ h9 => h9) rfl dX7_count_112 ?_
                clear h9
                refine lv_iconst (v := 2) hx hb dX7_count_115 (by decide) ?_
                obtain ⟨q9, h9⟩ := wc_at (cy := cy) (ad := ad) (ks := ks) (g := g) (u := u0) (κ := (.is 0)) hk.1 (Or.inl (by decide))
                refine va_iald hx hb hK hP q9 1 h9 rfl (vp_in_nI (n := 2) (by decide) (by decide)) dX7_count_116 ?_
                refine my_topi (y := (u0 (400 + 0) 2)) (by rfl) ?_
                clear h9
                have hZ := s3 hF
                have zro : (u0 (400 + 0) 2) = ro := hZ
                have hP9 : va_P (dC, dI) vwCl (WC cy ad ks g u0) H := by exact hP
                have hD9 : va_D A (WC cy ad ks g u0) := by exact hD
                rw [hQ]
                exact W.iret (v := (u0 (400 + 0) 2)) hx hb hr (fun t ht hW => ⟨⟨(u0 (400 + 0) 2), (), rfl, zro, by rw [ht]; exact hP9, hD9⟩, hS.F ht⟩) hS.2.2 dX7_count_117
              · rw [if_neg c7] at hF
                by_cases c8 : a1 = 7
                · rw [if_pos c8] at hF
                  refine my_topi (y := 7) c8 ?_
                  refine lv_tableIn (off := 117) (tgt := 118) hx hb dX7_count_1 (by decide) (by decide) (by decide) (by decide) ?_
                  refine lv_aload_n hx hb dX7_count_118 rfl (lv_at hl 0 rfl) ?_
                  obtain ⟨q9, h9⟩ := wc_at (cy := cy) (ad := ad) (ks := ks) (g := g) (u := u0) (κ := .cl) hk.1 True.intro
                  refine va_get (D := (dC, dI)) (ci := 7) (v := .ref (ad (.ln 0))) (C := RX7) (T := TX7) (N := 12) hx hb hts inlX7 hown hK hP q9 h9 rfl 0 (by decide) (hts _ mw_18) (fun _ h9 => h9) rfl dX7_count_119 ?_
                  clear h9
                  obtain ⟨q9, h9⟩ := wc_at (cy := cy) (ad := ad) (ks := ks) (g := g) (u := u0) (κ := (.ln 0)) hk.1 (Or.inl (by decide))
                  refine va_get (D := (dC, dI)) (ci := 3) (v := .ref (ad (.is 0))) (C := RX3) (T := TX3) (N := 17) hx hb hts inlX3 hown hK hP q9 h9 rfl 13 (by decide) (hts _ mw_574) (fun _ h9 => h9) rfl dX7_count_122 ?_
                  clear h9
                  refine lv_iconst (v := 3) hx hb dX7_count_125 (by decide) ?_
                  obtain ⟨q9, h9⟩ := wc_at (cy := cy) (ad := ad) (ks := ks) (g := g) (u := u0) (κ := (.is 0)) hk.1 (Or.inl (by decide))
                  refine va_iald hx hb hK hP q9 1 h9 rfl (vp_in_nI (n := 3) (by decide) (by decide)) dX7_count_126 ?_
                  refine my_topi (y := (u0 (400 + 0) 3)) (by rfl) ?_
                  clear h9
                  have hZ := s3 hF
                  have zro : (u0 (400 + 0) 3) = ro := hZ
                  have hP9 : va_P (dC, dI) vwCl (WC cy ad ks g u0) H := by exact hP
                  have hD9 : va_D A (WC cy ad ks g u0) := by exact hD
                  rw [hQ]
                  exact W.iret (v := (u0 (400 + 0) 3)) hx hb hr (fun t ht hW => ⟨⟨(u0 (400 + 0) 3), (), rfl, zro, by rw [ht]; exact hP9, hD9⟩, hS.F ht⟩) hS.2.2 dX7_count_127
                · rw [if_neg c8] at hF
                  by_cases c9 : a1 = 8
                  · rw [if_pos c9] at hF
                    refine my_topi (y := 8) c9 ?_
                    refine lv_tableIn (off := 127) (tgt := 128) hx hb dX7_count_1 (by decide) (by decide) (by decide) (by decide) ?_
                    refine lv_aload_n hx hb dX7_count_128 rfl (lv_at hl 0 rfl) ?_
                    obtain ⟨q9, h9⟩ := wc_at (cy := cy) (ad := ad) (ks := ks) (g := g) (u := u0) (κ := .cl) hk.1 True.intro
                    refine va_get (D := (dC, dI)) (ci := 7) (v := .ref (ad (.ln 0))) (C := RX7) (T := TX7) (N := 12) hx hb hts inlX7 hown hK hP q9 h9 rfl 0 (by decide) (hts _ mw_18) (fun _ h9 => h9) rfl dX7_count_129 ?_
                    clear h9
                    obtain ⟨q9, h9⟩ := wc_at (cy := cy) (ad := ad) (ks := ks) (g := g) (u := u0) (κ := (.ln 0)) hk.1 (Or.inl (by decide))
                    refine va_get (D := (dC, dI)) (ci := 3) (v := .ref (ad (.is 0))) (C := RX3) (T := TX3) (N := 17) hx hb hts inlX3 hown hK hP q9 h9 rfl 13 (by decide) (hts _ mw_574) (fun _ h9 => h9) rfl dX7_count_132 ?_
                    clear h9
                    refine lv_iconst (v := 4) hx hb dX7_count_135 (by decide) ?_
                    obtain ⟨q9, h9⟩ := wc_at (cy := cy) (ad := ad) (ks := ks) (g := g) (u := u0) (κ := (.is 0)) hk.1 (Or.inl (by decide))
                    refine va_iald hx hb hK hP q9 1 h9 rfl (vp_in_nI (n := 4) (by decide) (by decide)) dX7_count_136 ?_
                    refine my_topi (y := (u0 (400 + 0) 4)) (by rfl) ?_
                    clear h9
                    have hZ := s3 hF
                    have zro : (u0 (400 + 0) 4) = ro := hZ
                    have hP9 : va_P (dC, dI) vwCl (WC cy ad ks g u0) H := by exact hP
                    have hD9 : va_D A (WC cy ad ks g u0) := by exact hD
                    rw [hQ]
                    exact W.iret (v := (u0 (400 + 0) 4)) hx hb hr (fun t ht hW => ⟨⟨(u0 (400 + 0) 4), (), rfl, zro, by rw [ht]; exact hP9, hD9⟩, hS.F ht⟩) hS.2.2 dX7_count_137
                  · rw [if_neg c9] at hF
                    by_cases c10 : a1 = 9
                    · rw [if_pos c10] at hF
                      refine my_topi (y := 9) c10 ?_
                      refine lv_tableIn (off := 137) (tgt := 138) hx hb dX7_count_1 (by decide) (by decide) (by decide) (by decide) ?_
                      refine lv_aload_n hx hb dX7_count_138 rfl (lv_at hl 0 rfl) ?_
                      obtain ⟨q9, h9⟩ := wc_at (cy := cy) (ad := ad) (ks := ks) (g := g) (u := u0) (κ := .cl) hk.1 True.intro
                      refine va_get (D := (dC, dI)) (ci := 7) (v := .int (u0 0 4)) (C := RX7) (T := TX7) (N := 12) hx hb hts inlX7 hown hK hP q9 h9 rfl 11 (by decide) (hts _ mw_34) (fun _ h9 => h9) rfl dX7_count_139 ?_
                      clear h9
                      have hZ := s3 hF
                      have zro : (u0 0 4) = ro := hZ
                      have hP9 : va_P (dC, dI) vwCl (WC cy ad ks g u0) H := by exact hP
                      have hD9 : va_D A (WC cy ad ks g u0) := by exact hD
                      rw [hQ]
                      exact W.iret (v := (u0 0 4)) hx hb hr (fun t ht hW => ⟨⟨(u0 0 4), (), rfl, zro, by rw [ht]; exact hP9, hD9⟩, hS.F ht⟩) hS.2.2 dX7_count_142
                    · rw [if_neg c10] at hF
                      refine lv_tableOut (tgt := 143) hx hb dX7_count_1 (sw_out (lo := 0) (hi := 9) (fun k h1 h2 => by rcases (show k = 0 ∨ k = 1 ∨ k = 2 ∨ k = 3 ∨ k = 4 ∨ k = 5 ∨ k = 6 ∨ k = 7 ∨ k = 8 ∨ k = 9 by omega) with rfl | rfl | rfl | rfl | rfl | rfl | rfl | rfl | rfl | rfl <;> intro q <;> first | exact c1 (q.trans (by decide)) | exact c2 (q.trans (by decide)) | exact c3 (q.trans (by decide)) | exact c4 (q.trans (by decide)) | exact c5 (q.trans (by decide)) | exact c6 (q.trans (by decide)) | exact c7 (q.trans (by decide)) | exact c8 (q.trans (by decide)) | exact c9 (q.trans (by decide)) | exact c10 (q.trans (by decide)))) (by decide) ?_
                      cases hF
noncomputable def C7_day (g : CG) (u0 : RS) (a1 : Int32) (a2 : Int32) (a3 : Int32) : Option (Sum Int32 (Int32)) := (C7_needLot g u0 (a2)).bind fun t1 => tr t1 fun t3 => if a1 < 0 then (some (.inl (2 : Int32))) else (if a3 < 0 then (some (.inl (2 : Int32))) else (if a3 ≤ 1 then ((C3_daysOver g u0 0).bind fun x7 => if 10 ≤ a1 then (some (.inr (-1 : Int32))) else (if a1 < x7 then ((rm ((x7 - 1) - a1) 10).bind fun x11 => (if a3 = 0 then ((ix 6 a2).bind fun n21 => (rd u0 (200 + 6 * 0 + n21) 10 x11).bind fun x23 => some x23) else ((ix 6 a2).bind fun n17 => (rd u0 (300 + 6 * 0 + n17) 10 x11).bind fun x19 => some x19) : Option (Int32)).bind fun t14 => some (.inr t14)) else (some (.inr (-1 : Int32))))) else (some (.inl (2 : Int32)))))
set_option maxHeartbeats 4000000 in
set_option maxRecDepth 100000 in
theorem c_X7_day (l : Launch) (dC : Nat → ClassId) (dI : Nat → Nat → Nat) (cy : Nat → ClassId) (nb : Nat → Nat) (ad : CK → Nat) (ks : List CK) (g : CG) (hk : GA nb ad g ks) (u0 : RS) (a1 : Int32) (a2 : Int32) (a3 : Int32) (ro : Int32) (sz : Nat) (hF : C7_day g u0 a1 a2 a3 = some (.inr ro)) : Met l yX7_day (wsg yX7_day cX7_day 6 (some .int)) ({ frames := 8, cells := 0, slots := 0, locals := 300 }) (va_Pc [.ref (ad .cl), .int a1, .int a2, .int a3] (fun U => U.heap.size = sz ∧ va_P (dC, dI) vwCl (WC cy ad ks g u0) U.heap ∧ va_K (dC, dI) vwCl (tyL cy) U ∧ va_D (fun _ => True) (WC cy ad ks g u0) ∧ GE nb (va_A (WC cy ad ks g u0) sz) U)) (va_Qi (fun (r : Int32) (_ : Unit) => r = ro) (fun _ t => va_P (dC, dI) vwCl (WC cy ad ks g u0) t.heap ∧ va_D (va_A (WC cy ad ks g u0) sz) (WC cy ad ks g u0)) (va_A (WC cy ad ks g u0) sz)) 0 0 (va_A (WC cy ad ks g u0) sz) := by
  refine Met.ofW (cc := cX7_day) (maxL := 6) (ret := (some .int)) pn_X7 rfl ?_
  intro p e s m args below meth c s₁ B hml hv
  obtain ⟨rfl, hsz, hP, hK, hD0, hE⟩ := hv
  have hx := B.exec
  have hb := B.bytes
  have hr := B.returns
  have hts0 := atoms_spec (ws := (wsg yX7_day cX7_day 6 (some .int))) B.pre
  have hts : ∀ w ∈ wsL_law, w.before _ s = true := fun w h => hts0 w (List.mem_cons_of_mem _ h)
  have hown : s.vm.findClass RX7 = some m.cls := by have h9 := findClass_of_methodNamed B.named; exact h9
  have hlocks := B.notSynchronized
  subst hsz
  have hD := hD0.self (sz := s.heap.size)
  generalize hAe : va_A (WC cy ad ks g u0) s.heap.size = A at hD hE ⊢
  have hA : ∀ q : Nat, s.heap.size ≤ q → A q := fun q h => by rw [← hAe]; exact Or.inr h
  have hS : va_S A s.heap s.heap [] := va_S.rf
  have hl := lv_entry ([.ref (ad .cl), .int a1, .int a2, .int a3]) (n := 6) (Nat.le_of_ble_eq_true rfl)
  rw [lg_entry_eq]
  generalize (lg_sl ([.ref (ad .cl), .int a1, .int a2, .int a3]) ++ List.replicate (6 - (lg_sl ([.ref (ad .cl), .int a1, .int a2, .int a3])).length) Slot.unset).toArray = ls at hl ⊢
  have hl : lv_has ls 6 [(0, .ref (ad .cl)), (1, .int a1), (2, .int a2), (3, .int a3)] := hl
  generalize hHe : s.heap = H at hP hS ⊢
  have hS : va_S A s.heap H [] := by rw [hHe]; exact hS
  refine my_Q (fun Qn hQ => ?_)
  simp only [C7_day] at hF
  refine lv_aload_n hx hb dX7_day_0 rfl (lv_at hl 0 rfl) ?_
  refine lv_iload_n hx hb dX7_day_1 rfl (lv_at hl 2 rfl) ?_
  obtain ⟨t1, e2, hF⟩ := ob hF
  rcases t1 with xz9 | t3
  · have hF : some (Sum.inl xz9) = some (.inr ro) := hF
    cases hF
  · dsimp only [tr] at hF
    have hPc := hP
    have hDc := hD
    have hFc := my_free hD hS hA
    obtain ⟨q8, h8⟩ := wc_at (cy := cy) (ad := ad) (ks := ks) (g := g) (u := u0) (κ := .cl) hk.1 True.intro
    refine va_callv (va_runV (As := [.int a2]) (rest := []) ⟨hx, hb, hml, hown, hts⟩ (c_X7_needLot l dC dI cy nb ad ks g hk u0 (a2) H.size e2) (cwV 1 hts (gV mw_704 mw_705 mw_706 mw_2 mw_707) rfl rfl rfl (by decide +kernel) ⟨Nat.le_of_ble_eq_true rfl, Nat.le_of_ble_eq_true rfl⟩) (my_preV hPc hK hDc hE hS hFc (va_recv (q := (RX7, TX7, 12)) hK hP (ci := 7) (q0 := q8) rfl h8)) rfl rfl hl.1 rfl (lv_room (Nat.le_of_ble_eq_true rfl)) dX7_day_2 ⟨Nat.le_of_ble_eq_true rfl, Nat.le_of_ble_eq_true rfl⟩) hS (fun q _ h => hFc q h) hFc (fun u t H1 locs ht hvm hw hB hz1 hk1 hS => ?_)
    clear h8
    obtain ⟨hP1, hD1⟩ := hB
    rw [ht] at hP1
    have hP := hP1
    have hD := hD1.weaken (fun k q _ h => hFc q.1 h)
    generalize H1 = H at hP hS ⊢
    clear hP1 hD1 hPc hDc hFc hk1 hz1 hvm ht
    refine lv_iload_n hx hb dX7_day_5 rfl (lv_at hl 1 rfl) ?_
    refine lv_if_lt (tgt := 18) hx hb dX7_day_6 (by decide) (fun c4 => ?_) (fun c4 => ?_)
    · rw [if_pos c4] at hF
      cases hF
    · rw [if_neg c4] at hF
      refine lv_iload_n hx hb dX7_day_9 rfl (lv_at hl 3 rfl) ?_
      refine lv_if_lt (tgt := 18) hx hb dX7_day_10 (by decide) (fun c5 => ?_) (fun c5 => ?_)
      · rw [if_pos c5] at hF
        cases hF
      · rw [if_neg c5] at hF
        refine lv_iload_n hx hb dX7_day_13 rfl (lv_at hl 3 rfl) ?_
        refine lv_iconst (v := 1) hx hb dX7_day_14 (by decide) ?_
        refine lv_icmp_le (tgt := 29) hx hb dX7_day_15 (by decide) (fun c6 => ?_) (fun c6 => ?_)
        · rw [if_pos c6] at hF
          refine lv_aload_n hx hb dX7_day_29 rfl (lv_at hl 0 rfl) ?_
          obtain ⟨q9, h9⟩ := wc_at (cy := cy) (ad := ad) (ks := ks) (g := g) (u := u0) (κ := .cl) hk.1 True.intro
          refine va_get (D := (dC, dI)) (ci := 7) (v := .ref (ad (.ln 0))) (C := RX7) (T := TX7) (N := 12) hx hb hts inlX7 hown hK hP q9 h9 rfl 0 (by decide) (hts _ mw_18) (fun _ h9 => h9) rfl dX7_day_30 ?_
          clear h9
          obtain ⟨x7, e8, hF⟩ := ob hF
          have hPc := hP
          have hDc := hD
          have hFc := my_free hD hS hA
          obtain ⟨q8, h8⟩ := wc_at (cy := cy) (ad := ad) (ks := ks) (g := g) (u := u0) (κ := (.ln 0)) hk.1 (Or.inl (by decide))
          refine va_calli (va_runV (As := []) (rest := []) ⟨hx, hb, hml, hown, hts⟩ (c_X3_daysOver l dC dI cy nb ad ks g hk u0 0 (x7) H.size (Or.inl (by decide)) e8) (cwV 0 hts (gV mw_881 mw_882 mw_883 mw_17 mw_884) rfl rfl rfl (by decide +kernel) ⟨Nat.le_of_ble_eq_true rfl, Nat.le_of_ble_eq_true rfl⟩) (my_preV hPc hK hDc hE hS hFc (va_recv (q := (RX3, TX3, 17)) hK hP (ci := 3) (q0 := q8) rfl h8)) rfl rfl hl.1 rfl (lv_room (Nat.le_of_ble_eq_true rfl)) dX7_day_33 ⟨Nat.le_of_ble_eq_true rfl, Nat.le_of_ble_eq_true rfl⟩) hS (fun q _ h => hFc q h) hFc (fun r u t H1 locs ht hvm hw hB hz1 hk1 hS => ?_)
          clear h8
          obtain ⟨hP1, hD1⟩ := hB
          rw [ht] at hP1
          have hP := hP1
          have hD := hD1.weaken (fun k q _ h => hFc q.1 h)
          generalize H1 = H at hP hS ⊢
          clear hP1 hD1 hPc hDc hFc hk1 hz1 hvm ht
          obtain rfl := hw.symm
          refine lv_istore (lv' := [(4, .int x7), (0, .ref (ad .cl)), (1, .int a1), (2, .int a2), (3, .int a3)]) hx hb dX7_day_36 hl (by decide) rfl (fun ls hl => ?_)
          refine lv_iload_n hx hb dX7_day_38 rfl (lv_at hl 2 rfl) ?_
          refine lv_bipush (v := 10) hx hb dX7_day_39 (by decide) ?_
          refine lv_icmp_ge (tgt := 50) hx hb dX7_day_41 (by decide) (fun c9 => ?_) (fun c9 => ?_)
          · rw [if_pos c9] at hF
            refine lv_iconst (v := (-1)) hx hb dX7_day_50 (by decide) ?_
            have hZ := s3 hF
            have zro : (-1 : Int32) = ro := hZ
            have hP9 : va_P (dC, dI) vwCl (WC cy ad ks g u0) H := by exact hP
            have hD9 : va_D A (WC cy ad ks g u0) := by exact hD
            rw [hQ]
            exact W.iret (v := (-1 : Int32)) hx hb hr (fun t ht hW => ⟨⟨(-1 : Int32), (), rfl, zro, by rw [ht]; exact hP9, hD9⟩, hS.F ht⟩) hS.2.2 dX7_day_51
          · rw [if_neg c9] at hF
            refine lv_iload_n hx hb dX7_day_44 rfl (lv_at hl 2 rfl) ?_
            refine lv_iload hx hb dX7_day_45 (lv_at hl 0 rfl) ?_
            refine lv_icmp_lt (tgt := 52) hx hb dX7_day_47 (by decide) (fun c10 => ?_) (fun c10 => ?_)
            · rw [if_pos c10] at hF
              refine lv_iload hx hb dX7_day_52 (lv_at hl 0 rfl) ?_
              refine lv_iconst (v := 1) hx hb dX7_day_54 (by decide) ?_
              refine lv_isub hx hb dX7_day_55 ?_
              refine lv_iload_n hx hb dX7_day_56 rfl (lv_at hl 2 rfl) ?_
              refine lv_isub hx hb dX7_day_57 ?_
              refine lv_bipush (v := 10) hx hb dX7_day_58 (by decide) ?_
              obtain ⟨x11, e12, hF⟩ := ob hF
              refine lv_irem hx hb dX7_day_60 (rm_ne e12) ?_
              refine my_topi (y := x11) (rm_eq e12) ?_
              refine lv_istore (lv' := [(5, .int x11), (4, .int x7), (0, .ref (ad .cl)), (1, .int a1), (2, .int a2), (3, .int a3)]) hx hb dX7_day_61 hl (by decide) rfl (fun ls hl => ?_)
              refine lv_iload_n hx hb dX7_day_63 rfl (lv_at hl 5 rfl) ?_
              obtain ⟨t14, hJ15, hF⟩ := ob hF
              have join16 : ∀ (H : Heap) (locs : List Loc) (ls : Array Slot), va_P (dC, dI) vwCl (WC cy ad ks g u0) H → va_D A (WC cy ad ks g u0) → va_S A s.heap H locs → lv_has ls 6 [(5, .int x11), (4, .int x7), (0, .ref (ad .cl)), (1, .int a1), (2, .int a2), (3, .int a3)] → W p l e (headSpec (wsg yX7_day cX7_day 6 (some .int)) ({ frames := 8, cells := 0, slots := 0, locals := 300 })).room s m ([.ref (ad .cl), .int a1, .int a2, .int a3] : List Value).toArray below meth c H locs 0 0 Qn (F0 m 100 ls [.int t14]) := by
                intro H locs ls hP hD hS hl
                have hZ := s3 hF
                have zro : t14 = ro := hZ
                have hP9 : va_P (dC, dI) vwCl (WC cy ad ks g u0) H := by exact hP
                have hD9 : va_D A (WC cy ad ks g u0) := by exact hD
                rw [hQ]
                exact W.iret (v := t14) hx hb hr (fun t ht hW => ⟨⟨t14, (), rfl, zro, by rw [ht]; exact hP9, hD9⟩, hS.F ht⟩) hS.2.2 dX7_day_100
              clear hF
              have hF := hJ15
              clear hJ15
              refine lv_if_ne (tgt := 85) hx hb dX7_day_64 (by decide) (fun c13 => ?_) (fun c13 => ?_)
              · rw [if_neg c13] at hF
                refine lv_aload_n hx hb dX7_day_85 rfl (lv_at hl 2 rfl) ?_
                obtain ⟨q9, h9⟩ := wc_at (cy := cy) (ad := ad) (ks := ks) (g := g) (u := u0) (κ := .cl) hk.1 True.intro
                refine va_get (D := (dC, dI)) (ci := 7) (v := .ref (ad (.ln 0))) (C := RX7) (T := TX7) (N := 12) hx hb hts inlX7 hown hK hP q9 h9 rfl 0 (by decide) (hts _ mw_18) (fun _ h9 => h9) rfl dX7_day_86 ?_
                clear h9
                obtain ⟨q9, h9⟩ := wc_at (cy := cy) (ad := ad) (ks := ks) (g := g) (u := u0) (κ := (.ln 0)) hk.1 (Or.inl (by decide))
                refine va_get (D := (dC, dI)) (ci := 3) (v := .ref (ad (.ls 0))) (C := RX3) (T := TX3) (N := 17) hx hb hts inlX3 hown hK hP q9 h9 rfl 11 (by decide) (hts _ mw_697) (fun _ h9 => h9) rfl dX7_day_89 ?_
                clear h9
                refine lv_iload_n hx hb dX7_day_92 rfl (lv_at hl 4 rfl) ?_
                obtain ⟨n17, e18, hF⟩ := ob hF
                obtain ⟨q9, h9⟩ := wc_at (cy := cy) (ad := ad) (ks := ks) (g := g) (u := u0) (κ := (.ls 0)) hk.1 (Or.inl (by decide))
                refine va_aldq hx hb hK hP q9 7 h9 rfl (ix_in e18) dX7_day_93 ?_
                refine my_top (y := .ref (ad (.lo 0 n17))) (ixv (F := fun j => ad (.lo 0 j)) e18) ?_
                clear h9
                obtain ⟨q9, h9⟩ := wc_at (cy := cy) (ad := ad) (ks := ks) (g := g) (u := u0) (κ := (.lo 0 n17)) hk.1 ⟨(Or.inl (by decide)), (ix_lt e18)⟩
                refine va_get (D := (dC, dI)) (ci := 4) (v := .ref (ad (.df 0 n17))) (C := RX4) (T := TX4) (N := 12) hx hb hts inlX4 hown hK hP q9 h9 rfl 11 (by decide) (hts _ mw_880) (fun _ h9 => h9) rfl dX7_day_94 ?_
                clear h9
                refine lv_iload hx hb dX7_day_97 (lv_at hl 0 rfl) ?_
                obtain ⟨x19, e20, hF⟩ := ob hF
                obtain ⟨q9, h9⟩ := wc_at (cy := cy) (ad := ad) (ks := ks) (g := g) (u := u0) (κ := (.df 0 n17)) hk.1 ⟨(Or.inl (by decide)), (ix_lt e18)⟩
                refine va_iald hx hb hK hP q9 1 h9 rfl (rd_in e20) dX7_day_99 ?_
                refine my_topi (y := x19) (rd_eq e20) ?_
                clear h9
                have ht := s1 hF
                subst ht
                exact join16 _ _ _ hP hD hS (lv_sub hl [0, 1, 2, 3, 4, 5] rfl)
              · rw [if_pos c13] at hF
                refine lv_aload_n hx hb dX7_day_67 rfl (lv_at hl 2 rfl) ?_
                obtain ⟨q9, h9⟩ := wc_at (cy := cy) (ad := ad) (ks := ks) (g := g) (u := u0) (κ := .cl) hk.1 True.intro
                refine va_get (D := (dC, dI)) (ci := 7) (v := .ref (ad (.ln 0))) (C := RX7) (T := TX7) (N := 12) hx hb hts inlX7 hown hK hP q9 h9 rfl 0 (by decide) (hts _ mw_18) (fun _ h9 => h9) rfl dX7_day_68 ?_
                clear h9
                obtain ⟨q9, h9⟩ := wc_at (cy := cy) (ad := ad) (ks := ks) (g := g) (u := u0) (κ := (.ln 0)) hk.1 (Or.inl (by decide))
                refine va_get (D := (dC, dI)) (ci := 3) (v := .ref (ad (.ls 0))) (C := RX3) (T := TX3) (N := 17) hx hb hts inlX3 hown hK hP q9 h9 rfl 11 (by decide) (hts _ mw_697) (fun _ h9 => h9) rfl dX7_day_71 ?_
                clear h9
                refine lv_iload_n hx hb dX7_day_74 rfl (lv_at hl 4 rfl) ?_
                obtain ⟨n21, e22, hF⟩ := ob hF
                obtain ⟨q9, h9⟩ := wc_at (cy := cy) (ad := ad) (ks := ks) (g := g) (u := u0) (κ := (.ls 0)) hk.1 (Or.inl (by decide))
                refine va_aldq hx hb hK hP q9 7 h9 rfl (ix_in e22) dX7_day_75 ?_
                refine my_top (y := .ref (ad (.lo 0 n21))) (ixv (F := fun j => ad (.lo 0 j)) e22) ?_
                clear h9
                obtain ⟨q9, h9⟩ := wc_at (cy := cy) (ad := ad) (ks := ks) (g := g) (u := u0) (κ := (.lo 0 n21)) hk.1 ⟨(Or.inl (by decide)), (ix_lt e22)⟩
                refine va_get (D := (dC, dI)) (ci := 4) (v := .ref (ad (.dl 0 n21))) (C := RX4) (T := TX4) (N := 12) hx hb hts inlX4 hown hK hP q9 h9 rfl 10 (by decide) (hts _ mw_879) (fun _ h9 => h9) rfl dX7_day_76 ?_
                clear h9
                refine lv_iload hx hb dX7_day_79 (lv_at hl 0 rfl) ?_
                obtain ⟨x23, e24, hF⟩ := ob hF
                obtain ⟨q9, h9⟩ := wc_at (cy := cy) (ad := ad) (ks := ks) (g := g) (u := u0) (κ := (.dl 0 n21)) hk.1 ⟨(Or.inl (by decide)), (ix_lt e22)⟩
                refine va_iald hx hb hK hP q9 1 h9 rfl (rd_in e24) dX7_day_81 ?_
                refine my_topi (y := x23) (rd_eq e24) ?_
                clear h9
                refine lv_goto (tgt := 100) hx hb dX7_day_82 (by decide) ?_
                have ht := s1 hF
                subst ht
                exact join16 _ _ _ hP hD hS (lv_sub hl [0, 1, 2, 3, 4, 5] rfl)
            · rw [if_neg c10] at hF
              refine lv_iconst (v := (-1)) hx hb dX7_day_50 (by decide) ?_
              have hZ := s3 hF
              have zro : (-1 : Int32) = ro := hZ
              have hP9 : va_P (dC, dI) vwCl (WC cy ad ks g u0) H := by exact hP
              have hD9 : va_D A (WC cy ad ks g u0) := by exact hD
              rw [hQ]
              exact W.iret (v := (-1 : Int32)) hx hb hr (fun t ht hW => ⟨⟨(-1 : Int32), (), rfl, zro, by rw [ht]; exact hP9, hD9⟩, hS.F ht⟩) hS.2.2 dX7_day_51
        · rw [if_neg c6] at hF
          cases hF
noncomputable def C7_failIn (g : CG) (u0 : RS) (a1 : Int32) : Option (Sum Int32 (Int32 × RS)) := (C7_needStation g u0 (a1)).bind fun t1 => tr t1 fun t3 => (C7_copyOfLine g u0).bind fun t4 => (ix 6 a1).bind fun n6 => (pt t4 (10 + 1) (17 + 16 * n6 + 5) (0)).bind fun u8 => (C7_ticksUntil_e3 g u8 1 (a1) (2000)).bind fun t10 => some (.inr ((t10.1), (t10.2)))
set_option maxHeartbeats 4000000 in
set_option maxRecDepth 100000 in
theorem c_X7_failIn (l : Launch) (dC : Nat → ClassId) (dI : Nat → Nat → Nat) (cy : Nat → ClassId) (nb : Nat → Nat) (ad : CK → Nat) (ks : List CK) (g : CG) (hk : GA nb ad g ks) (u0 : RS) (a1 : Int32) (ro : Int32) (uz : RS) (sz : Nat) (hF : C7_failIn g u0 a1 = some (.inr (ro, uz))) : Met l yX7_failIn (wsg yX7_failIn cX7_failIn 3 (some .int)) ({ frames := 13, cells := 0, slots := 0, locals := 800 }) (va_Pc [.ref (ad .cl), .int a1] (fun U => U.heap.size = sz ∧ va_P (dC, dI) vwCl (WC cy ad ks g u0) U.heap ∧ va_K (dC, dI) vwCl (tyL cy) U ∧ va_D (fun _ => True) (WC cy ad ks g u0) ∧ GE nb (va_A (WC cy ad ks g u0) sz) U)) (va_Qi (fun (r : Int32) (_ : Unit) => r = ro) (fun _ t => va_P (dC, dI) vwCl (WC cy ad ks g uz) t.heap ∧ va_D (va_A (WC cy ad ks g u0) sz) (WC cy ad ks g uz)) (va_A (WC cy ad ks g u0) sz)) 0 0 (va_A (WC cy ad ks g u0) sz) := by
  refine Met.ofW (cc := cX7_failIn) (maxL := 3) (ret := (some .int)) pn_X7 rfl ?_
  intro p e s m args below meth c s₁ B hml hv
  obtain ⟨rfl, hsz, hP, hK, hD0, hE⟩ := hv
  have hx := B.exec
  have hb := B.bytes
  have hr := B.returns
  have hts0 := atoms_spec (ws := (wsg yX7_failIn cX7_failIn 3 (some .int))) B.pre
  have hts : ∀ w ∈ wsL_law, w.before _ s = true := fun w h => hts0 w (List.mem_cons_of_mem _ h)
  have hown : s.vm.findClass RX7 = some m.cls := by have h9 := findClass_of_methodNamed B.named; exact h9
  have hlocks := B.notSynchronized
  subst hsz
  have hD := hD0.self (sz := s.heap.size)
  generalize hAe : va_A (WC cy ad ks g u0) s.heap.size = A at hD hE ⊢
  have hA : ∀ q : Nat, s.heap.size ≤ q → A q := fun q h => by rw [← hAe]; exact Or.inr h
  have hS : va_S A s.heap s.heap [] := va_S.rf
  have hl := lv_entry ([.ref (ad .cl), .int a1]) (n := 3) (Nat.le_of_ble_eq_true rfl)
  rw [lg_entry_eq]
  generalize (lg_sl ([.ref (ad .cl), .int a1]) ++ List.replicate (3 - (lg_sl ([.ref (ad .cl), .int a1])).length) Slot.unset).toArray = ls at hl ⊢
  have hl : lv_has ls 3 [(0, .ref (ad .cl)), (1, .int a1)] := hl
  generalize hHe : s.heap = H at hP hS ⊢
  have hS : va_S A s.heap H [] := by rw [hHe]; exact hS
  refine my_Q (fun Qn hQ => ?_)
  simp only [C7_failIn] at hF
  refine lv_aload_n hx hb dX7_failIn_0 rfl (lv_at hl 0 rfl) ?_
  refine lv_iload_n hx hb dX7_failIn_1 rfl (lv_at hl 1 rfl) ?_
  obtain ⟨t1, e2, hF⟩ := ob hF
  rcases t1 with xz9 | t3
  · have hF : some (Sum.inl xz9) = some (.inr (ro, uz)) := hF
    cases hF
  · dsimp only [tr] at hF
    have hPc := hP
    have hDc := hD
    have hFc := my_free hD hS hA
    obtain ⟨q8, h8⟩ := wc_at (cy := cy) (ad := ad) (ks := ks) (g := g) (u := u0) (κ := .cl) hk.1 True.intro
    refine va_callv (va_runV (As := [.int a1]) (rest := []) ⟨hx, hb, hml, hown, hts⟩ (c_X7_needStation l dC dI cy nb ad ks g hk u0 (a1) H.size e2) (cwV 1 hts (gV mw_631 mw_632 mw_633 mw_2 mw_634) rfl rfl rfl (by decide +kernel) ⟨Nat.le_of_ble_eq_true rfl, Nat.le_of_ble_eq_true rfl⟩) (my_preV hPc hK hDc hE hS hFc (va_recv (q := (RX7, TX7, 12)) hK hP (ci := 7) (q0 := q8) rfl h8)) rfl rfl hl.1 rfl (lv_room (Nat.le_of_ble_eq_true rfl)) dX7_failIn_2 ⟨Nat.le_of_ble_eq_true rfl, Nat.le_of_ble_eq_true rfl⟩) hS (fun q _ h => hFc q h) hFc (fun u t H1 locs ht hvm hw hB hz1 hk1 hS => ?_)
    clear h8
    obtain ⟨hP1, hD1⟩ := hB
    rw [ht] at hP1
    have hP := hP1
    have hD := hD1.weaken (fun k q _ h => hFc q.1 h)
    generalize H1 = H at hP hS ⊢
    clear hP1 hD1 hPc hDc hFc hk1 hz1 hvm ht
    refine lv_aload_n hx hb dX7_failIn_5 rfl (lv_at hl 0 rfl) ?_
    obtain ⟨t4, e5, hF⟩ := ob hF
    have hPc := hP
    have hDc := hD
    have hFc := my_free hD hS hA
    obtain ⟨q8, h8⟩ := wc_at (cy := cy) (ad := ad) (ks := ks) (g := g) (u := u0) (κ := .cl) hk.1 True.intro
    refine va_callr (va_runV (As := []) (rest := []) ⟨hx, hb, hml, hown, hts⟩ (c_X7_copyOfLine l dC dI cy nb ad ks g hk u0 (t4) H.size e5) (cwV 0 hts (gV mw_1298 mw_1299 mw_1300 mw_2 mw_1301) rfl rfl rfl (by decide +kernel) ⟨Nat.le_of_ble_eq_true rfl, Nat.le_of_ble_eq_true rfl⟩) (my_preV hPc hK hDc hE hS hFc (va_recv (q := (RX7, TX7, 12)) hK hP (ci := 7) (q0 := q8) rfl h8)) rfl rfl hl.1 rfl (lv_room (Nat.le_of_ble_eq_true rfl)) dX7_failIn_6 ⟨Nat.le_of_ble_eq_true rfl, Nat.le_of_ble_eq_true rfl⟩) hS (fun q _ h => hFc q h) hFc (fun u ra t H1 locs ht hvm hw hB hz1 hk1 hS => ?_)
    clear h8
    obtain ⟨hra, hP1, hD1⟩ := hB
    rw [ht] at hP1
    have hP := hP1
    have hD := hD1.weaken (fun k q _ h => hFc q.1 h)
    generalize H1 = H at hP hS ⊢
    clear hP1 hD1 hPc hDc hFc hk1 hz1 hvm ht
    obtain rfl := hra.symm
    refine lv_astore_n (lv' := [(2, .ref (ad (.ln 1))), (0, .ref (ad .cl)), (1, .int a1)]) hx hb dX7_failIn_9 rfl hl (by decide) rfl (fun ls hl => ?_)
    refine lv_aload_n hx hb dX7_failIn_10 rfl (lv_at hl 0 rfl) ?_
    obtain ⟨q9, h9⟩ := wc_at (cy := cy) (ad := ad) (ks := ks) (g := g) (u := t4) (κ := (.ln 1)) hk.1 (Or.inl (by decide))
    refine va_get (D := (dC, dI)) (ci := 3) (v := .ref (ad (.ss 1))) (C := RX3) (T := TX3) (N := 17) hx hb hts inlX3 hown hK hP q9 h9 rfl 10 (by decide) (hts _ mw_617) (fun _ h9 => h9) rfl dX7_failIn_11 ?_
    clear h9
    refine lv_iload_n hx hb dX7_failIn_14 rfl (lv_at hl 2 rfl) ?_
    obtain ⟨n6, e7, hF⟩ := ob hF
    obtain ⟨q9, h9⟩ := wc_at (cy := cy) (ad := ad) (ks := ks) (g := g) (u := t4) (κ := (.ss 1)) hk.1 (Or.inl (by decide))
    refine va_aldq hx hb hK hP q9 6 h9 rfl (ix_in e7) dX7_failIn_15 ?_
    refine my_top (y := .ref (ad (.st 1 n6))) (ixv (F := fun j => ad (.st 1 j)) e7) ?_
    clear h9
    refine lv_iconst (v := 0) hx hb dX7_failIn_16 (by decide) ?_
    obtain ⟨q9, h9, ez9⟩ := wc_set (cy := cy) (ad := ad) (ks := ks) (g := g) (u := t4) (κ := (.st 1 n6)) (r := (10 + 1)) (i := (17 + 16 * n6 + 5)) (v := (0)) hk.1 ⟨(Or.inl (by decide)), (ix_lt e7)⟩ (own_st (show 1 < 12 by decide) (ix_lt e7) (by decide)) (sf_st_7)
    refine va_put (D := (dC, dI)) (ci := 6) (v := .int 0) (ty := .int) (C := RX6) (T := TX6) (N := 15) hx hb hts inlX6 tyX6 tyX6_ok nmX6 hown hK hP hD hS q9 h9 rfl 7 (by decide) (hts _ mw_623) (fun _ h9 => h9) rfl (by decide +kernel) rfl rfl (Nat.le_of_ble_eq_true rfl) dX7_failIn_17 (fun H locs hP hD hS => ?_)
    obtain ⟨u8, e9, hF⟩ := ob hF
    have hP : va_P (dC, dI) vwCl (WC cy ad ks g u8) H := by rw [← pt_eq e9, ← ez9]; exact hP
    have hD : va_D A (WC cy ad ks g u8) := by rw [← pt_eq e9, ← ez9]; exact hD
    clear ez9 h9
    refine lv_aload_n hx hb dX7_failIn_20 rfl (lv_at hl 0 rfl) ?_
    refine va_gets (C := RX2) (n := "STATION_FAILED") (d := "LCardLine$Event;") (ref := "CardLine$Event") (v := .ref (nb (40 + 3))) hx hb (hE.evk 3 rfl).1 hS hown (hts _ mw_1389) (fun _ h9 => h9) dX7_failIn_21 ?_
    refine lv_iload_n hx hb dX7_failIn_24 rfl (lv_at hl 2 rfl) ?_
    refine lv_sipush (v := 2000) hx hb dX7_failIn_25 (by decide) ?_
    obtain ⟨t10, e11, hF⟩ := ob hF
    have hPc := hP
    have hDc := hD
    have hFc := my_free hD hS hA
    refine va_calli (va_runS (As := [.ref (ad (.ln 1)), .ref (nb (40 + 3)), .int a1, .int 2000]) (rest := []) ⟨hx, hb, hml, hown, hts⟩ (c_X7_ticksUntil_e3 l dC dI cy nb ad ks g hk u8 1 (a1) (2000) (t10.1) (t10.2) H.size (Or.inl (by decide)) e11) (va_cwS 4 hts (gS mw_1302 mw_1303 mw_2 mw_1304) rfl rfl rfl (by decide +kernel) ⟨Nat.le_of_ble_eq_true rfl, Nat.le_of_ble_eq_true rfl⟩) (my_preS hPc hK hDc hE hS hFc) rfl rfl hl.1 rfl (lv_room (Nat.le_of_ble_eq_true rfl)) dX7_failIn_28 ⟨Nat.le_of_ble_eq_true rfl, Nat.le_of_ble_eq_true rfl⟩) hS (fun q _ h => hFc q h) hFc (fun r u t H1 locs ht hvm hw hB hz1 hk1 hS => ?_)
    obtain ⟨hP1, hD1⟩ := hB
    rw [ht] at hP1
    have hP := hP1
    have hD := hD1.weaken (fun k q _ h => hFc q.1 h)
    generalize H1 = H at hP hS ⊢
    clear hP1 hD1 hPc hDc hFc hk1 hz1 hvm ht
    obtain rfl := hw.symm
    have hZ := s3 hF
    have zro : (t10.1) = ro := (congrArg (fun q => q.1) hZ)
    have zuz : (t10.2) = uz := (congrArg (fun q => q.2) hZ)
    have hP9 : va_P (dC, dI) vwCl (WC cy ad ks g uz) H := by rw [← zuz]; exact hP
    have hD9 : va_D A (WC cy ad ks g uz) := by rw [← zuz]; exact hD
    rw [hQ]
    exact W.iret (v := (t10.1)) hx hb hr (fun t ht hW => ⟨⟨(t10.1), (), rfl, zro, by rw [ht]; exact hP9, hD9⟩, hS.F ht⟩) hS.2.2 dX7_failIn_31
noncomputable def C7_waits (g : CG) (u0 : RS) (a1 : Int32) : Option (Int32) := (ix 30 a1).bind fun n1 => (if (u0 (10 + 0) (137 + 25 * n1 + 3)) = 0 then (some (1 : Int32)) else (some (0 : Int32)) : Option (Int32)).bind fun t4 => (nz t4).bind fun x7 => some x7
set_option maxHeartbeats 4000000 in
set_option maxRecDepth 100000 in
theorem c_X7_waits (l : Launch) (dC : Nat → ClassId) (dI : Nat → Nat → Nat) (cy : Nat → ClassId) (nb : Nat → Nat) (ad : CK → Nat) (ks : List CK) (g : CG) (hk : GA nb ad g ks) (u0 : RS) (a1 : Int32) (ro : Int32) (sz : Nat) (hF : C7_waits g u0 a1 = some ro) : Met l yX7_waits (wsg yX7_waits cX7_waits 2 (some .boolean)) ({ frames := 7, cells := 0, slots := 0, locals := 200 }) (va_Pc [.ref (ad .cl), .int a1] (fun U => U.heap.size = sz ∧ va_P (dC, dI) vwCl (WC cy ad ks g u0) U.heap ∧ va_K (dC, dI) vwCl (tyL cy) U ∧ va_D (fun _ => True) (WC cy ad ks g u0) ∧ GE nb (va_A (WC cy ad ks g u0) sz) U)) (va_Qi (fun (r : Int32) (_ : Unit) => r = ro) (fun _ t => va_P (dC, dI) vwCl (WC cy ad ks g u0) t.heap ∧ va_D (va_A (WC cy ad ks g u0) sz) (WC cy ad ks g u0)) (va_A (WC cy ad ks g u0) sz)) 0 0 (va_A (WC cy ad ks g u0) sz) := by
  refine Met.ofW (cc := cX7_waits) (maxL := 2) (ret := (some .boolean)) pn_X7 rfl ?_
  intro p e s m args below meth c s₁ B hml hv
  obtain ⟨rfl, hsz, hP, hK, hD0, hE⟩ := hv
  have hx := B.exec
  have hb := B.bytes
  have hr := B.returns
  have hts0 := atoms_spec (ws := (wsg yX7_waits cX7_waits 2 (some .boolean))) B.pre
  have hts : ∀ w ∈ wsL_law, w.before _ s = true := fun w h => hts0 w (List.mem_cons_of_mem _ h)
  have hown : s.vm.findClass RX7 = some m.cls := by have h9 := findClass_of_methodNamed B.named; exact h9
  have hlocks := B.notSynchronized
  subst hsz
  have hD := hD0.self (sz := s.heap.size)
  generalize hAe : va_A (WC cy ad ks g u0) s.heap.size = A at hD hE ⊢
  have hA : ∀ q : Nat, s.heap.size ≤ q → A q := fun q h => by rw [← hAe]; exact Or.inr h
  have hS : va_S A s.heap s.heap [] := va_S.rf
  have hl := lv_entry ([.ref (ad .cl), .int a1]) (n := 2) (Nat.le_of_ble_eq_true rfl)
  rw [lg_entry_eq]
  generalize (lg_sl ([.ref (ad .cl), .int a1]) ++ List.replicate (2 - (lg_sl ([.ref (ad .cl), .int a1])).length) Slot.unset).toArray = ls at hl ⊢
  have hl : lv_has ls 2 [(0, .ref (ad .cl)), (1, .int a1)] := hl
  generalize hHe : s.heap = H at hP hS ⊢
  have hS : va_S A s.heap H [] := by rw [hHe]; exact hS
  refine my_Q (fun Qn hQ => ?_)
  simp only [C7_waits] at hF
  refine lv_aload_n hx hb dX7_waits_0 rfl (lv_at hl 0 rfl) ?_
  obtain ⟨q9, h9⟩ := wc_at (cy := cy) (ad := ad) (ks := ks) (g := g) (u := u0) (κ := .cl) hk.1 True.intro
  refine va_get (D := (dC, dI)) (ci := 7) (v := .ref (ad (.ln 0))) (C := RX7) (T := TX7) (N := 12) hx hb hts inlX7 hown hK hP q9 h9 rfl 0 (by decide) (hts _ mw_18) (fun _ h9 => h9) rfl dX7_waits_1 ?_
  clear h9
  obtain ⟨q9, h9⟩ := wc_at (cy := cy) (ad := ad) (ks := ks) (g := g) (u := u0) (κ := (.ln 0)) hk.1 (Or.inl (by decide))
  refine va_get (D := (dC, dI)) (ci := 3) (v := .ref (ad (.cs 0))) (C := RX3) (T := TX3) (N := 17) hx hb hts inlX3 hown hK hP q9 h9 rfl 12 (by decide) (hts _ mw_657) (fun _ h9 => h9) rfl dX7_waits_4 ?_
  clear h9
  refine lv_iload_n hx hb dX7_waits_7 rfl (lv_at hl 1 rfl) ?_
  obtain ⟨n1, e2, hF⟩ := ob hF
  obtain ⟨q9, h9⟩ := wc_at (cy := cy) (ad := ad) (ks := ks) (g := g) (u := u0) (κ := (.cs 0)) hk.1 (Or.inl (by decide))
  refine va_aldq hx hb hK hP q9 8 h9 rfl (ix_in e2) dX7_waits_8 ?_
  refine my_top (y := .ref (ad (.cd 0 n1))) (ixv (F := fun j => ad (.cd 0 j)) e2) ?_
  clear h9
  obtain ⟨q9, h9⟩ := wc_at (cy := cy) (ad := ad) (ks := ks) (g := g) (u := u0) (κ := (.cd 0 n1)) hk.1 ⟨(Or.inl (by decide)), (ix_lt e2)⟩
  refine va_get (D := (dC, dI)) (ci := 2) (v := .int (u0 (10 + 0) (137 + 25 * n1 + 3))) (C := RX1) (T := TX1) (N := 9) hx hb hts inlX1 hown hK hP q9 h9 rfl 3 (by decide) (hts _ mw_661) (fun _ h9 => h9) rfl dX7_waits_9 ?_
  clear h9
  obtain ⟨t4, hJ5, hF⟩ := ob hF
  have join6 : ∀ (H : Heap) (locs : List Loc) (ls : Array Slot), va_P (dC, dI) vwCl (WC cy ad ks g u0) H → va_D A (WC cy ad ks g u0) → va_S A s.heap H locs → lv_has ls 2 [(0, .ref (ad .cl)), (1, .int a1)] → W p l e (headSpec (wsg yX7_waits cX7_waits 2 (some .boolean)) ({ frames := 7, cells := 0, slots := 0, locals := 200 })).room s m ([.ref (ad .cl), .int a1] : List Value).toArray below meth c H locs 0 0 Qn (F0 m 20 ls [.int t4]) := by
    intro H locs ls hP hD hS hl
    obtain ⟨x7, e8, hF⟩ := ob hF
    refine my_topi (y := x7) (nz_e e8) ?_
    have hZ := s1 hF
    have zro : x7 = ro := hZ
    have hP9 : va_P (dC, dI) vwCl (WC cy ad ks g u0) H := by exact hP
    have hD9 : va_D A (WC cy ad ks g u0) := by exact hD
    rw [hQ]
    exact W.zret (v := x7) hx hb hr (nz_n e8) (fun t ht hW => ⟨⟨x7, (), rfl, zro, by rw [ht]; exact hP9, hD9⟩, hS.F ht⟩) hS.2.2 dX7_waits_20
  clear hF
  have hF := hJ5
  clear hJ5
  refine lv_if_ne (tgt := 19) hx hb dX7_waits_12 (by decide) (fun c3 => ?_) (fun c3 => ?_)
  · rw [if_neg c3] at hF
    refine lv_iconst (v := 0) hx hb dX7_waits_19 (by decide) ?_
    have ht := s1 hF
    subst ht
    exact join6 _ _ _ hP hD hS (lv_sub hl [0, 1] rfl)
  · rw [if_pos c3] at hF
    refine lv_iconst (v := 1) hx hb dX7_waits_15 (by decide) ?_
    refine lv_goto (tgt := 20) hx hb dX7_waits_16 (by decide) ?_
    have ht := s1 hF
    subst ht
    exact join6 _ _ _ hP hD hS (lv_sub hl [0, 1] rfl)
noncomputable def C7_remember (g : CG) (u0 : RS)  : Option (CG × RS) := (if (u0 0 4) = 8 then ((rm ((u0 0 3) + 1) 8).bind fun x27 => (pt u0 0 3 x27).bind fun u29 => (pt u29 0 4 ((u29 0 4) - 1)).bind fun u31 => some u31) else (some u0) : Option (RS)).bind fun t2 => (rm ((t2 0 3) + (t2 0 4)) 8).bind fun x5 => (ix 8 x5).bind fun n7 => if g.pl (2 + n7) = true then ((C3_copyFrom g t2 (2 + n7) 0).bind fun u10 => (pt u10 0 4 ((u10 0 4) + 1)).bind fun u12 => some (g, u12)) else ((some (gl g (2 + n7))).bind fun g21 => (some (ul t2 (2 + n7))).bind fun u19 => (C3_copyFrom g21 u19 (2 + n7) 0).bind fun u23 => (pt u23 0 4 ((u23 0 4) + 1)).bind fun u25 => some (g21, u25))
set_option maxHeartbeats 4000000 in
set_option maxRecDepth 100000 in
theorem c_X7_remember (l : Launch) (dC : Nat → ClassId) (dI : Nat → Nat → Nat) (cy : Nat → ClassId) (nb : Nat → Nat) (ad : CK → Nat) (ks : List CK) (g : CG) (hk : GA nb ad g ks) (u0 : RS)  (gz : CG) (uz : RS) (sz : Nat) (hF : C7_remember g u0  = some (gz, uz)) : Met l yX7_remember (wsg yX7_remember cX7_remember 2 none) ({ frames := 10, cells := 67, slots := 831, locals := 500 }) (va_Pc [.ref (ad .cl)] (fun U => U.heap.size = sz ∧ va_P (dC, dI) vwCl (WC cy ad ks g u0) U.heap ∧ va_K (dC, dI) vwCl (tyL cy) U ∧ va_D (fun _ => True) (WC cy ad ks g u0) ∧ GE nb (va_A (WC cy ad ks g u0) sz) U)) (va_Qv (fun (_ : Unit) => True) (fun _ t => ∃ (ad' : CK → Nat) (ks' : List CK), GA nb ad' gz ks' ∧ AX g ad gz ad' ∧ va_P (dC, dI) vwCl (WC cy ad' ks' gz uz) t.heap ∧ va_D (va_A (WC cy ad ks g u0) sz) (WC cy ad' ks' gz uz)) (va_A (WC cy ad ks g u0) sz)) 67 831 (va_A (WC cy ad ks g u0) sz) := by
  refine Met.ofW (cc := cX7_remember) (maxL := 2) (ret := none) pn_X7 rfl ?_
  intro p e s m args below meth c s₁ B hml hv
  obtain ⟨rfl, hsz, hP, hK, hD0, hE⟩ := hv
  have hx := B.exec
  have hb := B.bytes
  have hr := B.returns
  have hts0 := atoms_spec (ws := (wsg yX7_remember cX7_remember 2 none)) B.pre
  have hts : ∀ w ∈ wsL_law, w.before _ s = true := fun w h => hts0 w (List.mem_cons_of_mem _ h)
  have hown : s.vm.findClass RX7 = some m.cls := by have h9 := findClass_of_methodNamed B.named; exact h9
  have hlocks := B.notSynchronized
  subst hsz
  have hD := hD0.self (sz := s.heap.size)
  generalize hAe : va_A (WC cy ad ks g u0) s.heap.size = A at hD hE ⊢
  have hA : ∀ q : Nat, s.heap.size ≤ q → A q := fun q h => by rw [← hAe]; exact Or.inr h
  have hS : va_S A s.heap s.heap [] := va_S.rf
  have hl := lv_entry ([.ref (ad .cl)]) (n := 2) (Nat.le_of_ble_eq_true rfl)
  rw [lg_entry_eq]
  generalize (lg_sl ([.ref (ad .cl)]) ++ List.replicate (2 - (lg_sl ([.ref (ad .cl)])).length) Slot.unset).toArray = ls at hl ⊢
  have hl : lv_has ls 2 [(0, .ref (ad .cl))] := hl
  generalize hHe : s.heap = H at hP hS ⊢
  have hS : va_S A s.heap H [] := by rw [hHe]; exact hS
  refine my_Q (fun Qn hQ => ?_)
  simp only [C7_remember] at hF
  refine lv_aload_n hx hb dX7_remember_0 rfl (lv_at hl 0 rfl) ?_
  obtain ⟨q9, h9⟩ := wc_at (cy := cy) (ad := ad) (ks := ks) (g := g) (u := u0) (κ := .cl) hk.1 True.intro
  refine va_get (D := (dC, dI)) (ci := 7) (v := .int (u0 0 4)) (C := RX7) (T := TX7) (N := 12) hx hb hts inlX7 hown hK hP q9 h9 rfl 11 (by decide) (hts _ mw_34) (fun _ h9 => h9) rfl dX7_remember_1 ?_
  clear h9
  refine lv_bipush (v := 8) hx hb dX7_remember_4 (by decide) ?_
  obtain ⟨t2, hJ3, hF⟩ := ob hF
  have join4 : ∀ (H : Heap) (locs : List Loc) (ls : Array Slot), va_P (dC, dI) vwCl (WC cy ad ks g t2) H → va_D A (WC cy ad ks g t2) → va_S A s.heap H locs → lv_has ls 2 [(0, .ref (ad .cl))] → W p l e (headSpec (wsg yX7_remember cX7_remember 2 none) ({ frames := 10, cells := 67, slots := 831, locals := 500 })).room s m ([.ref (ad .cl)] : List Value).toArray below meth c H locs 0 0 Qn (F0 m 32 ls []) := by
    intro H locs ls hP hD hS hl
    refine lv_aload_n hx hb dX7_remember_32 rfl (lv_at hl 0 rfl) ?_
    obtain ⟨q9, h9⟩ := wc_at (cy := cy) (ad := ad) (ks := ks) (g := g) (u := t2) (κ := .cl) hk.1 True.intro
    refine va_get (D := (dC, dI)) (ci := 7) (v := .int (t2 0 3)) (C := RX7) (T := TX7) (N := 12) hx hb hts inlX7 hown hK hP q9 h9 rfl 10 (by decide) (hts _ mw_33) (fun _ h9 => h9) rfl dX7_remember_33 ?_
    clear h9
    refine lv_aload_n hx hb dX7_remember_36 rfl (lv_at hl 0 rfl) ?_
    obtain ⟨q9, h9⟩ := wc_at (cy := cy) (ad := ad) (ks := ks) (g := g) (u := t2) (κ := .cl) hk.1 True.intro
    refine va_get (D := (dC, dI)) (ci := 7) (v := .int (t2 0 4)) (C := RX7) (T := TX7) (N := 12) hx hb hts inlX7 hown hK hP q9 h9 rfl 11 (by decide) (hts _ mw_34) (fun _ h9 => h9) rfl dX7_remember_37 ?_
    clear h9
    refine lv_iadd hx hb dX7_remember_40 ?_
    refine lv_bipush (v := 8) hx hb dX7_remember_41 (by decide) ?_
    obtain ⟨x5, e6, hF⟩ := ob hF
    refine lv_irem hx hb dX7_remember_43 (rm_ne e6) ?_
    refine my_topi (y := x5) (rm_eq e6) ?_
    refine lv_istore_n (lv' := [(1, .int x5), (0, .ref (ad .cl))]) hx hb dX7_remember_44 rfl hl (by decide) rfl (fun ls hl => ?_)
    refine lv_aload_n hx hb dX7_remember_45 rfl (lv_at hl 1 rfl) ?_
    obtain ⟨q9, h9⟩ := wc_at (cy := cy) (ad := ad) (ks := ks) (g := g) (u := t2) (κ := .cl) hk.1 True.intro
    refine va_get (D := (dC, dI)) (ci := 7) (v := .ref (ad .pa)) (C := RX7) (T := TX7) (N := 12) hx hb hts inlX7 hown hK hP q9 h9 rfl 4 (by decide) (hts _ mw_26) (fun _ h9 => h9) rfl dX7_remember_46 ?_
    clear h9
    refine lv_iload_n hx hb dX7_remember_49 rfl (lv_at hl 0 rfl) ?_
    obtain ⟨n7, e8, hF⟩ := ob hF
    by_cases c9 : g.pl (2 + n7) = true
    · rw [if_pos c9] at hF
      obtain ⟨q9, h9⟩ := wc_at (cy := cy) (ad := ad) (ks := ks) (g := g) (u := t2) (κ := .pa) hk.1 True.intro
      refine va_aldq hx hb hK hP q9 5 h9 rfl (ix_in e8) dX7_remember_50 ?_
      refine my_top (y := .ref (ad (.ln (2 + n7)))) (plv (F := fun j => ad (.ln (2 + j))) e8 c9) ?_
      clear h9
      refine lv_ifnonnull (tgt := 67) hx hb dX7_remember_51 (by decide) ?_
      refine lv_aload_n hx hb dX7_remember_67 rfl (lv_at hl 1 rfl) ?_
      obtain ⟨q9, h9⟩ := wc_at (cy := cy) (ad := ad) (ks := ks) (g := g) (u := t2) (κ := .cl) hk.1 True.intro
      refine va_get (D := (dC, dI)) (ci := 7) (v := .ref (ad .pa)) (C := RX7) (T := TX7) (N := 12) hx hb hts inlX7 hown hK hP q9 h9 rfl 4 (by decide) (hts _ mw_26) (fun _ h9 => h9) rfl dX7_remember_68 ?_
      clear h9
      refine lv_iload_n hx hb dX7_remember_71 rfl (lv_at hl 0 rfl) ?_
      obtain ⟨q9, h9⟩ := wc_at (cy := cy) (ad := ad) (ks := ks) (g := g) (u := t2) (κ := .pa) hk.1 True.intro
      refine va_aldq hx hb hK hP q9 5 h9 rfl (ix_in e8) dX7_remember_72 ?_
      refine my_top (y := .ref (ad (.ln (2 + n7)))) (plv (F := fun j => ad (.ln (2 + j))) e8 c9) ?_
      clear h9
      refine lv_aload_n hx hb dX7_remember_73 rfl (lv_at hl 1 rfl) ?_
      obtain ⟨q9, h9⟩ := wc_at (cy := cy) (ad := ad) (ks := ks) (g := g) (u := t2) (κ := .cl) hk.1 True.intro
      refine va_get (D := (dC, dI)) (ci := 7) (v := .ref (ad (.ln 0))) (C := RX7) (T := TX7) (N := 12) hx hb hts inlX7 hown hK hP q9 h9 rfl 0 (by decide) (hts _ mw_18) (fun _ h9 => h9) rfl dX7_remember_74 ?_
      clear h9
      obtain ⟨u10, e11, hF⟩ := ob hF
      have hPc := hP
      have hDc := hD
      have hFc := my_free hD hS hA
      obtain ⟨q8, h8⟩ := wc_at (cy := cy) (ad := ad) (ks := ks) (g := g) (u := t2) (κ := (.ln (2 + n7))) hk.1 (Or.inr ⟨by have := ix_lt e8; omega, c9⟩)
      refine va_callv (va_runV (As := [.ref (ad (.ln 0))]) (rest := []) ⟨hx, hb, hml, hown, hts⟩ (c_X3_copyFrom l dC dI cy nb ad ks g hk t2 (2 + n7) 0 (u10) H.size (Or.inr ⟨by have := ix_lt e8; omega, c9⟩) (Or.inl (by decide)) e11) (cwV 1 hts (gV mw_392 mw_393 mw_394 mw_17 mw_395) rfl rfl rfl (by decide +kernel) ⟨Nat.le_of_ble_eq_true rfl, Nat.le_of_ble_eq_true rfl⟩) (my_preV hPc hK hDc hE hS hFc (va_recv (q := (RX3, TX3, 17)) hK hP (ci := 3) (q0 := q8) rfl h8)) rfl rfl hl.1 rfl (lv_room (Nat.le_of_ble_eq_true rfl)) dX7_remember_77 ⟨Nat.le_of_ble_eq_true rfl, Nat.le_of_ble_eq_true rfl⟩) hS (fun q _ h => hFc q h) hFc (fun u t H1 locs ht hvm hw hB hz1 hk1 hS => ?_)
      clear h8
      obtain ⟨hP1, hD1⟩ := hB
      rw [ht] at hP1
      have hP := hP1
      have hD := hD1.weaken (fun k q _ h => hFc q.1 h)
      generalize H1 = H at hP hS ⊢
      clear hP1 hD1 hPc hDc hFc hk1 hz1 hvm ht
      refine lv_aload_n hx hb dX7_remember_80 rfl (lv_at hl 1 rfl) ?_
      refine lv_dup hx hb dX7_remember_81 rfl ?_
      obtain ⟨q9, h9⟩ := wc_at (cy := cy) (ad := ad) (ks := ks) (g := g) (u := u10) (κ := .cl) hk.1 True.intro
      refine va_get (D := (dC, dI)) (ci := 7) (v := .int (u10 0 4)) (C := RX7) (T := TX7) (N := 12) hx hb hts inlX7 hown hK hP q9 h9 rfl 11 (by decide) (hts _ mw_34) (fun _ h9 => h9) rfl dX7_remember_82 ?_
      clear h9
      refine lv_iconst (v := 1) hx hb dX7_remember_85 (by decide) ?_
      refine lv_iadd hx hb dX7_remember_86 ?_
      obtain ⟨q9, h9, ez9⟩ := wc_set (cy := cy) (ad := ad) (ks := ks) (g := g) (u := u10) (κ := .cl) (r := 0) (i := 4) (v := ((u10 0 4) + 1)) hk.1 True.intro (own_cl (by decide)) (sf_cl_11)
      refine va_put (D := (dC, dI)) (ci := 7) (v := .int ((u10 0 4) + 1)) (ty := .int) (C := RX7) (T := TX7) (N := 12) hx hb hts inlX7 tyX7 tyX7_ok nmX7 hown hK hP hD hS q9 h9 rfl 11 (by decide) (hts _ mw_34) (fun _ h9 => h9) rfl (by decide +kernel) rfl rfl (Nat.le_of_ble_eq_true rfl) dX7_remember_87 (fun H locs hP hD hS => ?_)
      obtain ⟨u12, e13, hF⟩ := ob hF
      have hP : va_P (dC, dI) vwCl (WC cy ad ks g u12) H := by rw [← pt_eq e13, ← ez9]; exact hP
      have hD : va_D A (WC cy ad ks g u12) := by rw [← pt_eq e13, ← ez9]; exact hD
      clear ez9 h9
      have hZ := s1 hF
      have zgz : g = gz := (congrArg (fun q => q.1) hZ)
      have zuz : u12 = uz := (congrArg (fun q => q.2) hZ)
      have hP9 : va_P (dC, dI) vwCl (WC cy ad ks gz uz) H := by rw [← zuz, ← zgz]; exact hP
      have hD9 : va_D A (WC cy ad ks gz uz) := by rw [← zuz, ← zgz]; exact hD
      have hk9 : GA nb ad gz ks := by rw [← zgz]; exact hk
      have ax9 : AX g ad gz ad := by rw [← zgz]; exact ax_refl
      refine W.widen (k := 67) (n := 831) (by omega) (by omega) ?_
      rw [hQ]
      exact W.vret hx hb hr (fun t ht hW => ⟨⟨(), rfl, trivial, ad, ks, hk9, ax9, by rw [ht]; exact hP9, hD9⟩, hS.F ht⟩) hS.2.2 dX7_remember_90
    · rw [if_neg c9] at hF
      obtain ⟨q9, h9⟩ := wc_at (cy := cy) (ad := ad) (ks := ks) (g := g) (u := t2) (κ := .pa) hk.1 True.intro
      refine va_aldq hx hb hK hP q9 5 h9 rfl (ix_in e8) dX7_remember_50 ?_
      refine my_top (y := .null) (plv_n (F := fun j => ad (.ln (2 + j))) e8 c9) ?_
      clear h9
      refine lv_ifnonnullN hx hb dX7_remember_51 ?_
      refine lv_aload_n hx hb dX7_remember_54 rfl (lv_at hl 1 rfl) ?_
      obtain ⟨q9, h9⟩ := wc_at (cy := cy) (ad := ad) (ks := ks) (g := g) (u := t2) (κ := .cl) hk.1 True.intro
      refine va_get (D := (dC, dI)) (ci := 7) (v := .ref (ad .pa)) (C := RX7) (T := TX7) (N := 12) hx hb hts inlX7 hown hK hP q9 h9 rfl 4 (by decide) (hts _ mw_26) (fun _ h9 => h9) rfl dX7_remember_55 ?_
      clear h9
      refine lv_iload_n hx hb dX7_remember_58 rfl (lv_at hl 0 rfl) ?_
      obtain ⟨qp9, hq9, hp9⟩ := wc_pos (cy := cy) (ad := ad) (ks := ks) (g := g) (u := t2) (κ := .pa) hk.1 True.intro
      refine va_new (ci := 3) (fs := [.int 0, .int 0, .int 0, .int 0, .int 0, .int 0, .int 0, .int 0, .int 0, .int 0, .null, .null, .null, .null, .null, .null, .int 0]) (C := RX3) (T := TX3) (N := 17) hx hb hts inlX3 tyX3 tyX3_ok hown (hts _ mw_15) (hts _ mw_16) (hts _ mw_17) hK hP hD hS hA rfl (fun j hj => by match j, hj with | 0, _ => rfl | 1, _ => rfl | 2, _ => rfl | 3, _ => rfl | 4, _ => rfl | 5, _ => rfl | 6, _ => rfl | 7, _ => rfl | 8, _ => rfl | 9, _ => rfl | 10, _ => rfl | 11, _ => rfl | 12, _ => rfl | 13, _ => rfl | 14, _ => rfl | 15, _ => rfl | 16, _ => rfl | (n+17), h => omega) (Nat.le_of_ble_eq_true rfl) (Nat.le_of_ble_eq_true rfl) dX7_remember_59 (fun qn9 H hP hD hS => ?_)
      have hPc := my_lastP hP
      have hDc := my_lastD hD
      have hFc := my_free hDc hS hA
      refine lv_dup hx hb dX7_remember_62 rfl ?_
      refine va_callv (va_runI (As := []) (rest := [.ref qn9, .int x5, .ref (ad .pa)]) ⟨hx, hb, hml, hown, hts⟩ (c_X3_init l dC dI cy nb qn9 H.size) (cwI 0 hts (gI mw_37) rfl rfl rfl (hts _ mw_17) (hts _ mw_35) (hts _ mw_36) rfl (by decide +kernel) ⟨Nat.le_of_ble_eq_true rfl, Nat.le_of_ble_eq_true rfl⟩) (my_preS hPc hK hDc hE hS hFc) rfl rfl hl.1 rfl (lv_room (Nat.le_of_ble_eq_true rfl)) dX7_remember_63 ⟨Nat.le_of_ble_eq_true rfl, Nat.le_of_ble_eq_true rfl⟩) hS (fun q _ h => hFc q h) hFc (fun u t H1 locs ht hvm hw hB hz1 hk1 hS => ?_)
      obtain ⟨qn1, qn2, qn3, qn4, qn5, qn6, fa, fb, fc, fd, ff, fk, hP1, hD1⟩ := hB
      rw [ht] at hP1
      obtain ⟨hP, hD⟩ := my_join hP hD hk1 hFc hP1 hD1
      generalize H1 = H at hP hS ⊢
      clear hP1 hD1 hPc hDc hFc hk1 hz1 hvm ht
      refine va_astq hx hb hK hP hD hS qp9 5 (WC cy ad ks g t2).length 3 (hp9 _) rfl (by rw [List.getElem?_append_right (Nat.le_refl _), Nat.sub_self]; rfl) rfl (ix_in e8) dX7_remember_66 (fun H locs hP hD hS => ?_)
      rw [nl_pa e8 c9 hk hq9] at hP hD
      obtain ⟨hk16, ax17⟩ := nl_ga (h0 := qn9) (q1 := qn1) (q2 := qn2) (q3 := qn3) (q4 := qn4) (q5 := qn5) (q6 := qn6) (a := fa) (b := fb) (c := fc) (d := fd) (f := ff) (k := fk) (L := (2 + n7)) (by have := ix_lt e8; omega) (by omega) c9 hk
      have c18 : (gl g (2 + n7)).pl (2 + n7) = true := gl_pl
      generalize adl ad (2 + n7) qn9 qn1 qn2 qn3 qn4 qn5 qn6 fa fb fc fd ff fk = ad14 at hP hD hk16 ax17
      generalize ks ++ NK (2 + n7) = ks15 at hP hD hk16
      obtain ⟨g21, e22, hF⟩ := ob hF
      obtain ⟨u19, e20, hF⟩ := ob hF
      rw [s1 e20, s1 e22] at hP hD
      rw [s1 e22] at hk16 ax17 c18
      clear hp9 hq9
      refine W.widen (k := 67) (n := 831) (by omega) (by omega) ?_
      have hl : lv_has ls 2 [(1, .int x5), (0, .ref (ad14 .cl))] := by rw [(ax17 .cl True.intro).2]; exact hl
      refine lv_aload_n hx hb dX7_remember_67 rfl (lv_at hl 1 rfl) ?_
      obtain ⟨q9, h9⟩ := wc_at (cy := cy) (ad := ad14) (ks := ks15) (g := g21) (u := u19) (κ := .cl) hk16.1 True.intro
      refine va_get (D := (dC, dI)) (ci := 7) (v := .ref (ad14 .pa)) (C := RX7) (T := TX7) (N := 12) hx hb hts inlX7 hown hK hP q9 h9 rfl 4 (by decide) (hts _ mw_26) (fun _ h9 => h9) rfl dX7_remember_68 ?_
      clear h9
      refine lv_iload_n hx hb dX7_remember_71 rfl (lv_at hl 0 rfl) ?_
      obtain ⟨q9, h9⟩ := wc_at (cy := cy) (ad := ad14) (ks := ks15) (g := g21) (u := u19) (κ := .pa) hk16.1 True.intro
      refine va_aldq hx hb hK hP q9 5 h9 rfl (ix_in e8) dX7_remember_72 ?_
      refine my_top (y := .ref (ad14 (.ln (2 + n7)))) (plv (F := fun j => ad14 (.ln (2 + j))) e8 c18) ?_
      clear h9
      refine lv_aload_n hx hb dX7_remember_73 rfl (lv_at hl 1 rfl) ?_
      obtain ⟨q9, h9⟩ := wc_at (cy := cy) (ad := ad14) (ks := ks15) (g := g21) (u := u19) (κ := .cl) hk16.1 True.intro
      refine va_get (D := (dC, dI)) (ci := 7) (v := .ref (ad14 (.ln 0))) (C := RX7) (T := TX7) (N := 12) hx hb hts inlX7 hown hK hP q9 h9 rfl 0 (by decide) (hts _ mw_18) (fun _ h9 => h9) rfl dX7_remember_74 ?_
      clear h9
      obtain ⟨u23, e24, hF⟩ := ob hF
      have hPc := hP
      have hDc := hD
      have hFc := my_free hD hS hA
      obtain ⟨q8, h8⟩ := wc_at (cy := cy) (ad := ad14) (ks := ks15) (g := g21) (u := u19) (κ := (.ln (2 + n7))) hk16.1 (Or.inr ⟨by have := ix_lt e8; omega, c18⟩)
      refine va_callv (va_runV (As := [.ref (ad14 (.ln 0))]) (rest := []) ⟨hx, hb, hml, hown, hts⟩ (c_X3_copyFrom l dC dI cy nb ad14 ks15 g21 hk16 u19 (2 + n7) 0 (u23) H.size (Or.inr ⟨by have := ix_lt e8; omega, c18⟩) (Or.inl (by decide)) e24) (cwV 1 hts (gV mw_392 mw_393 mw_394 mw_17 mw_395) rfl rfl rfl (by decide +kernel) ⟨Nat.le_of_ble_eq_true rfl, Nat.le_of_ble_eq_true rfl⟩) (my_preV hPc hK hDc hE hS hFc (va_recv (q := (RX3, TX3, 17)) hK hP (ci := 3) (q0 := q8) rfl h8)) rfl rfl hl.1 rfl (lv_room (Nat.le_of_ble_eq_true rfl)) dX7_remember_77 ⟨Nat.le_of_ble_eq_true rfl, Nat.le_of_ble_eq_true rfl⟩) hS (fun q _ h => hFc q h) hFc (fun u t H1 locs ht hvm hw hB hz1 hk1 hS => ?_)
      clear h8
      obtain ⟨hP1, hD1⟩ := hB
      rw [ht] at hP1
      have hP := hP1
      have hD := hD1.weaken (fun k q _ h => hFc q.1 h)
      generalize H1 = H at hP hS ⊢
      clear hP1 hD1 hPc hDc hFc hk1 hz1 hvm ht
      refine lv_aload_n hx hb dX7_remember_80 rfl (lv_at hl 1 rfl) ?_
      refine lv_dup hx hb dX7_remember_81 rfl ?_
      obtain ⟨q9, h9⟩ := wc_at (cy := cy) (ad := ad14) (ks := ks15) (g := g21) (u := u23) (κ := .cl) hk16.1 True.intro
      refine va_get (D := (dC, dI)) (ci := 7) (v := .int (u23 0 4)) (C := RX7) (T := TX7) (N := 12) hx hb hts inlX7 hown hK hP q9 h9 rfl 11 (by decide) (hts _ mw_34) (fun _ h9 => h9) rfl dX7_remember_82 ?_
      clear h9
      refine lv_iconst (v := 1) hx hb dX7_remember_85 (by decide) ?_
      refine lv_iadd hx hb dX7_remember_86 ?_
      obtain ⟨q9, h9, ez9⟩ := wc_set (cy := cy) (ad := ad14) (ks := ks15) (g := g21) (u := u23) (κ := .cl) (r := 0) (i := 4) (v := ((u23 0 4) + 1)) hk16.1 True.intro (own_cl (by decide)) (sf_cl_11)
      refine va_put (D := (dC, dI)) (ci := 7) (v := .int ((u23 0 4) + 1)) (ty := .int) (C := RX7) (T := TX7) (N := 12) hx hb hts inlX7 tyX7 tyX7_ok nmX7 hown hK hP hD hS q9 h9 rfl 11 (by decide) (hts _ mw_34) (fun _ h9 => h9) rfl (by decide +kernel) rfl rfl (Nat.le_of_ble_eq_true rfl) dX7_remember_87 (fun H locs hP hD hS => ?_)
      obtain ⟨u25, e26, hF⟩ := ob hF
      have hP : va_P (dC, dI) vwCl (WC cy ad14 ks15 g21 u25) H := by rw [← pt_eq e26, ← ez9]; exact hP
      have hD : va_D A (WC cy ad14 ks15 g21 u25) := by rw [← pt_eq e26, ← ez9]; exact hD
      clear ez9 h9
      have hZ := s1 hF
      have zgz : g21 = gz := (congrArg (fun q => q.1) hZ)
      have zuz : u25 = uz := (congrArg (fun q => q.2) hZ)
      have hP9 : va_P (dC, dI) vwCl (WC cy ad14 ks15 gz uz) H := by rw [← zuz, ← zgz]; exact hP
      have hD9 : va_D A (WC cy ad14 ks15 gz uz) := by rw [← zuz, ← zgz]; exact hD
      have hk9 : GA nb ad14 gz ks15 := by rw [← zgz]; exact hk16
      have ax9 : AX g ad gz ad14 := by rw [← zgz]; exact ax17
      refine W.widen (k := 67) (n := 831) (by omega) (by omega) ?_
      rw [hQ]
      exact W.vret hx hb hr (fun t ht hW => ⟨⟨(), rfl, trivial, ad14, ks15, hk9, ax9, by rw [ht]; exact hP9, hD9⟩, hS.F ht⟩) hS.2.2 dX7_remember_90
  clear hF
  have hF := hJ3
  clear hJ3
  refine lv_icmp_ne (tgt := 32) hx hb dX7_remember_6 (by decide) (fun c1 => ?_) (fun c1 => ?_)
  · rw [if_neg c1] at hF
    have ht := s1 hF
    subst ht
    exact join4 _ _ _ hP hD hS (lv_sub hl [0] rfl)
  · rw [if_pos c1] at hF
    refine lv_aload_n hx hb dX7_remember_9 rfl (lv_at hl 0 rfl) ?_
    refine lv_aload_n hx hb dX7_remember_10 rfl (lv_at hl 0 rfl) ?_
    obtain ⟨q9, h9⟩ := wc_at (cy := cy) (ad := ad) (ks := ks) (g := g) (u := u0) (κ := .cl) hk.1 True.intro
    refine va_get (D := (dC, dI)) (ci := 7) (v := .int (u0 0 3)) (C := RX7) (T := TX7) (N := 12) hx hb hts inlX7 hown hK hP q9 h9 rfl 10 (by decide) (hts _ mw_33) (fun _ h9 => h9) rfl dX7_remember_11 ?_
    clear h9
    refine lv_iconst (v := 1) hx hb dX7_remember_14 (by decide) ?_
    refine lv_iadd hx hb dX7_remember_15 ?_
    refine lv_bipush (v := 8) hx hb dX7_remember_16 (by decide) ?_
    obtain ⟨x27, e28, hF⟩ := ob hF
    refine lv_irem hx hb dX7_remember_18 (rm_ne e28) ?_
    refine my_topi (y := x27) (rm_eq e28) ?_
    obtain ⟨q9, h9, ez9⟩ := wc_set (cy := cy) (ad := ad) (ks := ks) (g := g) (u := u0) (κ := .cl) (r := 0) (i := 3) (v := x27) hk.1 True.intro (own_cl (by decide)) (sf_cl_10)
    refine va_put (D := (dC, dI)) (ci := 7) (v := .int x27) (ty := .int) (C := RX7) (T := TX7) (N := 12) hx hb hts inlX7 tyX7 tyX7_ok nmX7 hown hK hP hD hS q9 h9 rfl 10 (by decide) (hts _ mw_33) (fun _ h9 => h9) rfl (by decide +kernel) rfl rfl (Nat.le_of_ble_eq_true rfl) dX7_remember_19 (fun H locs hP hD hS => ?_)
    obtain ⟨u29, e30, hF⟩ := ob hF
    have hP : va_P (dC, dI) vwCl (WC cy ad ks g u29) H := by rw [← pt_eq e30, ← ez9]; exact hP
    have hD : va_D A (WC cy ad ks g u29) := by rw [← pt_eq e30, ← ez9]; exact hD
    clear ez9 h9
    refine lv_aload_n hx hb dX7_remember_22 rfl (lv_at hl 0 rfl) ?_
    refine lv_dup hx hb dX7_remember_23 rfl ?_
    obtain ⟨q9, h9⟩ := wc_at (cy := cy) (ad := ad) (ks := ks) (g := g) (u := u29) (κ := .cl) hk.1 True.intro
    refine va_get (D := (dC, dI)) (ci := 7) (v := .int (u29 0 4)) (C := RX7) (T := TX7) (N := 12) hx hb hts inlX7 hown hK hP q9 h9 rfl 11 (by decide) (hts _ mw_34) (fun _ h9 => h9) rfl dX7_remember_24 ?_
    clear h9
    refine lv_iconst (v := 1) hx hb dX7_remember_27 (by decide) ?_
    refine lv_isub hx hb dX7_remember_28 ?_
    obtain ⟨q9, h9, ez9⟩ := wc_set (cy := cy) (ad := ad) (ks := ks) (g := g) (u := u29) (κ := .cl) (r := 0) (i := 4) (v := ((u29 0 4) - 1)) hk.1 True.intro (own_cl (by decide)) (sf_cl_11)
    refine va_put (D := (dC, dI)) (ci := 7) (v := .int ((u29 0 4) - 1)) (ty := .int) (C := RX7) (T := TX7) (N := 12) hx hb hts inlX7 tyX7 tyX7_ok nmX7 hown hK hP hD hS q9 h9 rfl 11 (by decide) (hts _ mw_34) (fun _ h9 => h9) rfl (by decide +kernel) rfl rfl (Nat.le_of_ble_eq_true rfl) dX7_remember_29 (fun H locs hP hD hS => ?_)
    obtain ⟨u31, e32, hF⟩ := ob hF
    have hP : va_P (dC, dI) vwCl (WC cy ad ks g u31) H := by rw [← pt_eq e32, ← ez9]; exact hP
    have hD : va_D A (WC cy ad ks g u31) := by rw [← pt_eq e32, ← ez9]; exact hD
    clear ez9 h9
    have ht := s1 hF
    subst ht
    exact join4 _ _ _ hP hD hS (lv_sub hl [0] rfl)
