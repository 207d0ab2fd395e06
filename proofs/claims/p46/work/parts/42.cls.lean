noncomputable def C3_restOrWork (g : CG) (u0 : RS) (L : Nat) (i : Nat) : Option (Int32 × RS) := if (u0 (10 + L) (17 + 16 * i + 11)) ≤ 0 then (if (u0 (10 + L) (17 + 16 * i + 2)) = (-1) then (some ((0 : Int32), u0)) else (if (u0 (10 + L) (17 + 16 * i + 3)) = 0 then (some ((0 : Int32), u0)) else (if (u0 (10 + L) (17 + 16 * i + 7)) = 0 then ((pt u0 (10 + L) (17 + 16 * i + 12) ((u0 (10 + L) (17 + 16 * i + 12)) + 1)).bind fun u5 => (pt u5 (10 + L) (17 + 16 * i + 3) ((u5 (10 + L) (17 + 16 * i + 3)) - 1)).bind fun u7 => (pt u7 (10 + L) 1060 (1)).bind fun u9 => (if (u9 (10 + L) (17 + 16 * i + 3)) = 0 then ((C6_useSign g u9 L i).bind fun t17 => if (t17.1) = 0 then (some ((0 : Int32), (t17.2))) else (some ((1 : Int32), (t17.2)))) else (some ((0 : Int32), u9)) : Option (Int32 × RS)).bind fun t12 => (nz (t12.1)).bind fun x15 => some (x15, (t12.2))) else (some ((0 : Int32), u0))))) else ((pt u0 (10 + L) (17 + 16 * i + 11) ((u0 (10 + L) (17 + 16 * i + 11)) - 1)).bind fun u20 => (pt u20 (10 + L) 1060 (1)).bind fun u22 => some ((0 : Int32), u22))
set_option maxHeartbeats 4000000 in
set_option maxRecDepth 100000 in
theorem c_X3_restOrWork (l : Launch) (dC : Nat → ClassId) (dI : Nat → Nat → Nat) (cy : Nat → ClassId) (nb : Nat → Nat) (ad : CK → Nat) (ks : List CK) (g : CG) (hk : GA nb ad g ks) (u0 : RS) (L : Nat) (i : Nat) (ro : Int32) (uz : RS) (sz : Nat) (h_L : has g (.ln L)) (h_L_i : has g (.st L i)) (hF : C3_restOrWork g u0 L i = some (ro, uz)) : Met l yX3_restOrWork (wsg yX3_restOrWork cX3_restOrWork 2 (some .boolean)) ({ frames := 8, cells := 0, slots := 0, locals := 300 }) (va_Pc [.ref (ad (.ln L)), .ref (ad (.st L i))] (fun U => U.heap.size = sz ∧ va_P (dC, dI) vwCl (WC cy ad ks g u0) U.heap ∧ va_K (dC, dI) vwCl (tyL cy) U ∧ va_D (fun _ => True) (WC cy ad ks g u0) ∧ GE nb (va_A (WC cy ad ks g u0) sz) U)) (va_Qi (fun (r : Int32) (_ : Unit) => r = ro) (fun _ t => va_P (dC, dI) vwCl (WC cy ad ks g uz) t.heap ∧ va_D (va_A (WC cy ad ks g u0) sz) (WC cy ad ks g uz)) (va_A (WC cy ad ks g u0) sz)) 0 0 (va_A (WC cy ad ks g u0) sz) := by
  refine Met.ofW (cc := cX3_restOrWork) (maxL := 2) (ret := (some .boolean)) pn_X3 rfl ?_
  intro p e s m args below meth c s₁ B hml hv
  obtain ⟨rfl, hsz, hP, hK, hD0, hE⟩ := hv
  have hx := B.exec
  have hb := B.bytes
  have hr := B.returns
  have hts0 := atoms_spec (ws := (wsg yX3_restOrWork cX3_restOrWork 2 (some .boolean))) B.pre
  have hts : ∀ w ∈ wsL_law, w.before _ s = true := fun w h => hts0 w (List.mem_cons_of_mem _ h)
  have hown : s.vm.findClass RX3 = some m.cls := by have h9 := findClass_of_methodNamed B.named; exact h9
  have hlocks := B.notSynchronized
  subst hsz
  have hD := hD0.self (sz := s.heap.size)
  generalize hAe : va_A (WC cy ad ks g u0) s.heap.size = A at hD hE ⊢
  have hA : ∀ q : Nat, s.heap.size ≤ q → A q := fun q h => by rw [← hAe]; exact Or.inr h
  have hS : va_S A s.heap s.heap [] := va_S.rf
  have hl := lv_entry ([.ref (ad (.ln L)), .ref (ad (.st L i))]) (n := 2) (Nat.le_of_ble_eq_true rfl)
  rw [lg_entry_eq]
  generalize (lg_sl ([.ref (ad (.ln L)), .ref (ad (.st L i))]) ++ List.replicate (2 - (lg_sl ([.ref (ad (.ln L)), .ref (ad (.st L i))])).length) Slot.unset).toArray = ls at hl ⊢
  have hl : lv_has ls 2 [(0, .ref (ad (.ln L))), (1, .ref (ad (.st L i)))] := hl
  generalize hHe : s.heap = H at hP hS ⊢
  have hS : va_S A s.heap H [] := by rw [hHe]; exact hS
  refine my_Q (fun Qn hQ => ?_)
  simp only [C3_restOrWork] at hF
  refine lv_aload_n hx hb dX3_restOrWork_0 rfl (lv_at hl 1 rfl) ?_
  obtain ⟨q9, h9⟩ := wc_at (cy := cy) (ad := ad) (ks := ks) (g := g) (u := u0) (κ := (.st L i)) hk.1 ⟨h_L_i.1, h_L_i.2⟩
  refine va_get (D := (dC, dI)) (ci := 6) (v := .int (u0 (10 + L) (17 + 16 * i + 11))) (C := RX6) (T := TX6) (N := 15) hx hb hts inlX6 hown hK hP q9 h9 rfl 13 (by decide) (hts _ mw_1147) (fun _ h9 => h9) rfl dX3_restOrWork_1 ?_
  clear h9
  refine lv_if_le (tgt := 24) hx hb dX3_restOrWork_4 (by decide) (fun c1 => ?_) (fun c1 => ?_)
  · rw [if_pos c1] at hF
    refine lv_aload_n hx hb dX3_restOrWork_24 rfl (lv_at hl 1 rfl) ?_
    obtain ⟨q9, h9⟩ := wc_at (cy := cy) (ad := ad) (ks := ks) (g := g) (u := u0) (κ := (.st L i)) hk.1 ⟨h_L_i.1, h_L_i.2⟩
    refine va_get (D := (dC, dI)) (ci := 6) (v := .int (u0 (10 + L) (17 + 16 * i + 2))) (C := RX6) (T := TX6) (N := 15) hx hb hts inlX6 hown hK hP q9 h9 rfl 3 (by decide) (hts _ mw_1142) (fun _ h9 => h9) rfl dX3_restOrWork_25 ?_
    clear h9
    refine lv_iconst (v := (-1)) hx hb dX3_restOrWork_28 (by decide) ?_
    refine lv_icmp_eq (tgt := 46) hx hb dX3_restOrWork_29 (by decide) (fun c2 => ?_) (fun c2 => ?_)
    · rw [if_pos c2] at hF
      refine lv_iconst (v := 0) hx hb dX3_restOrWork_46 (by decide) ?_
      have hZ := s1 hF
      have zro : (0 : Int32) = ro := (congrArg (fun q => q.1) hZ)
      have zuz : u0 = uz := (congrArg (fun q => q.2) hZ)
      have hP9 : va_P (dC, dI) vwCl (WC cy ad ks g uz) H := by rw [← zuz]; exact hP
      have hD9 : va_D A (WC cy ad ks g uz) := by rw [← zuz]; exact hD
      rw [hQ]
      exact W.zret (v := (0 : Int32)) hx hb hr (by rfl) (fun t ht hW => ⟨⟨(0 : Int32), (), rfl, zro, by rw [ht]; exact hP9, hD9⟩, hS.F ht⟩) hS.2.2 dX3_restOrWork_47
    · rw [if_neg c2] at hF
      refine lv_aload_n hx hb dX3_restOrWork_32 rfl (lv_at hl 1 rfl) ?_
      obtain ⟨q9, h9⟩ := wc_at (cy := cy) (ad := ad) (ks := ks) (g := g) (u := u0) (κ := (.st L i)) hk.1 ⟨h_L_i.1, h_L_i.2⟩
      refine va_get (D := (dC, dI)) (ci := 6) (v := .int (u0 (10 + L) (17 + 16 * i + 3))) (C := RX6) (T := TX6) (N := 15) hx hb hts inlX6 hown hK hP q9 h9 rfl 4 (by decide) (hts _ mw_1148) (fun _ h9 => h9) rfl dX3_restOrWork_33 ?_
      clear h9
      refine lv_if_eq (tgt := 46) hx hb dX3_restOrWork_36 (by decide) (fun c3 => ?_) (fun c3 => ?_)
      · rw [if_pos c3] at hF
        refine lv_iconst (v := 0) hx hb dX3_restOrWork_46 (by decide) ?_
        have hZ := s1 hF
        have zro : (0 : Int32) = ro := (congrArg (fun q => q.1) hZ)
        have zuz : u0 = uz := (congrArg (fun q => q.2) hZ)
        have hP9 : va_P (dC, dI) vwCl (WC cy ad ks g uz) H := by rw [← zuz]; exact hP
        have hD9 : va_D A (WC cy ad ks g uz) := by rw [← zuz]; exact hD
        rw [hQ]
        exact W.zret (v := (0 : Int32)) hx hb hr (by rfl) (fun t ht hW => ⟨⟨(0 : Int32), (), rfl, zro, by rw [ht]; exact hP9, hD9⟩, hS.F ht⟩) hS.2.2 dX3_restOrWork_47
      · rw [if_neg c3] at hF
        refine lv_aload_n hx hb dX3_restOrWork_39 rfl (lv_at hl 1 rfl) ?_
        obtain ⟨q9, h9⟩ := wc_at (cy := cy) (ad := ad) (ks := ks) (g := g) (u := u0) (κ := (.st L i)) hk.1 ⟨h_L_i.1, h_L_i.2⟩
        refine va_get (D := (dC, dI)) (ci := 6) (v := .int (u0 (10 + L) (17 + 16 * i + 7))) (C := RX6) (T := TX6) (N := 15) hx hb hts inlX6 hown hK hP q9 h9 rfl 9 (by decide) (hts _ mw_1149) (fun _ h9 => h9) rfl dX3_restOrWork_40 ?_
        clear h9
        refine lv_if_eq (tgt := 48) hx hb dX3_restOrWork_43 (by decide) (fun c4 => ?_) (fun c4 => ?_)
        · rw [if_pos c4] at hF
          refine lv_aload_n hx hb dX3_restOrWork_48 rfl (lv_at hl 1 rfl) ?_
          refine lv_dup hx hb dX3_restOrWork_49 rfl ?_
          obtain ⟨q9, h9⟩ := wc_at (cy := cy) (ad := ad) (ks := ks) (g := g) (u := u0) (κ := (.st L i)) hk.1 ⟨h_L_i.1, h_L_i.2⟩
          refine va_get (D := (dC, dI)) (ci := 6) (v := .int (u0 (10 + L) (17 + 16 * i + 12))) (C := RX6) (T := TX6) (N := 15) hx hb hts inlX6 hown hK hP q9 h9 rfl 14 (by decide) (hts _ mw_1150) (fun _ h9 => h9) rfl dX3_restOrWork_50 ?_
          clear h9
          refine lv_iconst (v := 1) hx hb dX3_restOrWork_53 (by decide) ?_
          refine lv_iadd hx hb dX3_restOrWork_54 ?_
          obtain ⟨q9, h9, ez9⟩ := wc_set (cy := cy) (ad := ad) (ks := ks) (g := g) (u := u0) (κ := (.st L i)) (r := (10 + L)) (i := (17 + 16 * i + 12)) (v := ((u0 (10 + L) (17 + 16 * i + 12)) + 1)) hk.1 ⟨h_L_i.1, h_L_i.2⟩ (own_st (inl_lt h_L_i.1) h_L_i.2 (by decide)) (sf_st_14)
          refine va_put (D := (dC, dI)) (ci := 6) (v := .int ((u0 (10 + L) (17 + 16 * i + 12)) + 1)) (ty := .int) (C := RX6) (T := TX6) (N := 15) hx hb hts inlX6 tyX6 tyX6_ok nmX6 hown hK hP hD hS q9 h9 rfl 14 (by decide) (hts _ mw_1150) (fun _ h9 => h9) rfl (by decide +kernel) rfl rfl (Nat.le_of_ble_eq_true rfl) dX3_restOrWork_55 (fun H locs hP hD hS => ?_)
          obtain ⟨u5, e6, hF⟩ := ob hF
          have hP : va_P (dC, dI) vwCl (WC cy ad ks g u5) H := by rw [← pt_eq e6, ← ez9]; exact hP
          have hD : va_D A (WC cy ad ks g u5) := by rw [← pt_eq e6, ← ez9]; exact hD
          clear ez9 h9
          refine lv_aload_n hx hb dX3_restOrWork_58 rfl (lv_at hl 1 rfl) ?_
          refine lv_dup hx hb dX3_restOrWork_59 rfl ?_
          obtain ⟨q9, h9⟩ := wc_at (cy := cy) (ad := ad) (ks := ks) (g := g) (u := u5) (κ := (.st L i)) hk.1 ⟨h_L_i.1, h_L_i.2⟩
          refine va_get (D := (dC, dI)) (ci := 6) (v := .int (u5 (10 + L) (17 + 16 * i + 3))) (C := RX6) (T := TX6) (N := 15) hx hb hts inlX6 hown hK hP q9 h9 rfl 4 (by decide) (hts _ mw_1148) (fun _ h9 => h9) rfl dX3_restOrWork_60 ?_
          clear h9
          refine lv_iconst (v := 1) hx hb dX3_restOrWork_63 (by decide) ?_
          refine lv_isub hx hb dX3_restOrWork_64 ?_
          obtain ⟨q9, h9, ez9⟩ := wc_set (cy := cy) (ad := ad) (ks := ks) (g := g) (u := u5) (κ := (.st L i)) (r := (10 + L)) (i := (17 + 16 * i + 3)) (v := ((u5 (10 + L) (17 + 16 * i + 3)) - 1)) hk.1 ⟨h_L_i.1, h_L_i.2⟩ (own_st (inl_lt h_L_i.1) h_L_i.2 (by decide)) (sf_st_4)
          refine va_put (D := (dC, dI)) (ci := 6) (v := .int ((u5 (10 + L) (17 + 16 * i + 3)) - 1)) (ty := .int) (C := RX6) (T := TX6) (N := 15) hx hb hts inlX6 tyX6 tyX6_ok nmX6 hown hK hP hD hS q9 h9 rfl 4 (by decide) (hts _ mw_1148) (fun _ h9 => h9) rfl (by decide +kernel) rfl rfl (Nat.le_of_ble_eq_true rfl) dX3_restOrWork_65 (fun H locs hP hD hS => ?_)
          obtain ⟨u7, e8, hF⟩ := ob hF
          have hP : va_P (dC, dI) vwCl (WC cy ad ks g u7) H := by rw [← pt_eq e8, ← ez9]; exact hP
          have hD : va_D A (WC cy ad ks g u7) := by rw [← pt_eq e8, ← ez9]; exact hD
          clear ez9 h9
          refine lv_aload_n hx hb dX3_restOrWork_68 rfl (lv_at hl 0 rfl) ?_
          refine lv_iconst (v := 1) hx hb dX3_restOrWork_69 (by decide) ?_
          obtain ⟨q9, h9, ez9⟩ := wc_set (cy := cy) (ad := ad) (ks := ks) (g := g) (u := u7) (κ := (.ln L)) (r := (10 + L)) (i := 1060) (v := (1)) hk.1 h_L_i.1 (own_mv (inl_lt h_L_i.1)) (sf_ln_16)
          refine va_put (D := (dC, dI)) (ci := 3) (v := .int 1) (ty := .boolean) (C := RX3) (T := TX3) (N := 17) hx hb hts inlX3 tyX3 tyX3_ok nmX3 hown hK hP hD hS q9 h9 rfl 16 (by decide) (hts _ mw_1141) (fun _ h9 => h9) rfl (by decide +kernel) rfl rfl (Nat.le_of_ble_eq_true rfl) dX3_restOrWork_70 (fun H locs hP hD hS => ?_)
          obtain ⟨u9, e10, hF⟩ := ob hF
          have hP : va_P (dC, dI) vwCl (WC cy ad ks g u9) H := by rw [← pt_eq e10, ← ez9]; exact hP
          have hD : va_D A (WC cy ad ks g u9) := by rw [← pt_eq e10, ← ez9]; exact hD
          clear ez9 h9
          refine lv_aload_n hx hb dX3_restOrWork_73 rfl (lv_at hl 1 rfl) ?_
          obtain ⟨q9, h9⟩ := wc_at (cy := cy) (ad := ad) (ks := ks) (g := g) (u := u9) (κ := (.st L i)) hk.1 ⟨h_L_i.1, h_L_i.2⟩
          refine va_get (D := (dC, dI)) (ci := 6) (v := .int (u9 (10 + L) (17 + 16 * i + 3))) (C := RX6) (T := TX6) (N := 15) hx hb hts inlX6 hown hK hP q9 h9 rfl 4 (by decide) (hts _ mw_1148) (fun _ h9 => h9) rfl dX3_restOrWork_74 ?_
          clear h9
          obtain ⟨t12, hJ13, hF⟩ := ob hF
          have join14 : ∀ (H : Heap) (locs : List Loc) (ls : Array Slot), va_P (dC, dI) vwCl (WC cy ad ks g (t12.2)) H → va_D A (WC cy ad ks g (t12.2)) → va_S A s.heap H locs → lv_has ls 2 [(0, .ref (ad (.ln L))), (1, .ref (ad (.st L i)))] → W p l e (headSpec (wsg yX3_restOrWork cX3_restOrWork 2 (some .boolean)) ({ frames := 8, cells := 0, slots := 0, locals := 300 })).room s m ([.ref (ad (.ln L)), .ref (ad (.st L i))] : List Value).toArray below meth c H locs 0 0 Qn (F0 m 92 ls [.int (t12.1)]) := by
            intro H locs ls hP hD hS hl
            obtain ⟨x15, e16, hF⟩ := ob hF
            refine my_topi (y := x15) (nz_e e16) ?_
            have hZ := s1 hF
            have zro : x15 = ro := (congrArg (fun q => q.1) hZ)
            have zuz : (t12.2) = uz := (congrArg (fun q => q.2) hZ)
            have hP9 : va_P (dC, dI) vwCl (WC cy ad ks g uz) H := by rw [← zuz]; exact hP
            have hD9 : va_D A (WC cy ad ks g uz) := by rw [← zuz]; exact hD
            rw [hQ]
            exact W.zret (v := x15) hx hb hr (nz_n e16) (fun t ht hW => ⟨⟨x15, (), rfl, zro, by rw [ht]; exact hP9, hD9⟩, hS.F ht⟩) hS.2.2 dX3_restOrWork_92
          clear hF
          have hF := hJ13
          clear hJ13
          refine lv_if_ne (tgt := 91) hx hb dX3_restOrWork_77 (by decide) (fun c11 => ?_) (fun c11 => ?_)
          · rw [if_neg c11] at hF
            refine lv_iconst (v := 0) hx hb dX3_restOrWork_91 (by decide) ?_
            have ht := s1 hF
            subst ht
            exact join14 _ _ _ hP hD hS (lv_sub hl [0, 1] rfl)
          · rw [if_pos c11] at hF
            refine lv_aload_n hx hb dX3_restOrWork_80 rfl (lv_at hl 1 rfl) ?_
            obtain ⟨t17, e18, hF⟩ := ob hF
            have hPc := hP
            have hDc := hD
            have hFc := my_free hD hS hA
            obtain ⟨q8, h8⟩ := wc_at (cy := cy) (ad := ad) (ks := ks) (g := g) (u := u9) (κ := (.st L i)) hk.1 ⟨h_L_i.1, h_L_i.2⟩
            refine va_calli (va_runV (As := []) (rest := []) ⟨hx, hb, hml, hown, hts⟩ (c_X6_useSign l dC dI cy nb ad ks g hk u9 L i (t17.1) (t17.2) H.size ⟨h_L_i.1, h_L_i.2⟩ e18) (cwV 0 hts (gV mw_1151 mw_1152 mw_1153 mw_50 mw_1154) rfl rfl rfl (by decide +kernel) ⟨Nat.le_of_ble_eq_true rfl, Nat.le_of_ble_eq_true rfl⟩) (my_preV hPc hK hDc hE hS hFc (va_recv (q := (RX6, TX6, 15)) hK hP (ci := 6) (q0 := q8) rfl h8)) rfl rfl hl.1 rfl (lv_room (Nat.le_of_ble_eq_true rfl)) dX3_restOrWork_81 ⟨Nat.le_of_ble_eq_true rfl, Nat.le_of_ble_eq_true rfl⟩) hS (fun q _ h => hFc q h) hFc (fun r u t H1 locs ht hvm hw hB hz1 hk1 hS => ?_)
            clear h8
            obtain ⟨hP1, hD1⟩ := hB
            rw [ht] at hP1
            have hP := hP1
            have hD := hD1.weaken (fun k q _ h => hFc q.1 h)
            generalize H1 = H at hP hS ⊢
            clear hP1 hD1 hPc hDc hFc hk1 hz1 hvm ht
            obtain rfl := hw.symm
            refine lv_if_eq (tgt := 91) hx hb dX3_restOrWork_84 (by decide) (fun c19 => ?_) (fun c19 => ?_)
            · rw [if_pos c19] at hF
              refine lv_iconst (v := 0) hx hb dX3_restOrWork_91 (by decide) ?_
              have ht := s1 hF
              subst ht
              exact join14 _ _ _ hP hD hS (lv_sub hl [0, 1] rfl)
            · rw [if_neg c19] at hF
              refine lv_iconst (v := 1) hx hb dX3_restOrWork_87 (by decide) ?_
              refine lv_goto (tgt := 92) hx hb dX3_restOrWork_88 (by decide) ?_
              have ht := s1 hF
              subst ht
              exact join14 _ _ _ hP hD hS (lv_sub hl [0, 1] rfl)
        · rw [if_neg c4] at hF
          refine lv_iconst (v := 0) hx hb dX3_restOrWork_46 (by decide) ?_
          have hZ := s1 hF
          have zro : (0 : Int32) = ro := (congrArg (fun q => q.1) hZ)
          have zuz : u0 = uz := (congrArg (fun q => q.2) hZ)
          have hP9 : va_P (dC, dI) vwCl (WC cy ad ks g uz) H := by rw [← zuz]; exact hP
          have hD9 : va_D A (WC cy ad ks g uz) := by rw [← zuz]; exact hD
          rw [hQ]
          exact W.zret (v := (0 : Int32)) hx hb hr (by rfl) (fun t ht hW => ⟨⟨(0 : Int32), (), rfl, zro, by rw [ht]; exact hP9, hD9⟩, hS.F ht⟩) hS.2.2 dX3_restOrWork_47
  · rw [if_neg c1] at hF
    refine lv_aload_n hx hb dX3_restOrWork_7 rfl (lv_at hl 1 rfl) ?_
    refine lv_dup hx hb dX3_restOrWork_8 rfl ?_
    obtain ⟨q9, h9⟩ := wc_at (cy := cy) (ad := ad) (ks := ks) (g := g) (u := u0) (κ := (.st L i)) hk.1 ⟨h_L_i.1, h_L_i.2⟩
    refine va_get (D := (dC, dI)) (ci := 6) (v := .int (u0 (10 + L) (17 + 16 * i + 11))) (C := RX6) (T := TX6) (N := 15) hx hb hts inlX6 hown hK hP q9 h9 rfl 13 (by decide) (hts _ mw_1147) (fun _ h9 => h9) rfl dX3_restOrWork_9 ?_
    clear h9
    refine lv_iconst (v := 1) hx hb dX3_restOrWork_12 (by decide) ?_
    refine lv_isub hx hb dX3_restOrWork_13 ?_
    obtain ⟨q9, h9, ez9⟩ := wc_set (cy := cy) (ad := ad) (ks := ks) (g := g) (u := u0) (κ := (.st L i)) (r := (10 + L)) (i := (17 + 16 * i + 11)) (v := ((u0 (10 + L) (17 + 16 * i + 11)) - 1)) hk.1 ⟨h_L_i.1, h_L_i.2⟩ (own_st (inl_lt h_L_i.1) h_L_i.2 (by decide)) (sf_st_13)
    refine va_put (D := (dC, dI)) (ci := 6) (v := .int ((u0 (10 + L) (17 + 16 * i + 11)) - 1)) (ty := .int) (C := RX6) (T := TX6) (N := 15) hx hb hts inlX6 tyX6 tyX6_ok nmX6 hown hK hP hD hS q9 h9 rfl 13 (by decide) (hts _ mw_1147) (fun _ h9 => h9) rfl (by decide +kernel) rfl rfl (Nat.le_of_ble_eq_true rfl) dX3_restOrWork_14 (fun H locs hP hD hS => ?_)
    obtain ⟨u20, e21, hF⟩ := ob hF
    have hP : va_P (dC, dI) vwCl (WC cy ad ks g u20) H := by rw [← pt_eq e21, ← ez9]; exact hP
    have hD : va_D A (WC cy ad ks g u20) := by rw [← pt_eq e21, ← ez9]; exact hD
    clear ez9 h9
    refine lv_aload_n hx hb dX3_restOrWork_17 rfl (lv_at hl 0 rfl) ?_
    refine lv_iconst (v := 1) hx hb dX3_restOrWork_18 (by decide) ?_
    obtain ⟨q9, h9, ez9⟩ := wc_set (cy := cy) (ad := ad) (ks := ks) (g := g) (u := u20) (κ := (.ln L)) (r := (10 + L)) (i := 1060) (v := (1)) hk.1 h_L_i.1 (own_mv (inl_lt h_L_i.1)) (sf_ln_16)
    refine va_put (D := (dC, dI)) (ci := 3) (v := .int 1) (ty := .boolean) (C := RX3) (T := TX3) (N := 17) hx hb hts inlX3 tyX3 tyX3_ok nmX3 hown hK hP hD hS q9 h9 rfl 16 (by decide) (hts _ mw_1141) (fun _ h9 => h9) rfl (by decide +kernel) rfl rfl (Nat.le_of_ble_eq_true rfl) dX3_restOrWork_19 (fun H locs hP hD hS => ?_)
    obtain ⟨u22, e23, hF⟩ := ob hF
    have hP : va_P (dC, dI) vwCl (WC cy ad ks g u22) H := by rw [← pt_eq e23, ← ez9]; exact hP
    have hD : va_D A (WC cy ad ks g u22) := by rw [← pt_eq e23, ← ez9]; exact hD
    clear ez9 h9
    refine lv_iconst (v := 0) hx hb dX3_restOrWork_22 (by decide) ?_
    have hZ := s1 hF
    have zro : (0 : Int32) = ro := (congrArg (fun q => q.1) hZ)
    have zuz : u22 = uz := (congrArg (fun q => q.2) hZ)
    have hP9 : va_P (dC, dI) vwCl (WC cy ad ks g uz) H := by rw [← zuz]; exact hP
    have hD9 : va_D A (WC cy ad ks g uz) := by rw [← zuz]; exact hD
    rw [hQ]
    exact W.zret (v := (0 : Int32)) hx hb hr (by rfl) (fun t ht hW => ⟨⟨(0 : Int32), (), rfl, zro, by rw [ht]; exact hP9, hD9⟩, hS.F ht⟩) hS.2.2 dX3_restOrWork_23
noncomputable def C3_tick_L12 (L : Nat) (g : CG) : Nat → Int32 → RS → Option (Int32 × RS)
  | 0, _, _ => none
  | m20 + 1, y3, u4 => if y3 < 0 then (some ((y3, u4))) else ((ix 6 y3).bind fun n22 => (C3_restOrWork g u4 L n22).bind fun t24 => (if (t24.1) = 0 then ((C6_hasReadyCard g (t24.2) L n22).bind fun x30 => if x30 = 0 then ((C6_hasReadyCard g (t24.2) L n22).bind fun x33 => if x33 = 0 then (some (t24.2)) else ((ix 6 (y3 + 1)).bind fun n36 => if ((t24.2) (10 + L) (17 + 16 * n36 + 2)) = (-1) then ((C3_goOn g (t24.2) L n22 ((y3 + 1))).bind fun u39 => some u39) else (some (t24.2)))) else (if y3 = (((t24.2) (10 + L) 7) - 1) then ((C3_comeOut g (t24.2) L n22).bind fun u50 => some u50) else ((C6_hasReadyCard g (t24.2) L n22).bind fun x42 => if x42 = 0 then (some (t24.2)) else ((ix 6 (y3 + 1)).bind fun n45 => if ((t24.2) (10 + L) (17 + 16 * n45 + 2)) = (-1) then ((C3_goOn g (t24.2) L n22 ((y3 + 1))).bind fun u48 => some u48) else (some (t24.2)))))) else ((C3_failCardIn g (t24.2) L n22).bind fun u52 => some u52) : Option (RS)).bind fun t27 => C3_tick_L12 L g m20 ((y3 + (-1))) t27)
noncomputable def C3_tick (g : CG) (u0 : RS) (L : Nat) : Option (Int32 × RS) := (pt u0 (10 + L) 1060 (0)).bind fun u1 => (C3_tick_L12 L g FUEL (((u1 (10 + L) 7) - 1)) u1).bind fun t5 => (C3_feed g (t5.2) L).bind fun u9 => (C3_emptyTray g u9 L).bind fun u11 => (C3_countReadyCards g u11 L).bind fun u13 => (C3_passTime g u13 L).bind fun u15 => (nz (u15 (10 + L) 1060)).bind fun x17 => some (x17, u15)
set_option maxHeartbeats 4000000 in
set_option maxRecDepth 100000 in
theorem c_X3_tick (l : Launch) (dC : Nat → ClassId) (dI : Nat → Nat → Nat) (cy : Nat → ClassId) (nb : Nat → Nat) (ad : CK → Nat) (ks : List CK) (g : CG) (hk : GA nb ad g ks) (u0 : RS) (L : Nat) (ro : Int32) (uz : RS) (sz : Nat) (h_L : has g (.ln L)) (hF : C3_tick g u0 L = some (ro, uz)) : Met l yX3_tick (wsg yX3_tick cX3_tick 3 (some .boolean)) ({ frames := 11, cells := 0, slots := 0, locals := 600 }) (va_Pc [.ref (ad (.ln L))] (fun U => U.heap.size = sz ∧ va_P (dC, dI) vwCl (WC cy ad ks g u0) U.heap ∧ va_K (dC, dI) vwCl (tyL cy) U ∧ va_D (fun _ => True) (WC cy ad ks g u0) ∧ GE nb (va_A (WC cy ad ks g u0) sz) U)) (va_Qi (fun (r : Int32) (_ : Unit) => r = ro) (fun _ t => va_P (dC, dI) vwCl (WC cy ad ks g uz) t.heap ∧ va_D (va_A (WC cy ad ks g u0) sz) (WC cy ad ks g uz)) (va_A (WC cy ad ks g u0) sz)) 0 0 (va_A (WC cy ad ks g u0) sz) := by
  refine Met.ofW (cc := cX3_tick) (maxL := 3) (ret := (some .boolean)) pn_X3 rfl ?_
  intro p e s m args below meth c s₁ B hml hv
  obtain ⟨rfl, hsz, hP, hK, hD0, hE⟩ := hv
  have hx := B.exec
  have hb := B.bytes
  have hr := B.returns
  have hts0 := atoms_spec (ws := (wsg yX3_tick cX3_tick 3 (some .boolean))) B.pre
  have hts : ∀ w ∈ wsL_law, w.before _ s = true := fun w h => hts0 w (List.mem_cons_of_mem _ h)
  have hown : s.vm.findClass RX3 = some m.cls := by have h9 := findClass_of_methodNamed B.named; exact h9
  have hlocks := B.notSynchronized
  subst hsz
  have hD := hD0.self (sz := s.heap.size)
  generalize hAe : va_A (WC cy ad ks g u0) s.heap.size = A at hD hE ⊢
  have hA : ∀ q : Nat, s.heap.size ≤ q → A q := fun q h => by rw [← hAe]; exact Or.inr h
  have hS : va_S A s.heap s.heap [] := va_S.rf
  have hl := lv_entry ([.ref (ad (.ln L))]) (n := 3) (Nat.le_of_ble_eq_true rfl)
  rw [lg_entry_eq]
  generalize (lg_sl ([.ref (ad (.ln L))]) ++ List.replicate (3 - (lg_sl ([.ref (ad (.ln L))])).length) Slot.unset).toArray = ls at hl ⊢
  have hl : lv_has ls 3 [(0, .ref (ad (.ln L)))] := hl
  generalize hHe : s.heap = H at hP hS ⊢
  have hS : va_S A s.heap H [] := by rw [hHe]; exact hS
  refine my_Q (fun Qn hQ => ?_)
  simp only [C3_tick] at hF
  refine lv_aload_n hx hb dX3_tick_0 rfl (lv_at hl 0 rfl) ?_
  refine lv_iconst (v := 0) hx hb dX3_tick_1 (by decide) ?_
  obtain ⟨q9, h9, ez9⟩ := wc_set (cy := cy) (ad := ad) (ks := ks) (g := g) (u := u0) (κ := (.ln L)) (r := (10 + L)) (i := 1060) (v := (0)) hk.1 h_L (own_mv (inl_lt h_L)) (sf_ln_16)
  refine va_put (D := (dC, dI)) (ci := 3) (v := .int 0) (ty := .boolean) (C := RX3) (T := TX3) (N := 17) hx hb hts inlX3 tyX3 tyX3_ok nmX3 hown hK hP hD hS q9 h9 rfl 16 (by decide) (hts _ mw_1141) (fun _ h9 => h9) rfl (by decide +kernel) rfl rfl (Nat.le_of_ble_eq_true rfl) dX3_tick_2 (fun H locs hP hD hS => ?_)
  obtain ⟨u1, e2, hF⟩ := ob hF
  have hP : va_P (dC, dI) vwCl (WC cy ad ks g u1) H := by rw [← pt_eq e2, ← ez9]; exact hP
  have hD : va_D A (WC cy ad ks g u1) := by rw [← pt_eq e2, ← ez9]; exact hD
  clear ez9 h9
  refine lv_aload_n hx hb dX3_tick_5 rfl (lv_at hl 0 rfl) ?_
  obtain ⟨q9, h9⟩ := wc_at (cy := cy) (ad := ad) (ks := ks) (g := g) (u := u1) (κ := (.ln L)) hk.1 h_L
  refine va_get (D := (dC, dI)) (ci := 3) (v := .int (u1 (10 + L) 7)) (C := RX3) (T := TX3) (N := 17) hx hb hts inlX3 hown hK hP q9 h9 rfl 7 (by decide) (hts _ mw_86) (fun _ h9 => h9) rfl dX3_tick_6 ?_
  clear h9
  refine lv_iconst (v := 1) hx hb dX3_tick_9 (by decide) ?_
  refine lv_isub hx hb dX3_tick_10 ?_
  refine lv_istore_n (lv' := [(1, .int ((u1 (10 + L) 7) - 1)), (0, .ref (ad (.ln L)))]) hx hb dX3_tick_11 rfl hl (by decide) rfl (fun ls hl => ?_)
  obtain ⟨t5, hL6, hF⟩ := ob hF
  have kx7 : ∀ (H : Heap) (locs : List Loc) (ls : Array Slot), va_P (dC, dI) vwCl (WC cy ad ks g (t5.2)) H → va_D A (WC cy ad ks g (t5.2)) → va_S A s.heap H locs → lv_has ls 3 [(1, .int (t5.1)), (0, .ref (ad (.ln L)))] → W p l e (headSpec (wsg yX3_tick cX3_tick 3 (some .boolean)) ({ frames := 11, cells := 0, slots := 0, locals := 600 })).room s m ([.ref (ad (.ln L))] : List Value).toArray below meth c H locs 0 0 Qn (F0 m 100 ls []) := by
    intro H locs ls hP hD hS hl
    refine lv_aload_n hx hb dX3_tick_100 rfl (lv_at hl 1 rfl) ?_
    obtain ⟨u9, e10, hF⟩ := ob hF
    have hPc := hP
    have hDc := hD
    have hFc := my_free hD hS hA
    obtain ⟨q8, h8⟩ := wc_at (cy := cy) (ad := ad) (ks := ks) (g := g) (u := (t5.2)) (κ := (.ln L)) hk.1 h_L
    refine va_callv (va_runV (As := []) (rest := []) ⟨hx, hb, hml, hown, hts⟩ (c_X3_feed l dC dI cy nb ad ks g hk (t5.2) L (u9) H.size h_L e10) (cwV 0 hts (gV mw_1200 mw_1201 mw_1202 mw_17 mw_1203) rfl rfl rfl (by decide +kernel) ⟨Nat.le_of_ble_eq_true rfl, Nat.le_of_ble_eq_true rfl⟩) (my_preV hPc hK hDc hE hS hFc (va_recv (q := (RX3, TX3, 17)) hK hP (ci := 3) (q0 := q8) rfl h8)) rfl rfl hl.1 rfl (lv_room (Nat.le_of_ble_eq_true rfl)) dX3_tick_101 ⟨Nat.le_of_ble_eq_true rfl, Nat.le_of_ble_eq_true rfl⟩) hS (fun q _ h => hFc q h) hFc (fun u t H1 locs ht hvm hw hB hz1 hk1 hS => ?_)
    clear h8
    obtain ⟨hP1, hD1⟩ := hB
    rw [ht] at hP1
    have hP := hP1
    have hD := hD1.weaken (fun k q _ h => hFc q.1 h)
    generalize H1 = H at hP hS ⊢
    clear hP1 hD1 hPc hDc hFc hk1 hz1 hvm ht
    refine lv_aload_n hx hb dX3_tick_104 rfl (lv_at hl 1 rfl) ?_
    obtain ⟨u11, e12, hF⟩ := ob hF
    have hPc := hP
    have hDc := hD
    have hFc := my_free hD hS hA
    obtain ⟨q8, h8⟩ := wc_at (cy := cy) (ad := ad) (ks := ks) (g := g) (u := u9) (κ := (.ln L)) hk.1 h_L
    refine va_callv (va_runV (As := []) (rest := []) ⟨hx, hb, hml, hown, hts⟩ (c_X3_emptyTray l dC dI cy nb ad ks g hk u9 L (u11) H.size h_L e12) (cwV 0 hts (gV mw_1205 mw_1206 mw_1207 mw_17 mw_1208) rfl rfl rfl (by decide +kernel) ⟨Nat.le_of_ble_eq_true rfl, Nat.le_of_ble_eq_true rfl⟩) (my_preV hPc hK hDc hE hS hFc (va_recv (q := (RX3, TX3, 17)) hK hP (ci := 3) (q0 := q8) rfl h8)) rfl rfl hl.1 rfl (lv_room (Nat.le_of_ble_eq_true rfl)) dX3_tick_105 ⟨Nat.le_of_ble_eq_true rfl, Nat.le_of_ble_eq_true rfl⟩) hS (fun q _ h => hFc q h) hFc (fun u t H1 locs ht hvm hw hB hz1 hk1 hS => ?_)
    clear h8
    obtain ⟨hP1, hD1⟩ := hB
    rw [ht] at hP1
    have hP := hP1
    have hD := hD1.weaken (fun k q _ h => hFc q.1 h)
    generalize H1 = H at hP hS ⊢
    clear hP1 hD1 hPc hDc hFc hk1 hz1 hvm ht
    refine lv_aload_n hx hb dX3_tick_108 rfl (lv_at hl 1 rfl) ?_
    obtain ⟨u13, e14, hF⟩ := ob hF
    have hPc := hP
    have hDc := hD
    have hFc := my_free hD hS hA
    obtain ⟨q8, h8⟩ := wc_at (cy := cy) (ad := ad) (ks := ks) (g := g) (u := u11) (κ := (.ln L)) hk.1 h_L
    refine va_callv (va_runV (As := []) (rest := []) ⟨hx, hb, hml, hown, hts⟩ (c_X3_countReadyCards l dC dI cy nb ad ks g hk u11 L (u13) H.size h_L e14) (cwV 0 hts (gV mw_1209 mw_1210 mw_1211 mw_17 mw_1212) rfl rfl rfl (by decide +kernel) ⟨Nat.le_of_ble_eq_true rfl, Nat.le_of_ble_eq_true rfl⟩) (my_preV hPc hK hDc hE hS hFc (va_recv (q := (RX3, TX3, 17)) hK hP (ci := 3) (q0 := q8) rfl h8)) rfl rfl hl.1 rfl (lv_room (Nat.le_of_ble_eq_true rfl)) dX3_tick_109 ⟨Nat.le_of_ble_eq_true rfl, Nat.le_of_ble_eq_true rfl⟩) hS (fun q _ h => hFc q h) hFc (fun u t H1 locs ht hvm hw hB hz1 hk1 hS => ?_)
    clear h8
    obtain ⟨hP1, hD1⟩ := hB
    rw [ht] at hP1
    have hP := hP1
    have hD := hD1.weaken (fun k q _ h => hFc q.1 h)
    generalize H1 = H at hP hS ⊢
    clear hP1 hD1 hPc hDc hFc hk1 hz1 hvm ht
    refine lv_aload_n hx hb dX3_tick_112 rfl (lv_at hl 1 rfl) ?_
    obtain ⟨u15, e16, hF⟩ := ob hF
    have hPc := hP
    have hDc := hD
    have hFc := my_free hD hS hA
    obtain ⟨q8, h8⟩ := wc_at (cy := cy) (ad := ad) (ks := ks) (g := g) (u := u13) (κ := (.ln L)) hk.1 h_L
    refine va_callv (va_runV (As := []) (rest := []) ⟨hx, hb, hml, hown, hts⟩ (c_X3_passTime l dC dI cy nb ad ks g hk u13 L (u15) H.size h_L e16) (cwV 0 hts (gV mw_1213 mw_1214 mw_1215 mw_17 mw_1216) rfl rfl rfl (by decide +kernel) ⟨Nat.le_of_ble_eq_true rfl, Nat.le_of_ble_eq_true rfl⟩) (my_preV hPc hK hDc hE hS hFc (va_recv (q := (RX3, TX3, 17)) hK hP (ci := 3) (q0 := q8) rfl h8)) rfl rfl hl.1 rfl (lv_room (Nat.le_of_ble_eq_true rfl)) dX3_tick_113 ⟨Nat.le_of_ble_eq_true rfl, Nat.le_of_ble_eq_true rfl⟩) hS (fun q _ h => hFc q h) hFc (fun u t H1 locs ht hvm hw hB hz1 hk1 hS => ?_)
    clear h8
    obtain ⟨hP1, hD1⟩ := hB
    rw [ht] at hP1
    have hP := hP1
    have hD := hD1.weaken (fun k q _ h => hFc q.1 h)
    generalize H1 = H at hP hS ⊢
    clear hP1 hD1 hPc hDc hFc hk1 hz1 hvm ht
    refine lv_aload_n hx hb dX3_tick_116 rfl (lv_at hl 1 rfl) ?_
    obtain ⟨q9, h9⟩ := wc_at (cy := cy) (ad := ad) (ks := ks) (g := g) (u := u15) (κ := (.ln L)) hk.1 h_L
    refine va_get (D := (dC, dI)) (ci := 3) (v := .int (u15 (10 + L) 1060)) (C := RX3) (T := TX3) (N := 17) hx hb hts inlX3 hown hK hP q9 h9 rfl 16 (by decide) (hts _ mw_1141) (fun _ h9 => h9) rfl dX3_tick_117 ?_
    clear h9
    obtain ⟨x17, e18, hF⟩ := ob hF
    refine my_topi (y := x17) (nz_e e18) ?_
    have hZ := s1 hF
    have zro : x17 = ro := (congrArg (fun q => q.1) hZ)
    have zuz : u15 = uz := (congrArg (fun q => q.2) hZ)
    have hP9 : va_P (dC, dI) vwCl (WC cy ad ks g uz) H := by rw [← zuz]; exact hP
    have hD9 : va_D A (WC cy ad ks g uz) := by rw [← zuz]; exact hD
    rw [hQ]
    exact W.zret (v := x17) hx hb hr (nz_n e18) (fun t ht hW => ⟨⟨x17, (), rfl, zro, by rw [ht]; exact hP9, hD9⟩, hS.F ht⟩) hS.2.2 dX3_tick_120
  clear hF
  have loop19 : ∀ (m20 : Nat) (y3 : Int32) (u4 : RS), C3_tick_L12 L g m20 y3 u4 = some t5 → ∀ (H : Heap) (locs : List Loc) (ls : Array Slot), va_P (dC, dI) vwCl (WC cy ad ks g u4) H → va_D A (WC cy ad ks g u4) → va_S A s.heap H locs → lv_has ls 3 [(1, .int y3), (0, .ref (ad (.ln L)))] → W p l e (headSpec (wsg yX3_tick cX3_tick 3 (some .boolean)) ({ frames := 11, cells := 0, slots := 0, locals := 600 })).room s m ([.ref (ad (.ln L))] : List Value).toArray below meth c H locs 0 0 Qn (F0 m 12 ls []) := by
    intro m20
    induction m20 with
    | zero => intro y3 u4 hF; cases hF
    | succ m20 ih =>
      intro y3 u4 hF H locs ls hP hD hS hl
      simp only [C3_tick_L12] at hF
      refine lv_iload_n hx hb dX3_tick_12 rfl (lv_at hl 0 rfl) ?_
      refine lv_if_lt (tgt := 100) hx hb dX3_tick_13 (by decide) (fun c21 => ?_) (fun c21 => ?_)
      · rw [if_pos c21] at hF
        have ht := s1 hF
        subst ht
        exact kx7 _ _ _ hP hD hS (lv_sub hl [0, 1] rfl)
      · rw [if_neg c21] at hF
        refine lv_aload_n hx hb dX3_tick_16 rfl (lv_at hl 1 rfl) ?_
        obtain ⟨q9, h9⟩ := wc_at (cy := cy) (ad := ad) (ks := ks) (g := g) (u := u4) (κ := (.ln L)) hk.1 h_L
        refine va_get (D := (dC, dI)) (ci := 3) (v := .ref (ad (.ss L))) (C := RX3) (T := TX3) (N := 17) hx hb hts inlX3 hown hK hP q9 h9 rfl 10 (by decide) (hts _ mw_41) (fun _ h9 => h9) rfl dX3_tick_17 ?_
        clear h9
        refine lv_iload_n hx hb dX3_tick_20 rfl (lv_at hl 0 rfl) ?_
        obtain ⟨n22, e23, hF⟩ := ob hF
        obtain ⟨q9, h9⟩ := wc_at (cy := cy) (ad := ad) (ks := ks) (g := g) (u := u4) (κ := (.ss L)) hk.1 h_L
        refine va_aldq hx hb hK hP q9 6 h9 rfl (ix_in e23) dX3_tick_21 ?_
        refine my_top (y := .ref (ad (.st L n22))) (ixv (F := fun j => ad (.st L j)) e23) ?_
        clear h9
        refine lv_astore_n (lv' := [(2, .ref (ad (.st L n22))), (1, .int y3), (0, .ref (ad (.ln L)))]) hx hb dX3_tick_22 rfl hl (by decide) rfl (fun ls hl => ?_)
        refine lv_aload_n hx hb dX3_tick_23 rfl (lv_at hl 2 rfl) ?_
        refine lv_aload_n hx hb dX3_tick_24 rfl (lv_at hl 0 rfl) ?_
        obtain ⟨t24, e25, hF⟩ := ob hF
        have hPc := hP
        have hDc := hD
        have hFc := my_free hD hS hA
        obtain ⟨q8, h8⟩ := wc_at (cy := cy) (ad := ad) (ks := ks) (g := g) (u := u4) (κ := (.ln L)) hk.1 h_L
        refine va_calli (va_runV (As := [.ref (ad (.st L n22))]) (rest := []) ⟨hx, hb, hml, hown, hts⟩ (c_X3_restOrWork l dC dI cy nb ad ks g hk u4 L n22 (t24.1) (t24.2) H.size h_L ⟨h_L, (ix_lt e23)⟩ e25) (cwV 1 hts (gV mw_1143 mw_1144 mw_1145 mw_17 mw_1146) rfl rfl rfl (by decide +kernel) ⟨Nat.le_of_ble_eq_true rfl, Nat.le_of_ble_eq_true rfl⟩) (my_preV hPc hK hDc hE hS hFc (va_recv (q := (RX3, TX3, 17)) hK hP (ci := 3) (q0 := q8) rfl h8)) rfl rfl hl.1 rfl (lv_room (Nat.le_of_ble_eq_true rfl)) dX3_tick_25 ⟨Nat.le_of_ble_eq_true rfl, Nat.le_of_ble_eq_true rfl⟩) hS (fun q _ h => hFc q h) hFc (fun r u t H1 locs ht hvm hw hB hz1 hk1 hS => ?_)
        clear h8
        obtain ⟨hP1, hD1⟩ := hB
        rw [ht] at hP1
        have hP := hP1
        have hD := hD1.weaken (fun k q _ h => hFc q.1 h)
        generalize H1 = H at hP hS ⊢
        clear hP1 hD1 hPc hDc hFc hk1 hz1 hvm ht
        obtain rfl := hw.symm
        obtain ⟨t27, hJ28, hF⟩ := ob hF
        have join29 : ∀ (H : Heap) (locs : List Loc) (ls : Array Slot), va_P (dC, dI) vwCl (WC cy ad ks g t27) H → va_D A (WC cy ad ks g t27) → va_S A s.heap H locs → lv_has ls 3 [(2, .ref (ad (.st L n22))), (1, .int y3), (0, .ref (ad (.ln L)))] → W p l e (headSpec (wsg yX3_tick cX3_tick 3 (some .boolean)) ({ frames := 11, cells := 0, slots := 0, locals := 600 })).room s m ([.ref (ad (.ln L))] : List Value).toArray below meth c H locs 0 0 Qn (F0 m 94 ls []) := by
          intro H locs ls hP hD hS hl
          refine lv_iinc (v := (y3 + (-1))) (lv' := [(1, .int (y3 + (-1))), (2, .ref (ad (.st L n22))), (0, .ref (ad (.ln L)))]) hx hb dX3_tick_94 hl (k := 1) rfl (by rfl) (by decide) rfl (fun ls hl => ?_)
          refine lv_goto (tgt := 12) hx hb dX3_tick_97 (by decide) ?_
          exact ih _ _ hF _ _ _ hP hD hS (lv_sub hl [0, 2] rfl)
        clear hF
        have hF := hJ28
        clear hJ28
        refine lv_if_eq (tgt := 39) hx hb dX3_tick_28 (by decide) (fun c26 => ?_) (fun c26 => ?_)
        · rw [if_pos c26] at hF
          refine lv_aload_n hx hb dX3_tick_39 rfl (lv_at hl 0 rfl) ?_
          obtain ⟨x30, e31, hF⟩ := ob hF
          have hPc := hP
          have hDc := hD
          have hFc := my_free hD hS hA
          obtain ⟨q8, h8⟩ := wc_at (cy := cy) (ad := ad) (ks := ks) (g := g) (u := (t24.2)) (κ := (.st L n22)) hk.1 ⟨h_L, (ix_lt e23)⟩
          refine va_calli (va_runV (As := []) (rest := []) ⟨hx, hb, hml, hown, hts⟩ (c_X6_hasReadyCard l dC dI cy nb ad ks g hk (t24.2) L n22 (x30) H.size ⟨h_L, (ix_lt e23)⟩ e31) (cwV 0 hts (gV mw_1166 mw_1167 mw_1168 mw_50 mw_1169) rfl rfl rfl (by decide +kernel) ⟨Nat.le_of_ble_eq_true rfl, Nat.le_of_ble_eq_true rfl⟩) (my_preV hPc hK hDc hE hS hFc (va_recv (q := (RX6, TX6, 15)) hK hP (ci := 6) (q0 := q8) rfl h8)) rfl rfl hl.1 rfl (lv_room (Nat.le_of_ble_eq_true rfl)) dX3_tick_40 ⟨Nat.le_of_ble_eq_true rfl, Nat.le_of_ble_eq_true rfl⟩) hS (fun q _ h => hFc q h) hFc (fun r u t H1 locs ht hvm hw hB hz1 hk1 hS => ?_)
          clear h8
          obtain ⟨hP1, hD1⟩ := hB
          rw [ht] at hP1
          have hP := hP1
          have hD := hD1.weaken (fun k q _ h => hFc q.1 h)
          generalize H1 = H at hP hS ⊢
          clear hP1 hD1 hPc hDc hFc hk1 hz1 hvm ht
          obtain rfl := hw.symm
          refine lv_if_eq (tgt := 64) hx hb dX3_tick_43 (by decide) (fun c32 => ?_) (fun c32 => ?_)
          · rw [if_pos c32] at hF
            refine lv_aload_n hx hb dX3_tick_64 rfl (lv_at hl 0 rfl) ?_
            obtain ⟨x33, e34, hF⟩ := ob hF
            have hPc := hP
            have hDc := hD
            have hFc := my_free hD hS hA
            obtain ⟨q8, h8⟩ := wc_at (cy := cy) (ad := ad) (ks := ks) (g := g) (u := (t24.2)) (κ := (.st L n22)) hk.1 ⟨h_L, (ix_lt e23)⟩
            refine va_calli (va_runV (As := []) (rest := []) ⟨hx, hb, hml, hown, hts⟩ (c_X6_hasReadyCard l dC dI cy nb ad ks g hk (t24.2) L n22 (x33) H.size ⟨h_L, (ix_lt e23)⟩ e34) (cwV 0 hts (gV mw_1166 mw_1167 mw_1168 mw_50 mw_1169) rfl rfl rfl (by decide +kernel) ⟨Nat.le_of_ble_eq_true rfl, Nat.le_of_ble_eq_true rfl⟩) (my_preV hPc hK hDc hE hS hFc (va_recv (q := (RX6, TX6, 15)) hK hP (ci := 6) (q0 := q8) rfl h8)) rfl rfl hl.1 rfl (lv_room (Nat.le_of_ble_eq_true rfl)) dX3_tick_65 ⟨Nat.le_of_ble_eq_true rfl, Nat.le_of_ble_eq_true rfl⟩) hS (fun q _ h => hFc q h) hFc (fun r u t H1 locs ht hvm hw hB hz1 hk1 hS => ?_)
            clear h8
            obtain ⟨hP1, hD1⟩ := hB
            rw [ht] at hP1
            have hP := hP1
            have hD := hD1.weaken (fun k q _ h => hFc q.1 h)
            generalize H1 = H at hP hS ⊢
            clear hP1 hD1 hPc hDc hFc hk1 hz1 hvm ht
            obtain rfl := hw.symm
            refine lv_if_eq (tgt := 94) hx hb dX3_tick_68 (by decide) (fun c35 => ?_) (fun c35 => ?_)
            · rw [if_pos c35] at hF
              have ht := s1 hF
              subst ht
              exact join29 _ _ _ hP hD hS (lv_sub hl [0, 1, 2] rfl)
            · rw [if_neg c35] at hF
              refine lv_aload_n hx hb dX3_tick_71 rfl (lv_at hl 2 rfl) ?_
              obtain ⟨q9, h9⟩ := wc_at (cy := cy) (ad := ad) (ks := ks) (g := g) (u := (t24.2)) (κ := (.ln L)) hk.1 h_L
              refine va_get (D := (dC, dI)) (ci := 3) (v := .ref (ad (.ss L))) (C := RX3) (T := TX3) (N := 17) hx hb hts inlX3 hown hK hP q9 h9 rfl 10 (by decide) (hts _ mw_41) (fun _ h9 => h9) rfl dX3_tick_72 ?_
              clear h9
              refine lv_iload_n hx hb dX3_tick_75 rfl (lv_at hl 1 rfl) ?_
              refine lv_iconst (v := 1) hx hb dX3_tick_76 (by decide) ?_
              refine lv_iadd hx hb dX3_tick_77 ?_
              obtain ⟨n36, e37, hF⟩ := ob hF
              obtain ⟨q9, h9⟩ := wc_at (cy := cy) (ad := ad) (ks := ks) (g := g) (u := (t24.2)) (κ := (.ss L)) hk.1 h_L
              refine va_aldq hx hb hK hP q9 6 h9 rfl (ix_in e37) dX3_tick_78 ?_
              refine my_top (y := .ref (ad (.st L n36))) (ixv (F := fun j => ad (.st L j)) e37) ?_
              clear h9
              obtain ⟨q9, h9⟩ := wc_at (cy := cy) (ad := ad) (ks := ks) (g := g) (u := (t24.2)) (κ := (.st L n36)) hk.1 ⟨h_L, (ix_lt e37)⟩
              refine va_get (D := (dC, dI)) (ci := 6) (v := .int ((t24.2) (10 + L) (17 + 16 * n36 + 2))) (C := RX6) (T := TX6) (N := 15) hx hb hts inlX6 hown hK hP q9 h9 rfl 3 (by decide) (hts _ mw_1142) (fun _ h9 => h9) rfl dX3_tick_79 ?_
              clear h9
              refine lv_iconst (v := (-1)) hx hb dX3_tick_82 (by decide) ?_
              refine lv_icmp_ne (tgt := 94) hx hb dX3_tick_83 (by decide) (fun c38 => ?_) (fun c38 => ?_)
              · rw [if_neg c38] at hF
                have ht := s1 hF
                subst ht
                exact join29 _ _ _ hP hD hS (lv_sub hl [0, 1, 2] rfl)
              · rw [if_pos c38] at hF
                refine lv_aload_n hx hb dX3_tick_86 rfl (lv_at hl 2 rfl) ?_
                refine lv_aload_n hx hb dX3_tick_87 rfl (lv_at hl 0 rfl) ?_
                refine lv_iload_n hx hb dX3_tick_88 rfl (lv_at hl 1 rfl) ?_
                refine lv_iconst (v := 1) hx hb dX3_tick_89 (by decide) ?_
                refine lv_iadd hx hb dX3_tick_90 ?_
                obtain ⟨u39, e40, hF⟩ := ob hF
                have hPc := hP
                have hDc := hD
                have hFc := my_free hD hS hA
                obtain ⟨q8, h8⟩ := wc_at (cy := cy) (ad := ad) (ks := ks) (g := g) (u := (t24.2)) (κ := (.ln L)) hk.1 h_L
                refine va_callv (va_runV (As := [.ref (ad (.st L n22)), .int (y3 + 1)]) (rest := []) ⟨hx, hb, hml, hown, hts⟩ (c_X3_goOn l dC dI cy nb ad ks g hk (t24.2) L n22 ((y3 + 1)) (u39) H.size h_L ⟨h_L, (ix_lt e23)⟩ e40) (cwV 2 hts (gV mw_1187 mw_1188 mw_1189 mw_17 mw_1190) rfl rfl rfl (by decide +kernel) ⟨Nat.le_of_ble_eq_true rfl, Nat.le_of_ble_eq_true rfl⟩) (my_preV hPc hK hDc hE hS hFc (va_recv (q := (RX3, TX3, 17)) hK hP (ci := 3) (q0 := q8) rfl h8)) rfl rfl hl.1 rfl (lv_room (Nat.le_of_ble_eq_true rfl)) dX3_tick_91 ⟨Nat.le_of_ble_eq_true rfl, Nat.le_of_ble_eq_true rfl⟩) hS (fun q _ h => hFc q h) hFc (fun u t H1 locs ht hvm hw hB hz1 hk1 hS => ?_)
                clear h8
                obtain ⟨hP1, hD1⟩ := hB
                rw [ht] at hP1
                have hP := hP1
                have hD := hD1.weaken (fun k q _ h => hFc q.1 h)
                generalize H1 = H at hP hS ⊢
                clear hP1 hD1 hPc hDc hFc hk1 hz1 hvm ht
                have ht := s1 hF
                subst ht
                exact join29 _ _ _ hP hD hS (lv_sub hl [0, 1, 2] rfl)
          · rw [if_neg c32] at hF
            refine lv_iload_n hx hb dX3_tick_46 rfl (lv_at hl 1 rfl) ?_
            refine lv_aload_n hx hb dX3_tick_47 rfl (lv_at hl 2 rfl) ?_
            obtain ⟨q9, h9⟩ := wc_at (cy := cy) (ad := ad) (ks := ks) (g := g) (u := (t24.2)) (κ := (.ln L)) hk.1 h_L
            refine va_get (D := (dC, dI)) (ci := 3) (v := .int ((t24.2) (10 + L) 7)) (C := RX3) (T := TX3) (N := 17) hx hb hts inlX3 hown hK hP q9 h9 rfl 7 (by decide) (hts _ mw_86) (fun _ h9 => h9) rfl dX3_tick_48 ?_
            clear h9
            refine lv_iconst (v := 1) hx hb dX3_tick_51 (by decide) ?_
            refine lv_isub hx hb dX3_tick_52 ?_
            refine lv_icmp_ne (tgt := 64) hx hb dX3_tick_53 (by decide) (fun c41 => ?_) (fun c41 => ?_)
            · rw [if_neg c41] at hF
              refine lv_aload_n hx hb dX3_tick_64 rfl (lv_at hl 0 rfl) ?_
              obtain ⟨x42, e43, hF⟩ := ob hF
              have hPc := hP
              have hDc := hD
              have hFc := my_free hD hS hA
              obtain ⟨q8, h8⟩ := wc_at (cy := cy) (ad := ad) (ks := ks) (g := g) (u := (t24.2)) (κ := (.st L n22)) hk.1 ⟨h_L, (ix_lt e23)⟩
              refine va_calli (va_runV (As := []) (rest := []) ⟨hx, hb, hml, hown, hts⟩ (c_X6_hasReadyCard l dC dI cy nb ad ks g hk (t24.2) L n22 (x42) H.size ⟨h_L, (ix_lt e23)⟩ e43) (cwV 0 hts (gV mw_1166 mw_1167 mw_1168 mw_50 mw_1169) rfl rfl rfl (by decide +kernel) ⟨Nat.le_of_ble_eq_true rfl, Nat.le_of_ble_eq_true rfl⟩) (my_preV hPc hK hDc hE hS hFc (va_recv (q := (RX6, TX6, 15)) hK hP (ci := 6) (q0 := q8) rfl h8)) rfl rfl hl.1 rfl (lv_room (Nat.le_of_ble_eq_true rfl)) dX3_tick_65 ⟨Nat.le_of_ble_eq_true rfl, Nat.le_of_ble_eq_true rfl⟩) hS (fun q _ h => hFc q h) hFc (fun r u t H1 locs ht hvm hw hB hz1 hk1 hS => ?_)
              clear h8
              obtain ⟨hP1, hD1⟩ := hB
              rw [ht] at hP1
              have hP := hP1
              have hD := hD1.weaken (fun k q _ h => hFc q.1 h)
              generalize H1 = H at hP hS ⊢
              clear hP1 hD1 hPc hDc hFc hk1 hz1 hvm ht
              obtain rfl := hw.symm
              refine lv_if_eq (tgt := 94) hx hb dX3_tick_68 (by decide) (fun c44 => ?_) (fun c44 => ?_)
              · rw [if_pos c44] at hF
                have ht := s1 hF
                subst ht
                exact join29 _ _ _ hP hD hS (lv_sub hl [0, 1, 2] rfl)
              · rw [if_neg c44] at hF
                refine lv_aload_n hx hb dX3_tick_71 rfl (lv_at hl 2 rfl) ?_
                obtain ⟨q9, h9⟩ := wc_at (cy := cy) (ad := ad) (ks := ks) (g := g) (u := (t24.2)) (κ := (.ln L)) hk.1 h_L
                refine va_get (D := (dC, dI)) (ci := 3) (v := .ref (ad (.ss L))) (C := RX3) (T := TX3) (N := 17) hx hb hts inlX3 hown hK hP q9 h9 rfl 10 (by decide) (hts _ mw_41) (fun _ h9 => h9) rfl dX3_tick_72 ?_
                clear h9
                refine lv_iload_n hx hb dX3_tick_75 rfl (lv_at hl 1 rfl) ?_
                refine lv_iconst (v := 1) hx hb dX3_tick_76 (by decide) ?_
                refine lv_iadd hx hb dX3_tick_77 ?_
                obtain ⟨n45, e46, hF⟩ := ob hF
                obtain ⟨q9, h9⟩ := wc_at (cy := cy) (ad := ad) (ks := ks) (g := g) (u := (t24.2)) (κ := (.ss L)) hk.1 h_L
                refine va_aldq hx hb hK hP q9 6 h9 rfl (ix_in e46) dX3_tick_78 ?_
                refine my_top (y := .ref (ad (.st L n45))) (ixv (F := fun j => ad (.st L j)) e46) ?_
                clear h9
                obtain ⟨q9, h9⟩ := wc_at (cy := cy) (ad := ad) (ks := ks) (g := g) (u := (t24.2)) (κ := (.st L n45)) hk.1 ⟨h_L, (ix_lt e46)⟩
                refine va_get (D := (dC, dI)) (ci := 6) (v := .int ((t24.2) (10 + L) (17 + 16 * n45 + 2))) (C := RX6) (T := TX6) (N := 15) hx hb hts inlX6 hown hK hP q9 h9 rfl 3 (by decide) (hts _ mw_1142) (fun _ h9 => h9) rfl dX3_tick_79 ?_
                clear h9
                refine lv_iconst (v := (-1)) hx hb dX3_tick_82 (by decide) ?_
                refine lv_icmp_ne (tgt := 94) hx hb dX3_tick_83 (by decide) (fun c47 => ?_) (fun c47 => ?_)
                · rw [if_neg c47] at hF
                  have ht := s1 hF
                  subst ht
                  exact join29 _ _ _ hP hD hS (lv_sub hl [0, 1, 2] rfl)
                · rw [if_pos c47] at hF
                  refine lv_aload_n hx hb dX3_tick_86 rfl (lv_at hl 2 rfl) ?_
                  refine lv_aload_n hx hb dX3_tick_87 rfl (lv_at hl 0 rfl) ?_
                  refine lv_iload_n hx hb dX3_tick_88 rfl (lv_at hl 1 rfl) ?_
                  refine lv_iconst (v := 1) hx hb dX3_tick_89 (by decide) ?_
                  refine lv_iadd hx hb dX3_tick_90 ?_
                  obtain ⟨u48, e49, hF⟩ := ob hF
                  have hPc := hP
                  have hDc := hD
                  have hFc := my_free hD hS hA
                  obtain ⟨q8, h8⟩ := wc_at (cy := cy) (ad := ad) (ks := ks) (g := g) (u := (t24.2)) (κ := (.ln L)) hk.1 h_L
                  refine va_callv (va_runV (As := [.ref (ad (.st L n22)), .int (y3 + 1)]) (rest := []) ⟨hx, hb, hml, hown, hts⟩ (c_X3_goOn l dC dI cy nb ad ks g hk (t24.2) L n22 ((y3 + 1)) (u48) H.size h_L ⟨h_L, (ix_lt e23)⟩ e49) (cwV 2 hts (gV mw_1187 mw_1188 mw_1189 mw_17 mw_1190) rfl rfl rfl (by decide +kernel) ⟨Nat.le_of_ble_eq_true rfl, Nat.le_of_ble_eq_true rfl⟩) (my_preV hPc hK hDc hE hS hFc (va_recv (q := (RX3, TX3, 17)) hK hP (ci := 3) (q0 := q8) rfl h8)) rfl rfl hl.1 rfl (lv_room (Nat.le_of_ble_eq_true rfl)) dX3_tick_91 ⟨Nat.le_of_ble_eq_true rfl, Nat.le_of_ble_eq_true rfl⟩) hS (fun q _ h => hFc q h) hFc (fun u t H1 locs ht hvm hw hB hz1 hk1 hS => ?_)
                  clear h8
                  obtain ⟨hP1, hD1⟩ := hB
                  rw [ht] at hP1
                  have hP := hP1
                  have hD := hD1.weaken (fun k q _ h => hFc q.1 h)
                  generalize H1 = H at hP hS ⊢
                  clear hP1 hD1 hPc hDc hFc hk1 hz1 hvm ht
                  have ht := s1 hF
                  subst ht
                  exact join29 _ _ _ hP hD hS (lv_sub hl [0, 1, 2] rfl)
            · rw [if_pos c41] at hF
              refine lv_aload_n hx hb dX3_tick_56 rfl (lv_at hl 2 rfl) ?_
              refine lv_aload_n hx hb dX3_tick_57 rfl (lv_at hl 0 rfl) ?_
              obtain ⟨u50, e51, hF⟩ := ob hF
              have hPc := hP
              have hDc := hD
              have hFc := my_free hD hS hA
              obtain ⟨q8, h8⟩ := wc_at (cy := cy) (ad := ad) (ks := ks) (g := g) (u := (t24.2)) (κ := (.ln L)) hk.1 h_L
              refine va_callv (va_runV (As := [.ref (ad (.st L n22))]) (rest := []) ⟨hx, hb, hml, hown, hts⟩ (c_X3_comeOut l dC dI cy nb ad ks g hk (t24.2) L n22 (u50) H.size h_L ⟨h_L, (ix_lt e23)⟩ e51) (cwV 1 hts (gV mw_1170 mw_1171 mw_1172 mw_17 mw_1173) rfl rfl rfl (by decide +kernel) ⟨Nat.le_of_ble_eq_true rfl, Nat.le_of_ble_eq_true rfl⟩) (my_preV hPc hK hDc hE hS hFc (va_recv (q := (RX3, TX3, 17)) hK hP (ci := 3) (q0 := q8) rfl h8)) rfl rfl hl.1 rfl (lv_room (Nat.le_of_ble_eq_true rfl)) dX3_tick_58 ⟨Nat.le_of_ble_eq_true rfl, Nat.le_of_ble_eq_true rfl⟩) hS (fun q _ h => hFc q h) hFc (fun u t H1 locs ht hvm hw hB hz1 hk1 hS => ?_)
              clear h8
              obtain ⟨hP1, hD1⟩ := hB
              rw [ht] at hP1
              have hP := hP1
              have hD := hD1.weaken (fun k q _ h => hFc q.1 h)
              generalize H1 = H at hP hS ⊢
              clear hP1 hD1 hPc hDc hFc hk1 hz1 hvm ht
              refine lv_goto (tgt := 94) hx hb dX3_tick_61 (by decide) ?_
              have ht := s1 hF
              subst ht
              exact join29 _ _ _ hP hD hS (lv_sub hl [0, 1, 2] rfl)
        · rw [if_neg c26] at hF
          refine lv_aload_n hx hb dX3_tick_31 rfl (lv_at hl 2 rfl) ?_
          refine lv_aload_n hx hb dX3_tick_32 rfl (lv_at hl 0 rfl) ?_
          obtain ⟨u52, e53, hF⟩ := ob hF
          have hPc := hP
          have hDc := hD
          have hFc := my_free hD hS hA
          obtain ⟨q8, h8⟩ := wc_at (cy := cy) (ad := ad) (ks := ks) (g := g) (u := (t24.2)) (κ := (.ln L)) hk.1 h_L
          refine va_callv (va_runV (As := [.ref (ad (.st L n22))]) (rest := []) ⟨hx, hb, hml, hown, hts⟩ (c_X3_failCardIn l dC dI cy nb ad ks g hk (t24.2) L n22 (u52) H.size h_L ⟨h_L, (ix_lt e23)⟩ e53) (cwV 1 hts (gV mw_1155 mw_1156 mw_1157 mw_17 mw_1158) rfl rfl rfl (by decide +kernel) ⟨Nat.le_of_ble_eq_true rfl, Nat.le_of_ble_eq_true rfl⟩) (my_preV hPc hK hDc hE hS hFc (va_recv (q := (RX3, TX3, 17)) hK hP (ci := 3) (q0 := q8) rfl h8)) rfl rfl hl.1 rfl (lv_room (Nat.le_of_ble_eq_true rfl)) dX3_tick_33 ⟨Nat.le_of_ble_eq_true rfl, Nat.le_of_ble_eq_true rfl⟩) hS (fun q _ h => hFc q h) hFc (fun u t H1 locs ht hvm hw hB hz1 hk1 hS => ?_)
          clear h8
          obtain ⟨hP1, hD1⟩ := hB
          rw [ht] at hP1
          have hP := hP1
          have hD := hD1.weaken (fun k q _ h => hFc q.1 h)
          generalize H1 = H at hP hS ⊢
          clear hP1 hD1 hPc hDc hFc hk1 hz1 hvm ht
          refine lv_goto (tgt := 94) hx hb dX3_tick_36 (by decide) ?_
          have ht := s1 hF
          subst ht
          exact join29 _ _ _ hP hD hS (lv_sub hl [0, 1, 2] rfl)
  exact loop19 FUEL _ _ hL6 _ _ _ hP hD hS (lv_sub hl [0, 1] rfl)
noncomputable def C6_ticksOf (g : CG) (u0 : RS) (L : Nat) (i : Nat) (a1 : Int32) : Option (Int32) := (C6_turnsOf g u0 L i a1).bind fun x1 => (C6_ticksWith g u0 L i a1 (x1)).bind fun x3 => some x3
set_option maxHeartbeats 4000000 in
set_option maxRecDepth 100000 in
theorem c_X6_ticksOf (l : Launch) (dC : Nat → ClassId) (dI : Nat → Nat → Nat) (cy : Nat → ClassId) (nb : Nat → Nat) (ad : CK → Nat) (ks : List CK) (g : CG) (hk : GA nb ad g ks) (u0 : RS) (L : Nat) (i : Nat) (a1 : Int32) (ro : Int32) (sz : Nat) (h_L_i : has g (.st L i)) (hF : C6_ticksOf g u0 L i a1 = some ro) : Met l yX6_ticksOf (wsg yX6_ticksOf cX6_ticksOf 2 (some .int)) ({ frames := 9, cells := 0, slots := 0, locals := 400 }) (va_Pc [.ref (ad (.st L i)), .ref (ad (.tx (a1).toNatClampNeg))] (fun U => U.heap.size = sz ∧ va_P (dC, dI) vwCl (WC cy ad ks g u0) U.heap ∧ va_K (dC, dI) vwCl (tyL cy) U ∧ va_D (fun _ => True) (WC cy ad ks g u0) ∧ GE nb (va_A (WC cy ad ks g u0) sz) U)) (va_Qi (fun (r : Int32) (_ : Unit) => r = ro) (fun _ t => va_P (dC, dI) vwCl (WC cy ad ks g u0) t.heap ∧ va_D (va_A (WC cy ad ks g u0) sz) (WC cy ad ks g u0)) (va_A (WC cy ad ks g u0) sz)) 0 0 (va_A (WC cy ad ks g u0) sz) := by
  refine Met.ofW (cc := cX6_ticksOf) (maxL := 2) (ret := (some .int)) pn_X6 rfl ?_
  intro p e s m args below meth c s₁ B hml hv
  obtain ⟨rfl, hsz, hP, hK, hD0, hE⟩ := hv
  have hx := B.exec
  have hb := B.bytes
  have hr := B.returns
  have hts0 := atoms_spec (ws := (wsg yX6_ticksOf cX6_ticksOf 2 (some .int))) B.pre
  have hts : ∀ w ∈ wsL_law, w.before _ s = true := fun w h => hts0 w (List.mem_cons_of_mem _ h)
  have hown : s.vm.findClass RX6 = some m.cls := by have h9 := findClass_of_methodNamed B.named; exact h9
  have hlocks := B.notSynchronized
  subst hsz
  have hD := hD0.self (sz := s.heap.size)
  generalize hAe : va_A (WC cy ad ks g u0) s.heap.size = A at hD hE ⊢
  have hA : ∀ q : Nat, s.heap.size ≤ q → A q := fun q h => by rw [← hAe]; exact Or.inr h
  have hS : va_S A s.heap s.heap [] := va_S.rf
  have hl := lv_entry ([.ref (ad (.st L i)), .ref (ad (.tx (a1).toNatClampNeg))]) (n := 2) (Nat.le_of_ble_eq_true rfl)
  rw [lg_entry_eq]
  generalize (lg_sl ([.ref (ad (.st L i)), .ref (ad (.tx (a1).toNatClampNeg))]) ++ List.replicate (2 - (lg_sl ([.ref (ad (.st L i)), .ref (ad (.tx (a1).toNatClampNeg))])).length) Slot.unset).toArray = ls at hl ⊢
  have hl : lv_has ls 2 [(0, .ref (ad (.st L i))), (1, .ref (ad (.tx (a1).toNatClampNeg)))] := hl
  generalize hHe : s.heap = H at hP hS ⊢
  have hS : va_S A s.heap H [] := by rw [hHe]; exact hS
  refine my_Q (fun Qn hQ => ?_)
  simp only [C6_ticksOf] at hF
  refine lv_aload_n hx hb dX6_ticksOf_0 rfl (lv_at hl 0 rfl) ?_
  refine lv_aload_n hx hb dX6_ticksOf_1 rfl (lv_at hl 1 rfl) ?_
  refine lv_aload_n hx hb dX6_ticksOf_2 rfl (lv_at hl 0 rfl) ?_
  refine lv_aload_n hx hb dX6_ticksOf_3 rfl (lv_at hl 1 rfl) ?_
  obtain ⟨x1, e2, hF⟩ := ob hF
  have hPc := hP
  have hDc := hD
  have hFc := my_free hD hS hA
  obtain ⟨q8, h8⟩ := wc_at (cy := cy) (ad := ad) (ks := ks) (g := g) (u := u0) (κ := (.st L i)) hk.1 ⟨h_L_i.1, h_L_i.2⟩
  refine va_calli (va_runV (As := [.ref (ad (.tx (a1).toNatClampNeg))]) (rest := [.ref (ad (.tx (a1).toNatClampNeg)), .ref (ad (.st L i))]) ⟨hx, hb, hml, hown, hts⟩ (c_X6_turnsOf l dC dI cy nb ad ks g hk u0 L i a1 (x1) H.size ⟨h_L_i.1, h_L_i.2⟩ e2) (cwV 1 hts (gV mw_847 mw_848 mw_849 mw_50 mw_850) rfl rfl rfl (by decide +kernel) ⟨Nat.le_of_ble_eq_true rfl, Nat.le_of_ble_eq_true rfl⟩) (my_preV hPc hK hDc hE hS hFc (va_recv (q := (RX6, TX6, 15)) hK hP (ci := 6) (q0 := q8) rfl h8)) rfl rfl hl.1 rfl (lv_room (Nat.le_of_ble_eq_true rfl)) dX6_ticksOf_4 ⟨Nat.le_of_ble_eq_true rfl, Nat.le_of_ble_eq_true rfl⟩) hS (fun q _ h => hFc q h) hFc (fun r u t H1 locs ht hvm hw hB hz1 hk1 hS => ?_)
  clear h8
  obtain ⟨hP1, hD1⟩ := hB
  rw [ht] at hP1
  have hP := hP1
  have hD := hD1.weaken (fun k q _ h => hFc q.1 h)
  generalize H1 = H at hP hS ⊢
  clear hP1 hD1 hPc hDc hFc hk1 hz1 hvm ht
  obtain rfl := hw.symm
  obtain ⟨x3, e4, hF⟩ := ob hF
  have hPc := hP
  have hDc := hD
  have hFc := my_free hD hS hA
  obtain ⟨q8, h8⟩ := wc_at (cy := cy) (ad := ad) (ks := ks) (g := g) (u := u0) (κ := (.st L i)) hk.1 ⟨h_L_i.1, h_L_i.2⟩
  refine va_calli (va_runV (As := [.ref (ad (.tx (a1).toNatClampNeg)), .int x1]) (rest := []) ⟨hx, hb, hml, hown, hts⟩ (c_X6_ticksWith l dC dI cy nb ad ks g hk u0 L i a1 (x1) (x3) H.size ⟨h_L_i.1, h_L_i.2⟩ e4) (cwV 2 hts (gV mw_851 mw_852 mw_853 mw_50 mw_854) rfl rfl rfl (by decide +kernel) ⟨Nat.le_of_ble_eq_true rfl, Nat.le_of_ble_eq_true rfl⟩) (my_preV hPc hK hDc hE hS hFc (va_recv (q := (RX6, TX6, 15)) hK hP (ci := 6) (q0 := q8) rfl h8)) rfl rfl hl.1 rfl (lv_room (Nat.le_of_ble_eq_true rfl)) dX6_ticksOf_7 ⟨Nat.le_of_ble_eq_true rfl, Nat.le_of_ble_eq_true rfl⟩) hS (fun q _ h => hFc q h) hFc (fun r u t H1 locs ht hvm hw hB hz1 hk1 hS => ?_)
  clear h8
  obtain ⟨hP1, hD1⟩ := hB
  rw [ht] at hP1
  have hP := hP1
  have hD := hD1.weaken (fun k q _ h => hFc q.1 h)
  generalize H1 = H at hP hS ⊢
  clear hP1 hD1 hPc hDc hFc hk1 hz1 hvm ht
  obtain rfl := hw.symm
  have hZ := s1 hF
  have zro : x3 = ro := hZ
  have hP9 : va_P (dC, dI) vwCl (WC cy ad ks g u0) H := by exact hP
  have hD9 : va_D A (WC cy ad ks g u0) := by exact hD
  rw [hQ]
  exact W.iret (v := x3) hx hb hr (fun t ht hW => ⟨⟨x3, (), rfl, zro, by rw [ht]; exact hP9, hD9⟩, hS.F ht⟩) hS.2.2 dX6_ticksOf_10
noncomputable def C3_ticksToCome_L4 (L : Nat) (a1 : Int32) (g : CG) (u0 : RS) : Nat → Int32 → Int32 → Option (Int32 × Int32)
  | 0, _, _ => none
  | m8 + 1, y1, y2 => if (u0 (10 + L) 9) ≤ y1 then (some ((y1, y2))) else ((ix 30 y1).bind fun n10 => (C1_isFinished g u0 L n10).bind fun x12 => (if x12 = 0 then ((ix 6 a1).bind fun n18 => (ix 30 y1).bind fun n20 => (C6_ticksOf g u0 L n18 (u0 (10 + L) (137 + 25 * n20 + 2))).bind fun x22 => some (y2 + x22)) else (some y2) : Option (Int32)).bind fun t15 => C3_ticksToCome_L4 L a1 g u0 m8 ((y1 + 1)) (t15))
noncomputable def C3_ticksToCome (g : CG) (u0 : RS) (L : Nat) (a1 : Int32) : Option (Int32) := (C3_ticksToCome_L4 L a1 g u0 FUEL (0 : Int32) (0 : Int32)).bind fun t3 => some (t3.2)
set_option maxHeartbeats 4000000 in
set_option maxRecDepth 100000 in
theorem c_X3_ticksToCome (l : Launch) (dC : Nat → ClassId) (dI : Nat → Nat → Nat) (cy : Nat → ClassId) (nb : Nat → Nat) (ad : CK → Nat) (ks : List CK) (g : CG) (hk : GA nb ad g ks) (u0 : RS) (L : Nat) (a1 : Int32) (ro : Int32) (sz : Nat) (h_L : has g (.ln L)) (hF : C3_ticksToCome g u0 L a1 = some ro) : Met l yX3_ticksToCome (wsg yX3_ticksToCome cX3_ticksToCome 4 (some .int)) ({ frames := 10, cells := 0, slots := 0, locals := 500 }) (va_Pc [.ref (ad (.ln L)), .int a1] (fun U => U.heap.size = sz ∧ va_P (dC, dI) vwCl (WC cy ad ks g u0) U.heap ∧ va_K (dC, dI) vwCl (tyL cy) U ∧ va_D (fun _ => True) (WC cy ad ks g u0) ∧ GE nb (va_A (WC cy ad ks g u0) sz) U)) (va_Qi (fun (r : Int32) (_ : Unit) => r = ro) (fun _ t => va_P (dC, dI) vwCl (WC cy ad ks g u0) t.heap ∧ va_D (va_A (WC cy ad ks g u0) sz) (WC cy ad ks g u0)) (va_A (WC cy ad ks g u0) sz)) 0 0 (va_A (WC cy ad ks g u0) sz) := by
  refine Met.ofW (cc := cX3_ticksToCome) (maxL := 4) (ret := (some .int)) pn_X3 rfl ?_
  intro p e s m args below meth c s₁ B hml hv
  obtain ⟨rfl, hsz, hP, hK, hD0, hE⟩ := hv
  have hx := B.exec
  have hb := B.bytes
  have hr := B.returns
  have hts0 := atoms_spec (ws := (wsg yX3_ticksToCome cX3_ticksToCome 4 (some .int))) B.pre
  have hts : ∀ w ∈ wsL_law, w.before _ s = true := fun w h => hts0 w (List.mem_cons_of_mem _ h)
  have hown : s.vm.findClass RX3 = some m.cls := by have h9 := findClass_of_methodNamed B.named; exact h9
  have hlocks := B.notSynchronized
  subst hsz
  have hD := hD0.self (sz := s.heap.size)
  generalize hAe : va_A (WC cy ad ks g u0) s.heap.size = A at hD hE ⊢
  have hA : ∀ q : Nat, s.heap.size ≤ q → A q := fun q h => by rw [← hAe]; exact Or.inr h
  have hS : va_S A s.heap s.heap [] := va_S.rf
  have hl := lv_entry ([.ref (ad (.ln L)), .int a1]) (n := 4) (Nat.le_of_ble_eq_true rfl)
  rw [lg_entry_eq]
  generalize (lg_sl ([.ref (ad (.ln L)), .int a1]) ++ List.replicate (4 - (lg_sl ([.ref (ad (.ln L)), .int a1])).length) Slot.unset).toArray = ls at hl ⊢
  have hl : lv_has ls 4 [(0, .ref (ad (.ln L))), (1, .int a1)] := hl
  generalize hHe : s.heap = H at hP hS ⊢
  have hS : va_S A s.heap H [] := by rw [hHe]; exact hS
  refine my_Q (fun Qn hQ => ?_)
  simp only [C3_ticksToCome] at hF
  refine lv_iconst (v := 0) hx hb dX3_ticksToCome_0 (by decide) ?_
  refine lv_istore_n (lv' := [(2, .int 0), (0, .ref (ad (.ln L))), (1, .int a1)]) hx hb dX3_ticksToCome_1 rfl hl (by decide) rfl (fun ls hl => ?_)
  refine lv_iconst (v := 0) hx hb dX3_ticksToCome_2 (by decide) ?_
  refine lv_istore_n (lv' := [(3, .int 0), (2, .int 0), (0, .ref (ad (.ln L))), (1, .int a1)]) hx hb dX3_ticksToCome_3 rfl hl (by decide) rfl (fun ls hl => ?_)
  obtain ⟨t3, hL4, hF⟩ := ob hF
  have kx5 : ∀ (H : Heap) (locs : List Loc) (ls : Array Slot), va_P (dC, dI) vwCl (WC cy ad ks g u0) H → va_D A (WC cy ad ks g u0) → va_S A s.heap H locs → lv_has ls 4 [(3, .int (t3.1)), (2, .int (t3.2)), (0, .ref (ad (.ln L))), (1, .int a1)] → W p l e (headSpec (wsg yX3_ticksToCome cX3_ticksToCome 4 (some .int)) ({ frames := 10, cells := 0, slots := 0, locals := 500 })).room s m ([.ref (ad (.ln L)), .int a1] : List Value).toArray below meth c H locs 0 0 Qn (F0 m 51 ls []) := by
    intro H locs ls hP hD hS hl
    refine lv_iload_n hx hb dX3_ticksToCome_51 rfl (lv_at hl 1 rfl) ?_
    have hZ := s1 hF
    have zro : (t3.2) = ro := hZ
    have hP9 : va_P (dC, dI) vwCl (WC cy ad ks g u0) H := by exact hP
    have hD9 : va_D A (WC cy ad ks g u0) := by exact hD
    rw [hQ]
    exact W.iret (v := (t3.2)) hx hb hr (fun t ht hW => ⟨⟨(t3.2), (), rfl, zro, by rw [ht]; exact hP9, hD9⟩, hS.F ht⟩) hS.2.2 dX3_ticksToCome_52
  clear hF
  have loop7 : ∀ (m8 : Nat) (y1 : Int32) (y2 : Int32), C3_ticksToCome_L4 L a1 g u0 m8 y1 y2 = some t3 → ∀ (H : Heap) (locs : List Loc) (ls : Array Slot), va_P (dC, dI) vwCl (WC cy ad ks g u0) H → va_D A (WC cy ad ks g u0) → va_S A s.heap H locs → lv_has ls 4 [(3, .int y1), (2, .int y2), (0, .ref (ad (.ln L))), (1, .int a1)] → W p l e (headSpec (wsg yX3_ticksToCome cX3_ticksToCome 4 (some .int)) ({ frames := 10, cells := 0, slots := 0, locals := 500 })).room s m ([.ref (ad (.ln L)), .int a1] : List Value).toArray below meth c H locs 0 0 Qn (F0 m 4 ls []) := by
    intro m8
    induction m8 with
    | zero => intro y1 y2 hF; cases hF
    | succ m8 ih =>
      intro y1 y2 hF H locs ls hP hD hS hl
      simp only [C3_ticksToCome_L4] at hF
      refine lv_iload_n hx hb dX3_ticksToCome_4 rfl (lv_at hl 0 rfl) ?_
      refine lv_aload_n hx hb dX3_ticksToCome_5 rfl (lv_at hl 2 rfl) ?_
      obtain ⟨q9, h9⟩ := wc_at (cy := cy) (ad := ad) (ks := ks) (g := g) (u := u0) (κ := (.ln L)) hk.1 h_L
      refine va_get (D := (dC, dI)) (ci := 3) (v := .int (u0 (10 + L) 9)) (C := RX3) (T := TX3) (N := 17) hx hb hts inlX3 hown hK hP q9 h9 rfl 9 (by decide) (hts _ mw_88) (fun _ h9 => h9) rfl dX3_ticksToCome_6 ?_
      clear h9
      refine lv_icmp_ge (tgt := 51) hx hb dX3_ticksToCome_9 (by decide) (fun c9 => ?_) (fun c9 => ?_)
      · rw [if_pos c9] at hF
        have ht := s1 hF
        subst ht
        exact kx5 _ _ _ hP hD hS (lv_sub hl [0, 1, 2, 3] rfl)
      · rw [if_neg c9] at hF
        refine lv_aload_n hx hb dX3_ticksToCome_12 rfl (lv_at hl 2 rfl) ?_
        obtain ⟨q9, h9⟩ := wc_at (cy := cy) (ad := ad) (ks := ks) (g := g) (u := u0) (κ := (.ln L)) hk.1 h_L
        refine va_get (D := (dC, dI)) (ci := 3) (v := .ref (ad (.cs L))) (C := RX3) (T := TX3) (N := 17) hx hb hts inlX3 hown hK hP q9 h9 rfl 12 (by decide) (hts _ mw_45) (fun _ h9 => h9) rfl dX3_ticksToCome_13 ?_
        clear h9
        refine lv_iload_n hx hb dX3_ticksToCome_16 rfl (lv_at hl 0 rfl) ?_
        obtain ⟨n10, e11, hF⟩ := ob hF
        obtain ⟨q9, h9⟩ := wc_at (cy := cy) (ad := ad) (ks := ks) (g := g) (u := u0) (κ := (.cs L)) hk.1 h_L
        refine va_aldq hx hb hK hP q9 8 h9 rfl (ix_in e11) dX3_ticksToCome_17 ?_
        refine my_top (y := .ref (ad (.cd L n10))) (ixv (F := fun j => ad (.cd L j)) e11) ?_
        clear h9
        obtain ⟨x12, e13, hF⟩ := ob hF
        have hPc := hP
        have hDc := hD
        have hFc := my_free hD hS hA
        obtain ⟨q8, h8⟩ := wc_at (cy := cy) (ad := ad) (ks := ks) (g := g) (u := u0) (κ := (.cd L n10)) hk.1 ⟨h_L, (ix_lt e11)⟩
        refine va_calli (va_runV (As := []) (rest := []) ⟨hx, hb, hml, hown, hts⟩ (c_X1_isFinished l dC dI cy nb ad ks g hk u0 L n10 (x12) H.size ⟨h_L, (ix_lt e11)⟩ e13) (cwV 0 hts (gV mw_950 mw_951 mw_952 mw_54 mw_953) rfl rfl rfl (by decide +kernel) ⟨Nat.le_of_ble_eq_true rfl, Nat.le_of_ble_eq_true rfl⟩) (my_preV hPc hK hDc hE hS hFc (va_recv (q := (RX1, TX1, 9)) hK hP (ci := 2) (q0 := q8) rfl h8)) rfl rfl hl.1 rfl (lv_room (Nat.le_of_ble_eq_true rfl)) dX3_ticksToCome_18 ⟨Nat.le_of_ble_eq_true rfl, Nat.le_of_ble_eq_true rfl⟩) hS (fun q _ h => hFc q h) hFc (fun r u t H1 locs ht hvm hw hB hz1 hk1 hS => ?_)
        clear h8
        obtain ⟨hP1, hD1⟩ := hB
        rw [ht] at hP1
        have hP := hP1
        have hD := hD1.weaken (fun k q _ h => hFc q.1 h)
        generalize H1 = H at hP hS ⊢
        clear hP1 hD1 hPc hDc hFc hk1 hz1 hvm ht
        obtain rfl := hw.symm
        obtain ⟨t15, hJ16, hF⟩ := ob hF
        have join17 : ∀ (H : Heap) (locs : List Loc) (ls : Array Slot), va_P (dC, dI) vwCl (WC cy ad ks g u0) H → va_D A (WC cy ad ks g u0) → va_S A s.heap H locs → lv_has ls 4 [(3, .int y1), (2, .int t15), (0, .ref (ad (.ln L))), (1, .int a1)] → W p l e (headSpec (wsg yX3_ticksToCome cX3_ticksToCome 4 (some .int)) ({ frames := 10, cells := 0, slots := 0, locals := 500 })).room s m ([.ref (ad (.ln L)), .int a1] : List Value).toArray below meth c H locs 0 0 Qn (F0 m 45 ls []) := by
          intro H locs ls hP hD hS hl
          refine lv_iinc (v := (y1 + 1)) (lv' := [(3, .int (y1 + 1)), (2, .int t15), (0, .ref (ad (.ln L))), (1, .int a1)]) hx hb dX3_ticksToCome_45 hl (k := 0) rfl (by rfl) (by decide) rfl (fun ls hl => ?_)
          refine lv_goto (tgt := 4) hx hb dX3_ticksToCome_48 (by decide) ?_
          exact ih _ _ hF _ _ _ hP hD hS (lv_sub hl [0, 1, 2, 3] rfl)
        clear hF
        have hF := hJ16
        clear hJ16
        refine lv_if_ne (tgt := 45) hx hb dX3_ticksToCome_21 (by decide) (fun c14 => ?_) (fun c14 => ?_)
        · rw [if_neg c14] at hF
          have ht := s1 hF
          subst ht
          exact join17 _ _ _ hP hD hS (lv_sub hl [0, 1, 2, 3] rfl)
        · rw [if_pos c14] at hF
          refine lv_iload_n hx hb dX3_ticksToCome_24 rfl (lv_at hl 1 rfl) ?_
          refine lv_aload_n hx hb dX3_ticksToCome_25 rfl (lv_at hl 2 rfl) ?_
          obtain ⟨q9, h9⟩ := wc_at (cy := cy) (ad := ad) (ks := ks) (g := g) (u := u0) (κ := (.ln L)) hk.1 h_L
          refine va_get (D := (dC, dI)) (ci := 3) (v := .ref (ad (.ss L))) (C := RX3) (T := TX3) (N := 17) hx hb hts inlX3 hown hK hP q9 h9 rfl 10 (by decide) (hts _ mw_41) (fun _ h9 => h9) rfl dX3_ticksToCome_26 ?_
          clear h9
          refine lv_iload_n hx hb dX3_ticksToCome_29 rfl (lv_at hl 3 rfl) ?_
          obtain ⟨n18, e19, hF⟩ := ob hF
          obtain ⟨q9, h9⟩ := wc_at (cy := cy) (ad := ad) (ks := ks) (g := g) (u := u0) (κ := (.ss L)) hk.1 h_L
          refine va_aldq hx hb hK hP q9 6 h9 rfl (ix_in e19) dX3_ticksToCome_30 ?_
          refine my_top (y := .ref (ad (.st L n18))) (ixv (F := fun j => ad (.st L j)) e19) ?_
          clear h9
          refine lv_aload_n hx hb dX3_ticksToCome_31 rfl (lv_at hl 2 rfl) ?_
          obtain ⟨q9, h9⟩ := wc_at (cy := cy) (ad := ad) (ks := ks) (g := g) (u := u0) (κ := (.ln L)) hk.1 h_L
          refine va_get (D := (dC, dI)) (ci := 3) (v := .ref (ad (.cs L))) (C := RX3) (T := TX3) (N := 17) hx hb hts inlX3 hown hK hP q9 h9 rfl 12 (by decide) (hts _ mw_45) (fun _ h9 => h9) rfl dX3_ticksToCome_32 ?_
          clear h9
          refine lv_iload_n hx hb dX3_ticksToCome_35 rfl (lv_at hl 0 rfl) ?_
          obtain ⟨n20, e21, hF⟩ := ob hF
          obtain ⟨q9, h9⟩ := wc_at (cy := cy) (ad := ad) (ks := ks) (g := g) (u := u0) (κ := (.cs L)) hk.1 h_L
          refine va_aldq hx hb hK hP q9 8 h9 rfl (ix_in e21) dX3_ticksToCome_36 ?_
          refine my_top (y := .ref (ad (.cd L n20))) (ixv (F := fun j => ad (.cd L j)) e21) ?_
          clear h9
          obtain ⟨q9, h9⟩ := wc_at (cy := cy) (ad := ad) (ks := ks) (g := g) (u := u0) (κ := (.cd L n20)) hk.1 ⟨h_L, (ix_lt e21)⟩
          refine va_get (D := (dC, dI)) (ci := 2) (v := .ref (ad (.tx (u0 (10 + L) (137 + 25 * n20 + 2)).toNatClampNeg))) (C := RX1) (T := TX1) (N := 9) hx hb hts inlX1 hown hK hP q9 h9 rfl 2 (by decide) (hts _ mw_949) (fun _ h9 => h9) rfl dX3_ticksToCome_37 ?_
          clear h9
          obtain ⟨x22, e23, hF⟩ := ob hF
          have hPc := hP
          have hDc := hD
          have hFc := my_free hD hS hA
          obtain ⟨q8, h8⟩ := wc_at (cy := cy) (ad := ad) (ks := ks) (g := g) (u := u0) (κ := (.st L n18)) hk.1 ⟨h_L, (ix_lt e19)⟩
          refine va_calli (va_runV (As := [.ref (ad (.tx (u0 (10 + L) (137 + 25 * n20 + 2)).toNatClampNeg))]) (rest := [.int y2]) ⟨hx, hb, hml, hown, hts⟩ (c_X6_ticksOf l dC dI cy nb ad ks g hk u0 L n18 (u0 (10 + L) (137 + 25 * n20 + 2)) (x22) H.size ⟨h_L, (ix_lt e19)⟩ e23) (cwV 1 hts (gV mw_954 mw_844 mw_845 mw_50 mw_846) rfl rfl rfl (by decide +kernel) ⟨Nat.le_of_ble_eq_true rfl, Nat.le_of_ble_eq_true rfl⟩) (my_preV hPc hK hDc hE hS hFc (va_recv (q := (RX6, TX6, 15)) hK hP (ci := 6) (q0 := q8) rfl h8)) rfl rfl hl.1 rfl (lv_room (Nat.le_of_ble_eq_true rfl)) dX3_ticksToCome_40 ⟨Nat.le_of_ble_eq_true rfl, Nat.le_of_ble_eq_true rfl⟩) hS (fun q _ h => hFc q h) hFc (fun r u t H1 locs ht hvm hw hB hz1 hk1 hS => ?_)
          clear h8
          obtain ⟨hP1, hD1⟩ := hB
          rw [ht] at hP1
          have hP := hP1
          have hD := hD1.weaken (fun k q _ h => hFc q.1 h)
          generalize H1 = H at hP hS ⊢
          clear hP1 hD1 hPc hDc hFc hk1 hz1 hvm ht
          obtain rfl := hw.symm
          refine lv_iadd hx hb dX3_ticksToCome_43 ?_
          refine lv_istore_n (lv' := [(2, .int (y2 + x22)), (3, .int y1), (0, .ref (ad (.ln L))), (1, .int a1)]) hx hb dX3_ticksToCome_44 rfl hl (by decide) rfl (fun ls hl => ?_)
          have ht := s1 hF
          subst ht
          exact join17 _ _ _ hP hD hS (lv_sub hl [1, 0, 2, 3] rfl)
  exact loop7 FUEL _ _ hL4 _ _ _ hP hD hS (lv_sub hl [0, 1, 2, 3] rfl)
noncomputable def C5_add_L45 (t3 : Int32 × Int32) (a1 : Int64) (g : CG) : Nat → Int32 → RS → Option (Int32 × RS)
  | 0, _, _ => none
  | m15 + 1, y8, u9 => if y8 < 0 then (some ((y8, u9))) else ((if (((a1.toUInt64 >>> ((y8).toInt64.toUInt64 &&& Int64.toUInt64 63)).toInt64).toInt32).toInt8.toInt32 = 0 then (some u9) else (if 600 ≤ (u9 0 5) then (some u9) else ((ws u9 3 600 (u9 0 5) (vp_nar .byte (((a1.toUInt64 >>> ((y8).toInt64.toUInt64 &&& Int64.toUInt64 63)).toInt64).toInt32).toInt8.toInt32)).bind fun u22 => (pt u22 0 5 ((u22 0 5) + 1)).bind fun u24 => some u24)) : Option (RS)).bind fun t18 => C5_add_L45 t3 a1 g m15 ((y8 + (-8))) t18)
noncomputable def C5_add_L9 (a1 : Int64) (g : CG) (u0 : RS) : Nat → Int32 → Int32 → Option (Int32 × Int32)
  | 0, _, _ => none
  | m27 + 1, y1, y2 => if y1 < 0 then (some ((y1, y2))) else ((if (((a1.toUInt64 >>> ((y1).toInt64.toUInt64 &&& Int64.toUInt64 63)).toInt64).toInt32).toInt8.toInt32 = 0 then (some y2) else (some (y2 + 1)) : Option (Int32)).bind fun t30 => C5_add_L9 a1 g u0 m27 ((y1 + (-8))) (t30))
noncomputable def C5_add (g : CG) (u0 : RS) (a1 : Int64) : Option (Int32 × RS) := (C5_add_L9 a1 g u0 FUEL (56 : Int32) ((u0 0 5))).bind fun t3 => if (t3.2) ≤ 600 then ((C5_add_L45 t3 a1 g FUEL (56 : Int32) u0).bind fun t10 => some ((1 : Int32), (t10.2))) else (some ((0 : Int32), u0))
set_option maxHeartbeats 4000000 in
set_option maxRecDepth 100000 in
theorem c_X5_add (l : Launch) (dC : Nat → ClassId) (dI : Nat → Nat → Nat) (cy : Nat → ClassId) (nb : Nat → Nat) (ad : CK → Nat) (ks : List CK) (g : CG) (hk : GA nb ad g ks) (u0 : RS) (a1 : Int64) (ro : Int32) (uz : RS) (sz : Nat) (hF : C5_add g u0 a1 = some (ro, uz)) : Met l yX5_add (wsg yX5_add cX5_add 6 (some .boolean)) ({ frames := 7, cells := 0, slots := 0, locals := 200 }) (va_Pc [.ref (ad .rd), .long a1] (fun U => U.heap.size = sz ∧ va_P (dC, dI) vwCl (WC cy ad ks g u0) U.heap ∧ va_K (dC, dI) vwCl (tyL cy) U ∧ va_D (fun _ => True) (WC cy ad ks g u0) ∧ GE nb (va_A (WC cy ad ks g u0) sz) U)) (va_Qi (fun (r : Int32) (_ : Unit) => r = ro) (fun _ t => va_P (dC, dI) vwCl (WC cy ad ks g uz) t.heap ∧ va_D (va_A (WC cy ad ks g u0) sz) (WC cy ad ks g uz)) (va_A (WC cy ad ks g u0) sz)) 0 0 (va_A (WC cy ad ks g u0) sz) := by
  refine Met.ofW (cc := cX5_add) (maxL := 6) (ret := (some .boolean)) pn_X5 rfl ?_
  intro p e s m args below meth c s₁ B hml hv
  obtain ⟨rfl, hsz, hP, hK, hD0, hE⟩ := hv
  have hx := B.exec
  have hb := B.bytes
  have hr := B.returns
  have hts0 := atoms_spec (ws := (wsg yX5_add cX5_add 6 (some .boolean))) B.pre
  have hts : ∀ w ∈ wsL_law, w.before _ s = true := fun w h => hts0 w (List.mem_cons_of_mem _ h)
  have hown : s.vm.findClass RX5 = some m.cls := by have h9 := findClass_of_methodNamed B.named; exact h9
  have hlocks := B.notSynchronized
  subst hsz
  have hD := hD0.self (sz := s.heap.size)
  generalize hAe : va_A (WC cy ad ks g u0) s.heap.size = A at hD hE ⊢
  have hA : ∀ q : Nat, s.heap.size ≤ q → A q := fun q h => by rw [← hAe]; exact Or.inr h
  have hS : va_S A s.heap s.heap [] := va_S.rf
  have hl := lv_entry ([.ref (ad .rd), .long a1]) (n := 6) (Nat.le_of_ble_eq_true rfl)
  rw [lg_entry_eq]
  generalize (lg_sl ([.ref (ad .rd), .long a1]) ++ List.replicate (6 - (lg_sl ([.ref (ad .rd), .long a1])).length) Slot.unset).toArray = ls at hl ⊢
  have hl : lv_has ls 6 [(0, .ref (ad .rd)), (1, .long a1)] := hl
  generalize hHe : s.heap = H at hP hS ⊢
  have hS : va_S A s.heap H [] := by rw [hHe]; exact hS
  refine my_Q (fun Qn hQ => ?_)
  simp only [C5_add] at hF
  refine lv_aload_n hx hb dX5_add_0 rfl (lv_at hl 0 rfl) ?_
  obtain ⟨q9, h9⟩ := wc_at (cy := cy) (ad := ad) (ks := ks) (g := g) (u := u0) (κ := .rd) hk.1 True.intro
  refine va_get (D := (dC, dI)) (ci := 5) (v := .int (u0 0 5)) (C := RX5) (T := TX5) (N := 11) hx hb hts inlX5 hown hK hP q9 h9 rfl 1 (by decide) (hts _ mw_122) (fun _ h9 => h9) rfl dX5_add_1 ?_
  clear h9
  refine lv_istore_n (lv' := [(3, .int (u0 0 5)), (0, .ref (ad .rd)), (1, .long a1)]) hx hb dX5_add_4 rfl hl (by decide) rfl (fun ls hl => ?_)
  refine lv_bipush (v := 56) hx hb dX5_add_5 (by decide) ?_
  refine lv_istore (lv' := [(4, .int 56), (3, .int (u0 0 5)), (0, .ref (ad .rd)), (1, .long a1)]) hx hb dX5_add_7 hl (by decide) rfl (fun ls hl => ?_)
  obtain ⟨t3, hL4, hF⟩ := ob hF
  have kx5 : ∀ (H : Heap) (locs : List Loc) (ls : Array Slot), va_P (dC, dI) vwCl (WC cy ad ks g u0) H → va_D A (WC cy ad ks g u0) → va_S A s.heap H locs → lv_has ls 6 [(4, .int (t3.1)), (3, .int (t3.2)), (0, .ref (ad .rd)), (1, .long a1)] → W p l e (headSpec (wsg yX5_add cX5_add 6 (some .boolean)) ({ frames := 7, cells := 0, slots := 0, locals := 200 })).room s m ([.ref (ad .rd), .long a1] : List Value).toArray below meth c H locs 0 0 Qn (F0 m 32 ls []) := by
    intro H locs ls hP hD hS hl
    refine lv_iload_n hx hb dX5_add_32 rfl (lv_at hl 1 rfl) ?_
    refine lv_sipush (v := 600) hx hb dX5_add_33 (by decide) ?_
    refine lv_icmp_le (tgt := 41) hx hb dX5_add_36 (by decide) (fun c7 => ?_) (fun c7 => ?_)
    · rw [if_pos c7] at hF
      refine lv_bipush (v := 56) hx hb dX5_add_41 (by decide) ?_
      refine lv_istore (lv' := [(4, .int 56), (3, .int (t3.2)), (0, .ref (ad .rd)), (1, .long a1)]) hx hb dX5_add_43 hl (by decide) rfl (fun ls hl => ?_)
      obtain ⟨t10, hL11, hF⟩ := ob hF
      have kx12 : ∀ (H : Heap) (locs : List Loc) (ls : Array Slot), va_P (dC, dI) vwCl (WC cy ad ks g (t10.2)) H → va_D A (WC cy ad ks g (t10.2)) → va_S A s.heap H locs → lv_has ls 6 [(4, .int (t10.1)), (3, .int (t3.2)), (0, .ref (ad .rd)), (1, .long a1)] → W p l e (headSpec (wsg yX5_add cX5_add 6 (some .boolean)) ({ frames := 7, cells := 0, slots := 0, locals := 200 })).room s m ([.ref (ad .rd), .long a1] : List Value).toArray below meth c H locs 0 0 Qn (F0 m 100 ls []) := by
        intro H locs ls hP hD hS hl
        refine lv_iconst (v := 1) hx hb dX5_add_100 (by decide) ?_
        have hZ := s1 hF
        have zro : (1 : Int32) = ro := (congrArg (fun q => q.1) hZ)
        have zuz : (t10.2) = uz := (congrArg (fun q => q.2) hZ)
        have hP9 : va_P (dC, dI) vwCl (WC cy ad ks g uz) H := by rw [← zuz]; exact hP
        have hD9 : va_D A (WC cy ad ks g uz) := by rw [← zuz]; exact hD
        rw [hQ]
        exact W.zret (v := (1 : Int32)) hx hb hr (by rfl) (fun t ht hW => ⟨⟨(1 : Int32), (), rfl, zro, by rw [ht]; exact hP9, hD9⟩, hS.F ht⟩) hS.2.2 dX5_add_101
      clear hF
      have loop14 : ∀ (m15 : Nat) (y8 : Int32) (u9 : RS), C5_add_L45 t3 a1 g m15 y8 u9 = some t10 → ∀ (H : Heap) (locs : List Loc) (ls : Array Slot), va_P (dC, dI) vwCl (WC cy ad ks g u9) H → va_D A (WC cy ad ks g u9) → va_S A s.heap H locs → lv_has ls 6 [(4, .int y8), (3, .int (t3.2)), (0, .ref (ad .rd)), (1, .long a1)] → W p l e (headSpec (wsg yX5_add cX5_add 6 (some .boolean)) ({ frames := 7, cells := 0, slots := 0, locals := 200 })).room s m ([.ref (ad .rd), .long a1] : List Value).toArray below meth c H locs 0 0 Qn (F0 m 45 ls []) := by
        intro m15
        induction m15 with
        | zero => intro y8 u9 hF; cases hF
        | succ m15 ih =>
          intro y8 u9 hF H locs ls hP hD hS hl
          simp only [C5_add_L45] at hF
          refine lv_iload hx hb dX5_add_45 (lv_at hl 0 rfl) ?_
          refine lv_if_lt (tgt := 100) hx hb dX5_add_47 (by decide) (fun c16 => ?_) (fun c16 => ?_)
          · rw [if_pos c16] at hF
            have ht := s1 hF
            subst ht
            exact kx12 _ _ _ hP hD hS (lv_sub hl [0, 1, 2, 3] rfl)
          · rw [if_neg c16] at hF
            refine lv_lload_n hx hb dX5_add_50 rfl (lv_at hl 3 rfl) ?_
            refine lv_iload hx hb dX5_add_51 (lv_at hl 0 rfl) ?_
            refine lv_lushr (v := (a1.toUInt64 >>> ((y8).toInt64.toUInt64 &&& Int64.toUInt64 63)).toInt64) hx hb dX5_add_53 rfl ?_
            refine lv_l2i (v := ((a1.toUInt64 >>> ((y8).toInt64.toUInt64 &&& Int64.toUInt64 63)).toInt64).toInt32) hx hb dX5_add_54 rfl ?_
            refine lv_i2b (v := (((a1.toUInt64 >>> ((y8).toInt64.toUInt64 &&& Int64.toUInt64 63)).toInt64).toInt32).toInt8.toInt32) hx hb dX5_add_55 rfl ?_
            refine lv_istore (lv' := [(5, .int (((a1.toUInt64 >>> ((y8).toInt64.toUInt64 &&& Int64.toUInt64 63)).toInt64).toInt32).toInt8.toInt32), (4, .int y8), (3, .int (t3.2)), (0, .ref (ad .rd)), (1, .long a1)]) hx hb dX5_add_56 hl (by decide) rfl (fun ls hl => ?_)
            refine lv_iload hx hb dX5_add_58 (lv_at hl 0 rfl) ?_
            obtain ⟨t18, hJ19, hF⟩ := ob hF
            have join20 : ∀ (H : Heap) (locs : List Loc) (ls : Array Slot), va_P (dC, dI) vwCl (WC cy ad ks g t18) H → va_D A (WC cy ad ks g t18) → va_S A s.heap H locs → lv_has ls 6 [(5, .int (((a1.toUInt64 >>> ((y8).toInt64.toUInt64 &&& Int64.toUInt64 63)).toInt64).toInt32).toInt8.toInt32), (4, .int y8), (3, .int (t3.2)), (0, .ref (ad .rd)), (1, .long a1)] → W p l e (headSpec (wsg yX5_add cX5_add 6 (some .boolean)) ({ frames := 7, cells := 0, slots := 0, locals := 200 })).room s m ([.ref (ad .rd), .long a1] : List Value).toArray below meth c H locs 0 0 Qn (F0 m 94 ls []) := by
              intro H locs ls hP hD hS hl
              refine lv_iinc (v := (y8 + (-8))) (lv' := [(4, .int (y8 + (-8))), (5, .int (((a1.toUInt64 >>> ((y8).toInt64.toUInt64 &&& Int64.toUInt64 63)).toInt64).toInt32).toInt8.toInt32), (3, .int (t3.2)), (0, .ref (ad .rd)), (1, .long a1)]) hx hb dX5_add_94 hl (k := 1) rfl (by rfl) (by decide) rfl (fun ls hl => ?_)
              refine lv_goto (tgt := 45) hx hb dX5_add_97 (by decide) ?_
              exact ih _ _ hF _ _ _ hP hD hS (lv_sub hl [0, 2, 3, 4] rfl)
            clear hF
            have hF := hJ19
            clear hJ19
            refine lv_if_eq (tgt := 94) hx hb dX5_add_60 (by decide) (fun c17 => ?_) (fun c17 => ?_)
            · rw [if_pos c17] at hF
              have ht := s1 hF
              subst ht
              exact join20 _ _ _ hP hD hS (lv_sub hl [0, 1, 2, 3, 4] rfl)
            · rw [if_neg c17] at hF
              refine lv_aload_n hx hb dX5_add_63 rfl (lv_at hl 3 rfl) ?_
              obtain ⟨q9, h9⟩ := wc_at (cy := cy) (ad := ad) (ks := ks) (g := g) (u := u9) (κ := .rd) hk.1 True.intro
              refine va_get (D := (dC, dI)) (ci := 5) (v := .int (u9 0 5)) (C := RX5) (T := TX5) (N := 11) hx hb hts inlX5 hown hK hP q9 h9 rfl 1 (by decide) (hts _ mw_122) (fun _ h9 => h9) rfl dX5_add_64 ?_
              clear h9
              refine lv_sipush (v := 600) hx hb dX5_add_67 (by decide) ?_
              refine lv_icmp_ge (tgt := 94) hx hb dX5_add_70 (by decide) (fun c21 => ?_) (fun c21 => ?_)
              · rw [if_pos c21] at hF
                have ht := s1 hF
                subst ht
                exact join20 _ _ _ hP hD hS (lv_sub hl [0, 1, 2, 3, 4] rfl)
              · rw [if_neg c21] at hF
                refine lv_aload_n hx hb dX5_add_73 rfl (lv_at hl 3 rfl) ?_
                obtain ⟨q9, h9⟩ := wc_at (cy := cy) (ad := ad) (ks := ks) (g := g) (u := u9) (κ := .rd) hk.1 True.intro
                refine va_get (D := (dC, dI)) (ci := 5) (v := .ref (ad .tb)) (C := RX5) (T := TX5) (N := 11) hx hb hts inlX5 hown hK hP q9 h9 rfl 0 (by decide) (hts _ mw_72) (fun _ h9 => h9) rfl dX5_add_74 ?_
                clear h9
                refine lv_aload_n hx hb dX5_add_77 rfl (lv_at hl 3 rfl) ?_
                obtain ⟨q9, h9⟩ := wc_at (cy := cy) (ad := ad) (ks := ks) (g := g) (u := u9) (κ := .rd) hk.1 True.intro
                refine va_get (D := (dC, dI)) (ci := 5) (v := .int (u9 0 5)) (C := RX5) (T := TX5) (N := 11) hx hb hts inlX5 hown hK hP q9 h9 rfl 1 (by decide) (hts _ mw_122) (fun _ h9 => h9) rfl dX5_add_78 ?_
                clear h9
                refine lv_iload hx hb dX5_add_81 (lv_at hl 0 rfl) ?_
                obtain ⟨u22, e23, hF⟩ := ob hF
                obtain ⟨q9, h9, ez9⟩ := wc_set (cy := cy) (ad := ad) (ks := ks) (g := g) (u := u9) (κ := .tb) (r := 3) (i := ((u9 0 5) : Int32).toNatClampNeg) (v := (vp_nar .byte (((a1.toUInt64 >>> ((y8).toInt64.toUInt64 &&& Int64.toUInt64 63)).toInt64).toInt32).toInt8.toInt32)) hk.1 True.intro own_tb (sf_tb)
                refine va_bast hx hb hK hP hD hS q9 0 h9 rfl (ws_in e23) dX5_add_83 (fun H locs hP hD hS => ?_)
                have hP : va_P (dC, dI) vwCl (WC cy ad ks g u22) H := by rw [← ws_eq e23, ← ez9]; exact hP
                have hD : va_D A (WC cy ad ks g u22) := by rw [← ws_eq e23, ← ez9]; exact hD
                clear ez9 h9
                refine lv_aload_n hx hb dX5_add_84 rfl (lv_at hl 3 rfl) ?_
                refine lv_dup hx hb dX5_add_85 rfl ?_
                obtain ⟨q9, h9⟩ := wc_at (cy := cy) (ad := ad) (ks := ks) (g := g) (u := u22) (κ := .rd) hk.1 True.intro
                refine va_get (D := (dC, dI)) (ci := 5) (v := .int (u22 0 5)) (C := RX5) (T := TX5) (N := 11) hx hb hts inlX5 hown hK hP q9 h9 rfl 1 (by decide) (hts _ mw_122) (fun _ h9 => h9) rfl dX5_add_86 ?_
                clear h9
                refine lv_iconst (v := 1) hx hb dX5_add_89 (by decide) ?_
                refine lv_iadd hx hb dX5_add_90 ?_
                obtain ⟨q9, h9, ez9⟩ := wc_set (cy := cy) (ad := ad) (ks := ks) (g := g) (u := u22) (κ := .rd) (r := 0) (i := 5) (v := ((u22 0 5) + 1)) hk.1 True.intro (own_rd (by decide)) (sf_rd_1)
                refine va_put (D := (dC, dI)) (ci := 5) (v := .int ((u22 0 5) + 1)) (ty := .int) (C := RX5) (T := TX5) (N := 11) hx hb hts inlX5 tyX5 tyX5_ok nmX5 hown hK hP hD hS q9 h9 rfl 1 (by decide) (hts _ mw_122) (fun _ h9 => h9) rfl (by decide +kernel) rfl rfl (Nat.le_of_ble_eq_true rfl) dX5_add_91 (fun H locs hP hD hS => ?_)
                obtain ⟨u24, e25, hF⟩ := ob hF
                have hP : va_P (dC, dI) vwCl (WC cy ad ks g u24) H := by rw [← pt_eq e25, ← ez9]; exact hP
                have hD : va_D A (WC cy ad ks g u24) := by rw [← pt_eq e25, ← ez9]; exact hD
                clear ez9 h9
                have ht := s1 hF
                subst ht
                exact join20 _ _ _ hP hD hS (lv_sub hl [0, 1, 2, 3, 4] rfl)
      exact loop14 FUEL _ _ hL11 _ _ _ hP hD hS (lv_sub hl [0, 1, 2, 3] rfl)
    · rw [if_neg c7] at hF
      refine lv_iconst (v := 0) hx hb dX5_add_39 (by decide) ?_
      have hZ := s1 hF
      have zro : (0 : Int32) = ro := (congrArg (fun q => q.1) hZ)
      have zuz : u0 = uz := (congrArg (fun q => q.2) hZ)
      have hP9 : va_P (dC, dI) vwCl (WC cy ad ks g uz) H := by rw [← zuz]; exact hP
      have hD9 : va_D A (WC cy ad ks g uz) := by rw [← zuz]; exact hD
      rw [hQ]
      exact W.zret (v := (0 : Int32)) hx hb hr (by rfl) (fun t ht hW => ⟨⟨(0 : Int32), (), rfl, zro, by rw [ht]; exact hP9, hD9⟩, hS.F ht⟩) hS.2.2 dX5_add_40
  clear hF
  have loop26 : ∀ (m27 : Nat) (y1 : Int32) (y2 : Int32), C5_add_L9 a1 g u0 m27 y1 y2 = some t3 → ∀ (H : Heap) (locs : List Loc) (ls : Array Slot), va_P (dC, dI) vwCl (WC cy ad ks g u0) H → va_D A (WC cy ad ks g u0) → va_S A s.heap H locs → lv_has ls 6 [(4, .int y1), (3, .int y2), (0, .ref (ad .rd)), (1, .long a1)] → W p l e (headSpec (wsg yX5_add cX5_add 6 (some .boolean)) ({ frames := 7, cells := 0, slots := 0, locals := 200 })).room s m ([.ref (ad .rd), .long a1] : List Value).toArray below meth c H locs 0 0 Qn (F0 m 9 ls []) := by
    intro m27
    induction m27 with
    | zero => intro y1 y2 hF; cases hF
    | succ m27 ih =>
      intro y1 y2 hF H locs ls hP hD hS hl
      simp only [C5_add_L9] at hF
      refine lv_iload hx hb dX5_add_9 (lv_at hl 0 rfl) ?_
      refine lv_if_lt (tgt := 32) hx hb dX5_add_11 (by decide) (fun c28 => ?_) (fun c28 => ?_)
      · rw [if_pos c28] at hF
        have ht := s1 hF
        subst ht
        exact kx5 _ _ _ hP hD hS (lv_sub hl [0, 1, 2, 3] rfl)
      · rw [if_neg c28] at hF
        refine lv_lload_n hx hb dX5_add_14 rfl (lv_at hl 3 rfl) ?_
        refine lv_iload hx hb dX5_add_15 (lv_at hl 0 rfl) ?_
        refine lv_lushr (v := (a1.toUInt64 >>> ((y1).toInt64.toUInt64 &&& Int64.toUInt64 63)).toInt64) hx hb dX5_add_17 rfl ?_
        refine lv_l2i (v := ((a1.toUInt64 >>> ((y1).toInt64.toUInt64 &&& Int64.toUInt64 63)).toInt64).toInt32) hx hb dX5_add_18 rfl ?_
        refine lv_i2b (v := (((a1.toUInt64 >>> ((y1).toInt64.toUInt64 &&& Int64.toUInt64 63)).toInt64).toInt32).toInt8.toInt32) hx hb dX5_add_19 rfl ?_
        obtain ⟨t30, hJ31, hF⟩ := ob hF
        have join32 : ∀ (H : Heap) (locs : List Loc) (ls : Array Slot), va_P (dC, dI) vwCl (WC cy ad ks g u0) H → va_D A (WC cy ad ks g u0) → va_S A s.heap H locs → lv_has ls 6 [(4, .int y1), (3, .int t30), (0, .ref (ad .rd)), (1, .long a1)] → W p l e (headSpec (wsg yX5_add cX5_add 6 (some .boolean)) ({ frames := 7, cells := 0, slots := 0, locals := 200 })).room s m ([.ref (ad .rd), .long a1] : List Value).toArray below meth c H locs 0 0 Qn (F0 m 26 ls []) := by
          intro H locs ls hP hD hS hl
          refine lv_iinc (v := (y1 + (-8))) (lv' := [(4, .int (y1 + (-8))), (3, .int t30), (0, .ref (ad .rd)), (1, .long a1)]) hx hb dX5_add_26 hl (k := 0) rfl (by rfl) (by decide) rfl (fun ls hl => ?_)
          refine lv_goto (tgt := 9) hx hb dX5_add_29 (by decide) ?_
          exact ih _ _ hF _ _ _ hP hD hS (lv_sub hl [0, 1, 2, 3] rfl)
        clear hF
        have hF := hJ31
        clear hJ31
        refine lv_if_eq (tgt := 26) hx hb dX5_add_20 (by decide) (fun c29 => ?_) (fun c29 => ?_)
        · rw [if_pos c29] at hF
          have ht := s1 hF
          subst ht
          exact join32 _ _ _ hP hD hS (lv_sub hl [0, 1, 2, 3] rfl)
        · rw [if_neg c29] at hF
          refine lv_iinc (v := (y2 + 1)) (lv' := [(3, .int (y2 + 1)), (4, .int y1), (0, .ref (ad .rd)), (1, .long a1)]) hx hb dX5_add_23 hl (k := 1) rfl (by rfl) (by decide) rfl (fun ls hl => ?_)
          have ht := s1 hF
          subst ht
          exact join32 _ _ _ hP hD hS (lv_sub hl [1, 0, 2, 3] rfl)
  exact loop26 FUEL _ _ hL4 _ _ _ hP hD hS (lv_sub hl [0, 1, 2, 3] rfl)
noncomputable def C5_rowLength (g : CG) (u0 : RS) (a1 : Int32) : Option (Int32) := (if a1 = (u0 0 11) then (some (u0 0 10)) else ((rd u0 5 4 (a1 + 1)).bind fun x7 => some x7) : Option (Int32)).bind fun t2 => (rd u0 5 4 a1).bind fun x5 => some (t2 - x5)
set_option maxHeartbeats 4000000 in
set_option maxRecDepth 100000 in
theorem c_X5_rowLength (l : Launch) (dC : Nat → ClassId) (dI : Nat → Nat → Nat) (cy : Nat → ClassId) (nb : Nat → Nat) (ad : CK → Nat) (ks : List CK) (g : CG) (hk : GA nb ad g ks) (u0 : RS) (a1 : Int32) (ro : Int32) (sz : Nat) (hF : C5_rowLength g u0 a1 = some ro) : Met l yX5_rowLength (wsg yX5_rowLength cX5_rowLength 3 (some .int)) ({ frames := 7, cells := 0, slots := 0, locals := 200 }) (va_Pc [.ref (ad .rd), .int a1] (fun U => U.heap.size = sz ∧ va_P (dC, dI) vwCl (WC cy ad ks g u0) U.heap ∧ va_K (dC, dI) vwCl (tyL cy) U ∧ va_D (fun _ => True) (WC cy ad ks g u0) ∧ GE nb (va_A (WC cy ad ks g u0) sz) U)) (va_Qi (fun (r : Int32) (_ : Unit) => r = ro) (fun _ t => va_P (dC, dI) vwCl (WC cy ad ks g u0) t.heap ∧ va_D (va_A (WC cy ad ks g u0) sz) (WC cy ad ks g u0)) (va_A (WC cy ad ks g u0) sz)) 0 0 (va_A (WC cy ad ks g u0) sz) := by
  refine Met.ofW (cc := cX5_rowLength) (maxL := 3) (ret := (some .int)) pn_X5 rfl ?_
  intro p e s m args below meth c s₁ B hml hv
  obtain ⟨rfl, hsz, hP, hK, hD0, hE⟩ := hv
  have hx := B.exec
  have hb := B.bytes
  have hr := B.returns
  have hts0 := atoms_spec (ws := (wsg yX5_rowLength cX5_rowLength 3 (some .int))) B.pre
  have hts : ∀ w ∈ wsL_law, w.before _ s = true := fun w h => hts0 w (List.mem_cons_of_mem _ h)
  have hown : s.vm.findClass RX5 = some m.cls := by have h9 := findClass_of_methodNamed B.named; exact h9
  have hlocks := B.notSynchronized
  subst hsz
  have hD := hD0.self (sz := s.heap.size)
  generalize hAe : va_A (WC cy ad ks g u0) s.heap.size = A at hD hE ⊢
  have hA : ∀ q : Nat, s.heap.size ≤ q → A q := fun q h => by rw [← hAe]; exact Or.inr h
  have hS : va_S A s.heap s.heap [] := va_S.rf
  have hl := lv_entry ([.ref (ad .rd), .int a1]) (n := 3) (Nat.le_of_ble_eq_true rfl)
  rw [lg_entry_eq]
  generalize (lg_sl ([.ref (ad .rd), .int a1]) ++ List.replicate (3 - (lg_sl ([.ref (ad .rd), .int a1])).length) Slot.unset).toArray = ls at hl ⊢
  have hl : lv_has ls 3 [(0, .ref (ad .rd)), (1, .int a1)] := hl
  generalize hHe : s.heap = H at hP hS ⊢
  have hS : va_S A s.heap H [] := by rw [hHe]; exact hS
  refine my_Q (fun Qn hQ => ?_)
  simp only [C5_rowLength] at hF
  refine lv_iload_n hx hb dX5_rowLength_0 rfl (lv_at hl 1 rfl) ?_
  refine lv_aload_n hx hb dX5_rowLength_1 rfl (lv_at hl 0 rfl) ?_
  obtain ⟨q9, h9⟩ := wc_at (cy := cy) (ad := ad) (ks := ks) (g := g) (u := u0) (κ := .rd) hk.1 True.intro
  refine va_get (D := (dC, dI)) (ci := 5) (v := .int (u0 0 11)) (C := RX5) (T := TX5) (N := 11) hx hb hts inlX5 hown hK hP q9 h9 rfl 10 (by decide) (hts _ mw_284) (fun _ h9 => h9) rfl dX5_rowLength_2 ?_
  clear h9
  obtain ⟨t2, hJ3, hF⟩ := ob hF
  have join4 : ∀ (H : Heap) (locs : List Loc) (ls : Array Slot), va_P (dC, dI) vwCl (WC cy ad ks g u0) H → va_D A (WC cy ad ks g u0) → va_S A s.heap H locs → lv_has ls 3 [(0, .ref (ad .rd)), (1, .int a1)] → W p l e (headSpec (wsg yX5_rowLength cX5_rowLength 3 (some .int)) ({ frames := 7, cells := 0, slots := 0, locals := 200 })).room s m ([.ref (ad .rd), .int a1] : List Value).toArray below meth c H locs 0 0 Qn (F0 m 23 ls [.int t2]) := by
    intro H locs ls hP hD hS hl
    refine lv_istore_n (lv' := [(2, .int t2), (0, .ref (ad .rd)), (1, .int a1)]) hx hb dX5_rowLength_23 rfl hl (by decide) rfl (fun ls hl => ?_)
    refine lv_iload_n hx hb dX5_rowLength_24 rfl (lv_at hl 0 rfl) ?_
    refine lv_aload_n hx hb dX5_rowLength_25 rfl (lv_at hl 1 rfl) ?_
    obtain ⟨q9, h9⟩ := wc_at (cy := cy) (ad := ad) (ks := ks) (g := g) (u := u0) (κ := .rd) hk.1 True.intro
    refine va_get (D := (dC, dI)) (ci := 5) (v := .ref (ad .rs)) (C := RX5) (T := TX5) (N := 11) hx hb hts inlX5 hown hK hP q9 h9 rfl 7 (by decide) (hts _ mw_74) (fun _ h9 => h9) rfl dX5_rowLength_26 ?_
    clear h9
    refine lv_iload_n hx hb dX5_rowLength_29 rfl (lv_at hl 2 rfl) ?_
    obtain ⟨x5, e6, hF⟩ := ob hF
    obtain ⟨q9, h9⟩ := wc_at (cy := cy) (ad := ad) (ks := ks) (g := g) (u := u0) (κ := .rs) hk.1 True.intro
    refine va_iald hx hb hK hP q9 1 h9 rfl (rd_in e6) dX5_rowLength_30 ?_
    refine my_topi (y := x5) (rd_eq e6) ?_
    clear h9
    refine lv_isub hx hb dX5_rowLength_31 ?_
    have hZ := s1 hF
    have zro : (t2 - x5) = ro := hZ
    have hP9 : va_P (dC, dI) vwCl (WC cy ad ks g u0) H := by exact hP
    have hD9 : va_D A (WC cy ad ks g u0) := by exact hD
    rw [hQ]
    exact W.iret (v := (t2 - x5)) hx hb hr (fun t ht hW => ⟨⟨(t2 - x5), (), rfl, zro, by rw [ht]; exact hP9, hD9⟩, hS.F ht⟩) hS.2.2 dX5_rowLength_32
  clear hF
  have hF := hJ3
  clear hJ3
  refine lv_icmp_ne (tgt := 15) hx hb dX5_rowLength_5 (by decide) (fun c1 => ?_) (fun c1 => ?_)
  · rw [if_neg c1] at hF
    refine lv_aload_n hx hb dX5_rowLength_15 rfl (lv_at hl 0 rfl) ?_
    obtain ⟨q9, h9⟩ := wc_at (cy := cy) (ad := ad) (ks := ks) (g := g) (u := u0) (κ := .rd) hk.1 True.intro
    refine va_get (D := (dC, dI)) (ci := 5) (v := .ref (ad .rs)) (C := RX5) (T := TX5) (N := 11) hx hb hts inlX5 hown hK hP q9 h9 rfl 7 (by decide) (hts _ mw_74) (fun _ h9 => h9) rfl dX5_rowLength_16 ?_
    clear h9
    refine lv_iload_n hx hb dX5_rowLength_19 rfl (lv_at hl 1 rfl) ?_
    refine lv_iconst (v := 1) hx hb dX5_rowLength_20 (by decide) ?_
    refine lv_iadd hx hb dX5_rowLength_21 ?_
    obtain ⟨x7, e8, hF⟩ := ob hF
    obtain ⟨q9, h9⟩ := wc_at (cy := cy) (ad := ad) (ks := ks) (g := g) (u := u0) (κ := .rs) hk.1 True.intro
    refine va_iald hx hb hK hP q9 1 h9 rfl (rd_in e8) dX5_rowLength_22 ?_
    refine my_topi (y := x7) (rd_eq e8) ?_
    clear h9
    have ht := s1 hF
    subst ht
    exact join4 _ _ _ hP hD hS (lv_sub hl [0, 1] rfl)
  · rw [if_pos c1] at hF
    refine lv_aload_n hx hb dX5_rowLength_8 rfl (lv_at hl 0 rfl) ?_
    obtain ⟨q9, h9⟩ := wc_at (cy := cy) (ad := ad) (ks := ks) (g := g) (u := u0) (κ := .rd) hk.1 True.intro
    refine va_get (D := (dC, dI)) (ci := 5) (v := .int (u0 0 10)) (C := RX5) (T := TX5) (N := 11) hx hb hts inlX5 hown hK hP q9 h9 rfl 9 (by decide) (hts _ mw_283) (fun _ h9 => h9) rfl dX5_rowLength_9 ?_
    clear h9
    refine lv_goto (tgt := 23) hx hb dX5_rowLength_12 (by decide) ?_
    have ht := s1 hF
    subst ht
    exact join4 _ _ _ hP hD hS (lv_sub hl [0, 1] rfl)
noncomputable def C5_error (g : CG) (u0 : RS) (a1 : Int32) (a2 : Int32) : Option (RS) := (if (u0 0 7) = 0 then ((pt u0 0 7 a1).bind fun u5 => (pt u5 0 8 a2).bind fun u7 => some u7) else (some u0) : Option (RS)).bind fun t2 => some t2
set_option maxHeartbeats 4000000 in
set_option maxRecDepth 100000 in
theorem c_X5_error (l : Launch) (dC : Nat → ClassId) (dI : Nat → Nat → Nat) (cy : Nat → ClassId) (nb : Nat → Nat) (ad : CK → Nat) (ks : List CK) (g : CG) (hk : GA nb ad g ks) (u0 : RS) (a1 : Int32) (a2 : Int32) (uz : RS) (sz : Nat) (hF : C5_error g u0 a1 a2 = some uz) : Met l yX5_error (wsg yX5_error cX5_error 3 none) ({ frames := 7, cells := 0, slots := 0, locals := 200 }) (va_Pc [.ref (ad .rd), .int a1, .int a2] (fun U => U.heap.size = sz ∧ va_P (dC, dI) vwCl (WC cy ad ks g u0) U.heap ∧ va_K (dC, dI) vwCl (tyL cy) U ∧ va_D (fun _ => True) (WC cy ad ks g u0) ∧ GE nb (va_A (WC cy ad ks g u0) sz) U)) (va_Qv (fun (_ : Unit) => True) (fun _ t => va_P (dC, dI) vwCl (WC cy ad ks g uz) t.heap ∧ va_D (va_A (WC cy ad ks g u0) sz) (WC cy ad ks g uz)) (va_A (WC cy ad ks g u0) sz)) 0 0 (va_A (WC cy ad ks g u0) sz) := by
  refine Met.ofW (cc := cX5_error) (maxL := 3) (ret := none) pn_X5 rfl ?_
  intro p e s m args below meth c s₁ B hml hv
  obtain ⟨rfl, hsz, hP, hK, hD0, hE⟩ := hv
  have hx := B.exec
  have hb := B.bytes
  have hr := B.returns
  have hts0 := atoms_spec (ws := (wsg yX5_error cX5_error 3 none)) B.pre
  have hts : ∀ w ∈ wsL_law, w.before _ s = true := fun w h => hts0 w (List.mem_cons_of_mem _ h)
  have hown : s.vm.findClass RX5 = some m.cls := by have h9 := findClass_of_methodNamed B.named; exact h9
  have hlocks := B.notSynchronized
  subst hsz
  have hD := hD0.self (sz := s.heap.size)
  generalize hAe : va_A (WC cy ad ks g u0) s.heap.size = A at hD hE ⊢
  have hA : ∀ q : Nat, s.heap.size ≤ q → A q := fun q h => by rw [← hAe]; exact Or.inr h
  have hS : va_S A s.heap s.heap [] := va_S.rf
  have hl := lv_entry ([.ref (ad .rd), .int a1, .int a2]) (n := 3) (Nat.le_of_ble_eq_true rfl)
  rw [lg_entry_eq]
  generalize (lg_sl ([.ref (ad .rd), .int a1, .int a2]) ++ List.replicate (3 - (lg_sl ([.ref (ad .rd), .int a1, .int a2])).length) Slot.unset).toArray = ls at hl ⊢
  have hl : lv_has ls 3 [(0, .ref (ad .rd)), (1, .int a1), (2, .int a2)] := hl
  generalize hHe : s.heap = H at hP hS ⊢
  have hS : va_S A s.heap H [] := by rw [hHe]; exact hS
  refine my_Q (fun Qn hQ => ?_)
  simp only [C5_error] at hF
  refine lv_aload_n hx hb dX5_error_0 rfl (lv_at hl 0 rfl) ?_
  obtain ⟨q9, h9⟩ := wc_at (cy := cy) (ad := ad) (ks := ks) (g := g) (u := u0) (κ := .rd) hk.1 True.intro
  refine va_get (D := (dC, dI)) (ci := 5) (v := .int (u0 0 7)) (C := RX5) (T := TX5) (N := 11) hx hb hts inlX5 hown hK hP q9 h9 rfl 3 (by decide) (hts _ mw_149) (fun _ h9 => h9) rfl dX5_error_1 ?_
  clear h9
  obtain ⟨t2, hJ3, hF⟩ := ob hF
  have join4 : ∀ (H : Heap) (locs : List Loc) (ls : Array Slot), va_P (dC, dI) vwCl (WC cy ad ks g t2) H → va_D A (WC cy ad ks g t2) → va_S A s.heap H locs → lv_has ls 3 [(0, .ref (ad .rd)), (1, .int a1), (2, .int a2)] → W p l e (headSpec (wsg yX5_error cX5_error 3 none) ({ frames := 7, cells := 0, slots := 0, locals := 200 })).room s m ([.ref (ad .rd), .int a1, .int a2] : List Value).toArray below meth c H locs 0 0 Qn (F0 m 17 ls []) := by
    intro H locs ls hP hD hS hl
    have hZ := s1 hF
    have zuz : t2 = uz := hZ
    have hP9 : va_P (dC, dI) vwCl (WC cy ad ks g uz) H := by rw [← zuz]; exact hP
    have hD9 : va_D A (WC cy ad ks g uz) := by rw [← zuz]; exact hD
    rw [hQ]
    exact W.vret hx hb hr (fun t ht hW => ⟨⟨(), rfl, trivial, by rw [ht]; exact hP9, hD9⟩, hS.F ht⟩) hS.2.2 dX5_error_17
  clear hF
  have hF := hJ3
  clear hJ3
  refine lv_if_ne (tgt := 17) hx hb dX5_error_4 (by decide) (fun c1 => ?_) (fun c1 => ?_)
  · rw [if_neg c1] at hF
    have ht := s1 hF
    subst ht
    exact join4 _ _ _ hP hD hS (lv_sub hl [0, 1, 2] rfl)
  · rw [if_pos c1] at hF
    refine lv_aload_n hx hb dX5_error_7 rfl (lv_at hl 0 rfl) ?_
    refine lv_iload_n hx hb dX5_error_8 rfl (lv_at hl 1 rfl) ?_
    obtain ⟨q9, h9, ez9⟩ := wc_set (cy := cy) (ad := ad) (ks := ks) (g := g) (u := u0) (κ := .rd) (r := 0) (i := 7) (v := a1) hk.1 True.intro (own_rd (by decide)) (sf_rd_3)
    refine va_put (D := (dC, dI)) (ci := 5) (v := .int a1) (ty := .int) (C := RX5) (T := TX5) (N := 11) hx hb hts inlX5 tyX5 tyX5_ok nmX5 hown hK hP hD hS q9 h9 rfl 3 (by decide) (hts _ mw_149) (fun _ h9 => h9) rfl (by decide +kernel) rfl rfl (Nat.le_of_ble_eq_true rfl) dX5_error_9 (fun H locs hP hD hS => ?_)
    obtain ⟨u5, e6, hF⟩ := ob hF
    have hP : va_P (dC, dI) vwCl (WC cy ad ks g u5) H := by rw [← pt_eq e6, ← ez9]; exact hP
    have hD : va_D A (WC cy ad ks g u5) := by rw [← pt_eq e6, ← ez9]; exact hD
    clear ez9 h9
    refine lv_aload_n hx hb dX5_error_12 rfl (lv_at hl 0 rfl) ?_
    refine lv_iload_n hx hb dX5_error_13 rfl (lv_at hl 2 rfl) ?_
    obtain ⟨q9, h9, ez9⟩ := wc_set (cy := cy) (ad := ad) (ks := ks) (g := g) (u := u5) (κ := .rd) (r := 0) (i := 8) (v := a2) hk.1 True.intro (own_rd (by decide)) (sf_rd_4)
    refine va_put (D := (dC, dI)) (ci := 5) (v := .int a2) (ty := .int) (C := RX5) (T := TX5) (N := 11) hx hb hts inlX5 tyX5 tyX5_ok nmX5 hown hK hP hD hS q9 h9 rfl 4 (by decide) (hts _ mw_150) (fun _ h9 => h9) rfl (by decide +kernel) rfl rfl (Nat.le_of_ble_eq_true rfl) dX5_error_14 (fun H locs hP hD hS => ?_)
    obtain ⟨u7, e8, hF⟩ := ob hF
    have hP : va_P (dC, dI) vwCl (WC cy ad ks g u7) H := by rw [← pt_eq e8, ← ez9]; exact hP
    have hD : va_D A (WC cy ad ks g u7) := by rw [← pt_eq e8, ← ez9]; exact hD
    clear ez9 h9
    have ht := s1 hF
    subst ht
    exact join4 _ _ _ hP hD hS (lv_sub hl [0, 1, 2] rfl)
noncomputable def C5_closeGroup_L78 (x9 : Int32) (x7 : Int32) (g : CG) : Nat → Int32 → RS → Option (Int32 × RS)
  | 0, _, _ => none
  | m25 + 1, y14, u15 => if x9 ≤ y14 then (some ((y14, u15))) else ((rd u15 5 4 (u15 0 11)).bind fun x27 => (cpo 64 64 (u15 4) true x27 (u15 0 10) x7).bind fun n29 => (some (cpR u15 4 ((u15 0 10) : Int32).toNatClampNeg (u15 4) (x27 : Int32).toNatClampNeg n29)).bind fun u31 => (pt u31 0 10 ((u31 0 10) + x7)).bind fun u33 => C5_closeGroup_L78 x9 x7 g m25 ((y14 + 1)) u33)
noncomputable def C5_closeGroup (g : CG) (u0 : RS)  : Option (RS) := if (u0 0 11) = 0 then ((C5_error g u0 (1) ((u0 0 6))).bind fun u2 => some u2) else ((C5_rowLength g u0 ((u0 0 11))).bind fun x4 => if x4 = 0 then ((C5_error g u0 (1) ((u0 0 6))).bind fun u37 => some u37) else ((C5_rowLength g u0 ((u0 0 11))).bind fun x7 => (rd u0 6 4 (u0 0 11)).bind fun x9 => (C5_rowLength g u0 (((u0 0 11) - 1))).bind fun x11 => if (x11 + (x9 * x7)) ≤ 16 then ((C5_closeGroup_L78 x9 x7 g FUEL (1 : Int32) u0).bind fun t16 => (pt (t16.2) 0 11 (((t16.2) 0 11) - 1)).bind fun u20 => (pt u20 0 6 ((u20 0 6) + 1)).bind fun u22 => some u22) else ((C5_error g u0 (3) ((u0 0 6))).bind fun u35 => some u35)))
set_option maxHeartbeats 4000000 in
set_option maxRecDepth 100000 in
theorem c_X5_closeGroup (l : Launch) (dC : Nat → ClassId) (dI : Nat → Nat → Nat) (cy : Nat → ClassId) (nb : Nat → Nat) (ad : CK → Nat) (ks : List CK) (g : CG) (hk : GA nb ad g ks) (u0 : RS)  (uz : RS) (sz : Nat) (hF : C5_closeGroup g u0  = some uz) : Met l yX5_closeGroup (wsg yX5_closeGroup cX5_closeGroup 4 none) ({ frames := 8, cells := 0, slots := 0, locals := 300 }) (va_Pc [.ref (ad .rd)] (fun U => U.heap.size = sz ∧ va_P (dC, dI) vwCl (WC cy ad ks g u0) U.heap ∧ va_K (dC, dI) vwCl (tyL cy) U ∧ va_D (fun _ => True) (WC cy ad ks g u0) ∧ GE nb (va_A (WC cy ad ks g u0) sz) U)) (va_Qv (fun (_ : Unit) => True) (fun _ t => va_P (dC, dI) vwCl (WC cy ad ks g uz) t.heap ∧ va_D (va_A (WC cy ad ks g u0) sz) (WC cy ad ks g uz)) (va_A (WC cy ad ks g u0) sz)) 0 0 (va_A (WC cy ad ks g u0) sz) := by
  refine Met.ofW (cc := cX5_closeGroup) (maxL := 4) (ret := none) pn_X5 rfl ?_
  intro p e s m args below meth c s₁ B hml hv
  obtain ⟨rfl, hsz, hP, hK, hD0, hE⟩ := hv
  have hx := B.exec
  have hb := B.bytes
  have hr := B.returns
  have hts0 := atoms_spec (ws := (wsg yX5_closeGroup cX5_closeGroup 4 none)) B.pre
  have hts : ∀ w ∈ wsL_law, w.before _ s = true := fun w h => hts0 w (List.mem_cons_of_mem _ h)
  have hown : s.vm.findClass RX5 = some m.cls := by have h9 := findClass_of_methodNamed B.named; exact h9
  have hlocks := B.notSynchronized
  subst hsz
  have hD := hD0.self (sz := s.heap.size)
  generalize hAe : va_A (WC cy ad ks g u0) s.heap.size = A at hD hE ⊢
  have hA : ∀ q : Nat, s.heap.size ≤ q → A q := fun q h => by rw [← hAe]; exact Or.inr h
  have hS : va_S A s.heap s.heap [] := va_S.rf
  have hl := lv_entry ([.ref (ad .rd)]) (n := 4) (Nat.le_of_ble_eq_true rfl)
  rw [lg_entry_eq]
  generalize (lg_sl ([.ref (ad .rd)]) ++ List.replicate (4 - (lg_sl ([.ref (ad .rd)])).length) Slot.unset).toArray = ls at hl ⊢
  have hl : lv_has ls 4 [(0, .ref (ad .rd))] := hl
  generalize hHe : s.heap = H at hP hS ⊢
  have hS : va_S A s.heap H [] := by rw [hHe]; exact hS
  refine my_Q (fun Qn hQ => ?_)
  simp only [C5_closeGroup] at hF
  refine lv_aload_n hx hb dX5_closeGroup_0 rfl (lv_at hl 0 rfl) ?_
  obtain ⟨q9, h9⟩ := wc_at (cy := cy) (ad := ad) (ks := ks) (g := g) (u := u0) (κ := .rd) hk.1 True.intro
  refine va_get (D := (dC, dI)) (ci := 5) (v := .int (u0 0 11)) (C := RX5) (T := TX5) (N := 11) hx hb hts inlX5 hown hK hP q9 h9 rfl 10 (by decide) (hts _ mw_284) (fun _ h9 => h9) rfl dX5_closeGroup_1 ?_
  clear h9
  refine lv_if_eq (tgt := 18) hx hb dX5_closeGroup_4 (by decide) (fun c1 => ?_) (fun c1 => ?_)
  · rw [if_pos c1] at hF
    refine lv_aload_n hx hb dX5_closeGroup_18 rfl (lv_at hl 0 rfl) ?_
    refine lv_iconst (v := 1) hx hb dX5_closeGroup_19 (by decide) ?_
    refine lv_aload_n hx hb dX5_closeGroup_20 rfl (lv_at hl 0 rfl) ?_
    obtain ⟨q9, h9⟩ := wc_at (cy := cy) (ad := ad) (ks := ks) (g := g) (u := u0) (κ := .rd) hk.1 True.intro
    refine va_get (D := (dC, dI)) (ci := 5) (v := .int (u0 0 6)) (C := RX5) (T := TX5) (N := 11) hx hb hts inlX5 hown hK hP q9 h9 rfl 2 (by decide) (hts _ mw_148) (fun _ h9 => h9) rfl dX5_closeGroup_21 ?_
    clear h9
    obtain ⟨u2, e3, hF⟩ := ob hF
    have hPc := hP
    have hDc := hD
    have hFc := my_free hD hS hA
    obtain ⟨q8, h8⟩ := wc_at (cy := cy) (ad := ad) (ks := ks) (g := g) (u := u0) (κ := .rd) hk.1 True.intro
    refine va_callv (va_runV (As := [.int 1, .int (u0 0 6)]) (rest := []) ⟨hx, hb, hml, hown, hts⟩ (c_X5_error l dC dI cy nb ad ks g hk u0 (1) ((u0 0 6)) (u2) H.size e3) (cwV 2 hts (gV mw_219 mw_220 mw_221 mw_22 mw_222) rfl rfl rfl (by decide +kernel) ⟨Nat.le_of_ble_eq_true rfl, Nat.le_of_ble_eq_true rfl⟩) (my_preV hPc hK hDc hE hS hFc (va_recv (q := (RX5, TX5, 11)) hK hP (ci := 5) (q0 := q8) rfl h8)) rfl rfl hl.1 rfl (lv_room (Nat.le_of_ble_eq_true rfl)) dX5_closeGroup_24 ⟨Nat.le_of_ble_eq_true rfl, Nat.le_of_ble_eq_true rfl⟩) hS (fun q _ h => hFc q h) hFc (fun u t H1 locs ht hvm hw hB hz1 hk1 hS => ?_)
    clear h8
    obtain ⟨hP1, hD1⟩ := hB
    rw [ht] at hP1
    have hP := hP1
    have hD := hD1.weaken (fun k q _ h => hFc q.1 h)
    generalize H1 = H at hP hS ⊢
    clear hP1 hD1 hPc hDc hFc hk1 hz1 hvm ht
    have hZ := s1 hF
    have zuz : u2 = uz := hZ
    have hP9 : va_P (dC, dI) vwCl (WC cy ad ks g uz) H := by rw [← zuz]; exact hP
    have hD9 : va_D A (WC cy ad ks g uz) := by rw [← zuz]; exact hD
    rw [hQ]
    exact W.vret hx hb hr (fun t ht hW => ⟨⟨(), rfl, trivial, by rw [ht]; exact hP9, hD9⟩, hS.F ht⟩) hS.2.2 dX5_closeGroup_27
  · rw [if_neg c1] at hF
    refine lv_aload_n hx hb dX5_closeGroup_7 rfl (lv_at hl 0 rfl) ?_
    refine lv_aload_n hx hb dX5_closeGroup_8 rfl (lv_at hl 0 rfl) ?_
    obtain ⟨q9, h9⟩ := wc_at (cy := cy) (ad := ad) (ks := ks) (g := g) (u := u0) (κ := .rd) hk.1 True.intro
    refine va_get (D := (dC, dI)) (ci := 5) (v := .int (u0 0 11)) (C := RX5) (T := TX5) (N := 11) hx hb hts inlX5 hown hK hP q9 h9 rfl 10 (by decide) (hts _ mw_284) (fun _ h9 => h9) rfl dX5_closeGroup_9 ?_
    clear h9
    obtain ⟨x4, e5, hF⟩ := ob hF
    have hPc := hP
    have hDc := hD
    have hFc := my_free hD hS hA
    obtain ⟨q8, h8⟩ := wc_at (cy := cy) (ad := ad) (ks := ks) (g := g) (u := u0) (κ := .rd) hk.1 True.intro
    refine va_calli (va_runV (As := [.int (u0 0 11)]) (rest := []) ⟨hx, hb, hml, hown, hts⟩ (c_X5_rowLength l dC dI cy nb ad ks g hk u0 ((u0 0 11)) (x4) H.size e5) (cwV 1 hts (gV mw_289 mw_290 mw_291 mw_22 mw_292) rfl rfl rfl (by decide +kernel) ⟨Nat.le_of_ble_eq_true rfl, Nat.le_of_ble_eq_true rfl⟩) (my_preV hPc hK hDc hE hS hFc (va_recv (q := (RX5, TX5, 11)) hK hP (ci := 5) (q0 := q8) rfl h8)) rfl rfl hl.1 rfl (lv_room (Nat.le_of_ble_eq_true rfl)) dX5_closeGroup_12 ⟨Nat.le_of_ble_eq_true rfl, Nat.le_of_ble_eq_true rfl⟩) hS (fun q _ h => hFc q h) hFc (fun r u t H1 locs ht hvm hw hB hz1 hk1 hS => ?_)
    clear h8
    obtain ⟨hP1, hD1⟩ := hB
    rw [ht] at hP1
    have hP := hP1
    have hD := hD1.weaken (fun k q _ h => hFc q.1 h)
    generalize H1 = H at hP hS ⊢
    clear hP1 hD1 hPc hDc hFc hk1 hz1 hvm ht
    obtain rfl := hw.symm
    refine lv_if_ne (tgt := 28) hx hb dX5_closeGroup_15 (by decide) (fun c6 => ?_) (fun c6 => ?_)
    · rw [if_neg c6] at hF
      refine lv_aload_n hx hb dX5_closeGroup_28 rfl (lv_at hl 0 rfl) ?_
      refine lv_aload_n hx hb dX5_closeGroup_29 rfl (lv_at hl 0 rfl) ?_
      obtain ⟨q9, h9⟩ := wc_at (cy := cy) (ad := ad) (ks := ks) (g := g) (u := u0) (κ := .rd) hk.1 True.intro
      refine va_get (D := (dC, dI)) (ci := 5) (v := .int (u0 0 11)) (C := RX5) (T := TX5) (N := 11) hx hb hts inlX5 hown hK hP q9 h9 rfl 10 (by decide) (hts _ mw_284) (fun _ h9 => h9) rfl dX5_closeGroup_30 ?_
      clear h9
      obtain ⟨x7, e8, hF⟩ := ob hF
      have hPc := hP
      have hDc := hD
      have hFc := my_free hD hS hA
      obtain ⟨q8, h8⟩ := wc_at (cy := cy) (ad := ad) (ks := ks) (g := g) (u := u0) (κ := .rd) hk.1 True.intro
      refine va_calli (va_runV (As := [.int (u0 0 11)]) (rest := []) ⟨hx, hb, hml, hown, hts⟩ (c_X5_rowLength l dC dI cy nb ad ks g hk u0 ((u0 0 11)) (x7) H.size e8) (cwV 1 hts (gV mw_289 mw_290 mw_291 mw_22 mw_292) rfl rfl rfl (by decide +kernel) ⟨Nat.le_of_ble_eq_true rfl, Nat.le_of_ble_eq_true rfl⟩) (my_preV hPc hK hDc hE hS hFc (va_recv (q := (RX5, TX5, 11)) hK hP (ci := 5) (q0 := q8) rfl h8)) rfl rfl hl.1 rfl (lv_room (Nat.le_of_ble_eq_true rfl)) dX5_closeGroup_33 ⟨Nat.le_of_ble_eq_true rfl, Nat.le_of_ble_eq_true rfl⟩) hS (fun q _ h => hFc q h) hFc (fun r u t H1 locs ht hvm hw hB hz1 hk1 hS => ?_)
      clear h8
      obtain ⟨hP1, hD1⟩ := hB
      rw [ht] at hP1
      have hP := hP1
      have hD := hD1.weaken (fun k q _ h => hFc q.1 h)
      generalize H1 = H at hP hS ⊢
      clear hP1 hD1 hPc hDc hFc hk1 hz1 hvm ht
      obtain rfl := hw.symm
      refine lv_istore_n (lv' := [(1, .int x7), (0, .ref (ad .rd))]) hx hb dX5_closeGroup_36 rfl hl (by decide) rfl (fun ls hl => ?_)
      refine lv_aload_n hx hb dX5_closeGroup_37 rfl (lv_at hl 1 rfl) ?_
      obtain ⟨q9, h9⟩ := wc_at (cy := cy) (ad := ad) (ks := ks) (g := g) (u := u0) (κ := .rd) hk.1 True.intro
      refine va_get (D := (dC, dI)) (ci := 5) (v := .ref (ad .rt)) (C := RX5) (T := TX5) (N := 11) hx hb hts inlX5 hown hK hP q9 h9 rfl 8 (by decide) (hts _ mw_75) (fun _ h9 => h9) rfl dX5_closeGroup_38 ?_
      clear h9
      refine lv_aload_n hx hb dX5_closeGroup_41 rfl (lv_at hl 1 rfl) ?_
      obtain ⟨q9, h9⟩ := wc_at (cy := cy) (ad := ad) (ks := ks) (g := g) (u := u0) (κ := .rd) hk.1 True.intro
      refine va_get (D := (dC, dI)) (ci := 5) (v := .int (u0 0 11)) (C := RX5) (T := TX5) (N := 11) hx hb hts inlX5 hown hK hP q9 h9 rfl 10 (by decide) (hts _ mw_284) (fun _ h9 => h9) rfl dX5_closeGroup_42 ?_
      clear h9
      obtain ⟨x9, e10, hF⟩ := ob hF
      obtain ⟨q9, h9⟩ := wc_at (cy := cy) (ad := ad) (ks := ks) (g := g) (u := u0) (κ := .rt) hk.1 True.intro
      refine va_iald hx hb hK hP q9 1 h9 rfl (rd_in e10) dX5_closeGroup_45 ?_
      refine my_topi (y := x9) (rd_eq e10) ?_
      clear h9
      refine lv_istore_n (lv' := [(2, .int x9), (1, .int x7), (0, .ref (ad .rd))]) hx hb dX5_closeGroup_46 rfl hl (by decide) rfl (fun ls hl => ?_)
      refine lv_aload_n hx hb dX5_closeGroup_47 rfl (lv_at hl 2 rfl) ?_
      refine lv_aload_n hx hb dX5_closeGroup_48 rfl (lv_at hl 2 rfl) ?_
      obtain ⟨q9, h9⟩ := wc_at (cy := cy) (ad := ad) (ks := ks) (g := g) (u := u0) (κ := .rd) hk.1 True.intro
      refine va_get (D := (dC, dI)) (ci := 5) (v := .int (u0 0 11)) (C := RX5) (T := TX5) (N := 11) hx hb hts inlX5 hown hK hP q9 h9 rfl 10 (by decide) (hts _ mw_284) (fun _ h9 => h9) rfl dX5_closeGroup_49 ?_
      clear h9
      refine lv_iconst (v := 1) hx hb dX5_closeGroup_52 (by decide) ?_
      refine lv_isub hx hb dX5_closeGroup_53 ?_
      obtain ⟨x11, e12, hF⟩ := ob hF
      have hPc := hP
      have hDc := hD
      have hFc := my_free hD hS hA
      obtain ⟨q8, h8⟩ := wc_at (cy := cy) (ad := ad) (ks := ks) (g := g) (u := u0) (κ := .rd) hk.1 True.intro
      refine va_calli (va_runV (As := [.int ((u0 0 11) - 1)]) (rest := []) ⟨hx, hb, hml, hown, hts⟩ (c_X5_rowLength l dC dI cy nb ad ks g hk u0 (((u0 0 11) - 1)) (x11) H.size e12) (cwV 1 hts (gV mw_289 mw_290 mw_291 mw_22 mw_292) rfl rfl rfl (by decide +kernel) ⟨Nat.le_of_ble_eq_true rfl, Nat.le_of_ble_eq_true rfl⟩) (my_preV hPc hK hDc hE hS hFc (va_recv (q := (RX5, TX5, 11)) hK hP (ci := 5) (q0 := q8) rfl h8)) rfl rfl hl.1 rfl (lv_room (Nat.le_of_ble_eq_true rfl)) dX5_closeGroup_54 ⟨Nat.le_of_ble_eq_true rfl, Nat.le_of_ble_eq_true rfl⟩) hS (fun q _ h => hFc q h) hFc (fun r u t H1 locs ht hvm hw hB hz1 hk1 hS => ?_)
      clear h8
      obtain ⟨hP1, hD1⟩ := hB
      rw [ht] at hP1
      have hP := hP1
      have hD := hD1.weaken (fun k q _ h => hFc q.1 h)
      generalize H1 = H at hP hS ⊢
      clear hP1 hD1 hPc hDc hFc hk1 hz1 hvm ht
      obtain rfl := hw.symm
      refine lv_iload_n hx hb dX5_closeGroup_57 rfl (lv_at hl 0 rfl) ?_
      refine lv_iload_n hx hb dX5_closeGroup_58 rfl (lv_at hl 1 rfl) ?_
      refine lv_imul hx hb dX5_closeGroup_59 ?_
      refine lv_iadd hx hb dX5_closeGroup_60 ?_
      refine lv_bipush (v := 16) hx hb dX5_closeGroup_61 (by decide) ?_
      refine lv_icmp_le (tgt := 76) hx hb dX5_closeGroup_63 (by decide) (fun c13 => ?_) (fun c13 => ?_)
      · rw [if_pos c13] at hF
        refine lv_iconst (v := 1) hx hb dX5_closeGroup_76 (by decide) ?_
        refine lv_istore_n (lv' := [(3, .int 1), (2, .int x9), (1, .int x7), (0, .ref (ad .rd))]) hx hb dX5_closeGroup_77 rfl hl (by decide) rfl (fun ls hl => ?_)
        obtain ⟨t16, hL17, hF⟩ := ob hF
        have kx18 : ∀ (H : Heap) (locs : List Loc) (ls : Array Slot), va_P (dC, dI) vwCl (WC cy ad ks g (t16.2)) H → va_D A (WC cy ad ks g (t16.2)) → va_S A s.heap H locs → lv_has ls 4 [(3, .int (t16.1)), (2, .int x9), (1, .int x7), (0, .ref (ad .rd))] → W p l e (headSpec (wsg yX5_closeGroup cX5_closeGroup 4 none) ({ frames := 8, cells := 0, slots := 0, locals := 300 })).room s m ([.ref (ad .rd)] : List Value).toArray below meth c H locs 0 0 Qn (F0 m 124 ls []) := by
          intro H locs ls hP hD hS hl
          refine lv_aload_n hx hb dX5_closeGroup_124 rfl (lv_at hl 3 rfl) ?_
          refine lv_dup hx hb dX5_closeGroup_125 rfl ?_
          obtain ⟨q9, h9⟩ := wc_at (cy := cy) (ad := ad) (ks := ks) (g := g) (u := (t16.2)) (κ := .rd) hk.1 True.intro
          refine va_get (D := (dC, dI)) (ci := 5) (v := .int ((t16.2) 0 11)) (C := RX5) (T := TX5) (N := 11) hx hb hts inlX5 hown hK hP q9 h9 rfl 10 (by decide) (hts _ mw_284) (fun _ h9 => h9) rfl dX5_closeGroup_126 ?_
          clear h9
          refine lv_iconst (v := 1) hx hb dX5_closeGroup_129 (by decide) ?_
          refine lv_isub hx hb dX5_closeGroup_130 ?_
          obtain ⟨q9, h9, ez9⟩ := wc_set (cy := cy) (ad := ad) (ks := ks) (g := g) (u := (t16.2)) (κ := .rd) (r := 0) (i := 11) (v := (((t16.2) 0 11) - 1)) hk.1 True.intro (own_rd (by decide)) (sf_rd_10)
          refine va_put (D := (dC, dI)) (ci := 5) (v := .int (((t16.2) 0 11) - 1)) (ty := .int) (C := RX5) (T := TX5) (N := 11) hx hb hts inlX5 tyX5 tyX5_ok nmX5 hown hK hP hD hS q9 h9 rfl 10 (by decide) (hts _ mw_284) (fun _ h9 => h9) rfl (by decide +kernel) rfl rfl (Nat.le_of_ble_eq_true rfl) dX5_closeGroup_131 (fun H locs hP hD hS => ?_)
          obtain ⟨u20, e21, hF⟩ := ob hF
          have hP : va_P (dC, dI) vwCl (WC cy ad ks g u20) H := by rw [← pt_eq e21, ← ez9]; exact hP
          have hD : va_D A (WC cy ad ks g u20) := by rw [← pt_eq e21, ← ez9]; exact hD
          clear ez9 h9
          refine lv_aload_n hx hb dX5_closeGroup_134 rfl (lv_at hl 3 rfl) ?_
          refine lv_dup hx hb dX5_closeGroup_135 rfl ?_
          obtain ⟨q9, h9⟩ := wc_at (cy := cy) (ad := ad) (ks := ks) (g := g) (u := u20) (κ := .rd) hk.1 True.intro
          refine va_get (D := (dC, dI)) (ci := 5) (v := .int (u20 0 6)) (C := RX5) (T := TX5) (N := 11) hx hb hts inlX5 hown hK hP q9 h9 rfl 2 (by decide) (hts _ mw_148) (fun _ h9 => h9) rfl dX5_closeGroup_136 ?_
          clear h9
          refine lv_iconst (v := 1) hx hb dX5_closeGroup_139 (by decide) ?_
          refine lv_iadd hx hb dX5_closeGroup_140 ?_
          obtain ⟨q9, h9, ez9⟩ := wc_set (cy := cy) (ad := ad) (ks := ks) (g := g) (u := u20) (κ := .rd) (r := 0) (i := 6) (v := ((u20 0 6) + 1)) hk.1 True.intro (own_rd (by decide)) (sf_rd_2)
          refine va_put (D := (dC, dI)) (ci := 5) (v := .int ((u20 0 6) + 1)) (ty := .int) (C := RX5) (T := TX5) (N := 11) hx hb hts inlX5 tyX5 tyX5_ok nmX5 hown hK hP hD hS q9 h9 rfl 2 (by decide) (hts _ mw_148) (fun _ h9 => h9) rfl (by decide +kernel) rfl rfl (Nat.le_of_ble_eq_true rfl) dX5_closeGroup_141 (fun H locs hP hD hS => ?_)
          obtain ⟨u22, e23, hF⟩ := ob hF
          have hP : va_P (dC, dI) vwCl (WC cy ad ks g u22) H := by rw [← pt_eq e23, ← ez9]; exact hP
          have hD : va_D A (WC cy ad ks g u22) := by rw [← pt_eq e23, ← ez9]; exact hD
          clear ez9 h9
          have hZ := s1 hF
          have zuz : u22 = uz := hZ
          have hP9 : va_P (dC, dI) vwCl (WC cy ad ks g uz) H := by rw [← zuz]; exact hP
          have hD9 : va_D A (WC cy ad ks g uz) := by rw [← zuz]; exact hD
          rw [hQ]
          exact W.vret hx hb hr (fun t ht hW => ⟨⟨(), rfl, trivial, by rw [ht]; exact hP9, hD9⟩, hS.F ht⟩) hS.2.2 dX5_closeGroup_144
        clear hF
        have loop24 : ∀ (m25 : Nat) (y14 : Int32) (u15 : RS), C5_closeGroup_L78 x9 x7 g m25 y14 u15 = some t16 → ∀ (H : Heap) (locs : List Loc) (ls : Array Slot), va_P (dC, dI) vwCl (WC cy ad ks g u15) H → va_D A (WC cy ad ks g u15) → va_S A s.heap H locs → lv_has ls 4 [(3, .int y14), (2, .int x9), (1, .int x7), (0, .ref (ad .rd))] → W p l e (headSpec (wsg yX5_closeGroup cX5_closeGroup 4 none) ({ frames := 8, cells := 0, slots := 0, locals := 300 })).room s m ([.ref (ad .rd)] : List Value).toArray below meth c H locs 0 0 Qn (F0 m 78 ls []) := by
          intro m25
          induction m25 with
          | zero => intro y14 u15 hF; cases hF
          | succ m25 ih =>
            intro y14 u15 hF H locs ls hP hD hS hl
            simp only [C5_closeGroup_L78] at hF
            refine lv_iload_n hx hb dX5_closeGroup_78 rfl (lv_at hl 0 rfl) ?_
            refine lv_iload_n hx hb dX5_closeGroup_79 rfl (lv_at hl 1 rfl) ?_
            refine lv_icmp_ge (tgt := 124) hx hb dX5_closeGroup_80 (by decide) (fun c26 => ?_) (fun c26 => ?_)
            · rw [if_pos c26] at hF
              have ht := s1 hF
              subst ht
              exact kx18 _ _ _ hP hD hS (lv_sub hl [0, 1, 2, 3] rfl)
            · rw [if_neg c26] at hF
              refine lv_aload_n hx hb dX5_closeGroup_83 rfl (lv_at hl 3 rfl) ?_
              obtain ⟨q9, h9⟩ := wc_at (cy := cy) (ad := ad) (ks := ks) (g := g) (u := u15) (κ := .rd) hk.1 True.intro
              refine va_get (D := (dC, dI)) (ci := 5) (v := .ref (ad .le)) (C := RX5) (T := TX5) (N := 11) hx hb hts inlX5 hown hK hP q9 h9 rfl 6 (by decide) (hts _ mw_73) (fun _ h9 => h9) rfl dX5_closeGroup_84 ?_
              clear h9
              refine lv_aload_n hx hb dX5_closeGroup_87 rfl (lv_at hl 3 rfl) ?_
              obtain ⟨q9, h9⟩ := wc_at (cy := cy) (ad := ad) (ks := ks) (g := g) (u := u15) (κ := .rd) hk.1 True.intro
              refine va_get (D := (dC, dI)) (ci := 5) (v := .ref (ad .rs)) (C := RX5) (T := TX5) (N := 11) hx hb hts inlX5 hown hK hP q9 h9 rfl 7 (by decide) (hts _ mw_74) (fun _ h9 => h9) rfl dX5_closeGroup_88 ?_
              clear h9
              refine lv_aload_n hx hb dX5_closeGroup_91 rfl (lv_at hl 3 rfl) ?_
              obtain ⟨q9, h9⟩ := wc_at (cy := cy) (ad := ad) (ks := ks) (g := g) (u := u15) (κ := .rd) hk.1 True.intro
              refine va_get (D := (dC, dI)) (ci := 5) (v := .int (u15 0 11)) (C := RX5) (T := TX5) (N := 11) hx hb hts inlX5 hown hK hP q9 h9 rfl 10 (by decide) (hts _ mw_284) (fun _ h9 => h9) rfl dX5_closeGroup_92 ?_
              clear h9
              obtain ⟨x27, e28, hF⟩ := ob hF
              obtain ⟨q9, h9⟩ := wc_at (cy := cy) (ad := ad) (ks := ks) (g := g) (u := u15) (κ := .rs) hk.1 True.intro
              refine va_iald hx hb hK hP q9 1 h9 rfl (rd_in e28) dX5_closeGroup_95 ?_
              refine my_topi (y := x27) (rd_eq e28) ?_
              clear h9
              refine lv_aload_n hx hb dX5_closeGroup_96 rfl (lv_at hl 3 rfl) ?_
              obtain ⟨q9, h9⟩ := wc_at (cy := cy) (ad := ad) (ks := ks) (g := g) (u := u15) (κ := .rd) hk.1 True.intro
              refine va_get (D := (dC, dI)) (ci := 5) (v := .ref (ad .le)) (C := RX5) (T := TX5) (N := 11) hx hb hts inlX5 hown hK hP q9 h9 rfl 6 (by decide) (hts _ mw_73) (fun _ h9 => h9) rfl dX5_closeGroup_97 ?_
              clear h9
              refine lv_aload_n hx hb dX5_closeGroup_100 rfl (lv_at hl 3 rfl) ?_
              obtain ⟨q9, h9⟩ := wc_at (cy := cy) (ad := ad) (ks := ks) (g := g) (u := u15) (κ := .rd) hk.1 True.intro
              refine va_get (D := (dC, dI)) (ci := 5) (v := .int (u15 0 10)) (C := RX5) (T := TX5) (N := 11) hx hb hts inlX5 hown hK hP q9 h9 rfl 9 (by decide) (hts _ mw_283) (fun _ h9 => h9) rfl dX5_closeGroup_101 ?_
              clear h9
              refine lv_iload_n hx hb dX5_closeGroup_104 rfl (lv_at hl 2 rfl) ?_
              obtain ⟨n29, e30, hF⟩ := ob hF
              obtain ⟨u31, e32, hF⟩ := ob hF
              obtain ⟨⟨⟨c1, c2, c3, c4, c5⟩, c6⟩, c7⟩ := cpo_s e30
              obtain ⟨q9, h9, ez9⟩ := wc_gen (cy := cy) (ad := ad) (ks := ks) (g := g) (u := u15) (u2 := cpR u15 4 ((u15 0 10) : Int32).toNatClampNeg (u15 4) (x27 : Int32).toNatClampNeg n29) (κ := .le) hk.1 True.intro (cd_le) sc_le
              obtain ⟨q7, h7⟩ := wc_at (cy := cy) (ad := ad) (ks := ks) (g := g) (u := u15) (κ := .le) hk.1 True.intro
              refine va_copyi hx hb (hml.trans hl.1.symm) hown (hts _ mw_301) (hts _ mw_302) (hts _ mw_303) (hts _ mw_304) hK hP hD hS q7 q9 0 0 h7 h9 rfl rfl rfl (nn_of c1) (nn_of c2) (nn_of c3) c4 c5 (c6 rfl) (Nat.le_of_ble_eq_true rfl) (Nat.le_of_ble_eq_true rfl) dX5_closeGroup_105 (fun H locs hP hD hS => ?_)
              rw [c7] at hP hD
              have hP : va_P (dC, dI) vwCl (WC cy ad ks g u31) H := by rw [← s1 e32, ← ez9]; exact hP
              have hD : va_D A (WC cy ad ks g u31) := by rw [← s1 e32, ← ez9]; exact hD
              clear ez9 h9
              clear h7 c1 c2 c3 c4 c5 c6 c7
              refine lv_aload_n hx hb dX5_closeGroup_108 rfl (lv_at hl 3 rfl) ?_
              refine lv_dup hx hb dX5_closeGroup_109 rfl ?_
              obtain ⟨q9, h9⟩ := wc_at (cy := cy) (ad := ad) (ks := ks) (g := g) (u := u31) (κ := .rd) hk.1 True.intro
              refine va_get (D := (dC, dI)) (ci := 5) (v := .int (u31 0 10)) (C := RX5) (T := TX5) (N := 11) hx hb hts inlX5 hown hK hP q9 h9 rfl 9 (by decide) (hts _ mw_283) (fun _ h9 => h9) rfl dX5_closeGroup_110 ?_
              clear h9
              refine lv_iload_n hx hb dX5_closeGroup_113 rfl (lv_at hl 2 rfl) ?_
              refine lv_iadd hx hb dX5_closeGroup_114 ?_
              obtain ⟨q9, h9, ez9⟩ := wc_set (cy := cy) (ad := ad) (ks := ks) (g := g) (u := u31) (κ := .rd) (r := 0) (i := 10) (v := ((u31 0 10) + x7)) hk.1 True.intro (own_rd (by decide)) (sf_rd_9)
              refine va_put (D := (dC, dI)) (ci := 5) (v := .int ((u31 0 10) + x7)) (ty := .int) (C := RX5) (T := TX5) (N := 11) hx hb hts inlX5 tyX5 tyX5_ok nmX5 hown hK hP hD hS q9 h9 rfl 9 (by decide) (hts _ mw_283) (fun _ h9 => h9) rfl (by decide +kernel) rfl rfl (Nat.le_of_ble_eq_true rfl) dX5_closeGroup_115 (fun H locs hP hD hS => ?_)
              obtain ⟨u33, e34, hF⟩ := ob hF
              have hP : va_P (dC, dI) vwCl (WC cy ad ks g u33) H := by rw [← pt_eq e34, ← ez9]; exact hP
              have hD : va_D A (WC cy ad ks g u33) := by rw [← pt_eq e34, ← ez9]; exact hD
              clear ez9 h9
              refine lv_iinc (v := (y14 + 1)) (lv' := [(3, .int (y14 + 1)), (2, .int x9), (1, .int x7), (0, .ref (ad .rd))]) hx hb dX5_closeGroup_118 hl (k := 0) rfl (by rfl) (by decide) rfl (fun ls hl => ?_)
              refine lv_goto (tgt := 78) hx hb dX5_closeGroup_121 (by decide) ?_
              exact ih _ _ hF _ _ _ hP hD hS (lv_sub hl [0, 1, 2, 3] rfl)
        exact loop24 FUEL _ _ hL17 _ _ _ hP hD hS (lv_sub hl [0, 1, 2, 3] rfl)
      · rw [if_neg c13] at hF
        refine lv_aload_n hx hb dX5_closeGroup_66 rfl (lv_at hl 2 rfl) ?_
        refine lv_iconst (v := 3) hx hb dX5_closeGroup_67 (by decide) ?_
        refine lv_aload_n hx hb dX5_closeGroup_68 rfl (lv_at hl 2 rfl) ?_
        obtain ⟨q9, h9⟩ := wc_at (cy := cy) (ad := ad) (ks := ks) (g := g) (u := u0) (κ := .rd) hk.1 True.intro
        refine va_get (D := (dC, dI)) (ci := 5) (v := .int (u0 0 6)) (C := RX5) (T := TX5) (N := 11) hx hb hts inlX5 hown hK hP q9 h9 rfl 2 (by decide) (hts _ mw_148) (fun _ h9 => h9) rfl dX5_closeGroup_69 ?_
        clear h9
        obtain ⟨u35, e36, hF⟩ := ob hF
        have hPc := hP
        have hDc := hD
        have hFc := my_free hD hS hA
        obtain ⟨q8, h8⟩ := wc_at (cy := cy) (ad := ad) (ks := ks) (g := g) (u := u0) (κ := .rd) hk.1 True.intro
        refine va_callv (va_runV (As := [.int 3, .int (u0 0 6)]) (rest := []) ⟨hx, hb, hml, hown, hts⟩ (c_X5_error l dC dI cy nb ad ks g hk u0 (3) ((u0 0 6)) (u35) H.size e36) (cwV 2 hts (gV mw_219 mw_220 mw_221 mw_22 mw_222) rfl rfl rfl (by decide +kernel) ⟨Nat.le_of_ble_eq_true rfl, Nat.le_of_ble_eq_true rfl⟩) (my_preV hPc hK hDc hE hS hFc (va_recv (q := (RX5, TX5, 11)) hK hP (ci := 5) (q0 := q8) rfl h8)) rfl rfl hl.1 rfl (lv_room (Nat.le_of_ble_eq_true rfl)) dX5_closeGroup_72 ⟨Nat.le_of_ble_eq_true rfl, Nat.le_of_ble_eq_true rfl⟩) hS (fun q _ h => hFc q h) hFc (fun u t H1 locs ht hvm hw hB hz1 hk1 hS => ?_)
        clear h8
        obtain ⟨hP1, hD1⟩ := hB
        rw [ht] at hP1
        have hP := hP1
        have hD := hD1.weaken (fun k q _ h => hFc q.1 h)
        generalize H1 = H at hP hS ⊢
        clear hP1 hD1 hPc hDc hFc hk1 hz1 hvm ht
        have hZ := s1 hF
        have zuz : u35 = uz := hZ
        have hP9 : va_P (dC, dI) vwCl (WC cy ad ks g uz) H := by rw [← zuz]; exact hP
        have hD9 : va_D A (WC cy ad ks g uz) := by rw [← zuz]; exact hD
        rw [hQ]
        exact W.vret hx hb hr (fun t ht hW => ⟨⟨(), rfl, trivial, by rw [ht]; exact hP9, hD9⟩, hS.F ht⟩) hS.2.2 dX5_closeGroup_75
    · rw [if_pos c6] at hF
      refine lv_aload_n hx hb dX5_closeGroup_18 rfl (lv_at hl 0 rfl) ?_
      refine lv_iconst (v := 1) hx hb dX5_closeGroup_19 (by decide) ?_
      refine lv_aload_n hx hb dX5_closeGroup_20 rfl (lv_at hl 0 rfl) ?_
      obtain ⟨q9, h9⟩ := wc_at (cy := cy) (ad := ad) (ks := ks) (g := g) (u := u0) (κ := .rd) hk.1 True.intro
      refine va_get (D := (dC, dI)) (ci := 5) (v := .int (u0 0 6)) (C := RX5) (T := TX5) (N := 11) hx hb hts inlX5 hown hK hP q9 h9 rfl 2 (by decide) (hts _ mw_148) (fun _ h9 => h9) rfl dX5_closeGroup_21 ?_
      clear h9
      obtain ⟨u37, e38, hF⟩ := ob hF
      have hPc := hP
      have hDc := hD
      have hFc := my_free hD hS hA
      obtain ⟨q8, h8⟩ := wc_at (cy := cy) (ad := ad) (ks := ks) (g := g) (u := u0) (κ := .rd) hk.1 True.intro
      refine va_callv (va_runV (As := [.int 1, .int (u0 0 6)]) (rest := []) ⟨hx, hb, hml, hown, hts⟩ (c_X5_error l dC dI cy nb ad ks g hk u0 (1) ((u0 0 6)) (u37) H.size e38) (cwV 2 hts (gV mw_219 mw_220 mw_221 mw_22 mw_222) rfl rfl rfl (by decide +kernel) ⟨Nat.le_of_ble_eq_true rfl, Nat.le_of_ble_eq_true rfl⟩) (my_preV hPc hK hDc hE hS hFc (va_recv (q := (RX5, TX5, 11)) hK hP (ci := 5) (q0 := q8) rfl h8)) rfl rfl hl.1 rfl (lv_room (Nat.le_of_ble_eq_true rfl)) dX5_closeGroup_24 ⟨Nat.le_of_ble_eq_true rfl, Nat.le_of_ble_eq_true rfl⟩) hS (fun q _ h => hFc q h) hFc (fun u t H1 locs ht hvm hw hB hz1 hk1 hS => ?_)
      clear h8
      obtain ⟨hP1, hD1⟩ := hB
      rw [ht] at hP1
      have hP := hP1
      have hD := hD1.weaken (fun k q _ h => hFc q.1 h)
      generalize H1 = H at hP hS ⊢
      clear hP1 hD1 hPc hDc hFc hk1 hz1 hvm ht
      have hZ := s1 hF
      have zuz : u37 = uz := hZ
      have hP9 : va_P (dC, dI) vwCl (WC cy ad ks g uz) H := by rw [← zuz]; exact hP
      have hD9 : va_D A (WC cy ad ks g uz) := by rw [← zuz]; exact hD
      rw [hQ]
      exact W.vret hx hb hr (fun t ht hW => ⟨⟨(), rfl, trivial, by rw [ht]; exact hP9, hD9⟩, hS.F ht⟩) hS.2.2 dX5_closeGroup_27
noncomputable def C5_isDigit (a1 : Int32) : Option (Int32) := (if a1 < 48 then (some (0 : Int32)) else (if 57 < a1 then (some (0 : Int32)) else (some (1 : Int32))) : Option (Int32)).bind fun t2 => (nz t2).bind fun x5 => some x5
set_option maxHeartbeats 4000000 in
set_option maxRecDepth 100000 in
theorem c_X5_isDigit (l : Launch) (dC : Nat → ClassId) (dI : Nat → Nat → Nat) (cy : Nat → ClassId) (nb : Nat → Nat)  (a1 : Int32) (ro : Int32) (sz : Nat) (hF : C5_isDigit a1 = some ro) : Met l yX5_isDigit (wsg yX5_isDigit cX5_isDigit 1 (some .boolean)) ({ frames := 7, cells := 0, slots := 0, locals := 200 }) (va_Pc [.int a1] (fun U => U.heap.size = sz ∧ va_P (dC, dI) vwCl ([] : va_W) U.heap ∧ va_K (dC, dI) vwCl (tyL cy) U ∧ va_D (fun _ => True) ([] : va_W) ∧ GE nb (va_A ([] : va_W) sz) U)) (va_Qi (fun (r : Int32) (_ : Unit) => r = ro) (fun _ t => va_P (dC, dI) vwCl ([] : va_W) t.heap ∧ va_D (va_A ([] : va_W) sz) ([] : va_W)) (va_A ([] : va_W) sz)) 0 0 (va_A ([] : va_W) sz) := by
  refine Met.ofW (cc := cX5_isDigit) (maxL := 1) (ret := (some .boolean)) pn_X5 rfl ?_
  intro p e s m args below meth c s₁ B hml hv
  obtain ⟨rfl, hsz, hP, hK, hD0, hE⟩ := hv
  have hx := B.exec
  have hb := B.bytes
  have hr := B.returns
  have hts0 := atoms_spec (ws := (wsg yX5_isDigit cX5_isDigit 1 (some .boolean))) B.pre
  have hts : ∀ w ∈ wsL_law, w.before _ s = true := fun w h => hts0 w (List.mem_cons_of_mem _ h)
  have hown : s.vm.findClass RX5 = some m.cls := by have h9 := findClass_of_methodNamed B.named; exact h9
  have hlocks := B.notSynchronized
  subst hsz
  have hD := hD0.self (sz := s.heap.size)
  generalize hAe : va_A ([] : va_W) s.heap.size = A at hD hE ⊢
  have hA : ∀ q : Nat, s.heap.size ≤ q → A q := fun q h => by rw [← hAe]; exact Or.inr h
  have hS : va_S A s.heap s.heap [] := va_S.rf
  have hl := lv_entry ([.int a1]) (n := 1) (Nat.le_of_ble_eq_true rfl)
  rw [lg_entry_eq]
  generalize (lg_sl ([.int a1]) ++ List.replicate (1 - (lg_sl ([.int a1])).length) Slot.unset).toArray = ls at hl ⊢
  have hl : lv_has ls 1 [(0, .int a1)] := hl
  generalize hHe : s.heap = H at hP hS ⊢
  have hS : va_S A s.heap H [] := by rw [hHe]; exact hS
  refine my_Q (fun Qn hQ => ?_)
  simp only [C5_isDigit] at hF
  refine lv_iload_n hx hb dX5_isDigit_0 rfl (lv_at hl 0 rfl) ?_
  refine lv_bipush (v := 48) hx hb dX5_isDigit_1 (by decide) ?_
  obtain ⟨t2, hJ3, hF⟩ := ob hF
  have join4 : ∀ (H : Heap) (locs : List Loc) (ls : Array Slot), va_P (dC, dI) vwCl ([] : va_W) H → va_D A ([] : va_W) → va_S A s.heap H locs → lv_has ls 1 [(0, .int a1)] → W p l e (headSpec (wsg yX5_isDigit cX5_isDigit 1 (some .boolean)) ({ frames := 7, cells := 0, slots := 0, locals := 200 })).room s m ([.int a1] : List Value).toArray below meth c H locs 0 0 Qn (F0 m 17 ls [.int t2]) := by
    intro H locs ls hP hD hS hl
    obtain ⟨x5, e6, hF⟩ := ob hF
    refine my_topi (y := x5) (nz_e e6) ?_
    have hZ := s1 hF
    have zro : x5 = ro := hZ
    have hP9 := hP
    have hD9 := hD
    rw [hQ]
    exact W.zret (v := x5) hx hb hr (nz_n e6) (fun t ht hW => ⟨⟨x5, (), rfl, zro, by rw [ht]; exact hP9, hD9⟩, hS.F ht⟩) hS.2.2 dX5_isDigit_17
  clear hF
  have hF := hJ3
  clear hJ3
  refine lv_icmp_lt (tgt := 16) hx hb dX5_isDigit_3 (by decide) (fun c1 => ?_) (fun c1 => ?_)
  · rw [if_pos c1] at hF
    refine lv_iconst (v := 0) hx hb dX5_isDigit_16 (by decide) ?_
    have ht := s1 hF
    subst ht
    exact join4 _ _ _ hP hD hS (lv_sub hl [0] rfl)
  · rw [if_neg c1] at hF
    refine lv_iload_n hx hb dX5_isDigit_6 rfl (lv_at hl 0 rfl) ?_
    refine lv_bipush (v := 57) hx hb dX5_isDigit_7 (by decide) ?_
    refine lv_icmp_gt (tgt := 16) hx hb dX5_isDigit_9 (by decide) (fun c7 => ?_) (fun c7 => ?_)
    · rw [if_pos c7] at hF
      refine lv_iconst (v := 0) hx hb dX5_isDigit_16 (by decide) ?_
      have ht := s1 hF
      subst ht
      exact join4 _ _ _ hP hD hS (lv_sub hl [0] rfl)
    · rw [if_neg c7] at hF
      refine lv_iconst (v := 1) hx hb dX5_isDigit_12 (by decide) ?_
      refine lv_goto (tgt := 17) hx hb dX5_isDigit_13 (by decide) ?_
      have ht := s1 hF
      subst ht
      exact join4 _ _ _ hP hD hS (lv_sub hl [0] rfl)
noncomputable def C5_isFine (g : CG) (u0 : RS)  : Option (Int32) := (if (u0 0 7) = 0 then (some (1 : Int32)) else (some (0 : Int32)) : Option (Int32)).bind fun t2 => (nz t2).bind fun x5 => some x5
set_option maxHeartbeats 4000000 in
set_option maxRecDepth 100000 in
theorem c_X5_isFine (l : Launch) (dC : Nat → ClassId) (dI : Nat → Nat → Nat) (cy : Nat → ClassId) (nb : Nat → Nat) (ad : CK → Nat) (ks : List CK) (g : CG) (hk : GA nb ad g ks) (u0 : RS)  (ro : Int32) (sz : Nat) (hF : C5_isFine g u0  = some ro) : Met l yX5_isFine (wsg yX5_isFine cX5_isFine 1 (some .boolean)) ({ frames := 7, cells := 0, slots := 0, locals := 200 }) (va_Pc [.ref (ad .rd)] (fun U => U.heap.size = sz ∧ va_P (dC, dI) vwCl (WC cy ad ks g u0) U.heap ∧ va_K (dC, dI) vwCl (tyL cy) U ∧ va_D (fun _ => True) (WC cy ad ks g u0) ∧ GE nb (va_A (WC cy ad ks g u0) sz) U)) (va_Qi (fun (r : Int32) (_ : Unit) => r = ro) (fun _ t => va_P (dC, dI) vwCl (WC cy ad ks g u0) t.heap ∧ va_D (va_A (WC cy ad ks g u0) sz) (WC cy ad ks g u0)) (va_A (WC cy ad ks g u0) sz)) 0 0 (va_A (WC cy ad ks g u0) sz) := by
  refine Met.ofW (cc := cX5_isFine) (maxL := 1) (ret := (some .boolean)) pn_X5 rfl ?_
  intro p e s m args below meth c s₁ B hml hv
  obtain ⟨rfl, hsz, hP, hK, hD0, hE⟩ := hv
  have hx := B.exec
  have hb := B.bytes
  have hr := B.returns
  have hts0 := atoms_spec (ws := (wsg yX5_isFine cX5_isFine 1 (some .boolean))) B.pre
  have hts : ∀ w ∈ wsL_law, w.before _ s = true := fun w h => hts0 w (List.mem_cons_of_mem _ h)
  have hown : s.vm.findClass RX5 = some m.cls := by have h9 := findClass_of_methodNamed B.named; exact h9
  have hlocks := B.notSynchronized
  subst hsz
  have hD := hD0.self (sz := s.heap.size)
  generalize hAe : va_A (WC cy ad ks g u0) s.heap.size = A at hD hE ⊢
  have hA : ∀ q : Nat, s.heap.size ≤ q → A q := fun q h => by rw [← hAe]; exact Or.inr h
  have hS : va_S A s.heap s.heap [] := va_S.rf
  have hl := lv_entry ([.ref (ad .rd)]) (n := 1) (Nat.le_of_ble_eq_true rfl)
  rw [lg_entry_eq]
  generalize (lg_sl ([.ref (ad .rd)]) ++ List.replicate (1 - (lg_sl ([.ref (ad .rd)])).length) Slot.unset).toArray = ls at hl ⊢
  have hl : lv_has ls 1 [(0, .ref (ad .rd))] := hl
  generalize hHe : s.heap = H at hP hS ⊢
  have hS : va_S A s.heap H [] := by rw [hHe]; exact hS
  refine my_Q (fun Qn hQ => ?_)
  simp only [C5_isFine] at hF
  refine lv_aload_n hx hb dX5_isFine_0 rfl (lv_at hl 0 rfl) ?_
  obtain ⟨q9, h9⟩ := wc_at (cy := cy) (ad := ad) (ks := ks) (g := g) (u := u0) (κ := .rd) hk.1 True.intro
  refine va_get (D := (dC, dI)) (ci := 5) (v := .int (u0 0 7)) (C := RX5) (T := TX5) (N := 11) hx hb hts inlX5 hown hK hP q9 h9 rfl 3 (by decide) (hts _ mw_149) (fun _ h9 => h9) rfl dX5_isFine_1 ?_
  clear h9
  obtain ⟨t2, hJ3, hF⟩ := ob hF
  have join4 : ∀ (H : Heap) (locs : List Loc) (ls : Array Slot), va_P (dC, dI) vwCl (WC cy ad ks g u0) H → va_D A (WC cy ad ks g u0) → va_S A s.heap H locs → lv_has ls 1 [(0, .ref (ad .rd))] → W p l e (headSpec (wsg yX5_isFine cX5_isFine 1 (some .boolean)) ({ frames := 7, cells := 0, slots := 0, locals := 200 })).room s m ([.ref (ad .rd)] : List Value).toArray below meth c H locs 0 0 Qn (F0 m 12 ls [.int t2]) := by
    intro H locs ls hP hD hS hl
    obtain ⟨x5, e6, hF⟩ := ob hF
    refine my_topi (y := x5) (nz_e e6) ?_
    have hZ := s1 hF
    have zro : x5 = ro := hZ
    have hP9 : va_P (dC, dI) vwCl (WC cy ad ks g u0) H := by exact hP
    have hD9 : va_D A (WC cy ad ks g u0) := by exact hD
    rw [hQ]
    exact W.zret (v := x5) hx hb hr (nz_n e6) (fun t ht hW => ⟨⟨x5, (), rfl, zro, by rw [ht]; exact hP9, hD9⟩, hS.F ht⟩) hS.2.2 dX5_isFine_12
  clear hF
  have hF := hJ3
  clear hJ3
  refine lv_if_ne (tgt := 11) hx hb dX5_isFine_4 (by decide) (fun c1 => ?_) (fun c1 => ?_)
  · rw [if_neg c1] at hF
    refine lv_iconst (v := 0) hx hb dX5_isFine_11 (by decide) ?_
    have ht := s1 hF
    subst ht
    exact join4 _ _ _ hP hD hS (lv_sub hl [0] rfl)
  · rw [if_pos c1] at hF
    refine lv_iconst (v := 1) hx hb dX5_isFine_7 (by decide) ?_
    refine lv_goto (tgt := 12) hx hb dX5_isFine_8 (by decide) ?_
    have ht := s1 hF
    subst ht
    exact join4 _ _ _ hP hD hS (lv_sub hl [0] rfl)
noncomputable def C5_isLetter (a1 : Int32) : Option (Int32) := (if a1 < 97 then (some (0 : Int32)) else (if 122 < a1 then (some (0 : Int32)) else (some (1 : Int32))) : Option (Int32)).bind fun t2 => (nz t2).bind fun x5 => some x5
set_option maxHeartbeats 4000000 in
set_option maxRecDepth 100000 in
theorem c_X5_isLetter (l : Launch) (dC : Nat → ClassId) (dI : Nat → Nat → Nat) (cy : Nat → ClassId) (nb : Nat → Nat)  (a1 : Int32) (ro : Int32) (sz : Nat) (hF : C5_isLetter a1 = some ro) : Met l yX5_isLetter (wsg yX5_isLetter cX5_isLetter 1 (some .boolean)) ({ frames := 7, cells := 0, slots := 0, locals := 200 }) (va_Pc [.int a1] (fun U => U.heap.size = sz ∧ va_P (dC, dI) vwCl ([] : va_W) U.heap ∧ va_K (dC, dI) vwCl (tyL cy) U ∧ va_D (fun _ => True) ([] : va_W) ∧ GE nb (va_A ([] : va_W) sz) U)) (va_Qi (fun (r : Int32) (_ : Unit) => r = ro) (fun _ t => va_P (dC, dI) vwCl ([] : va_W) t.heap ∧ va_D (va_A ([] : va_W) sz) ([] : va_W)) (va_A ([] : va_W) sz)) 0 0 (va_A ([] : va_W) sz) := by
  refine Met.ofW (cc := cX5_isLetter) (maxL := 1) (ret := (some .boolean)) pn_X5 rfl ?_
  intro p e s m args below meth c s₁ B hml hv
  obtain ⟨rfl, hsz, hP, hK, hD0, hE⟩ := hv
  have hx := B.exec
  have hb := B.bytes
  have hr := B.returns
  have hts0 := atoms_spec (ws := (wsg yX5_isLetter cX5_isLetter 1 (some .boolean))) B.pre
  have hts : ∀ w ∈ wsL_law, w.before _ s = true := fun w h => hts0 w (List.mem_cons_of_mem _ h)
  have hown : s.vm.findClass RX5 = some m.cls := by have h9 := findClass_of_methodNamed B.named; exact h9
  have hlocks := B.notSynchronized
  subst hsz
  have hD := hD0.self (sz := s.heap.size)
  generalize hAe : va_A ([] : va_W) s.heap.size = A at hD hE ⊢
  have hA : ∀ q : Nat, s.heap.size ≤ q → A q := fun q h => by rw [← hAe]; exact Or.inr h
  have hS : va_S A s.heap s.heap [] := va_S.rf
  have hl := lv_entry ([.int a1]) (n := 1) (Nat.le_of_ble_eq_true rfl)
  rw [lg_entry_eq]
  generalize (lg_sl ([.int a1]) ++ List.replicate (1 - (lg_sl ([.int a1])).length) Slot.unset).toArray = ls at hl ⊢
  have hl : lv_has ls 1 [(0, .int a1)] := hl
  generalize hHe : s.heap = H at hP hS ⊢
  have hS : va_S A s.heap H [] := by rw [hHe]; exact hS
  refine my_Q (fun Qn hQ => ?_)
  simp only [C5_isLetter] at hF
  refine lv_iload_n hx hb dX5_isLetter_0 rfl (lv_at hl 0 rfl) ?_
  refine lv_bipush (v := 97) hx hb dX5_isLetter_1 (by decide) ?_
  obtain ⟨t2, hJ3, hF⟩ := ob hF
  have join4 : ∀ (H : Heap) (locs : List Loc) (ls : Array Slot), va_P (dC, dI) vwCl ([] : va_W) H → va_D A ([] : va_W) → va_S A s.heap H locs → lv_has ls 1 [(0, .int a1)] → W p l e (headSpec (wsg yX5_isLetter cX5_isLetter 1 (some .boolean)) ({ frames := 7, cells := 0, slots := 0, locals := 200 })).room s m ([.int a1] : List Value).toArray below meth c H locs 0 0 Qn (F0 m 17 ls [.int t2]) := by
    intro H locs ls hP hD hS hl
    obtain ⟨x5, e6, hF⟩ := ob hF
    refine my_topi (y := x5) (nz_e e6) ?_
    have hZ := s1 hF
    have zro : x5 = ro := hZ
    have hP9 := hP
    have hD9 := hD
    rw [hQ]
    exact W.zret (v := x5) hx hb hr (nz_n e6) (fun t ht hW => ⟨⟨x5, (), rfl, zro, by rw [ht]; exact hP9, hD9⟩, hS.F ht⟩) hS.2.2 dX5_isLetter_17
  clear hF
  have hF := hJ3
  clear hJ3
  refine lv_icmp_lt (tgt := 16) hx hb dX5_isLetter_3 (by decide) (fun c1 => ?_) (fun c1 => ?_)
  · rw [if_pos c1] at hF
    refine lv_iconst (v := 0) hx hb dX5_isLetter_16 (by decide) ?_
    have ht := s1 hF
    subst ht
    exact join4 _ _ _ hP hD hS (lv_sub hl [0] rfl)
  · rw [if_neg c1] at hF
    refine lv_iload_n hx hb dX5_isLetter_6 rfl (lv_at hl 0 rfl) ?_
    refine lv_bipush (v := 122) hx hb dX5_isLetter_7 (by decide) ?_
    refine lv_icmp_gt (tgt := 16) hx hb dX5_isLetter_9 (by decide) (fun c7 => ?_) (fun c7 => ?_)
    · rw [if_pos c7] at hF
      refine lv_iconst (v := 0) hx hb dX5_isLetter_16 (by decide) ?_
      have ht := s1 hF
      subst ht
      exact join4 _ _ _ hP hD hS (lv_sub hl [0] rfl)
    · rw [if_neg c7] at hF
      refine lv_iconst (v := 1) hx hb dX5_isLetter_12 (by decide) ?_
      refine lv_goto (tgt := 17) hx hb dX5_isLetter_13 (by decide) ?_
      have ht := s1 hF
      subst ht
      exact join4 _ _ _ hP hD hS (lv_sub hl [0] rfl)
noncomputable def C5_skipSpaces_L0 (g : CG) : Nat → RS → Option (RS)
  | 0, _ => none
  | m7 + 1, u1 => if (u1 0 5) ≤ (u1 0 6) then (some (u1)) else ((rd u1 3 600 (u1 0 6)).bind fun x9 => if x9 = 32 then ((pt u1 0 6 ((u1 0 6) + 1)).bind fun u12 => C5_skipSpaces_L0 g m7  u12) else (some (u1)))
noncomputable def C5_skipSpaces (g : CG) (u0 : RS)  : Option (Int32 × RS) := (C5_skipSpaces_L0 g FUEL  u0).bind fun t2 => some ((t2 0 6), t2)
set_option maxHeartbeats 4000000 in
set_option maxRecDepth 100000 in
theorem c_X5_skipSpaces (l : Launch) (dC : Nat → ClassId) (dI : Nat → Nat → Nat) (cy : Nat → ClassId) (nb : Nat → Nat) (ad : CK → Nat) (ks : List CK) (g : CG) (hk : GA nb ad g ks) (u0 : RS)  (ro : Int32) (uz : RS) (sz : Nat) (hF : C5_skipSpaces g u0  = some (ro, uz)) : Met l yX5_skipSpaces (wsg yX5_skipSpaces cX5_skipSpaces 1 (some .int)) ({ frames := 7, cells := 0, slots := 0, locals := 200 }) (va_Pc [.ref (ad .rd)] (fun U => U.heap.size = sz ∧ va_P (dC, dI) vwCl (WC cy ad ks g u0) U.heap ∧ va_K (dC, dI) vwCl (tyL cy) U ∧ va_D (fun _ => True) (WC cy ad ks g u0) ∧ GE nb (va_A (WC cy ad ks g u0) sz) U)) (va_Qi (fun (r : Int32) (_ : Unit) => r = ro) (fun _ t => va_P (dC, dI) vwCl (WC cy ad ks g uz) t.heap ∧ va_D (va_A (WC cy ad ks g u0) sz) (WC cy ad ks g uz)) (va_A (WC cy ad ks g u0) sz)) 0 0 (va_A (WC cy ad ks g u0) sz) := by
  refine Met.ofW (cc := cX5_skipSpaces) (maxL := 1) (ret := (some .int)) pn_X5 rfl ?_
  intro p e s m args below meth c s₁ B hml hv
  obtain ⟨rfl, hsz, hP, hK, hD0, hE⟩ := hv
  have hx := B.exec
  have hb := B.bytes
  have hr := B.returns
  have hts0 := atoms_spec (ws := (wsg yX5_skipSpaces cX5_skipSpaces 1 (some .int))) B.pre
  have hts : ∀ w ∈ wsL_law, w.before _ s = true := fun w h => hts0 w (List.mem_cons_of_mem _ h)
  have hown : s.vm.findClass RX5 = some m.cls := by have h9 := findClass_of_methodNamed B.named; exact h9
  have hlocks := B.notSynchronized
  subst hsz
  have hD := hD0.self (sz := s.heap.size)
  generalize hAe : va_A (WC cy ad ks g u0) s.heap.size = A at hD hE ⊢
  have hA : ∀ q : Nat, s.heap.size ≤ q → A q := fun q h => by rw [← hAe]; exact Or.inr h
  have hS : va_S A s.heap s.heap [] := va_S.rf
  have hl := lv_entry ([.ref (ad .rd)]) (n := 1) (Nat.le_of_ble_eq_true rfl)
  rw [lg_entry_eq]
  generalize (lg_sl ([.ref (ad .rd)]) ++ List.replicate (1 - (lg_sl ([.ref (ad .rd)])).length) Slot.unset).toArray = ls at hl ⊢
  have hl : lv_has ls 1 [(0, .ref (ad .rd))] := hl
  generalize hHe : s.heap = H at hP hS ⊢
  have hS : va_S A s.heap H [] := by rw [hHe]; exact hS
  refine my_Q (fun Qn hQ => ?_)
  simp only [C5_skipSpaces] at hF
  obtain ⟨t2, hL3, hF⟩ := ob hF
  have kx4 : ∀ (H : Heap) (locs : List Loc) (ls : Array Slot), va_P (dC, dI) vwCl (WC cy ad ks g t2) H → va_D A (WC cy ad ks g t2) → va_S A s.heap H locs → lv_has ls 1 [(0, .ref (ad .rd))] → W p l e (headSpec (wsg yX5_skipSpaces cX5_skipSpaces 1 (some .int)) ({ frames := 7, cells := 0, slots := 0, locals := 200 })).room s m ([.ref (ad .rd)] : List Value).toArray below meth c H locs 0 0 Qn (F0 m 38 ls []) := by
    intro H locs ls hP hD hS hl
    refine lv_aload_n hx hb dX5_skipSpaces_38 rfl (lv_at hl 0 rfl) ?_
    obtain ⟨q9, h9⟩ := wc_at (cy := cy) (ad := ad) (ks := ks) (g := g) (u := t2) (κ := .rd) hk.1 True.intro
    refine va_get (D := (dC, dI)) (ci := 5) (v := .int (t2 0 6)) (C := RX5) (T := TX5) (N := 11) hx hb hts inlX5 hown hK hP q9 h9 rfl 2 (by decide) (hts _ mw_148) (fun _ h9 => h9) rfl dX5_skipSpaces_39 ?_
    clear h9
    have hZ := s1 hF
    have zro : (t2 0 6) = ro := (congrArg (fun q => q.1) hZ)
    have zuz : t2 = uz := (congrArg (fun q => q.2) hZ)
    have hP9 : va_P (dC, dI) vwCl (WC cy ad ks g uz) H := by rw [← zuz]; exact hP
    have hD9 : va_D A (WC cy ad ks g uz) := by rw [← zuz]; exact hD
    rw [hQ]
    exact W.iret (v := (t2 0 6)) hx hb hr (fun t ht hW => ⟨⟨(t2 0 6), (), rfl, zro, by rw [ht]; exact hP9, hD9⟩, hS.F ht⟩) hS.2.2 dX5_skipSpaces_42
  clear hF
  have loop6 : ∀ (m7 : Nat)  (u1 : RS), C5_skipSpaces_L0 g m7 u1 = some t2 → ∀ (H : Heap) (locs : List Loc) (ls : Array Slot), va_P (dC, dI) vwCl (WC cy ad ks g u1) H → va_D A (WC cy ad ks g u1) → va_S A s.heap H locs → lv_has ls 1 [(0, .ref (ad .rd))] → W p l e (headSpec (wsg yX5_skipSpaces cX5_skipSpaces 1 (some .int)) ({ frames := 7, cells := 0, slots := 0, locals := 200 })).room s m ([.ref (ad .rd)] : List Value).toArray below meth c H locs 0 0 Qn (F0 m 0 ls []) := by
    intro m7
    induction m7 with
    | zero => intro u1 hF; cases hF
    | succ m7 ih =>
      intro u1 hF H locs ls hP hD hS hl
      simp only [C5_skipSpaces_L0] at hF
      refine lv_aload_n hx hb dX5_skipSpaces_0 rfl (lv_at hl 0 rfl) ?_
      obtain ⟨q9, h9⟩ := wc_at (cy := cy) (ad := ad) (ks := ks) (g := g) (u := u1) (κ := .rd) hk.1 True.intro
      refine va_get (D := (dC, dI)) (ci := 5) (v := .int (u1 0 6)) (C := RX5) (T := TX5) (N := 11) hx hb hts inlX5 hown hK hP q9 h9 rfl 2 (by decide) (hts _ mw_148) (fun _ h9 => h9) rfl dX5_skipSpaces_1 ?_
      clear h9
      refine lv_aload_n hx hb dX5_skipSpaces_4 rfl (lv_at hl 0 rfl) ?_
      obtain ⟨q9, h9⟩ := wc_at (cy := cy) (ad := ad) (ks := ks) (g := g) (u := u1) (κ := .rd) hk.1 True.intro
      refine va_get (D := (dC, dI)) (ci := 5) (v := .int (u1 0 5)) (C := RX5) (T := TX5) (N := 11) hx hb hts inlX5 hown hK hP q9 h9 rfl 1 (by decide) (hts _ mw_122) (fun _ h9 => h9) rfl dX5_skipSpaces_5 ?_
      clear h9
      refine lv_icmp_ge (tgt := 38) hx hb dX5_skipSpaces_8 (by decide) (fun c8 => ?_) (fun c8 => ?_)
      · rw [if_pos c8] at hF
        have ht := s1 hF
        subst ht
        exact kx4 _ _ _ hP hD hS (lv_sub hl [0] rfl)
      · rw [if_neg c8] at hF
        refine lv_aload_n hx hb dX5_skipSpaces_11 rfl (lv_at hl 0 rfl) ?_
        obtain ⟨q9, h9⟩ := wc_at (cy := cy) (ad := ad) (ks := ks) (g := g) (u := u1) (κ := .rd) hk.1 True.intro
        refine va_get (D := (dC, dI)) (ci := 5) (v := .ref (ad .tb)) (C := RX5) (T := TX5) (N := 11) hx hb hts inlX5 hown hK hP q9 h9 rfl 0 (by decide) (hts _ mw_72) (fun _ h9 => h9) rfl dX5_skipSpaces_12 ?_
        clear h9
        refine lv_aload_n hx hb dX5_skipSpaces_15 rfl (lv_at hl 0 rfl) ?_
        obtain ⟨q9, h9⟩ := wc_at (cy := cy) (ad := ad) (ks := ks) (g := g) (u := u1) (κ := .rd) hk.1 True.intro
        refine va_get (D := (dC, dI)) (ci := 5) (v := .int (u1 0 6)) (C := RX5) (T := TX5) (N := 11) hx hb hts inlX5 hown hK hP q9 h9 rfl 2 (by decide) (hts _ mw_148) (fun _ h9 => h9) rfl dX5_skipSpaces_16 ?_
        clear h9
        obtain ⟨x9, e10, hF⟩ := ob hF
        obtain ⟨q9, h9⟩ := wc_at (cy := cy) (ad := ad) (ks := ks) (g := g) (u := u1) (κ := .tb) hk.1 True.intro
        refine va_bald hx hb hK hP q9 0 h9 rfl (rd_in e10) dX5_skipSpaces_19 ?_
        refine my_topi (y := x9) (rd_eq e10) ?_
        clear h9
        refine lv_bipush (v := 32) hx hb dX5_skipSpaces_20 (by decide) ?_
        refine lv_icmp_ne (tgt := 38) hx hb dX5_skipSpaces_22 (by decide) (fun c11 => ?_) (fun c11 => ?_)
        · rw [if_neg c11] at hF
          have ht := s1 hF
          subst ht
          exact kx4 _ _ _ hP hD hS (lv_sub hl [0] rfl)
        · rw [if_pos c11] at hF
          refine lv_aload_n hx hb dX5_skipSpaces_25 rfl (lv_at hl 0 rfl) ?_
          refine lv_dup hx hb dX5_skipSpaces_26 rfl ?_
          obtain ⟨q9, h9⟩ := wc_at (cy := cy) (ad := ad) (ks := ks) (g := g) (u := u1) (κ := .rd) hk.1 True.intro
          refine va_get (D := (dC, dI)) (ci := 5) (v := .int (u1 0 6)) (C := RX5) (T := TX5) (N := 11) hx hb hts inlX5 hown hK hP q9 h9 rfl 2 (by decide) (hts _ mw_148) (fun _ h9 => h9) rfl dX5_skipSpaces_27 ?_
          clear h9
          refine lv_iconst (v := 1) hx hb dX5_skipSpaces_30 (by decide) ?_
          refine lv_iadd hx hb dX5_skipSpaces_31 ?_
          obtain ⟨q9, h9, ez9⟩ := wc_set (cy := cy) (ad := ad) (ks := ks) (g := g) (u := u1) (κ := .rd) (r := 0) (i := 6) (v := ((u1 0 6) + 1)) hk.1 True.intro (own_rd (by decide)) (sf_rd_2)
          refine va_put (D := (dC, dI)) (ci := 5) (v := .int ((u1 0 6) + 1)) (ty := .int) (C := RX5) (T := TX5) (N := 11) hx hb hts inlX5 tyX5 tyX5_ok nmX5 hown hK hP hD hS q9 h9 rfl 2 (by decide) (hts _ mw_148) (fun _ h9 => h9) rfl (by decide +kernel) rfl rfl (Nat.le_of_ble_eq_true rfl) dX5_skipSpaces_32 (fun H locs hP hD hS => ?_)
          obtain ⟨u12, e13, hF⟩ := ob hF
          have hP : va_P (dC, dI) vwCl (WC cy ad ks g u12) H := by rw [← pt_eq e13, ← ez9]; exact hP
          have hD : va_D A (WC cy ad ks g u12) := by rw [← pt_eq e13, ← ez9]; exact hD
          clear ez9 h9
          refine lv_goto (tgt := 0) hx hb dX5_skipSpaces_35 (by decide) ?_
          exact ih _ hF _ _ _ hP hD hS (lv_sub hl [0] rfl)
  exact loop6 FUEL _ hL3 _ _ _ hP hD hS (lv_sub hl [0] rfl)
noncomputable def C5_openGroup (g : CG) (u0 : RS) (a1 : Int32) (a2 : Int32) : Option (RS) := (if (u0 0 11) < 3 then (some u0) else ((C5_error g u0 (3) (a2)).bind fun u32 => some u32) : Option (RS)).bind fun t2 => (C5_skipSpaces g t2).bind fun t5 => (if ((t5.2) 0 5) ≤ ((t5.2) 0 6) then ((C5_error g (t5.2) (1) (((t5.2) 0 6))).bind fun u25 => some u25) else ((rd (t5.2) 3 600 ((t5.2) 0 6)).bind fun x27 => if x27 = 40 then (some (t5.2)) else ((C5_error g (t5.2) (1) (((t5.2) 0 6))).bind fun u30 => some u30)) : Option (RS)).bind fun t8 => (C5_isFine g t8).bind fun x11 => (if x11 = 0 then (some t8) else ((pt t8 0 6 ((t8 0 6) + 1)).bind fun u17 => (pt u17 0 11 ((u17 0 11) + 1)).bind fun u19 => (ws u19 5 4 (u19 0 11) (u19 0 10)).bind fun u21 => (ws u21 6 4 (u21 0 11) a1).bind fun u23 => some u23) : Option (RS)).bind fun t14 => some t14
set_option maxHeartbeats 4000000 in
set_option maxRecDepth 100000 in
theorem c_X5_openGroup (l : Launch) (dC : Nat → ClassId) (dI : Nat → Nat → Nat) (cy : Nat → ClassId) (nb : Nat → Nat) (ad : CK → Nat) (ks : List CK) (g : CG) (hk : GA nb ad g ks) (u0 : RS) (a1 : Int32) (a2 : Int32) (uz : RS) (sz : Nat) (hF : C5_openGroup g u0 a1 a2 = some uz) : Met l yX5_openGroup (wsg yX5_openGroup cX5_openGroup 3 none) ({ frames := 8, cells := 0, slots := 0, locals := 300 }) (va_Pc [.ref (ad .rd), .int a1, .int a2] (fun U => U.heap.size = sz ∧ va_P (dC, dI) vwCl (WC cy ad ks g u0) U.heap ∧ va_K (dC, dI) vwCl (tyL cy) U ∧ va_D (fun _ => True) (WC cy ad ks g u0) ∧ GE nb (va_A (WC cy ad ks g u0) sz) U)) (va_Qv (fun (_ : Unit) => True) (fun _ t => va_P (dC, dI) vwCl (WC cy ad ks g uz) t.heap ∧ va_D (va_A (WC cy ad ks g u0) sz) (WC cy ad ks g uz)) (va_A (WC cy ad ks g u0) sz)) 0 0 (va_A (WC cy ad ks g u0) sz) := by
  refine Met.ofW (cc := cX5_openGroup) (maxL := 3) (ret := none) pn_X5 rfl ?_
  intro p e s m args below meth c s₁ B hml hv
  obtain ⟨rfl, hsz, hP, hK, hD0, hE⟩ := hv
  have hx := B.exec
  have hb := B.bytes
  have hr := B.returns
  have hts0 := atoms_spec (ws := (wsg yX5_openGroup cX5_openGroup 3 none)) B.pre
  have hts : ∀ w ∈ wsL_law, w.before _ s = true := fun w h => hts0 w (List.mem_cons_of_mem _ h)
  have hown : s.vm.findClass RX5 = some m.cls := by have h9 := findClass_of_methodNamed B.named; exact h9
  have hlocks := B.notSynchronized
  subst hsz
  have hD := hD0.self (sz := s.heap.size)
  generalize hAe : va_A (WC cy ad ks g u0) s.heap.size = A at hD hE ⊢
  have hA : ∀ q : Nat, s.heap.size ≤ q → A q := fun q h => by rw [← hAe]; exact Or.inr h
  have hS : va_S A s.heap s.heap [] := va_S.rf
  have hl := lv_entry ([.ref (ad .rd), .int a1, .int a2]) (n := 3) (Nat.le_of_ble_eq_true rfl)
  rw [lg_entry_eq]
  generalize (lg_sl ([.ref (ad .rd), .int a1, .int a2]) ++ List.replicate (3 - (lg_sl ([.ref (ad .rd), .int a1, .int a2])).length) Slot.unset).toArray = ls at hl ⊢
  have hl : lv_has ls 3 [(0, .ref (ad .rd)), (1, .int a1), (2, .int a2)] := hl
  generalize hHe : s.heap = H at hP hS ⊢
  have hS : va_S A s.heap H [] := by rw [hHe]; exact hS
  refine my_Q (fun Qn hQ => ?_)
  simp only [C5_openGroup] at hF
  refine lv_aload_n hx hb dX5_openGroup_0 rfl (lv_at hl 0 rfl) ?_
  obtain ⟨q9, h9⟩ := wc_at (cy := cy) (ad := ad) (ks := ks) (g := g) (u := u0) (κ := .rd) hk.1 True.intro
  refine va_get (D := (dC, dI)) (ci := 5) (v := .int (u0 0 11)) (C := RX5) (T := TX5) (N := 11) hx hb hts inlX5 hown hK hP q9 h9 rfl 10 (by decide) (hts _ mw_284) (fun _ h9 => h9) rfl dX5_openGroup_1 ?_
  clear h9
  refine lv_iconst (v := 3) hx hb dX5_openGroup_4 (by decide) ?_
  obtain ⟨t2, hJ3, hF⟩ := ob hF
  have join4 : ∀ (H : Heap) (locs : List Loc) (ls : Array Slot), va_P (dC, dI) vwCl (WC cy ad ks g t2) H → va_D A (WC cy ad ks g t2) → va_S A s.heap H locs → lv_has ls 3 [(0, .ref (ad .rd)), (1, .int a1), (2, .int a2)] → W p l e (headSpec (wsg yX5_openGroup cX5_openGroup 3 none) ({ frames := 8, cells := 0, slots := 0, locals := 300 })).room s m ([.ref (ad .rd), .int a1, .int a2] : List Value).toArray below meth c H locs 0 0 Qn (F0 m 14 ls []) := by
    intro H locs ls hP hD hS hl
    refine lv_aload_n hx hb dX5_openGroup_14 rfl (lv_at hl 0 rfl) ?_
    obtain ⟨t5, e6, hF⟩ := ob hF
    have hPc := hP
    have hDc := hD
    have hFc := my_free hD hS hA
    obtain ⟨q8, h8⟩ := wc_at (cy := cy) (ad := ad) (ks := ks) (g := g) (u := t2) (κ := .rd) hk.1 True.intro
    refine va_calli (va_runV (As := []) (rest := []) ⟨hx, hb, hml, hown, hts⟩ (c_X5_skipSpaces l dC dI cy nb ad ks g hk t2 (t5.1) (t5.2) H.size e6) (cwV 0 hts (gV mw_155 mw_156 mw_157 mw_22 mw_158) rfl rfl rfl (by decide +kernel) ⟨Nat.le_of_ble_eq_true rfl, Nat.le_of_ble_eq_true rfl⟩) (my_preV hPc hK hDc hE hS hFc (va_recv (q := (RX5, TX5, 11)) hK hP (ci := 5) (q0 := q8) rfl h8)) rfl rfl hl.1 rfl (lv_room (Nat.le_of_ble_eq_true rfl)) dX5_openGroup_15 ⟨Nat.le_of_ble_eq_true rfl, Nat.le_of_ble_eq_true rfl⟩) hS (fun q _ h => hFc q h) hFc (fun r u t H1 locs ht hvm hw hB hz1 hk1 hS => ?_)
    clear h8
    obtain ⟨hP1, hD1⟩ := hB
    rw [ht] at hP1
    have hP := hP1
    have hD := hD1.weaken (fun k q _ h => hFc q.1 h)
    generalize H1 = H at hP hS ⊢
    clear hP1 hD1 hPc hDc hFc hk1 hz1 hvm ht
    obtain rfl := hw.symm
    refine lv_pop hx hb dX5_openGroup_18 rfl ?_
    refine lv_aload_n hx hb dX5_openGroup_19 rfl (lv_at hl 0 rfl) ?_
    obtain ⟨q9, h9⟩ := wc_at (cy := cy) (ad := ad) (ks := ks) (g := g) (u := (t5.2)) (κ := .rd) hk.1 True.intro
    refine va_get (D := (dC, dI)) (ci := 5) (v := .int ((t5.2) 0 6)) (C := RX5) (T := TX5) (N := 11) hx hb hts inlX5 hown hK hP q9 h9 rfl 2 (by decide) (hts _ mw_148) (fun _ h9 => h9) rfl dX5_openGroup_20 ?_
    clear h9
    refine lv_aload_n hx hb dX5_openGroup_23 rfl (lv_at hl 0 rfl) ?_
    obtain ⟨q9, h9⟩ := wc_at (cy := cy) (ad := ad) (ks := ks) (g := g) (u := (t5.2)) (κ := .rd) hk.1 True.intro
    refine va_get (D := (dC, dI)) (ci := 5) (v := .int ((t5.2) 0 5)) (C := RX5) (T := TX5) (N := 11) hx hb hts inlX5 hown hK hP q9 h9 rfl 1 (by decide) (hts _ mw_122) (fun _ h9 => h9) rfl dX5_openGroup_24 ?_
    clear h9
    obtain ⟨t8, hJ9, hF⟩ := ob hF
    have join10 : ∀ (H : Heap) (locs : List Loc) (ls : Array Slot), va_P (dC, dI) vwCl (WC cy ad ks g t8) H → va_D A (WC cy ad ks g t8) → va_S A s.heap H locs → lv_has ls 3 [(0, .ref (ad .rd)), (1, .int a1), (2, .int a2)] → W p l e (headSpec (wsg yX5_openGroup cX5_openGroup 3 none) ({ frames := 8, cells := 0, slots := 0, locals := 300 })).room s m ([.ref (ad .rd), .int a1, .int a2] : List Value).toArray below meth c H locs 0 0 Qn (F0 m 53 ls []) := by
      intro H locs ls hP hD hS hl
      refine lv_aload_n hx hb dX5_openGroup_53 rfl (lv_at hl 0 rfl) ?_
      obtain ⟨x11, e12, hF⟩ := ob hF
      have hPc := hP
      have hDc := hD
      have hFc := my_free hD hS hA
      obtain ⟨q8, h8⟩ := wc_at (cy := cy) (ad := ad) (ks := ks) (g := g) (u := t8) (κ := .rd) hk.1 True.intro
      refine va_calli (va_runV (As := []) (rest := []) ⟨hx, hb, hml, hown, hts⟩ (c_X5_isFine l dC dI cy nb ad ks g hk t8 (x11) H.size e12) (cwV 0 hts (gV mw_239 mw_240 mw_241 mw_22 mw_242) rfl rfl rfl (by decide +kernel) ⟨Nat.le_of_ble_eq_true rfl, Nat.le_of_ble_eq_true rfl⟩) (my_preV hPc hK hDc hE hS hFc (va_recv (q := (RX5, TX5, 11)) hK hP (ci := 5) (q0 := q8) rfl h8)) rfl rfl hl.1 rfl (lv_room (Nat.le_of_ble_eq_true rfl)) dX5_openGroup_54 ⟨Nat.le_of_ble_eq_true rfl, Nat.le_of_ble_eq_true rfl⟩) hS (fun q _ h => hFc q h) hFc (fun r u t H1 locs ht hvm hw hB hz1 hk1 hS => ?_)
      clear h8
      obtain ⟨hP1, hD1⟩ := hB
      rw [ht] at hP1
      have hP := hP1
      have hD := hD1.weaken (fun k q _ h => hFc q.1 h)
      generalize H1 = H at hP hS ⊢
      clear hP1 hD1 hPc hDc hFc hk1 hz1 hvm ht
      obtain rfl := hw.symm
      obtain ⟨t14, hJ15, hF⟩ := ob hF
      have join16 : ∀ (H : Heap) (locs : List Loc) (ls : Array Slot), va_P (dC, dI) vwCl (WC cy ad ks g t14) H → va_D A (WC cy ad ks g t14) → va_S A s.heap H locs → lv_has ls 3 [(0, .ref (ad .rd)), (1, .int a1), (2, .int a2)] → W p l e (headSpec (wsg yX5_openGroup cX5_openGroup 3 none) ({ frames := 8, cells := 0, slots := 0, locals := 300 })).room s m ([.ref (ad .rd), .int a1, .int a2] : List Value).toArray below meth c H locs 0 0 Qn (F0 m 103 ls []) := by
        intro H locs ls hP hD hS hl
        have hZ := s1 hF
        have zuz : t14 = uz := hZ
        have hP9 : va_P (dC, dI) vwCl (WC cy ad ks g uz) H := by rw [← zuz]; exact hP
        have hD9 : va_D A (WC cy ad ks g uz) := by rw [← zuz]; exact hD
        rw [hQ]
        exact W.vret hx hb hr (fun t ht hW => ⟨⟨(), rfl, trivial, by rw [ht]; exact hP9, hD9⟩, hS.F ht⟩) hS.2.2 dX5_openGroup_103
      clear hF
      have hF := hJ15
      clear hJ15
      refine lv_if_eq (tgt := 103) hx hb dX5_openGroup_57 (by decide) (fun c13 => ?_) (fun c13 => ?_)
      · rw [if_pos c13] at hF
        have ht := s1 hF
        subst ht
        exact join16 _ _ _ hP hD hS (lv_sub hl [0, 1, 2] rfl)
      · rw [if_neg c13] at hF
        refine lv_aload_n hx hb dX5_openGroup_60 rfl (lv_at hl 0 rfl) ?_
        refine lv_dup hx hb dX5_openGroup_61 rfl ?_
        obtain ⟨q9, h9⟩ := wc_at (cy := cy) (ad := ad) (ks := ks) (g := g) (u := t8) (κ := .rd) hk.1 True.intro
        refine va_get (D := (dC, dI)) (ci := 5) (v := .int (t8 0 6)) (C := RX5) (T := TX5) (N := 11) hx hb hts inlX5 hown hK hP q9 h9 rfl 2 (by decide) (hts _ mw_148) (fun _ h9 => h9) rfl dX5_openGroup_62 ?_
        clear h9
        refine lv_iconst (v := 1) hx hb dX5_openGroup_65 (by decide) ?_
        refine lv_iadd hx hb dX5_openGroup_66 ?_
        obtain ⟨q9, h9, ez9⟩ := wc_set (cy := cy) (ad := ad) (ks := ks) (g := g) (u := t8) (κ := .rd) (r := 0) (i := 6) (v := ((t8 0 6) + 1)) hk.1 True.intro (own_rd (by decide)) (sf_rd_2)
        refine va_put (D := (dC, dI)) (ci := 5) (v := .int ((t8 0 6) + 1)) (ty := .int) (C := RX5) (T := TX5) (N := 11) hx hb hts inlX5 tyX5 tyX5_ok nmX5 hown hK hP hD hS q9 h9 rfl 2 (by decide) (hts _ mw_148) (fun _ h9 => h9) rfl (by decide +kernel) rfl rfl (Nat.le_of_ble_eq_true rfl) dX5_openGroup_67 (fun H locs hP hD hS => ?_)
        obtain ⟨u17, e18, hF⟩ := ob hF
        have hP : va_P (dC, dI) vwCl (WC cy ad ks g u17) H := by rw [← pt_eq e18, ← ez9]; exact hP
        have hD : va_D A (WC cy ad ks g u17) := by rw [← pt_eq e18, ← ez9]; exact hD
        clear ez9 h9
        refine lv_aload_n hx hb dX5_openGroup_70 rfl (lv_at hl 0 rfl) ?_
        refine lv_dup hx hb dX5_openGroup_71 rfl ?_
        obtain ⟨q9, h9⟩ := wc_at (cy := cy) (ad := ad) (ks := ks) (g := g) (u := u17) (κ := .rd) hk.1 True.intro
        refine va_get (D := (dC, dI)) (ci := 5) (v := .int (u17 0 11)) (C := RX5) (T := TX5) (N := 11) hx hb hts inlX5 hown hK hP q9 h9 rfl 10 (by decide) (hts _ mw_284) (fun _ h9 => h9) rfl dX5_openGroup_72 ?_
        clear h9
        refine lv_iconst (v := 1) hx hb dX5_openGroup_75 (by decide) ?_
        refine lv_iadd hx hb dX5_openGroup_76 ?_
        obtain ⟨q9, h9, ez9⟩ := wc_set (cy := cy) (ad := ad) (ks := ks) (g := g) (u := u17) (κ := .rd) (r := 0) (i := 11) (v := ((u17 0 11) + 1)) hk.1 True.intro (own_rd (by decide)) (sf_rd_10)
        refine va_put (D := (dC, dI)) (ci := 5) (v := .int ((u17 0 11) + 1)) (ty := .int) (C := RX5) (T := TX5) (N := 11) hx hb hts inlX5 tyX5 tyX5_ok nmX5 hown hK hP hD hS q9 h9 rfl 10 (by decide) (hts _ mw_284) (fun _ h9 => h9) rfl (by decide +kernel) rfl rfl (Nat.le_of_ble_eq_true rfl) dX5_openGroup_77 (fun H locs hP hD hS => ?_)
        obtain ⟨u19, e20, hF⟩ := ob hF
        have hP : va_P (dC, dI) vwCl (WC cy ad ks g u19) H := by rw [← pt_eq e20, ← ez9]; exact hP
        have hD : va_D A (WC cy ad ks g u19) := by rw [← pt_eq e20, ← ez9]; exact hD
        clear ez9 h9
        refine lv_aload_n hx hb dX5_openGroup_80 rfl (lv_at hl 0 rfl) ?_
        obtain ⟨q9, h9⟩ := wc_at (cy := cy) (ad := ad) (ks := ks) (g := g) (u := u19) (κ := .rd) hk.1 True.intro
        refine va_get (D := (dC, dI)) (ci := 5) (v := .ref (ad .rs)) (C := RX5) (T := TX5) (N := 11) hx hb hts inlX5 hown hK hP q9 h9 rfl 7 (by decide) (hts _ mw_74) (fun _ h9 => h9) rfl dX5_openGroup_81 ?_
        clear h9
        refine lv_aload_n hx hb dX5_openGroup_84 rfl (lv_at hl 0 rfl) ?_
        obtain ⟨q9, h9⟩ := wc_at (cy := cy) (ad := ad) (ks := ks) (g := g) (u := u19) (κ := .rd) hk.1 True.intro
        refine va_get (D := (dC, dI)) (ci := 5) (v := .int (u19 0 11)) (C := RX5) (T := TX5) (N := 11) hx hb hts inlX5 hown hK hP q9 h9 rfl 10 (by decide) (hts _ mw_284) (fun _ h9 => h9) rfl dX5_openGroup_85 ?_
        clear h9
        refine lv_aload_n hx hb dX5_openGroup_88 rfl (lv_at hl 0 rfl) ?_
        obtain ⟨q9, h9⟩ := wc_at (cy := cy) (ad := ad) (ks := ks) (g := g) (u := u19) (κ := .rd) hk.1 True.intro
        refine va_get (D := (dC, dI)) (ci := 5) (v := .int (u19 0 10)) (C := RX5) (T := TX5) (N := 11) hx hb hts inlX5 hown hK hP q9 h9 rfl 9 (by decide) (hts _ mw_283) (fun _ h9 => h9) rfl dX5_openGroup_89 ?_
        clear h9
        obtain ⟨u21, e22, hF⟩ := ob hF
        obtain ⟨q9, h9, ez9⟩ := wc_set (cy := cy) (ad := ad) (ks := ks) (g := g) (u := u19) (κ := .rs) (r := 5) (i := ((u19 0 11) : Int32).toNatClampNeg) (v := (u19 0 10)) hk.1 True.intro own_rs (sf_rs)
        refine va_iast hx hb hK hP hD hS q9 1 h9 rfl (ws_in e22) dX5_openGroup_92 (fun H locs hP hD hS => ?_)
        have hP : va_P (dC, dI) vwCl (WC cy ad ks g u21) H := by rw [← ws_eq e22, ← ez9]; exact hP
        have hD : va_D A (WC cy ad ks g u21) := by rw [← ws_eq e22, ← ez9]; exact hD
        clear ez9 h9
        refine lv_aload_n hx hb dX5_openGroup_93 rfl (lv_at hl 0 rfl) ?_
        obtain ⟨q9, h9⟩ := wc_at (cy := cy) (ad := ad) (ks := ks) (g := g) (u := u21) (κ := .rd) hk.1 True.intro
        refine va_get (D := (dC, dI)) (ci := 5) (v := .ref (ad .rt)) (C := RX5) (T := TX5) (N := 11) hx hb hts inlX5 hown hK hP q9 h9 rfl 8 (by decide) (hts _ mw_75) (fun _ h9 => h9) rfl dX5_openGroup_94 ?_
        clear h9
        refine lv_aload_n hx hb dX5_openGroup_97 rfl (lv_at hl 0 rfl) ?_
        obtain ⟨q9, h9⟩ := wc_at (cy := cy) (ad := ad) (ks := ks) (g := g) (u := u21) (κ := .rd) hk.1 True.intro
        refine va_get (D := (dC, dI)) (ci := 5) (v := .int (u21 0 11)) (C := RX5) (T := TX5) (N := 11) hx hb hts inlX5 hown hK hP q9 h9 rfl 10 (by decide) (hts _ mw_284) (fun _ h9 => h9) rfl dX5_openGroup_98 ?_
        clear h9
        refine lv_iload_n hx hb dX5_openGroup_101 rfl (lv_at hl 1 rfl) ?_
        obtain ⟨u23, e24, hF⟩ := ob hF
        obtain ⟨q9, h9, ez9⟩ := wc_set (cy := cy) (ad := ad) (ks := ks) (g := g) (u := u21) (κ := .rt) (r := 6) (i := ((u21 0 11) : Int32).toNatClampNeg) (v := a1) hk.1 True.intro own_rt (sf_rt)
        refine va_iast hx hb hK hP hD hS q9 1 h9 rfl (ws_in e24) dX5_openGroup_102 (fun H locs hP hD hS => ?_)
        have hP : va_P (dC, dI) vwCl (WC cy ad ks g u23) H := by rw [← ws_eq e24, ← ez9]; exact hP
        have hD : va_D A (WC cy ad ks g u23) := by rw [← ws_eq e24, ← ez9]; exact hD
        clear ez9 h9
        have ht := s1 hF
        subst ht
        exact join16 _ _ _ hP hD hS (lv_sub hl [0, 1, 2] rfl)
    clear hF
    have hF := hJ9
    clear hJ9
    refine lv_icmp_ge (tgt := 44) hx hb dX5_openGroup_27 (by decide) (fun c7 => ?_) (fun c7 => ?_)
    · rw [if_pos c7] at hF
      refine lv_aload_n hx hb dX5_openGroup_44 rfl (lv_at hl 0 rfl) ?_
      refine lv_iconst (v := 1) hx hb dX5_openGroup_45 (by decide) ?_
      refine lv_aload_n hx hb dX5_openGroup_46 rfl (lv_at hl 0 rfl) ?_
      obtain ⟨q9, h9⟩ := wc_at (cy := cy) (ad := ad) (ks := ks) (g := g) (u := (t5.2)) (κ := .rd) hk.1 True.intro
      refine va_get (D := (dC, dI)) (ci := 5) (v := .int ((t5.2) 0 6)) (C := RX5) (T := TX5) (N := 11) hx hb hts inlX5 hown hK hP q9 h9 rfl 2 (by decide) (hts _ mw_148) (fun _ h9 => h9) rfl dX5_openGroup_47 ?_
      clear h9
      obtain ⟨u25, e26, hF⟩ := ob hF
      have hPc := hP
      have hDc := hD
      have hFc := my_free hD hS hA
      obtain ⟨q8, h8⟩ := wc_at (cy := cy) (ad := ad) (ks := ks) (g := g) (u := (t5.2)) (κ := .rd) hk.1 True.intro
      refine va_callv (va_runV (As := [.int 1, .int ((t5.2) 0 6)]) (rest := []) ⟨hx, hb, hml, hown, hts⟩ (c_X5_error l dC dI cy nb ad ks g hk (t5.2) (1) (((t5.2) 0 6)) (u25) H.size e26) (cwV 2 hts (gV mw_219 mw_220 mw_221 mw_22 mw_222) rfl rfl rfl (by decide +kernel) ⟨Nat.le_of_ble_eq_true rfl, Nat.le_of_ble_eq_true rfl⟩) (my_preV hPc hK hDc hE hS hFc (va_recv (q := (RX5, TX5, 11)) hK hP (ci := 5) (q0 := q8) rfl h8)) rfl rfl hl.1 rfl (lv_room (Nat.le_of_ble_eq_true rfl)) dX5_openGroup_50 ⟨Nat.le_of_ble_eq_true rfl, Nat.le_of_ble_eq_true rfl⟩) hS (fun q _ h => hFc q h) hFc (fun u t H1 locs ht hvm hw hB hz1 hk1 hS => ?_)
      clear h8
      obtain ⟨hP1, hD1⟩ := hB
      rw [ht] at hP1
      have hP := hP1
      have hD := hD1.weaken (fun k q _ h => hFc q.1 h)
      generalize H1 = H at hP hS ⊢
      clear hP1 hD1 hPc hDc hFc hk1 hz1 hvm ht
      have ht := s1 hF
      subst ht
      exact join10 _ _ _ hP hD hS (lv_sub hl [0, 1, 2] rfl)
    · rw [if_neg c7] at hF
      refine lv_aload_n hx hb dX5_openGroup_30 rfl (lv_at hl 0 rfl) ?_
      obtain ⟨q9, h9⟩ := wc_at (cy := cy) (ad := ad) (ks := ks) (g := g) (u := (t5.2)) (κ := .rd) hk.1 True.intro
      refine va_get (D := (dC, dI)) (ci := 5) (v := .ref (ad .tb)) (C := RX5) (T := TX5) (N := 11) hx hb hts inlX5 hown hK hP q9 h9 rfl 0 (by decide) (hts _ mw_72) (fun _ h9 => h9) rfl dX5_openGroup_31 ?_
      clear h9
      refine lv_aload_n hx hb dX5_openGroup_34 rfl (lv_at hl 0 rfl) ?_
      obtain ⟨q9, h9⟩ := wc_at (cy := cy) (ad := ad) (ks := ks) (g := g) (u := (t5.2)) (κ := .rd) hk.1 True.intro
      refine va_get (D := (dC, dI)) (ci := 5) (v := .int ((t5.2) 0 6)) (C := RX5) (T := TX5) (N := 11) hx hb hts inlX5 hown hK hP q9 h9 rfl 2 (by decide) (hts _ mw_148) (fun _ h9 => h9) rfl dX5_openGroup_35 ?_
      clear h9
      obtain ⟨x27, e28, hF⟩ := ob hF
      obtain ⟨q9, h9⟩ := wc_at (cy := cy) (ad := ad) (ks := ks) (g := g) (u := (t5.2)) (κ := .tb) hk.1 True.intro
      refine va_bald hx hb hK hP q9 0 h9 rfl (rd_in e28) dX5_openGroup_38 ?_
      refine my_topi (y := x27) (rd_eq e28) ?_
      clear h9
      refine lv_bipush (v := 40) hx hb dX5_openGroup_39 (by decide) ?_
      refine lv_icmp_eq (tgt := 53) hx hb dX5_openGroup_41 (by decide) (fun c29 => ?_) (fun c29 => ?_)
      · rw [if_pos c29] at hF
        have ht := s1 hF
        subst ht
        exact join10 _ _ _ hP hD hS (lv_sub hl [0, 1, 2] rfl)
      · rw [if_neg c29] at hF
        refine lv_aload_n hx hb dX5_openGroup_44 rfl (lv_at hl 0 rfl) ?_
        refine lv_iconst (v := 1) hx hb dX5_openGroup_45 (by decide) ?_
        refine lv_aload_n hx hb dX5_openGroup_46 rfl (lv_at hl 0 rfl) ?_
        obtain ⟨q9, h9⟩ := wc_at (cy := cy) (ad := ad) (ks := ks) (g := g) (u := (t5.2)) (κ := .rd) hk.1 True.intro
        refine va_get (D := (dC, dI)) (ci := 5) (v := .int ((t5.2) 0 6)) (C := RX5) (T := TX5) (N := 11) hx hb hts inlX5 hown hK hP q9 h9 rfl 2 (by decide) (hts _ mw_148) (fun _ h9 => h9) rfl dX5_openGroup_47 ?_
        clear h9
        obtain ⟨u30, e31, hF⟩ := ob hF
        have hPc := hP
        have hDc := hD
        have hFc := my_free hD hS hA
        obtain ⟨q8, h8⟩ := wc_at (cy := cy) (ad := ad) (ks := ks) (g := g) (u := (t5.2)) (κ := .rd) hk.1 True.intro
        refine va_callv (va_runV (As := [.int 1, .int ((t5.2) 0 6)]) (rest := []) ⟨hx, hb, hml, hown, hts⟩ (c_X5_error l dC dI cy nb ad ks g hk (t5.2) (1) (((t5.2) 0 6)) (u30) H.size e31) (cwV 2 hts (gV mw_219 mw_220 mw_221 mw_22 mw_222) rfl rfl rfl (by decide +kernel) ⟨Nat.le_of_ble_eq_true rfl, Nat.le_of_ble_eq_true rfl⟩) (my_preV hPc hK hDc hE hS hFc (va_recv (q := (RX5, TX5, 11)) hK hP (ci := 5) (q0 := q8) rfl h8)) rfl rfl hl.1 rfl (lv_room (Nat.le_of_ble_eq_true rfl)) dX5_openGroup_50 ⟨Nat.le_of_ble_eq_true rfl, Nat.le_of_ble_eq_true rfl⟩) hS (fun q _ h => hFc q h) hFc (fun u t H1 locs ht hvm hw hB hz1 hk1 hS => ?_)
        clear h8
        obtain ⟨hP1, hD1⟩ := hB
        rw [ht] at hP1
        have hP := hP1
        have hD := hD1.weaken (fun k q _ h => hFc q.1 h)
        generalize H1 = H at hP hS ⊢
        clear hP1 hD1 hPc hDc hFc hk1 hz1 hvm ht
        have ht := s1 hF
        subst ht
        exact join10 _ _ _ hP hD hS (lv_sub hl [0, 1, 2] rfl)
  clear hF
  have hF := hJ3
  clear hJ3
  refine lv_icmp_lt (tgt := 14) hx hb dX5_openGroup_5 (by decide) (fun c1 => ?_) (fun c1 => ?_)
  · rw [if_pos c1] at hF
    have ht := s1 hF
    subst ht
    exact join4 _ _ _ hP hD hS (lv_sub hl [0, 1, 2] rfl)
  · rw [if_neg c1] at hF
    refine lv_aload_n hx hb dX5_openGroup_8 rfl (lv_at hl 0 rfl) ?_
    refine lv_iconst (v := 3) hx hb dX5_openGroup_9 (by decide) ?_
    refine lv_iload_n hx hb dX5_openGroup_10 rfl (lv_at hl 2 rfl) ?_
    obtain ⟨u32, e33, hF⟩ := ob hF
    have hPc := hP
    have hDc := hD
    have hFc := my_free hD hS hA
    obtain ⟨q8, h8⟩ := wc_at (cy := cy) (ad := ad) (ks := ks) (g := g) (u := u0) (κ := .rd) hk.1 True.intro
    refine va_callv (va_runV (As := [.int 3, .int a2]) (rest := []) ⟨hx, hb, hml, hown, hts⟩ (c_X5_error l dC dI cy nb ad ks g hk u0 (3) (a2) (u32) H.size e33) (cwV 2 hts (gV mw_219 mw_220 mw_221 mw_22 mw_222) rfl rfl rfl (by decide +kernel) ⟨Nat.le_of_ble_eq_true rfl, Nat.le_of_ble_eq_true rfl⟩) (my_preV hPc hK hDc hE hS hFc (va_recv (q := (RX5, TX5, 11)) hK hP (ci := 5) (q0 := q8) rfl h8)) rfl rfl hl.1 rfl (lv_room (Nat.le_of_ble_eq_true rfl)) dX5_openGroup_11 ⟨Nat.le_of_ble_eq_true rfl, Nat.le_of_ble_eq_true rfl⟩) hS (fun q _ h => hFc q h) hFc (fun u t H1 locs ht hvm hw hB hz1 hk1 hS => ?_)
    clear h8
    obtain ⟨hP1, hD1⟩ := hB
    rw [ht] at hP1
    have hP := hP1
    have hD := hD1.weaken (fun k q _ h => hFc q.1 h)
    generalize H1 = H at hP hS ⊢
    clear hP1 hD1 hPc hDc hFc hk1 hz1 hvm ht
    have ht := s1 hF
    subst ht
    exact join4 _ _ _ hP hD hS (lv_sub hl [0, 1, 2] rfl)
noncomputable def C5_readNumber_L8 (t1 : Int32 × RS) (a1 : Int32) (a2 : Int32) (g : CG) : Nat → Int32 → RS → Option (Int32 × RS)
  | 0, _, _ => none
  | m22 + 1, y3, u4 => if (u4 0 5) ≤ (u4 0 6) then (some ((y3, u4))) else ((rd u4 3 600 (u4 0 6)).bind fun x24 => (C5_isDigit (x24)).bind fun x26 => if x26 = 0 then (some ((y3, u4))) else ((rd u4 3 600 (u4 0 6)).bind fun x29 => (pt u4 0 6 ((u4 0 6) + 1)).bind fun u31 => C5_readNumber_L8 t1 a1 a2 g m22 ((if (1000000 : Int32) < (((y3 * 10) + x29) - 48) then (1000000 : Int32) else (((y3 * 10) + x29) - 48))) u31))
noncomputable def C5_readNumber (g : CG) (u0 : RS) (a1 : Int32) (a2 : Int32) : Option (Int32 × RS) := (C5_skipSpaces g u0).bind fun t1 => (C5_readNumber_L8 t1 a1 a2 g FUEL (0 : Int32) (t1.2)).bind fun t5 => (if ((t5.2) 0 6) = (t1.1) then ((C5_error g (t5.2) (1) ((t1.1))).bind fun u19 => some u19) else (if (t5.1) < a1 then ((C5_error g (t5.2) (2) ((t1.1))).bind fun u14 => some u14) else (if (t5.1) ≤ a2 then (some (t5.2)) else ((C5_error g (t5.2) (2) ((t1.1))).bind fun u17 => some u17))) : Option (RS)).bind fun t10 => some ((t5.1), t10)
set_option maxHeartbeats 4000000 in
set_option maxRecDepth 100000 in
theorem c_X5_readNumber (l : Launch) (dC : Nat → ClassId) (dI : Nat → Nat → Nat) (cy : Nat → ClassId) (nb : Nat → Nat) (ad : CK → Nat) (ks : List CK) (g : CG) (hk : GA nb ad g ks) (u0 : RS) (a1 : Int32) (a2 : Int32) (ro : Int32) (uz : RS) (sz : Nat) (hF : C5_readNumber g u0 a1 a2 = some (ro, uz)) : Met l yX5_readNumber (wsg yX5_readNumber cX5_readNumber 5 (some .int)) ({ frames := 8, cells := 0, slots := 0, locals := 300 }) (va_Pc [.ref (ad .rd), .int a1, .int a2] (fun U => U.heap.size = sz ∧ va_P (dC, dI) vwCl (WC cy ad ks g u0) U.heap ∧ va_K (dC, dI) vwCl (tyL cy) U ∧ va_D (fun _ => True) (WC cy ad ks g u0) ∧ GE nb (va_A (WC cy ad ks g u0) sz) U)) (va_Qi (fun (r : Int32) (_ : Unit) => r = ro) (fun _ t => va_P (dC, dI) vwCl (WC cy ad ks g uz) t.heap ∧ va_D (va_A (WC cy ad ks g u0) sz) (WC cy ad ks g uz)) (va_A (WC cy ad ks g u0) sz)) 0 0 (va_A (WC cy ad ks g u0) sz) := by
  refine Met.ofW (cc := cX5_readNumber) (maxL := 5) (ret := (some .int)) pn_X5 rfl ?_
  intro p e s m args below meth c s₁ B hml hv
  obtain ⟨rfl, hsz, hP, hK, hD0, hE⟩ := hv
  have hx := B.exec
  have hb := B.bytes
  have hr := B.returns
  have hts0 := atoms_spec (ws := (wsg yX5_readNumber cX5_readNumber 5 (some .int))) B.pre
  have hts : ∀ w ∈ wsL_law, w.before _ s = true := fun w h => hts0 w (List.mem_cons_of_mem _ h)
  have hown : s.vm.findClass RX5 = some m.cls := by have h9 := findClass_of_methodNamed B.named; exact h9
  have hlocks := B.notSynchronized
  subst hsz
  have hD := hD0.self (sz := s.heap.size)
  generalize hAe : va_A (WC cy ad ks g u0) s.heap.size = A at hD hE ⊢
  have hA : ∀ q : Nat, s.heap.size ≤ q → A q := fun q h => by rw [← hAe]; exact Or.inr h
  have hS : va_S A s.heap s.heap [] := va_S.rf
  have hl := lv_entry ([.ref (ad .rd), .int a1, .int a2]) (n := 5) (Nat.le_of_ble_eq_true rfl)
  rw [lg_entry_eq]
  generalize (lg_sl ([.ref (ad .rd), .int a1, .int a2]) ++ List.replicate (5 - (lg_sl ([.ref (ad .rd), .int a1, .int a2])).length) Slot.unset).toArray = ls at hl ⊢
  have hl : lv_has ls 5 [(0, .ref (ad .rd)), (1, .int a1), (2, .int a2)] := hl
  generalize hHe : s.heap = H at hP hS ⊢
  have hS : va_S A s.heap H [] := by rw [hHe]; exact hS
  refine my_Q (fun Qn hQ => ?_)
  simp only [C5_readNumber] at hF
  refine lv_aload_n hx hb dX5_readNumber_0 rfl (lv_at hl 0 rfl) ?_
  obtain ⟨t1, e2, hF⟩ := ob hF
  have hPc := hP
  have hDc := hD
  have hFc := my_free hD hS hA
  obtain ⟨q8, h8⟩ := wc_at (cy := cy) (ad := ad) (ks := ks) (g := g) (u := u0) (κ := .rd) hk.1 True.intro
  refine va_calli (va_runV (As := []) (rest := []) ⟨hx, hb, hml, hown, hts⟩ (c_X5_skipSpaces l dC dI cy nb ad ks g hk u0 (t1.1) (t1.2) H.size e2) (cwV 0 hts (gV mw_155 mw_156 mw_157 mw_22 mw_158) rfl rfl rfl (by decide +kernel) ⟨Nat.le_of_ble_eq_true rfl, Nat.le_of_ble_eq_true rfl⟩) (my_preV hPc hK hDc hE hS hFc (va_recv (q := (RX5, TX5, 11)) hK hP (ci := 5) (q0 := q8) rfl h8)) rfl rfl hl.1 rfl (lv_room (Nat.le_of_ble_eq_true rfl)) dX5_readNumber_1 ⟨Nat.le_of_ble_eq_true rfl, Nat.le_of_ble_eq_true rfl⟩) hS (fun q _ h => hFc q h) hFc (fun r u t H1 locs ht hvm hw hB hz1 hk1 hS => ?_)
  clear h8
  obtain ⟨hP1, hD1⟩ := hB
  rw [ht] at hP1
  have hP := hP1
  have hD := hD1.weaken (fun k q _ h => hFc q.1 h)
  generalize H1 = H at hP hS ⊢
  clear hP1 hD1 hPc hDc hFc hk1 hz1 hvm ht
  obtain rfl := hw.symm
  refine lv_istore_n (lv' := [(3, .int (t1.1)), (0, .ref (ad .rd)), (1, .int a1), (2, .int a2)]) hx hb dX5_readNumber_4 rfl hl (by decide) rfl (fun ls hl => ?_)
  refine lv_iconst (v := 0) hx hb dX5_readNumber_5 (by decide) ?_
  refine lv_istore (lv' := [(4, .int 0), (3, .int (t1.1)), (0, .ref (ad .rd)), (1, .int a1), (2, .int a2)]) hx hb dX5_readNumber_6 hl (by decide) rfl (fun ls hl => ?_)
  obtain ⟨t5, hL6, hF⟩ := ob hF
  have kx7 : ∀ (H : Heap) (locs : List Loc) (ls : Array Slot), va_P (dC, dI) vwCl (WC cy ad ks g (t5.2)) H → va_D A (WC cy ad ks g (t5.2)) → va_S A s.heap H locs → lv_has ls 5 [(4, .int (t5.1)), (3, .int (t1.1)), (0, .ref (ad .rd)), (1, .int a1), (2, .int a2)] → W p l e (headSpec (wsg yX5_readNumber cX5_readNumber 5 (some .int)) ({ frames := 8, cells := 0, slots := 0, locals := 300 })).room s m ([.ref (ad .rd), .int a1, .int a2] : List Value).toArray below meth c H locs 0 0 Qn (F0 m 72 ls []) := by
    intro H locs ls hP hD hS hl
    refine lv_aload_n hx hb dX5_readNumber_72 rfl (lv_at hl 2 rfl) ?_
    obtain ⟨q9, h9⟩ := wc_at (cy := cy) (ad := ad) (ks := ks) (g := g) (u := (t5.2)) (κ := .rd) hk.1 True.intro
    refine va_get (D := (dC, dI)) (ci := 5) (v := .int ((t5.2) 0 6)) (C := RX5) (T := TX5) (N := 11) hx hb hts inlX5 hown hK hP q9 h9 rfl 2 (by decide) (hts _ mw_148) (fun _ h9 => h9) rfl dX5_readNumber_73 ?_
    clear h9
    refine lv_iload_n hx hb dX5_readNumber_76 rfl (lv_at hl 1 rfl) ?_
    obtain ⟨t10, hJ11, hF⟩ := ob hF
    have join12 : ∀ (H : Heap) (locs : List Loc) (ls : Array Slot), va_P (dC, dI) vwCl (WC cy ad ks g t10) H → va_D A (WC cy ad ks g t10) → va_S A s.heap H locs → lv_has ls 5 [(4, .int (t5.1)), (3, .int (t1.1)), (0, .ref (ad .rd)), (1, .int a1), (2, .int a2)] → W p l e (headSpec (wsg yX5_readNumber cX5_readNumber 5 (some .int)) ({ frames := 8, cells := 0, slots := 0, locals := 300 })).room s m ([.ref (ad .rd), .int a1, .int a2] : List Value).toArray below meth c H locs 0 0 Qn (F0 m 107 ls []) := by
      intro H locs ls hP hD hS hl
      refine lv_iload hx hb dX5_readNumber_107 (lv_at hl 0 rfl) ?_
      have hZ := s1 hF
      have zro : (t5.1) = ro := (congrArg (fun q => q.1) hZ)
      have zuz : t10 = uz := (congrArg (fun q => q.2) hZ)
      have hP9 : va_P (dC, dI) vwCl (WC cy ad ks g uz) H := by rw [← zuz]; exact hP
      have hD9 : va_D A (WC cy ad ks g uz) := by rw [← zuz]; exact hD
      rw [hQ]
      exact W.iret (v := (t5.1)) hx hb hr (fun t ht hW => ⟨⟨(t5.1), (), rfl, zro, by rw [ht]; exact hP9, hD9⟩, hS.F ht⟩) hS.2.2 dX5_readNumber_109
    clear hF
    have hF := hJ11
    clear hJ11
    refine lv_icmp_ne (tgt := 89) hx hb dX5_readNumber_77 (by decide) (fun c9 => ?_) (fun c9 => ?_)
    · rw [if_neg c9] at hF
      refine lv_iload hx hb dX5_readNumber_89 (lv_at hl 0 rfl) ?_
      refine lv_iload_n hx hb dX5_readNumber_91 rfl (lv_at hl 3 rfl) ?_
      refine lv_icmp_lt (tgt := 101) hx hb dX5_readNumber_92 (by decide) (fun c13 => ?_) (fun c13 => ?_)
      · rw [if_pos c13] at hF
        refine lv_aload_n hx hb dX5_readNumber_101 rfl (lv_at hl 2 rfl) ?_
        refine lv_iconst (v := 2) hx hb dX5_readNumber_102 (by decide) ?_
        refine lv_iload_n hx hb dX5_readNumber_103 rfl (lv_at hl 1 rfl) ?_
        obtain ⟨u14, e15, hF⟩ := ob hF
        have hPc := hP
        have hDc := hD
        have hFc := my_free hD hS hA
        obtain ⟨q8, h8⟩ := wc_at (cy := cy) (ad := ad) (ks := ks) (g := g) (u := (t5.2)) (κ := .rd) hk.1 True.intro
        refine va_callv (va_runV (As := [.int 2, .int (t1.1)]) (rest := []) ⟨hx, hb, hml, hown, hts⟩ (c_X5_error l dC dI cy nb ad ks g hk (t5.2) (2) ((t1.1)) (u14) H.size e15) (cwV 2 hts (gV mw_219 mw_220 mw_221 mw_22 mw_222) rfl rfl rfl (by decide +kernel) ⟨Nat.le_of_ble_eq_true rfl, Nat.le_of_ble_eq_true rfl⟩) (my_preV hPc hK hDc hE hS hFc (va_recv (q := (RX5, TX5, 11)) hK hP (ci := 5) (q0 := q8) rfl h8)) rfl rfl hl.1 rfl (lv_room (Nat.le_of_ble_eq_true rfl)) dX5_readNumber_104 ⟨Nat.le_of_ble_eq_true rfl, Nat.le_of_ble_eq_true rfl⟩) hS (fun q _ h => hFc q h) hFc (fun u t H1 locs ht hvm hw hB hz1 hk1 hS => ?_)
        clear h8
        obtain ⟨hP1, hD1⟩ := hB
        rw [ht] at hP1
        have hP := hP1
        have hD := hD1.weaken (fun k q _ h => hFc q.1 h)
        generalize H1 = H at hP hS ⊢
        clear hP1 hD1 hPc hDc hFc hk1 hz1 hvm ht
        have ht := s1 hF
        subst ht
        exact join12 _ _ _ hP hD hS (lv_sub hl [0, 1, 2, 3, 4] rfl)
      · rw [if_neg c13] at hF
        refine lv_iload hx hb dX5_readNumber_95 (lv_at hl 0 rfl) ?_
        refine lv_iload_n hx hb dX5_readNumber_97 rfl (lv_at hl 4 rfl) ?_
        refine lv_icmp_le (tgt := 107) hx hb dX5_readNumber_98 (by decide) (fun c16 => ?_) (fun c16 => ?_)
        · rw [if_pos c16] at hF
          have ht := s1 hF
          subst ht
          exact join12 _ _ _ hP hD hS (lv_sub hl [0, 1, 2, 3, 4] rfl)
        · rw [if_neg c16] at hF
          refine lv_aload_n hx hb dX5_readNumber_101 rfl (lv_at hl 2 rfl) ?_
          refine lv_iconst (v := 2) hx hb dX5_readNumber_102 (by decide) ?_
          refine lv_iload_n hx hb dX5_readNumber_103 rfl (lv_at hl 1 rfl) ?_
          obtain ⟨u17, e18, hF⟩ := ob hF
          have hPc := hP
          have hDc := hD
          have hFc := my_free hD hS hA
          obtain ⟨q8, h8⟩ := wc_at (cy := cy) (ad := ad) (ks := ks) (g := g) (u := (t5.2)) (κ := .rd) hk.1 True.intro
          refine va_callv (va_runV (As := [.int 2, .int (t1.1)]) (rest := []) ⟨hx, hb, hml, hown, hts⟩ (c_X5_error l dC dI cy nb ad ks g hk (t5.2) (2) ((t1.1)) (u17) H.size e18) (cwV 2 hts (gV mw_219 mw_220 mw_221 mw_22 mw_222) rfl rfl rfl (by decide +kernel) ⟨Nat.le_of_ble_eq_true rfl, Nat.le_of_ble_eq_true rfl⟩) (my_preV hPc hK hDc hE hS hFc (va_recv (q := (RX5, TX5, 11)) hK hP (ci := 5) (q0 := q8) rfl h8)) rfl rfl hl.1 rfl (lv_room (Nat.le_of_ble_eq_true rfl)) dX5_readNumber_104 ⟨Nat.le_of_ble_eq_true rfl, Nat.le_of_ble_eq_true rfl⟩) hS (fun q _ h => hFc q h) hFc (fun u t H1 locs ht hvm hw hB hz1 hk1 hS => ?_)
          clear h8
          obtain ⟨hP1, hD1⟩ := hB
          rw [ht] at hP1
          have hP := hP1
          have hD := hD1.weaken (fun k q _ h => hFc q.1 h)
          generalize H1 = H at hP hS ⊢
          clear hP1 hD1 hPc hDc hFc hk1 hz1 hvm ht
          have ht := s1 hF
          subst ht
          exact join12 _ _ _ hP hD hS (lv_sub hl [0, 1, 2, 3, 4] rfl)
    · rw [if_pos c9] at hF
      refine lv_aload_n hx hb dX5_readNumber_80 rfl (lv_at hl 2 rfl) ?_
      refine lv_iconst (v := 1) hx hb dX5_readNumber_81 (by decide) ?_
      refine lv_iload_n hx hb dX5_readNumber_82 rfl (lv_at hl 1 rfl) ?_
      obtain ⟨u19, e20, hF⟩ := ob hF
      have hPc := hP
      have hDc := hD
      have hFc := my_free hD hS hA
      obtain ⟨q8, h8⟩ := wc_at (cy := cy) (ad := ad) (ks := ks) (g := g) (u := (t5.2)) (κ := .rd) hk.1 True.intro
      refine va_callv (va_runV (As := [.int 1, .int (t1.1)]) (rest := []) ⟨hx, hb, hml, hown, hts⟩ (c_X5_error l dC dI cy nb ad ks g hk (t5.2) (1) ((t1.1)) (u19) H.size e20) (cwV 2 hts (gV mw_219 mw_220 mw_221 mw_22 mw_222) rfl rfl rfl (by decide +kernel) ⟨Nat.le_of_ble_eq_true rfl, Nat.le_of_ble_eq_true rfl⟩) (my_preV hPc hK hDc hE hS hFc (va_recv (q := (RX5, TX5, 11)) hK hP (ci := 5) (q0 := q8) rfl h8)) rfl rfl hl.1 rfl (lv_room (Nat.le_of_ble_eq_true rfl)) dX5_readNumber_83 ⟨Nat.le_of_ble_eq_true rfl, Nat.le_of_ble_eq_true rfl⟩) hS (fun q _ h => hFc q h) hFc (fun u t H1 locs ht hvm hw hB hz1 hk1 hS => ?_)
      clear h8
      obtain ⟨hP1, hD1⟩ := hB
      rw [ht] at hP1
      have hP := hP1
      have hD := hD1.weaken (fun k q _ h => hFc q.1 h)
      generalize H1 = H at hP hS ⊢
      clear hP1 hD1 hPc hDc hFc hk1 hz1 hvm ht
      refine lv_goto (tgt := 107) hx hb dX5_readNumber_86 (by decide) ?_
      have ht := s1 hF
      subst ht
      exact join12 _ _ _ hP hD hS (lv_sub hl [0, 1, 2, 3, 4] rfl)
  clear hF
  have loop21 : ∀ (m22 : Nat) (y3 : Int32) (u4 : RS), C5_readNumber_L8 t1 a1 a2 g m22 y3 u4 = some t5 → ∀ (H : Heap) (locs : List Loc) (ls : Array Slot), va_P (dC, dI) vwCl (WC cy ad ks g u4) H → va_D A (WC cy ad ks g u4) → va_S A s.heap H locs → lv_has ls 5 [(4, .int y3), (3, .int (t1.1)), (0, .ref (ad .rd)), (1, .int a1), (2, .int a2)] → W p l e (headSpec (wsg yX5_readNumber cX5_readNumber 5 (some .int)) ({ frames := 8, cells := 0, slots := 0, locals := 300 })).room s m ([.ref (ad .rd), .int a1, .int a2] : List Value).toArray below meth c H locs 0 0 Qn (F0 m 8 ls []) := by
    intro m22
    induction m22 with
    | zero => intro y3 u4 hF; cases hF
    | succ m22 ih =>
      intro y3 u4 hF H locs ls hP hD hS hl
      simp only [C5_readNumber_L8] at hF
      refine lv_aload_n hx hb dX5_readNumber_8 rfl (lv_at hl 2 rfl) ?_
      obtain ⟨q9, h9⟩ := wc_at (cy := cy) (ad := ad) (ks := ks) (g := g) (u := u4) (κ := .rd) hk.1 True.intro
      refine va_get (D := (dC, dI)) (ci := 5) (v := .int (u4 0 6)) (C := RX5) (T := TX5) (N := 11) hx hb hts inlX5 hown hK hP q9 h9 rfl 2 (by decide) (hts _ mw_148) (fun _ h9 => h9) rfl dX5_readNumber_9 ?_
      clear h9
      refine lv_aload_n hx hb dX5_readNumber_12 rfl (lv_at hl 2 rfl) ?_
      obtain ⟨q9, h9⟩ := wc_at (cy := cy) (ad := ad) (ks := ks) (g := g) (u := u4) (κ := .rd) hk.1 True.intro
      refine va_get (D := (dC, dI)) (ci := 5) (v := .int (u4 0 5)) (C := RX5) (T := TX5) (N := 11) hx hb hts inlX5 hown hK hP q9 h9 rfl 1 (by decide) (hts _ mw_122) (fun _ h9 => h9) rfl dX5_readNumber_13 ?_
      clear h9
      refine lv_icmp_ge (tgt := 72) hx hb dX5_readNumber_16 (by decide) (fun c23 => ?_) (fun c23 => ?_)
      · rw [if_pos c23] at hF
        have ht := s1 hF
        subst ht
        exact kx7 _ _ _ hP hD hS (lv_sub hl [0, 1, 2, 3, 4] rfl)
      · rw [if_neg c23] at hF
        refine lv_aload_n hx hb dX5_readNumber_19 rfl (lv_at hl 2 rfl) ?_
        obtain ⟨q9, h9⟩ := wc_at (cy := cy) (ad := ad) (ks := ks) (g := g) (u := u4) (κ := .rd) hk.1 True.intro
        refine va_get (D := (dC, dI)) (ci := 5) (v := .ref (ad .tb)) (C := RX5) (T := TX5) (N := 11) hx hb hts inlX5 hown hK hP q9 h9 rfl 0 (by decide) (hts _ mw_72) (fun _ h9 => h9) rfl dX5_readNumber_20 ?_
        clear h9
        refine lv_aload_n hx hb dX5_readNumber_23 rfl (lv_at hl 2 rfl) ?_
        obtain ⟨q9, h9⟩ := wc_at (cy := cy) (ad := ad) (ks := ks) (g := g) (u := u4) (κ := .rd) hk.1 True.intro
        refine va_get (D := (dC, dI)) (ci := 5) (v := .int (u4 0 6)) (C := RX5) (T := TX5) (N := 11) hx hb hts inlX5 hown hK hP q9 h9 rfl 2 (by decide) (hts _ mw_148) (fun _ h9 => h9) rfl dX5_readNumber_24 ?_
        clear h9
        obtain ⟨x24, e25, hF⟩ := ob hF
        obtain ⟨q9, h9⟩ := wc_at (cy := cy) (ad := ad) (ks := ks) (g := g) (u := u4) (κ := .tb) hk.1 True.intro
        refine va_bald hx hb hK hP q9 0 h9 rfl (rd_in e25) dX5_readNumber_27 ?_
        refine my_topi (y := x24) (rd_eq e25) ?_
        clear h9
        obtain ⟨x26, e27, hF⟩ := ob hF
        have hPc : va_P (dC, dI) vwCl ([] : va_W) H := fun k q h => by simp at h
        have hDc : va_D A ([] : va_W) := ⟨fun i j p q h => by simp at h, fun k q h => by simp at h⟩
        have hFc := my_free0 hS hA
        refine va_calli (va_runS (As := [.int x24]) (rest := []) ⟨hx, hb, hml, hown, hts⟩ (c_X5_isDigit l dC dI cy nb (x24) (x26) H.size e27) (va_cwS 1 hts (gS mw_236 mw_237 mw_22 mw_238) rfl rfl rfl (by decide +kernel) ⟨Nat.le_of_ble_eq_true rfl, Nat.le_of_ble_eq_true rfl⟩) (my_preS hPc hK hDc hE hS hFc) rfl rfl hl.1 rfl (lv_room (Nat.le_of_ble_eq_true rfl)) dX5_readNumber_28 ⟨Nat.le_of_ble_eq_true rfl, Nat.le_of_ble_eq_true rfl⟩) hS (fun q _ h => hFc q h) hFc (fun r u t H1 locs ht hvm hw hB hz1 hk1 hS => ?_)
        obtain ⟨hP1, hD1⟩ := hB
        rw [ht] at hP1
        have hP := my_keep hP hk1
        generalize H1 = H at hP hS ⊢
        clear hP1 hD1 hPc hDc hFc hk1 hz1 hvm ht
        obtain rfl := hw.symm
        refine lv_if_eq (tgt := 72) hx hb dX5_readNumber_31 (by decide) (fun c28 => ?_) (fun c28 => ?_)
        · rw [if_pos c28] at hF
          have ht := s1 hF
          subst ht
          exact kx7 _ _ _ hP hD hS (lv_sub hl [0, 1, 2, 3, 4] rfl)
        · rw [if_neg c28] at hF
          refine lv_iload hx hb dX5_readNumber_34 (lv_at hl 0 rfl) ?_
          refine lv_bipush (v := 10) hx hb dX5_readNumber_36 (by decide) ?_
          refine lv_imul hx hb dX5_readNumber_38 ?_
          refine lv_aload_n hx hb dX5_readNumber_39 rfl (lv_at hl 2 rfl) ?_
          obtain ⟨q9, h9⟩ := wc_at (cy := cy) (ad := ad) (ks := ks) (g := g) (u := u4) (κ := .rd) hk.1 True.intro
          refine va_get (D := (dC, dI)) (ci := 5) (v := .ref (ad .tb)) (C := RX5) (T := TX5) (N := 11) hx hb hts inlX5 hown hK hP q9 h9 rfl 0 (by decide) (hts _ mw_72) (fun _ h9 => h9) rfl dX5_readNumber_40 ?_
          clear h9
          refine lv_aload_n hx hb dX5_readNumber_43 rfl (lv_at hl 2 rfl) ?_
          obtain ⟨q9, h9⟩ := wc_at (cy := cy) (ad := ad) (ks := ks) (g := g) (u := u4) (κ := .rd) hk.1 True.intro
          refine va_get (D := (dC, dI)) (ci := 5) (v := .int (u4 0 6)) (C := RX5) (T := TX5) (N := 11) hx hb hts inlX5 hown hK hP q9 h9 rfl 2 (by decide) (hts _ mw_148) (fun _ h9 => h9) rfl dX5_readNumber_44 ?_
          clear h9
          obtain ⟨x29, e30, hF⟩ := ob hF
          obtain ⟨q9, h9⟩ := wc_at (cy := cy) (ad := ad) (ks := ks) (g := g) (u := u4) (κ := .tb) hk.1 True.intro
          refine va_bald hx hb hK hP q9 0 h9 rfl (rd_in e30) dX5_readNumber_47 ?_
          refine my_topi (y := x29) (rd_eq e30) ?_
          clear h9
          refine lv_iadd hx hb dX5_readNumber_48 ?_
          refine lv_bipush (v := 48) hx hb dX5_readNumber_49 (by decide) ?_
          refine lv_isub hx hb dX5_readNumber_51 ?_
          refine lv_ldc hx hb hown (hts _ mw_231) dX5_readNumber_52 ?_
          refine va_mmin hx hb (hml.trans hl.1.symm) hown (hts _ mw_232) (hts _ mw_233) (hts _ mw_234) (hts _ mw_235) (Nat.le_of_ble_eq_true rfl) (Nat.le_of_ble_eq_true rfl) (Nat.le_of_ble_eq_true rfl) (Nat.le_of_ble_eq_true rfl) dX5_readNumber_54 ?_
          refine lv_istore (lv' := [(4, .int (if (1000000 : Int32) < (((y3 * 10) + x29) - 48) then (1000000 : Int32) else (((y3 * 10) + x29) - 48))), (3, .int (t1.1)), (0, .ref (ad .rd)), (1, .int a1), (2, .int a2)]) hx hb dX5_readNumber_57 hl (by decide) rfl (fun ls hl => ?_)
          refine lv_aload_n hx hb dX5_readNumber_59 rfl (lv_at hl 2 rfl) ?_
          refine lv_dup hx hb dX5_readNumber_60 rfl ?_
          obtain ⟨q9, h9⟩ := wc_at (cy := cy) (ad := ad) (ks := ks) (g := g) (u := u4) (κ := .rd) hk.1 True.intro
          refine va_get (D := (dC, dI)) (ci := 5) (v := .int (u4 0 6)) (C := RX5) (T := TX5) (N := 11) hx hb hts inlX5 hown hK hP q9 h9 rfl 2 (by decide) (hts _ mw_148) (fun _ h9 => h9) rfl dX5_readNumber_61 ?_
          clear h9
          refine lv_iconst (v := 1) hx hb dX5_readNumber_64 (by decide) ?_
          refine lv_iadd hx hb dX5_readNumber_65 ?_
          obtain ⟨q9, h9, ez9⟩ := wc_set (cy := cy) (ad := ad) (ks := ks) (g := g) (u := u4) (κ := .rd) (r := 0) (i := 6) (v := ((u4 0 6) + 1)) hk.1 True.intro (own_rd (by decide)) (sf_rd_2)
          refine va_put (D := (dC, dI)) (ci := 5) (v := .int ((u4 0 6) + 1)) (ty := .int) (C := RX5) (T := TX5) (N := 11) hx hb hts inlX5 tyX5 tyX5_ok nmX5 hown hK hP hD hS q9 h9 rfl 2 (by decide) (hts _ mw_148) (fun _ h9 => h9) rfl (by decide +kernel) rfl rfl (Nat.le_of_ble_eq_true rfl) dX5_readNumber_66 (fun H locs hP hD hS => ?_)
          obtain ⟨u31, e32, hF⟩ := ob hF
          have hP : va_P (dC, dI) vwCl (WC cy ad ks g u31) H := by rw [← pt_eq e32, ← ez9]; exact hP
          have hD : va_D A (WC cy ad ks g u31) := by rw [← pt_eq e32, ← ez9]; exact hD
          clear ez9 h9
          refine lv_goto (tgt := 8) hx hb dX5_readNumber_69 (by decide) ?_
          exact ih _ _ hF _ _ _ hP hD hS (lv_sub hl [0, 1, 2, 3, 4] rfl)
  exact loop21 FUEL _ _ hL6 _ _ _ hP hD hS (lv_sub hl [0, 1, 2, 3, 4] rfl)
noncomputable def C5_readLetter (g : CG) (u0 : RS) (a1 : Int32) : Option (RS) := (C5_rowLength g u0 ((u0 0 11))).bind fun x1 => if x1 < 16 then ((ws u0 4 64 (u0 0 10) (vp_nar .byte ((a1 - 97)).toInt8.toInt32)).bind fun u4 => (pt u4 0 10 ((u4 0 10) + 1)).bind fun u6 => (pt u6 0 6 ((u6 0 6) + 1)).bind fun u8 => some u8) else ((C5_error g u0 (3) ((u0 0 6))).bind fun u10 => some u10)
set_option maxHeartbeats 4000000 in
set_option maxRecDepth 100000 in
theorem c_X5_readLetter (l : Launch) (dC : Nat → ClassId) (dI : Nat → Nat → Nat) (cy : Nat → ClassId) (nb : Nat → Nat) (ad : CK → Nat) (ks : List CK) (g : CG) (hk : GA nb ad g ks) (u0 : RS) (a1 : Int32) (uz : RS) (sz : Nat) (hF : C5_readLetter g u0 a1 = some uz) : Met l yX5_readLetter (wsg yX5_readLetter cX5_readLetter 2 none) ({ frames := 8, cells := 0, slots := 0, locals := 300 }) (va_Pc [.ref (ad .rd), .int a1] (fun U => U.heap.size = sz ∧ va_P (dC, dI) vwCl (WC cy ad ks g u0) U.heap ∧ va_K (dC, dI) vwCl (tyL cy) U ∧ va_D (fun _ => True) (WC cy ad ks g u0) ∧ GE nb (va_A (WC cy ad ks g u0) sz) U)) (va_Qv (fun (_ : Unit) => True) (fun _ t => va_P (dC, dI) vwCl (WC cy ad ks g uz) t.heap ∧ va_D (va_A (WC cy ad ks g u0) sz) (WC cy ad ks g uz)) (va_A (WC cy ad ks g u0) sz)) 0 0 (va_A (WC cy ad ks g u0) sz) := by
  refine Met.ofW (cc := cX5_readLetter) (maxL := 2) (ret := none) pn_X5 rfl ?_
  intro p e s m args below meth c s₁ B hml hv
  obtain ⟨rfl, hsz, hP, hK, hD0, hE⟩ := hv
  have hx := B.exec
  have hb := B.bytes
  have hr := B.returns
  have hts0 := atoms_spec (ws := (wsg yX5_readLetter cX5_readLetter 2 none)) B.pre
  have hts : ∀ w ∈ wsL_law, w.before _ s = true := fun w h => hts0 w (List.mem_cons_of_mem _ h)
  have hown : s.vm.findClass RX5 = some m.cls := by have h9 := findClass_of_methodNamed B.named; exact h9
  have hlocks := B.notSynchronized
  subst hsz
  have hD := hD0.self (sz := s.heap.size)
  generalize hAe : va_A (WC cy ad ks g u0) s.heap.size = A at hD hE ⊢
  have hA : ∀ q : Nat, s.heap.size ≤ q → A q := fun q h => by rw [← hAe]; exact Or.inr h
  have hS : va_S A s.heap s.heap [] := va_S.rf
  have hl := lv_entry ([.ref (ad .rd), .int a1]) (n := 2) (Nat.le_of_ble_eq_true rfl)
  rw [lg_entry_eq]
  generalize (lg_sl ([.ref (ad .rd), .int a1]) ++ List.replicate (2 - (lg_sl ([.ref (ad .rd), .int a1])).length) Slot.unset).toArray = ls at hl ⊢
  have hl : lv_has ls 2 [(0, .ref (ad .rd)), (1, .int a1)] := hl
  generalize hHe : s.heap = H at hP hS ⊢
  have hS : va_S A s.heap H [] := by rw [hHe]; exact hS
  refine my_Q (fun Qn hQ => ?_)
  simp only [C5_readLetter] at hF
  refine lv_aload_n hx hb dX5_readLetter_0 rfl (lv_at hl 0 rfl) ?_
  refine lv_aload_n hx hb dX5_readLetter_1 rfl (lv_at hl 0 rfl) ?_
  obtain ⟨q9, h9⟩ := wc_at (cy := cy) (ad := ad) (ks := ks) (g := g) (u := u0) (κ := .rd) hk.1 True.intro
  refine va_get (D := (dC, dI)) (ci := 5) (v := .int (u0 0 11)) (C := RX5) (T := TX5) (N := 11) hx hb hts inlX5 hown hK hP q9 h9 rfl 10 (by decide) (hts _ mw_284) (fun _ h9 => h9) rfl dX5_readLetter_2 ?_
  clear h9
  obtain ⟨x1, e2, hF⟩ := ob hF
  have hPc := hP
  have hDc := hD
  have hFc := my_free hD hS hA
  obtain ⟨q8, h8⟩ := wc_at (cy := cy) (ad := ad) (ks := ks) (g := g) (u := u0) (κ := .rd) hk.1 True.intro
  refine va_calli (va_runV (As := [.int (u0 0 11)]) (rest := []) ⟨hx, hb, hml, hown, hts⟩ (c_X5_rowLength l dC dI cy nb ad ks g hk u0 ((u0 0 11)) (x1) H.size e2) (cwV 1 hts (gV mw_289 mw_290 mw_291 mw_22 mw_292) rfl rfl rfl (by decide +kernel) ⟨Nat.le_of_ble_eq_true rfl, Nat.le_of_ble_eq_true rfl⟩) (my_preV hPc hK hDc hE hS hFc (va_recv (q := (RX5, TX5, 11)) hK hP (ci := 5) (q0 := q8) rfl h8)) rfl rfl hl.1 rfl (lv_room (Nat.le_of_ble_eq_true rfl)) dX5_readLetter_5 ⟨Nat.le_of_ble_eq_true rfl, Nat.le_of_ble_eq_true rfl⟩) hS (fun q _ h => hFc q h) hFc (fun r u t H1 locs ht hvm hw hB hz1 hk1 hS => ?_)
  clear h8
  obtain ⟨hP1, hD1⟩ := hB
  rw [ht] at hP1
  have hP := hP1
  have hD := hD1.weaken (fun k q _ h => hFc q.1 h)
  generalize H1 = H at hP hS ⊢
  clear hP1 hD1 hPc hDc hFc hk1 hz1 hvm ht
  obtain rfl := hw.symm
  refine lv_bipush (v := 16) hx hb dX5_readLetter_8 (by decide) ?_
  refine lv_icmp_lt (tgt := 23) hx hb dX5_readLetter_10 (by decide) (fun c3 => ?_) (fun c3 => ?_)
  · rw [if_pos c3] at hF
    refine lv_aload_n hx hb dX5_readLetter_23 rfl (lv_at hl 0 rfl) ?_
    obtain ⟨q9, h9⟩ := wc_at (cy := cy) (ad := ad) (ks := ks) (g := g) (u := u0) (κ := .rd) hk.1 True.intro
    refine va_get (D := (dC, dI)) (ci := 5) (v := .ref (ad .le)) (C := RX5) (T := TX5) (N := 11) hx hb hts inlX5 hown hK hP q9 h9 rfl 6 (by decide) (hts _ mw_73) (fun _ h9 => h9) rfl dX5_readLetter_24 ?_
    clear h9
    refine lv_aload_n hx hb dX5_readLetter_27 rfl (lv_at hl 0 rfl) ?_
    obtain ⟨q9, h9⟩ := wc_at (cy := cy) (ad := ad) (ks := ks) (g := g) (u := u0) (κ := .rd) hk.1 True.intro
    refine va_get (D := (dC, dI)) (ci := 5) (v := .int (u0 0 10)) (C := RX5) (T := TX5) (N := 11) hx hb hts inlX5 hown hK hP q9 h9 rfl 9 (by decide) (hts _ mw_283) (fun _ h9 => h9) rfl dX5_readLetter_28 ?_
    clear h9
    refine lv_iload_n hx hb dX5_readLetter_31 rfl (lv_at hl 1 rfl) ?_
    refine lv_bipush (v := 97) hx hb dX5_readLetter_32 (by decide) ?_
    refine lv_isub hx hb dX5_readLetter_34 ?_
    refine lv_i2b (v := ((a1 - 97)).toInt8.toInt32) hx hb dX5_readLetter_35 rfl ?_
    obtain ⟨u4, e5, hF⟩ := ob hF
    obtain ⟨q9, h9, ez9⟩ := wc_set (cy := cy) (ad := ad) (ks := ks) (g := g) (u := u0) (κ := .le) (r := 4) (i := ((u0 0 10) : Int32).toNatClampNeg) (v := (vp_nar .byte ((a1 - 97)).toInt8.toInt32)) hk.1 True.intro own_le (sf_le)
    refine va_bast hx hb hK hP hD hS q9 0 h9 rfl (ws_in e5) dX5_readLetter_36 (fun H locs hP hD hS => ?_)
    have hP : va_P (dC, dI) vwCl (WC cy ad ks g u4) H := by rw [← ws_eq e5, ← ez9]; exact hP
    have hD : va_D A (WC cy ad ks g u4) := by rw [← ws_eq e5, ← ez9]; exact hD
    clear ez9 h9
    refine lv_aload_n hx hb dX5_readLetter_37 rfl (lv_at hl 0 rfl) ?_
    refine lv_dup hx hb dX5_readLetter_38 rfl ?_
    obtain ⟨q9, h9⟩ := wc_at (cy := cy) (ad := ad) (ks := ks) (g := g) (u := u4) (κ := .rd) hk.1 True.intro
    refine va_get (D := (dC, dI)) (ci := 5) (v := .int (u4 0 10)) (C := RX5) (T := TX5) (N := 11) hx hb hts inlX5 hown hK hP q9 h9 rfl 9 (by decide) (hts _ mw_283) (fun _ h9 => h9) rfl dX5_readLetter_39 ?_
    clear h9
    refine lv_iconst (v := 1) hx hb dX5_readLetter_42 (by decide) ?_
    refine lv_iadd hx hb dX5_readLetter_43 ?_
    obtain ⟨q9, h9, ez9⟩ := wc_set (cy := cy) (ad := ad) (ks := ks) (g := g) (u := u4) (κ := .rd) (r := 0) (i := 10) (v := ((u4 0 10) + 1)) hk.1 True.intro (own_rd (by decide)) (sf_rd_9)
    refine va_put (D := (dC, dI)) (ci := 5) (v := .int ((u4 0 10) + 1)) (ty := .int) (C := RX5) (T := TX5) (N := 11) hx hb hts inlX5 tyX5 tyX5_ok nmX5 hown hK hP hD hS q9 h9 rfl 9 (by decide) (hts _ mw_283) (fun _ h9 => h9) rfl (by decide +kernel) rfl rfl (Nat.le_of_ble_eq_true rfl) dX5_readLetter_44 (fun H locs hP hD hS => ?_)
    obtain ⟨u6, e7, hF⟩ := ob hF
    have hP : va_P (dC, dI) vwCl (WC cy ad ks g u6) H := by rw [← pt_eq e7, ← ez9]; exact hP
    have hD : va_D A (WC cy ad ks g u6) := by rw [← pt_eq e7, ← ez9]; exact hD
    clear ez9 h9
    refine lv_aload_n hx hb dX5_readLetter_47 rfl (lv_at hl 0 rfl) ?_
    refine lv_dup hx hb dX5_readLetter_48 rfl ?_
    obtain ⟨q9, h9⟩ := wc_at (cy := cy) (ad := ad) (ks := ks) (g := g) (u := u6) (κ := .rd) hk.1 True.intro
    refine va_get (D := (dC, dI)) (ci := 5) (v := .int (u6 0 6)) (C := RX5) (T := TX5) (N := 11) hx hb hts inlX5 hown hK hP q9 h9 rfl 2 (by decide) (hts _ mw_148) (fun _ h9 => h9) rfl dX5_readLetter_49 ?_
    clear h9
    refine lv_iconst (v := 1) hx hb dX5_readLetter_52 (by decide) ?_
    refine lv_iadd hx hb dX5_readLetter_53 ?_
    obtain ⟨q9, h9, ez9⟩ := wc_set (cy := cy) (ad := ad) (ks := ks) (g := g) (u := u6) (κ := .rd) (r := 0) (i := 6) (v := ((u6 0 6) + 1)) hk.1 True.intro (own_rd (by decide)) (sf_rd_2)
    refine va_put (D := (dC, dI)) (ci := 5) (v := .int ((u6 0 6) + 1)) (ty := .int) (C := RX5) (T := TX5) (N := 11) hx hb hts inlX5 tyX5 tyX5_ok nmX5 hown hK hP hD hS q9 h9 rfl 2 (by decide) (hts _ mw_148) (fun _ h9 => h9) rfl (by decide +kernel) rfl rfl (Nat.le_of_ble_eq_true rfl) dX5_readLetter_54 (fun H locs hP hD hS => ?_)
    obtain ⟨u8, e9, hF⟩ := ob hF
    have hP : va_P (dC, dI) vwCl (WC cy ad ks g u8) H := by rw [← pt_eq e9, ← ez9]; exact hP
    have hD : va_D A (WC cy ad ks g u8) := by rw [← pt_eq e9, ← ez9]; exact hD
    clear ez9 h9
    have hZ := s1 hF
    have zuz : u8 = uz := hZ
    have hP9 : va_P (dC, dI) vwCl (WC cy ad ks g uz) H := by rw [← zuz]; exact hP
    have hD9 : va_D A (WC cy ad ks g uz) := by rw [← zuz]; exact hD
    rw [hQ]
    exact W.vret hx hb hr (fun t ht hW => ⟨⟨(), rfl, trivial, by rw [ht]; exact hP9, hD9⟩, hS.F ht⟩) hS.2.2 dX5_readLetter_57
  · rw [if_neg c3] at hF
    refine lv_aload_n hx hb dX5_readLetter_13 rfl (lv_at hl 0 rfl) ?_
    refine lv_iconst (v := 3) hx hb dX5_readLetter_14 (by decide) ?_
    refine lv_aload_n hx hb dX5_readLetter_15 rfl (lv_at hl 0 rfl) ?_
    obtain ⟨q9, h9⟩ := wc_at (cy := cy) (ad := ad) (ks := ks) (g := g) (u := u0) (κ := .rd) hk.1 True.intro
    refine va_get (D := (dC, dI)) (ci := 5) (v := .int (u0 0 6)) (C := RX5) (T := TX5) (N := 11) hx hb hts inlX5 hown hK hP q9 h9 rfl 2 (by decide) (hts _ mw_148) (fun _ h9 => h9) rfl dX5_readLetter_16 ?_
    clear h9
    obtain ⟨u10, e11, hF⟩ := ob hF
    have hPc := hP
    have hDc := hD
    have hFc := my_free hD hS hA
    obtain ⟨q8, h8⟩ := wc_at (cy := cy) (ad := ad) (ks := ks) (g := g) (u := u0) (κ := .rd) hk.1 True.intro
    refine va_callv (va_runV (As := [.int 3, .int (u0 0 6)]) (rest := []) ⟨hx, hb, hml, hown, hts⟩ (c_X5_error l dC dI cy nb ad ks g hk u0 (3) ((u0 0 6)) (u10) H.size e11) (cwV 2 hts (gV mw_219 mw_220 mw_221 mw_22 mw_222) rfl rfl rfl (by decide +kernel) ⟨Nat.le_of_ble_eq_true rfl, Nat.le_of_ble_eq_true rfl⟩) (my_preV hPc hK hDc hE hS hFc (va_recv (q := (RX5, TX5, 11)) hK hP (ci := 5) (q0 := q8) rfl h8)) rfl rfl hl.1 rfl (lv_room (Nat.le_of_ble_eq_true rfl)) dX5_readLetter_19 ⟨Nat.le_of_ble_eq_true rfl, Nat.le_of_ble_eq_true rfl⟩) hS (fun q _ h => hFc q h) hFc (fun u t H1 locs ht hvm hw hB hz1 hk1 hS => ?_)
    clear h8
    obtain ⟨hP1, hD1⟩ := hB
    rw [ht] at hP1
    have hP := hP1
    have hD := hD1.weaken (fun k q _ h => hFc q.1 h)
    generalize H1 = H at hP hS ⊢
    clear hP1 hD1 hPc hDc hFc hk1 hz1 hvm ht
    have hZ := s1 hF
    have zuz : u10 = uz := hZ
    have hP9 : va_P (dC, dI) vwCl (WC cy ad ks g uz) H := by rw [← zuz]; exact hP
    have hD9 : va_D A (WC cy ad ks g uz) := by rw [← zuz]; exact hD
    rw [hQ]
    exact W.vret hx hb hr (fun t ht hW => ⟨⟨(), rfl, trivial, by rw [ht]; exact hP9, hD9⟩, hS.F ht⟩) hS.2.2 dX5_readLetter_22
noncomputable def C5_readText_L17 (t5 : Int32 × RS) (g : CG) : Nat → Int32 → RS → Option (Int32 × RS)
  | 0, _, _ => none
  | m23 + 1, y7, u8 => if (u8 0 5) ≤ y7 then (some ((y7, u8))) else ((C5_isFine g u8).bind fun x25 => if x25 = 0 then (some ((y7, u8))) else (if (u8 0 5) ≤ (u8 0 6) then (some ((y7, u8))) else ((rd u8 3 600 (u8 0 6)).bind fun x29 => if x29 = 59 then (some ((y7, u8))) else ((rd u8 3 600 (u8 0 6)).bind fun x32 => (C5_isLetter (x32)).bind fun x34 => (if x34 = 0 then ((C5_isDigit (x32)).bind fun x42 => if x42 = 0 then (if x32 = 41 then ((C5_closeGroup g u8).bind fun u48 => some u48) else ((C5_error g u8 (1) ((u8 0 6))).bind fun u46 => some u46)) else ((C5_readNumber g u8 (2) (9)).bind fun t50 => (C5_openGroup g (t50.2) ((t50.1)) ((u8 0 6))).bind fun u52 => some u52)) else ((C5_readLetter g u8 (x32)).bind fun u54 => some u54) : Option (RS)).bind fun t37 => (C5_skipSpaces g t37).bind fun t40 => C5_readText_L17 t5 g m23 ((y7 + 1)) (t40.2)))))
noncomputable def C5_readText (g : CG) (u0 : RS)  : Option (RS) := (pt u0 0 10 (0)).bind fun u1 => (pt u1 0 11 (0)).bind fun u3 => (C5_skipSpaces g u3).bind fun t5 => (C5_readText_L17 t5 g FUEL ((t5.1)) (t5.2)).bind fun t9 => (if 0 < ((t9.2) 0 11) then ((C5_error g (t9.2) (1) (((t9.2) 0 6))).bind fun u17 => some u17) else (if ((t9.2) 0 10) = 0 then ((C5_error g (t9.2) (1) (((t9.2) 0 6))).bind fun u20 => some u20) else (some (t9.2))) : Option (RS)).bind fun t14 => some t14
set_option maxHeartbeats 4000000 in
set_option maxRecDepth 100000 in
theorem c_X5_readText (l : Launch) (dC : Nat → ClassId) (dI : Nat → Nat → Nat) (cy : Nat → ClassId) (nb : Nat → Nat) (ad : CK → Nat) (ks : List CK) (g : CG) (hk : GA nb ad g ks) (u0 : RS)  (uz : RS) (sz : Nat) (hF : C5_readText g u0  = some uz) : Met l yX5_readText (wsg yX5_readText cX5_readText 5 none) ({ frames := 9, cells := 0, slots := 0, locals := 400 }) (va_Pc [.ref (ad .rd)] (fun U => U.heap.size = sz ∧ va_P (dC, dI) vwCl (WC cy ad ks g u0) U.heap ∧ va_K (dC, dI) vwCl (tyL cy) U ∧ va_D (fun _ => True) (WC cy ad ks g u0) ∧ GE nb (va_A (WC cy ad ks g u0) sz) U)) (va_Qv (fun (_ : Unit) => True) (fun _ t => va_P (dC, dI) vwCl (WC cy ad ks g uz) t.heap ∧ va_D (va_A (WC cy ad ks g u0) sz) (WC cy ad ks g uz)) (va_A (WC cy ad ks g u0) sz)) 0 0 (va_A (WC cy ad ks g u0) sz) := by
  refine Met.ofW (cc := cX5_readText) (maxL := 5) (ret := none) pn_X5 rfl ?_
  intro p e s m args below meth c s₁ B hml hv
  obtain ⟨rfl, hsz, hP, hK, hD0, hE⟩ := hv
  have hx := B.exec
  have hb := B.bytes
  have hr := B.returns
  have hts0 := atoms_spec (ws := (wsg yX5_readText cX5_readText 5 none)) B.pre
  have hts : ∀ w ∈ wsL_law, w.before _ s = true := fun w h => hts0 w (List.mem_cons_of_mem _ h)
  have hown : s.vm.findClass RX5 = some m.cls := by have h9 := findClass_of_methodNamed B.named; exact h9
  have hlocks := B.notSynchronized
  subst hsz
  have hD := hD0.self (sz := s.heap.size)
  generalize hAe : va_A (WC cy ad ks g u0) s.heap.size = A at hD hE ⊢
  have hA : ∀ q : Nat, s.heap.size ≤ q → A q := fun q h => by rw [← hAe]; exact Or.inr h
  have hS : va_S A s.heap s.heap [] := va_S.rf
  have hl := lv_entry ([.ref (ad .rd)]) (n := 5) (Nat.le_of_ble_eq_true rfl)
  rw [lg_entry_eq]
  generalize (lg_sl ([.ref (ad .rd)]) ++ List.replicate (5 - (lg_sl ([.ref (ad .rd)])).length) Slot.unset).toArray = ls at hl ⊢
  have hl : lv_has ls 5 [(0, .ref (ad .rd))] := hl
  generalize hHe : s.heap = H at hP hS ⊢
  have hS : va_S A s.heap H [] := by rw [hHe]; exact hS
  refine my_Q (fun Qn hQ => ?_)
  simp only [C5_readText] at hF
  refine lv_aload_n hx hb dX5_readText_0 rfl (lv_at hl 0 rfl) ?_
  refine lv_iconst (v := 0) hx hb dX5_readText_1 (by decide) ?_
  obtain ⟨q9, h9, ez9⟩ := wc_set (cy := cy) (ad := ad) (ks := ks) (g := g) (u := u0) (κ := .rd) (r := 0) (i := 10) (v := (0)) hk.1 True.intro (own_rd (by decide)) (sf_rd_9)
  refine va_put (D := (dC, dI)) (ci := 5) (v := .int 0) (ty := .int) (C := RX5) (T := TX5) (N := 11) hx hb hts inlX5 tyX5 tyX5_ok nmX5 hown hK hP hD hS q9 h9 rfl 9 (by decide) (hts _ mw_283) (fun _ h9 => h9) rfl (by decide +kernel) rfl rfl (Nat.le_of_ble_eq_true rfl) dX5_readText_2 (fun H locs hP hD hS => ?_)
  obtain ⟨u1, e2, hF⟩ := ob hF
  have hP : va_P (dC, dI) vwCl (WC cy ad ks g u1) H := by rw [← pt_eq e2, ← ez9]; exact hP
  have hD : va_D A (WC cy ad ks g u1) := by rw [← pt_eq e2, ← ez9]; exact hD
  clear ez9 h9
  refine lv_aload_n hx hb dX5_readText_5 rfl (lv_at hl 0 rfl) ?_
  refine lv_iconst (v := 0) hx hb dX5_readText_6 (by decide) ?_
  obtain ⟨q9, h9, ez9⟩ := wc_set (cy := cy) (ad := ad) (ks := ks) (g := g) (u := u1) (κ := .rd) (r := 0) (i := 11) (v := (0)) hk.1 True.intro (own_rd (by decide)) (sf_rd_10)
  refine va_put (D := (dC, dI)) (ci := 5) (v := .int 0) (ty := .int) (C := RX5) (T := TX5) (N := 11) hx hb hts inlX5 tyX5 tyX5_ok nmX5 hown hK hP hD hS q9 h9 rfl 10 (by decide) (hts _ mw_284) (fun _ h9 => h9) rfl (by decide +kernel) rfl rfl (Nat.le_of_ble_eq_true rfl) dX5_readText_7 (fun H locs hP hD hS => ?_)
  obtain ⟨u3, e4, hF⟩ := ob hF
  have hP : va_P (dC, dI) vwCl (WC cy ad ks g u3) H := by rw [← pt_eq e4, ← ez9]; exact hP
  have hD : va_D A (WC cy ad ks g u3) := by rw [← pt_eq e4, ← ez9]; exact hD
  clear ez9 h9
  refine lv_aload_n hx hb dX5_readText_10 rfl (lv_at hl 0 rfl) ?_
  obtain ⟨t5, e6, hF⟩ := ob hF
  have hPc := hP
  have hDc := hD
  have hFc := my_free hD hS hA
  obtain ⟨q8, h8⟩ := wc_at (cy := cy) (ad := ad) (ks := ks) (g := g) (u := u3) (κ := .rd) hk.1 True.intro
  refine va_calli (va_runV (As := []) (rest := []) ⟨hx, hb, hml, hown, hts⟩ (c_X5_skipSpaces l dC dI cy nb ad ks g hk u3 (t5.1) (t5.2) H.size e6) (cwV 0 hts (gV mw_155 mw_156 mw_157 mw_22 mw_158) rfl rfl rfl (by decide +kernel) ⟨Nat.le_of_ble_eq_true rfl, Nat.le_of_ble_eq_true rfl⟩) (my_preV hPc hK hDc hE hS hFc (va_recv (q := (RX5, TX5, 11)) hK hP (ci := 5) (q0 := q8) rfl h8)) rfl rfl hl.1 rfl (lv_room (Nat.le_of_ble_eq_true rfl)) dX5_readText_11 ⟨Nat.le_of_ble_eq_true rfl, Nat.le_of_ble_eq_true rfl⟩) hS (fun q _ h => hFc q h) hFc (fun r u t H1 locs ht hvm hw hB hz1 hk1 hS => ?_)
  clear h8
  obtain ⟨hP1, hD1⟩ := hB
  rw [ht] at hP1
  have hP := hP1
  have hD := hD1.weaken (fun k q _ h => hFc q.1 h)
  generalize H1 = H at hP hS ⊢
  clear hP1 hD1 hPc hDc hFc hk1 hz1 hvm ht
  obtain rfl := hw.symm
  refine lv_istore_n (lv' := [(1, .int (t5.1)), (0, .ref (ad .rd))]) hx hb dX5_readText_14 rfl hl (by decide) rfl (fun ls hl => ?_)
  refine lv_iload_n hx hb dX5_readText_15 rfl (lv_at hl 0 rfl) ?_
  refine lv_istore_n (lv' := [(2, .int (t5.1)), (1, .int (t5.1)), (0, .ref (ad .rd))]) hx hb dX5_readText_16 rfl hl (by decide) rfl (fun ls hl => ?_)
  obtain ⟨t9, hL10, hF⟩ := ob hF
  have kx11 : ∀ (H : Heap) (locs : List Loc) (ls : Array Slot), va_P (dC, dI) vwCl (WC cy ad ks g (t9.2)) H → va_D A (WC cy ad ks g (t9.2)) → va_S A s.heap H locs → lv_has ls 5 [(2, .int (t9.1)), (1, .int (t5.1)), (0, .ref (ad .rd))] → W p l e (headSpec (wsg yX5_readText cX5_readText 5 none) ({ frames := 9, cells := 0, slots := 0, locals := 400 })).room s m ([.ref (ad .rd)] : List Value).toArray below meth c H locs 0 0 Qn (F0 m 144 ls []) := by
    intro H locs ls hP hD hS hl
    refine lv_aload_n hx hb dX5_readText_144 rfl (lv_at hl 2 rfl) ?_
    obtain ⟨q9, h9⟩ := wc_at (cy := cy) (ad := ad) (ks := ks) (g := g) (u := (t9.2)) (κ := .rd) hk.1 True.intro
    refine va_get (D := (dC, dI)) (ci := 5) (v := .int ((t9.2) 0 11)) (C := RX5) (T := TX5) (N := 11) hx hb hts inlX5 hown hK hP q9 h9 rfl 10 (by decide) (hts _ mw_284) (fun _ h9 => h9) rfl dX5_readText_145 ?_
    clear h9
    obtain ⟨t14, hJ15, hF⟩ := ob hF
    have join16 : ∀ (H : Heap) (locs : List Loc) (ls : Array Slot), va_P (dC, dI) vwCl (WC cy ad ks g t14) H → va_D A (WC cy ad ks g t14) → va_S A s.heap H locs → lv_has ls 5 [(2, .int (t9.1)), (1, .int (t5.1)), (0, .ref (ad .rd))] → W p l e (headSpec (wsg yX5_readText cX5_readText 5 none) ({ frames := 9, cells := 0, slots := 0, locals := 400 })).room s m ([.ref (ad .rd)] : List Value).toArray below meth c H locs 0 0 Qn (F0 m 167 ls []) := by
      intro H locs ls hP hD hS hl
      have hZ := s1 hF
      have zuz : t14 = uz := hZ
      have hP9 : va_P (dC, dI) vwCl (WC cy ad ks g uz) H := by rw [← zuz]; exact hP
      have hD9 : va_D A (WC cy ad ks g uz) := by rw [← zuz]; exact hD
      rw [hQ]
      exact W.vret hx hb hr (fun t ht hW => ⟨⟨(), rfl, trivial, by rw [ht]; exact hP9, hD9⟩, hS.F ht⟩) hS.2.2 dX5_readText_167
    clear hF
    have hF := hJ15
    clear hJ15
    refine lv_if_gt (tgt := 158) hx hb dX5_readText_148 (by decide) (fun c13 => ?_) (fun c13 => ?_)
    · rw [if_pos c13] at hF
      refine lv_aload_n hx hb dX5_readText_158 rfl (lv_at hl 2 rfl) ?_
      refine lv_iconst (v := 1) hx hb dX5_readText_159 (by decide) ?_
      refine lv_aload_n hx hb dX5_readText_160 rfl (lv_at hl 2 rfl) ?_
      obtain ⟨q9, h9⟩ := wc_at (cy := cy) (ad := ad) (ks := ks) (g := g) (u := (t9.2)) (κ := .rd) hk.1 True.intro
      refine va_get (D := (dC, dI)) (ci := 5) (v := .int ((t9.2) 0 6)) (C := RX5) (T := TX5) (N := 11) hx hb hts inlX5 hown hK hP q9 h9 rfl 2 (by decide) (hts _ mw_148) (fun _ h9 => h9) rfl dX5_readText_161 ?_
      clear h9
      obtain ⟨u17, e18, hF⟩ := ob hF
      have hPc := hP
      have hDc := hD
      have hFc := my_free hD hS hA
      obtain ⟨q8, h8⟩ := wc_at (cy := cy) (ad := ad) (ks := ks) (g := g) (u := (t9.2)) (κ := .rd) hk.1 True.intro
      refine va_callv (va_runV (As := [.int 1, .int ((t9.2) 0 6)]) (rest := []) ⟨hx, hb, hml, hown, hts⟩ (c_X5_error l dC dI cy nb ad ks g hk (t9.2) (1) (((t9.2) 0 6)) (u17) H.size e18) (cwV 2 hts (gV mw_219 mw_220 mw_221 mw_22 mw_222) rfl rfl rfl (by decide +kernel) ⟨Nat.le_of_ble_eq_true rfl, Nat.le_of_ble_eq_true rfl⟩) (my_preV hPc hK hDc hE hS hFc (va_recv (q := (RX5, TX5, 11)) hK hP (ci := 5) (q0 := q8) rfl h8)) rfl rfl hl.1 rfl (lv_room (Nat.le_of_ble_eq_true rfl)) dX5_readText_164 ⟨Nat.le_of_ble_eq_true rfl, Nat.le_of_ble_eq_true rfl⟩) hS (fun q _ h => hFc q h) hFc (fun u t H1 locs ht hvm hw hB hz1 hk1 hS => ?_)
      clear h8
      obtain ⟨hP1, hD1⟩ := hB
      rw [ht] at hP1
      have hP := hP1
      have hD := hD1.weaken (fun k q _ h => hFc q.1 h)
      generalize H1 = H at hP hS ⊢
      clear hP1 hD1 hPc hDc hFc hk1 hz1 hvm ht
      have ht := s1 hF
      subst ht
      exact join16 _ _ _ hP hD hS (lv_sub hl [0, 1, 2] rfl)
    · rw [if_neg c13] at hF
      refine lv_aload_n hx hb dX5_readText_151 rfl (lv_at hl 2 rfl) ?_
      obtain ⟨q9, h9⟩ := wc_at (cy := cy) (ad := ad) (ks := ks) (g := g) (u := (t9.2)) (κ := .rd) hk.1 True.intro
      refine va_get (D := (dC, dI)) (ci := 5) (v := .int ((t9.2) 0 10)) (C := RX5) (T := TX5) (N := 11) hx hb hts inlX5 hown hK hP q9 h9 rfl 9 (by decide) (hts _ mw_283) (fun _ h9 => h9) rfl dX5_readText_152 ?_
      clear h9
      refine lv_if_ne (tgt := 167) hx hb dX5_readText_155 (by decide) (fun c19 => ?_) (fun c19 => ?_)
      · rw [if_neg c19] at hF
        have ht := s1 hF
        subst ht
        exact join16 _ _ _ hP hD hS (lv_sub hl [0, 1, 2] rfl)
      · rw [if_pos c19] at hF
        refine lv_aload_n hx hb dX5_readText_158 rfl (lv_at hl 2 rfl) ?_
        refine lv_iconst (v := 1) hx hb dX5_readText_159 (by decide) ?_
        refine lv_aload_n hx hb dX5_readText_160 rfl (lv_at hl 2 rfl) ?_
        obtain ⟨q9, h9⟩ := wc_at (cy := cy) (ad := ad) (ks := ks) (g := g) (u := (t9.2)) (κ := .rd) hk.1 True.intro
        refine va_get (D := (dC, dI)) (ci := 5) (v := .int ((t9.2) 0 6)) (C := RX5) (T := TX5) (N := 11) hx hb hts inlX5 hown hK hP q9 h9 rfl 2 (by decide) (hts _ mw_148) (fun _ h9 => h9) rfl dX5_readText_161 ?_
        clear h9
        obtain ⟨u20, e21, hF⟩ := ob hF
        have hPc := hP
        have hDc := hD
        have hFc := my_free hD hS hA
        obtain ⟨q8, h8⟩ := wc_at (cy := cy) (ad := ad) (ks := ks) (g := g) (u := (t9.2)) (κ := .rd) hk.1 True.intro
        refine va_callv (va_runV (As := [.int 1, .int ((t9.2) 0 6)]) (rest := []) ⟨hx, hb, hml, hown, hts⟩ (c_X5_error l dC dI cy nb ad ks g hk (t9.2) (1) (((t9.2) 0 6)) (u20) H.size e21) (cwV 2 hts (gV mw_219 mw_220 mw_221 mw_22 mw_222) rfl rfl rfl (by decide +kernel) ⟨Nat.le_of_ble_eq_true rfl, Nat.le_of_ble_eq_true rfl⟩) (my_preV hPc hK hDc hE hS hFc (va_recv (q := (RX5, TX5, 11)) hK hP (ci := 5) (q0 := q8) rfl h8)) rfl rfl hl.1 rfl (lv_room (Nat.le_of_ble_eq_true rfl)) dX5_readText_164 ⟨Nat.le_of_ble_eq_true rfl, Nat.le_of_ble_eq_true rfl⟩) hS (fun q _ h => hFc q h) hFc (fun u t H1 locs ht hvm hw hB hz1 hk1 hS => ?_)
        clear h8
        obtain ⟨hP1, hD1⟩ := hB
        rw [ht] at hP1
        have hP := hP1
        have hD := hD1.weaken (fun k q _ h => hFc q.1 h)
        generalize H1 = H at hP hS ⊢
        clear hP1 hD1 hPc hDc hFc hk1 hz1 hvm ht
        have ht := s1 hF
        subst ht
        exact join16 _ _ _ hP hD hS (lv_sub hl [0, 1, 2] rfl)
  clear hF
  have loop22 : ∀ (m23 : Nat) (y7 : Int32) (u8 : RS), C5_readText_L17 t5 g m23 y7 u8 = some t9 → ∀ (H : Heap) (locs : List Loc) (ls : Array Slot), va_P (dC, dI) vwCl (WC cy ad ks g u8) H → va_D A (WC cy ad ks g u8) → va_S A s.heap H locs → lv_has ls 5 [(2, .int y7), (1, .int (t5.1)), (0, .ref (ad .rd))] → W p l e (headSpec (wsg yX5_readText cX5_readText 5 none) ({ frames := 9, cells := 0, slots := 0, locals := 400 })).room s m ([.ref (ad .rd)] : List Value).toArray below meth c H locs 0 0 Qn (F0 m 17 ls []) := by
    intro m23
    induction m23 with
    | zero => intro y7 u8 hF; cases hF
    | succ m23 ih =>
      intro y7 u8 hF H locs ls hP hD hS hl
      simp only [C5_readText_L17] at hF
      refine lv_iload_n hx hb dX5_readText_17 rfl (lv_at hl 0 rfl) ?_
      refine lv_aload_n hx hb dX5_readText_18 rfl (lv_at hl 2 rfl) ?_
      obtain ⟨q9, h9⟩ := wc_at (cy := cy) (ad := ad) (ks := ks) (g := g) (u := u8) (κ := .rd) hk.1 True.intro
      refine va_get (D := (dC, dI)) (ci := 5) (v := .int (u8 0 5)) (C := RX5) (T := TX5) (N := 11) hx hb hts inlX5 hown hK hP q9 h9 rfl 1 (by decide) (hts _ mw_122) (fun _ h9 => h9) rfl dX5_readText_19 ?_
      clear h9
      refine lv_icmp_ge (tgt := 144) hx hb dX5_readText_22 (by decide) (fun c24 => ?_) (fun c24 => ?_)
      · rw [if_pos c24] at hF
        have ht := s1 hF
        subst ht
        exact kx11 _ _ _ hP hD hS (lv_sub hl [0, 1, 2] rfl)
      · rw [if_neg c24] at hF
        refine lv_aload_n hx hb dX5_readText_25 rfl (lv_at hl 2 rfl) ?_
        obtain ⟨x25, e26, hF⟩ := ob hF
        have hPc := hP
        have hDc := hD
        have hFc := my_free hD hS hA
        obtain ⟨q8, h8⟩ := wc_at (cy := cy) (ad := ad) (ks := ks) (g := g) (u := u8) (κ := .rd) hk.1 True.intro
        refine va_calli (va_runV (As := []) (rest := []) ⟨hx, hb, hml, hown, hts⟩ (c_X5_isFine l dC dI cy nb ad ks g hk u8 (x25) H.size e26) (cwV 0 hts (gV mw_239 mw_240 mw_241 mw_22 mw_242) rfl rfl rfl (by decide +kernel) ⟨Nat.le_of_ble_eq_true rfl, Nat.le_of_ble_eq_true rfl⟩) (my_preV hPc hK hDc hE hS hFc (va_recv (q := (RX5, TX5, 11)) hK hP (ci := 5) (q0 := q8) rfl h8)) rfl rfl hl.1 rfl (lv_room (Nat.le_of_ble_eq_true rfl)) dX5_readText_26 ⟨Nat.le_of_ble_eq_true rfl, Nat.le_of_ble_eq_true rfl⟩) hS (fun q _ h => hFc q h) hFc (fun r u t H1 locs ht hvm hw hB hz1 hk1 hS => ?_)
        clear h8
        obtain ⟨hP1, hD1⟩ := hB
        rw [ht] at hP1
        have hP := hP1
        have hD := hD1.weaken (fun k q _ h => hFc q.1 h)
        generalize H1 = H at hP hS ⊢
        clear hP1 hD1 hPc hDc hFc hk1 hz1 hvm ht
        obtain rfl := hw.symm
        refine lv_if_eq (tgt := 144) hx hb dX5_readText_29 (by decide) (fun c27 => ?_) (fun c27 => ?_)
        · rw [if_pos c27] at hF
          have ht := s1 hF
          subst ht
          exact kx11 _ _ _ hP hD hS (lv_sub hl [0, 1, 2] rfl)
        · rw [if_neg c27] at hF
          refine lv_aload_n hx hb dX5_readText_32 rfl (lv_at hl 2 rfl) ?_
          obtain ⟨q9, h9⟩ := wc_at (cy := cy) (ad := ad) (ks := ks) (g := g) (u := u8) (κ := .rd) hk.1 True.intro
          refine va_get (D := (dC, dI)) (ci := 5) (v := .int (u8 0 6)) (C := RX5) (T := TX5) (N := 11) hx hb hts inlX5 hown hK hP q9 h9 rfl 2 (by decide) (hts _ mw_148) (fun _ h9 => h9) rfl dX5_readText_33 ?_
          clear h9
          refine lv_aload_n hx hb dX5_readText_36 rfl (lv_at hl 2 rfl) ?_
          obtain ⟨q9, h9⟩ := wc_at (cy := cy) (ad := ad) (ks := ks) (g := g) (u := u8) (κ := .rd) hk.1 True.intro
          refine va_get (D := (dC, dI)) (ci := 5) (v := .int (u8 0 5)) (C := RX5) (T := TX5) (N := 11) hx hb hts inlX5 hown hK hP q9 h9 rfl 1 (by decide) (hts _ mw_122) (fun _ h9 => h9) rfl dX5_readText_37 ?_
          clear h9
          refine lv_icmp_ge (tgt := 144) hx hb dX5_readText_40 (by decide) (fun c28 => ?_) (fun c28 => ?_)
          · rw [if_pos c28] at hF
            have ht := s1 hF
            subst ht
            exact kx11 _ _ _ hP hD hS (lv_sub hl [0, 1, 2] rfl)
          · rw [if_neg c28] at hF
            refine lv_aload_n hx hb dX5_readText_43 rfl (lv_at hl 2 rfl) ?_
            obtain ⟨q9, h9⟩ := wc_at (cy := cy) (ad := ad) (ks := ks) (g := g) (u := u8) (κ := .rd) hk.1 True.intro
            refine va_get (D := (dC, dI)) (ci := 5) (v := .ref (ad .tb)) (C := RX5) (T := TX5) (N := 11) hx hb hts inlX5 hown hK hP q9 h9 rfl 0 (by decide) (hts _ mw_72) (fun _ h9 => h9) rfl dX5_readText_44 ?_
            clear h9
            refine lv_aload_n hx hb dX5_readText_47 rfl (lv_at hl 2 rfl) ?_
            obtain ⟨q9, h9⟩ := wc_at (cy := cy) (ad := ad) (ks := ks) (g := g) (u := u8) (κ := .rd) hk.1 True.intro
            refine va_get (D := (dC, dI)) (ci := 5) (v := .int (u8 0 6)) (C := RX5) (T := TX5) (N := 11) hx hb hts inlX5 hown hK hP q9 h9 rfl 2 (by decide) (hts _ mw_148) (fun _ h9 => h9) rfl dX5_readText_48 ?_
            clear h9
            obtain ⟨x29, e30, hF⟩ := ob hF
            obtain ⟨q9, h9⟩ := wc_at (cy := cy) (ad := ad) (ks := ks) (g := g) (u := u8) (κ := .tb) hk.1 True.intro
            refine va_bald hx hb hK hP q9 0 h9 rfl (rd_in e30) dX5_readText_51 ?_
            refine my_topi (y := x29) (rd_eq e30) ?_
            clear h9
            refine lv_bipush (v := 59) hx hb dX5_readText_52 (by decide) ?_
            refine lv_icmp_eq (tgt := 144) hx hb dX5_readText_54 (by decide) (fun c31 => ?_) (fun c31 => ?_)
            · rw [if_pos c31] at hF
              have ht := s1 hF
              subst ht
              exact kx11 _ _ _ hP hD hS (lv_sub hl [0, 1, 2] rfl)
            · rw [if_neg c31] at hF
              refine lv_aload_n hx hb dX5_readText_57 rfl (lv_at hl 2 rfl) ?_
              obtain ⟨q9, h9⟩ := wc_at (cy := cy) (ad := ad) (ks := ks) (g := g) (u := u8) (κ := .rd) hk.1 True.intro
              refine va_get (D := (dC, dI)) (ci := 5) (v := .ref (ad .tb)) (C := RX5) (T := TX5) (N := 11) hx hb hts inlX5 hown hK hP q9 h9 rfl 0 (by decide) (hts _ mw_72) (fun _ h9 => h9) rfl dX5_readText_58 ?_
              clear h9
              refine lv_aload_n hx hb dX5_readText_61 rfl (lv_at hl 2 rfl) ?_
              obtain ⟨q9, h9⟩ := wc_at (cy := cy) (ad := ad) (ks := ks) (g := g) (u := u8) (κ := .rd) hk.1 True.intro
              refine va_get (D := (dC, dI)) (ci := 5) (v := .int (u8 0 6)) (C := RX5) (T := TX5) (N := 11) hx hb hts inlX5 hown hK hP q9 h9 rfl 2 (by decide) (hts _ mw_148) (fun _ h9 => h9) rfl dX5_readText_62 ?_
              clear h9
              obtain ⟨x32, e33, hF⟩ := ob hF
              obtain ⟨q9, h9⟩ := wc_at (cy := cy) (ad := ad) (ks := ks) (g := g) (u := u8) (κ := .tb) hk.1 True.intro
              refine va_bald hx hb hK hP q9 0 h9 rfl (rd_in e33) dX5_readText_65 ?_
              refine my_topi (y := x32) (rd_eq e33) ?_
              clear h9
              refine lv_istore_n (lv' := [(3, .int x32), (2, .int y7), (1, .int (t5.1)), (0, .ref (ad .rd))]) hx hb dX5_readText_66 rfl hl (by decide) rfl (fun ls hl => ?_)
              refine lv_iload_n hx hb dX5_readText_67 rfl (lv_at hl 0 rfl) ?_
              obtain ⟨x34, e35, hF⟩ := ob hF
              have hPc : va_P (dC, dI) vwCl ([] : va_W) H := fun k q h => by simp at h
              have hDc : va_D A ([] : va_W) := ⟨fun i j p q h => by simp at h, fun k q h => by simp at h⟩
              have hFc := my_free0 hS hA
              refine va_calli (va_runS (As := [.int x32]) (rest := []) ⟨hx, hb, hml, hown, hts⟩ (c_X5_isLetter l dC dI cy nb (x32) (x34) H.size e35) (va_cwS 1 hts (gS mw_163 mw_164 mw_22 mw_165) rfl rfl rfl (by decide +kernel) ⟨Nat.le_of_ble_eq_true rfl, Nat.le_of_ble_eq_true rfl⟩) (my_preS hPc hK hDc hE hS hFc) rfl rfl hl.1 rfl (lv_room (Nat.le_of_ble_eq_true rfl)) dX5_readText_68 ⟨Nat.le_of_ble_eq_true rfl, Nat.le_of_ble_eq_true rfl⟩) hS (fun q _ h => hFc q h) hFc (fun r u t H1 locs ht hvm hw hB hz1 hk1 hS => ?_)
              obtain ⟨hP1, hD1⟩ := hB
              rw [ht] at hP1
              have hP := my_keep hP hk1
              generalize H1 = H at hP hS ⊢
              clear hP1 hD1 hPc hDc hFc hk1 hz1 hvm ht
              obtain rfl := hw.symm
              obtain ⟨t37, hJ38, hF⟩ := ob hF
              have join39 : ∀ (H : Heap) (locs : List Loc) (ls : Array Slot), va_P (dC, dI) vwCl (WC cy ad ks g t37) H → va_D A (WC cy ad ks g t37) → va_S A s.heap H locs → lv_has ls 5 [(3, .int x32), (2, .int y7), (1, .int (t5.1)), (0, .ref (ad .rd))] → W p l e (headSpec (wsg yX5_readText cX5_readText 5 none) ({ frames := 9, cells := 0, slots := 0, locals := 400 })).room s m ([.ref (ad .rd)] : List Value).toArray below meth c H locs 0 0 Qn (F0 m 133 ls []) := by
                intro H locs ls hP hD hS hl
                refine lv_aload_n hx hb dX5_readText_133 rfl (lv_at hl 3 rfl) ?_
                obtain ⟨t40, e41, hF⟩ := ob hF
                have hPc := hP
                have hDc := hD
                have hFc := my_free hD hS hA
                obtain ⟨q8, h8⟩ := wc_at (cy := cy) (ad := ad) (ks := ks) (g := g) (u := t37) (κ := .rd) hk.1 True.intro
                refine va_calli (va_runV (As := []) (rest := []) ⟨hx, hb, hml, hown, hts⟩ (c_X5_skipSpaces l dC dI cy nb ad ks g hk t37 (t40.1) (t40.2) H.size e41) (cwV 0 hts (gV mw_155 mw_156 mw_157 mw_22 mw_158) rfl rfl rfl (by decide +kernel) ⟨Nat.le_of_ble_eq_true rfl, Nat.le_of_ble_eq_true rfl⟩) (my_preV hPc hK hDc hE hS hFc (va_recv (q := (RX5, TX5, 11)) hK hP (ci := 5) (q0 := q8) rfl h8)) rfl rfl hl.1 rfl (lv_room (Nat.le_of_ble_eq_true rfl)) dX5_readText_134 ⟨Nat.le_of_ble_eq_true rfl, Nat.le_of_ble_eq_true rfl⟩) hS (fun q _ h => hFc q h) hFc (fun r u t H1 locs ht hvm hw hB hz1 hk1 hS => ?_)
                clear h8
                obtain ⟨hP1, hD1⟩ := hB
                rw [ht] at hP1
                have hP := hP1
                have hD := hD1.weaken (fun k q _ h => hFc q.1 h)
                generalize H1 = H at hP hS ⊢
                clear hP1 hD1 hPc hDc hFc hk1 hz1 hvm ht
                obtain rfl := hw.symm
                refine lv_pop hx hb dX5_readText_137 rfl ?_
                refine lv_iinc (v := (y7 + 1)) (lv' := [(2, .int (y7 + 1)), (3, .int x32), (1, .int (t5.1)), (0, .ref (ad .rd))]) hx hb dX5_readText_138 hl (k := 1) rfl (by rfl) (by decide) rfl (fun ls hl => ?_)
                refine lv_goto (tgt := 17) hx hb dX5_readText_141 (by decide) ?_
                exact ih _ _ hF _ _ _ hP hD hS (lv_sub hl [0, 2, 3] rfl)
              clear hF
              have hF := hJ38
              clear hJ38
              refine lv_if_eq (tgt := 82) hx hb dX5_readText_71 (by decide) (fun c36 => ?_) (fun c36 => ?_)
              · rw [if_pos c36] at hF
                refine lv_iload_n hx hb dX5_readText_82 rfl (lv_at hl 0 rfl) ?_
                obtain ⟨x42, e43, hF⟩ := ob hF
                have hPc : va_P (dC, dI) vwCl ([] : va_W) H := fun k q h => by simp at h
                have hDc : va_D A ([] : va_W) := ⟨fun i j p q h => by simp at h, fun k q h => by simp at h⟩
                have hFc := my_free0 hS hA
                refine va_calli (va_runS (As := [.int x32]) (rest := []) ⟨hx, hb, hml, hown, hts⟩ (c_X5_isDigit l dC dI cy nb (x32) (x42) H.size e43) (va_cwS 1 hts (gS mw_236 mw_237 mw_22 mw_238) rfl rfl rfl (by decide +kernel) ⟨Nat.le_of_ble_eq_true rfl, Nat.le_of_ble_eq_true rfl⟩) (my_preS hPc hK hDc hE hS hFc) rfl rfl hl.1 rfl (lv_room (Nat.le_of_ble_eq_true rfl)) dX5_readText_83 ⟨Nat.le_of_ble_eq_true rfl, Nat.le_of_ble_eq_true rfl⟩) hS (fun q _ h => hFc q h) hFc (fun r u t H1 locs ht hvm hw hB hz1 hk1 hS => ?_)
                obtain ⟨hP1, hD1⟩ := hB
                rw [ht] at hP1
                have hP := my_keep hP hk1
                generalize H1 = H at hP hS ⊢
                clear hP1 hD1 hPc hDc hFc hk1 hz1 hvm ht
                obtain rfl := hw.symm
                refine lv_if_eq (tgt := 111) hx hb dX5_readText_86 (by decide) (fun c44 => ?_) (fun c44 => ?_)
                · rw [if_pos c44] at hF
                  refine lv_iload_n hx hb dX5_readText_111 rfl (lv_at hl 0 rfl) ?_
                  refine lv_bipush (v := 41) hx hb dX5_readText_112 (by decide) ?_
                  refine lv_icmp_ne (tgt := 124) hx hb dX5_readText_114 (by decide) (fun c45 => ?_) (fun c45 => ?_)
                  · rw [if_neg c45] at hF
                    refine lv_aload_n hx hb dX5_readText_124 rfl (lv_at hl 3 rfl) ?_
                    refine lv_iconst (v := 1) hx hb dX5_readText_125 (by decide) ?_
                    refine lv_aload_n hx hb dX5_readText_126 rfl (lv_at hl 3 rfl) ?_
                    obtain ⟨q9, h9⟩ := wc_at (cy := cy) (ad := ad) (ks := ks) (g := g) (u := u8) (κ := .rd) hk.1 True.intro
                    refine va_get (D := (dC, dI)) (ci := 5) (v := .int (u8 0 6)) (C := RX5) (T := TX5) (N := 11) hx hb hts inlX5 hown hK hP q9 h9 rfl 2 (by decide) (hts _ mw_148) (fun _ h9 => h9) rfl dX5_readText_127 ?_
                    clear h9
                    obtain ⟨u46, e47, hF⟩ := ob hF
                    have hPc := hP
                    have hDc := hD
                    have hFc := my_free hD hS hA
                    obtain ⟨q8, h8⟩ := wc_at (cy := cy) (ad := ad) (ks := ks) (g := g) (u := u8) (κ := .rd) hk.1 True.intro
                    refine va_callv (va_runV (As := [.int 1, .int (u8 0 6)]) (rest := []) ⟨hx, hb, hml, hown, hts⟩ (c_X5_error l dC dI cy nb ad ks g hk u8 (1) ((u8 0 6)) (u46) H.size e47) (cwV 2 hts (gV mw_219 mw_220 mw_221 mw_22 mw_222) rfl rfl rfl (by decide +kernel) ⟨Nat.le_of_ble_eq_true rfl, Nat.le_of_ble_eq_true rfl⟩) (my_preV hPc hK hDc hE hS hFc (va_recv (q := (RX5, TX5, 11)) hK hP (ci := 5) (q0 := q8) rfl h8)) rfl rfl hl.1 rfl (lv_room (Nat.le_of_ble_eq_true rfl)) dX5_readText_130 ⟨Nat.le_of_ble_eq_true rfl, Nat.le_of_ble_eq_true rfl⟩) hS (fun q _ h => hFc q h) hFc (fun u t H1 locs ht hvm hw hB hz1 hk1 hS => ?_)
                    clear h8
                    obtain ⟨hP1, hD1⟩ := hB
                    rw [ht] at hP1
                    have hP := hP1
                    have hD := hD1.weaken (fun k q _ h => hFc q.1 h)
                    generalize H1 = H at hP hS ⊢
                    clear hP1 hD1 hPc hDc hFc hk1 hz1 hvm ht
                    have ht := s1 hF
                    subst ht
                    exact join39 _ _ _ hP hD hS (lv_sub hl [0, 1, 2, 3] rfl)
                  · rw [if_pos c45] at hF
                    refine lv_aload_n hx hb dX5_readText_117 rfl (lv_at hl 3 rfl) ?_
                    obtain ⟨u48, e49, hF⟩ := ob hF
                    have hPc := hP
                    have hDc := hD
                    have hFc := my_free hD hS hA
                    obtain ⟨q8, h8⟩ := wc_at (cy := cy) (ad := ad) (ks := ks) (g := g) (u := u8) (κ := .rd) hk.1 True.intro
                    refine va_callv (va_runV (As := []) (rest := []) ⟨hx, hb, hml, hown, hts⟩ (c_X5_closeGroup l dC dI cy nb ad ks g hk u8 (u48) H.size e49) (cwV 0 hts (gV mw_297 mw_298 mw_299 mw_22 mw_300) rfl rfl rfl (by decide +kernel) ⟨Nat.le_of_ble_eq_true rfl, Nat.le_of_ble_eq_true rfl⟩) (my_preV hPc hK hDc hE hS hFc (va_recv (q := (RX5, TX5, 11)) hK hP (ci := 5) (q0 := q8) rfl h8)) rfl rfl hl.1 rfl (lv_room (Nat.le_of_ble_eq_true rfl)) dX5_readText_118 ⟨Nat.le_of_ble_eq_true rfl, Nat.le_of_ble_eq_true rfl⟩) hS (fun q _ h => hFc q h) hFc (fun u t H1 locs ht hvm hw hB hz1 hk1 hS => ?_)
                    clear h8
                    obtain ⟨hP1, hD1⟩ := hB
                    rw [ht] at hP1
                    have hP := hP1
                    have hD := hD1.weaken (fun k q _ h => hFc q.1 h)
                    generalize H1 = H at hP hS ⊢
                    clear hP1 hD1 hPc hDc hFc hk1 hz1 hvm ht
                    refine lv_goto (tgt := 133) hx hb dX5_readText_121 (by decide) ?_
                    have ht := s1 hF
                    subst ht
                    exact join39 _ _ _ hP hD hS (lv_sub hl [0, 1, 2, 3] rfl)
                · rw [if_neg c44] at hF
                  refine lv_aload_n hx hb dX5_readText_89 rfl (lv_at hl 3 rfl) ?_
                  obtain ⟨q9, h9⟩ := wc_at (cy := cy) (ad := ad) (ks := ks) (g := g) (u := u8) (κ := .rd) hk.1 True.intro
                  refine va_get (D := (dC, dI)) (ci := 5) (v := .int (u8 0 6)) (C := RX5) (T := TX5) (N := 11) hx hb hts inlX5 hown hK hP q9 h9 rfl 2 (by decide) (hts _ mw_148) (fun _ h9 => h9) rfl dX5_readText_90 ?_
                  clear h9
                  refine lv_istore (lv' := [(4, .int (u8 0 6)), (3, .int x32), (2, .int y7), (1, .int (t5.1)), (0, .ref (ad .rd))]) hx hb dX5_readText_93 hl (by decide) rfl (fun ls hl => ?_)
                  refine lv_aload_n hx hb dX5_readText_95 rfl (lv_at hl 4 rfl) ?_
                  refine lv_aload_n hx hb dX5_readText_96 rfl (lv_at hl 4 rfl) ?_
                  refine lv_iconst (v := 2) hx hb dX5_readText_97 (by decide) ?_
                  refine lv_bipush (v := 9) hx hb dX5_readText_98 (by decide) ?_
                  obtain ⟨t50, e51, hF⟩ := ob hF
                  have hPc := hP
                  have hDc := hD
                  have hFc := my_free hD hS hA
                  obtain ⟨q8, h8⟩ := wc_at (cy := cy) (ad := ad) (ks := ks) (g := g) (u := u8) (κ := .rd) hk.1 True.intro
                  refine va_calli (va_runV (As := [.int 2, .int 9]) (rest := [.ref (ad .rd)]) ⟨hx, hb, hml, hown, hts⟩ (c_X5_readNumber l dC dI cy nb ad ks g hk u8 (2) (9) (t50.1) (t50.2) H.size e51) (cwV 2 hts (gV mw_227 mw_228 mw_229 mw_22 mw_230) rfl rfl rfl (by decide +kernel) ⟨Nat.le_of_ble_eq_true rfl, Nat.le_of_ble_eq_true rfl⟩) (my_preV hPc hK hDc hE hS hFc (va_recv (q := (RX5, TX5, 11)) hK hP (ci := 5) (q0 := q8) rfl h8)) rfl rfl hl.1 rfl (lv_room (Nat.le_of_ble_eq_true rfl)) dX5_readText_100 ⟨Nat.le_of_ble_eq_true rfl, Nat.le_of_ble_eq_true rfl⟩) hS (fun q _ h => hFc q h) hFc (fun r u t H1 locs ht hvm hw hB hz1 hk1 hS => ?_)
                  clear h8
                  obtain ⟨hP1, hD1⟩ := hB
                  rw [ht] at hP1
                  have hP := hP1
                  have hD := hD1.weaken (fun k q _ h => hFc q.1 h)
                  generalize H1 = H at hP hS ⊢
                  clear hP1 hD1 hPc hDc hFc hk1 hz1 hvm ht
                  obtain rfl := hw.symm
                  refine lv_iload hx hb dX5_readText_103 (lv_at hl 0 rfl) ?_
                  obtain ⟨u52, e53, hF⟩ := ob hF
                  have hPc := hP
                  have hDc := hD
                  have hFc := my_free hD hS hA
                  obtain ⟨q8, h8⟩ := wc_at (cy := cy) (ad := ad) (ks := ks) (g := g) (u := (t50.2)) (κ := .rd) hk.1 True.intro
                  refine va_callv (va_runV (As := [.int (t50.1), .int (u8 0 6)]) (rest := []) ⟨hx, hb, hml, hown, hts⟩ (c_X5_openGroup l dC dI cy nb ad ks g hk (t50.2) ((t50.1)) ((u8 0 6)) (u52) H.size e53) (cwV 2 hts (gV mw_293 mw_294 mw_295 mw_22 mw_296) rfl rfl rfl (by decide +kernel) ⟨Nat.le_of_ble_eq_true rfl, Nat.le_of_ble_eq_true rfl⟩) (my_preV hPc hK hDc hE hS hFc (va_recv (q := (RX5, TX5, 11)) hK hP (ci := 5) (q0 := q8) rfl h8)) rfl rfl hl.1 rfl (lv_room (Nat.le_of_ble_eq_true rfl)) dX5_readText_105 ⟨Nat.le_of_ble_eq_true rfl, Nat.le_of_ble_eq_true rfl⟩) hS (fun q _ h => hFc q h) hFc (fun u t H1 locs ht hvm hw hB hz1 hk1 hS => ?_)
                  clear h8
                  obtain ⟨hP1, hD1⟩ := hB
                  rw [ht] at hP1
                  have hP := hP1
                  have hD := hD1.weaken (fun k q _ h => hFc q.1 h)
                  generalize H1 = H at hP hS ⊢
                  clear hP1 hD1 hPc hDc hFc hk1 hz1 hvm ht
                  refine lv_goto (tgt := 133) hx hb dX5_readText_108 (by decide) ?_
                  have ht := s1 hF
                  subst ht
                  exact join39 _ _ _ hP hD hS (lv_sub hl [1, 2, 3, 4] rfl)
              · rw [if_neg c36] at hF
                refine lv_aload_n hx hb dX5_readText_74 rfl (lv_at hl 3 rfl) ?_
                refine lv_iload_n hx hb dX5_readText_75 rfl (lv_at hl 0 rfl) ?_
                obtain ⟨u54, e55, hF⟩ := ob hF
                have hPc := hP
                have hDc := hD
                have hFc := my_free hD hS hA
                obtain ⟨q8, h8⟩ := wc_at (cy := cy) (ad := ad) (ks := ks) (g := g) (u := u8) (κ := .rd) hk.1 True.intro
                refine va_callv (va_runV (As := [.int x32]) (rest := []) ⟨hx, hb, hml, hown, hts⟩ (c_X5_readLetter l dC dI cy nb ad ks g hk u8 (x32) (u54) H.size e55) (cwV 1 hts (gV mw_285 mw_286 mw_287 mw_22 mw_288) rfl rfl rfl (by decide +kernel) ⟨Nat.le_of_ble_eq_true rfl, Nat.le_of_ble_eq_true rfl⟩) (my_preV hPc hK hDc hE hS hFc (va_recv (q := (RX5, TX5, 11)) hK hP (ci := 5) (q0 := q8) rfl h8)) rfl rfl hl.1 rfl (lv_room (Nat.le_of_ble_eq_true rfl)) dX5_readText_76 ⟨Nat.le_of_ble_eq_true rfl, Nat.le_of_ble_eq_true rfl⟩) hS (fun q _ h => hFc q h) hFc (fun u t H1 locs ht hvm hw hB hz1 hk1 hS => ?_)
                clear h8
                obtain ⟨hP1, hD1⟩ := hB
                rw [ht] at hP1
                have hP := hP1
                have hD := hD1.weaken (fun k q _ h => hFc q.1 h)
                generalize H1 = H at hP hS ⊢
                clear hP1 hD1 hPc hDc hFc hk1 hz1 hvm ht
                refine lv_goto (tgt := 133) hx hb dX5_readText_79 (by decide) ?_
                have ht := s1 hF
                subst ht
                exact join39 _ _ _ hP hD hS (lv_sub hl [0, 1, 2, 3] rfl)
  exact loop22 FUEL _ _ hL10 _ _ _ hP hD hS (lv_sub hl [0, 1, 2] rfl)
noncomputable def C5_textRead (g : CG) (u0 : RS)  : Option (Int32 × CG × RS) := (C_J7_copyOf_9075b_le g u0 ((u0 0 10))).bind fun t1 => some ((t1.1), (t1.2.1), (t1.2.2))
set_option maxHeartbeats 4000000 in
set_option maxRecDepth 100000 in
theorem c_X5_textRead (l : Launch) (dC : Nat → ClassId) (dI : Nat → Nat → Nat) (cy : Nat → ClassId) (nb : Nat → Nat) (ad : CK → Nat) (ks : List CK) (g : CG) (hk : GA nb ad g ks) (u0 : RS)  (ro : Int32) (gz : CG) (uz : RS) (sz : Nat) (hF : C5_textRead g u0  = some (ro, gz, uz)) : Met l yX5_textRead (wsg yX5_textRead cX5_textRead 1 (some (.array .byte))) ({ frames := 8, cells := 1, slots := 16, locals := 300 }) (va_Pc [.ref (ad .rd)] (fun U => U.heap.size = sz ∧ va_P (dC, dI) vwCl (WC cy ad ks g u0) U.heap ∧ va_K (dC, dI) vwCl (tyL cy) U ∧ va_D (fun _ => True) (WC cy ad ks g u0) ∧ GE nb (va_A (WC cy ad ks g u0) sz) U)) (va_Qr (fun (_ : Unit) => True) (fun _ ra t => ∃ (ad' : CK → Nat) (ks' : List CK), ra = ad' (.tx ro.toNatClampNeg) ∧ GA nb ad' gz ks' ∧ AX g ad gz ad' ∧ va_P (dC, dI) vwCl (WC cy ad' ks' gz uz) t.heap ∧ va_D (va_A (WC cy ad ks g u0) sz) (WC cy ad' ks' gz uz)) (va_A (WC cy ad ks g u0) sz)) 1 16 (va_A (WC cy ad ks g u0) sz) := by
  refine Met.ofW (cc := cX5_textRead) (maxL := 1) (ret := (some (.array .byte))) pn_X5 rfl ?_
  intro p e s m args below meth c s₁ B hml hv
  obtain ⟨rfl, hsz, hP, hK, hD0, hE⟩ := hv
  have hx := B.exec
  have hb := B.bytes
  have hr := B.returns
  have hts0 := atoms_spec (ws := (wsg yX5_textRead cX5_textRead 1 (some (.array .byte)))) B.pre
  have hts : ∀ w ∈ wsL_law, w.before _ s = true := fun w h => hts0 w (List.mem_cons_of_mem _ h)
  have hown : s.vm.findClass RX5 = some m.cls := by have h9 := findClass_of_methodNamed B.named; exact h9
  have hlocks := B.notSynchronized
  subst hsz
  have hD := hD0.self (sz := s.heap.size)
  generalize hAe : va_A (WC cy ad ks g u0) s.heap.size = A at hD hE ⊢
  have hA : ∀ q : Nat, s.heap.size ≤ q → A q := fun q h => by rw [← hAe]; exact Or.inr h
  have hS : va_S A s.heap s.heap [] := va_S.rf
  have hl := lv_entry ([.ref (ad .rd)]) (n := 1) (Nat.le_of_ble_eq_true rfl)
  rw [lg_entry_eq]
  generalize (lg_sl ([.ref (ad .rd)]) ++ List.replicate (1 - (lg_sl ([.ref (ad .rd)])).length) Slot.unset).toArray = ls at hl ⊢
  have hl : lv_has ls 1 [(0, .ref (ad .rd))] := hl
  generalize hHe : s.heap = H at hP hS ⊢
  have hS : va_S A s.heap H [] := by rw [hHe]; exact hS
  refine my_Q (fun Qn hQ => ?_)
  simp only [C5_textRead] at hF
  refine lv_aload_n hx hb dX5_textRead_0 rfl (lv_at hl 0 rfl) ?_
  obtain ⟨q9, h9⟩ := wc_at (cy := cy) (ad := ad) (ks := ks) (g := g) (u := u0) (κ := .rd) hk.1 True.intro
  refine va_get (D := (dC, dI)) (ci := 5) (v := .ref (ad .le)) (C := RX5) (T := TX5) (N := 11) hx hb hts inlX5 hown hK hP q9 h9 rfl 6 (by decide) (hts _ mw_73) (fun _ h9 => h9) rfl dX5_textRead_1 ?_
  clear h9
  refine lv_aload_n hx hb dX5_textRead_4 rfl (lv_at hl 0 rfl) ?_
  obtain ⟨q9, h9⟩ := wc_at (cy := cy) (ad := ad) (ks := ks) (g := g) (u := u0) (κ := .rd) hk.1 True.intro
  refine va_get (D := (dC, dI)) (ci := 5) (v := .int (u0 0 10)) (C := RX5) (T := TX5) (N := 11) hx hb hts inlX5 hown hK hP q9 h9 rfl 9 (by decide) (hts _ mw_283) (fun _ h9 => h9) rfl dX5_textRead_5 ?_
  clear h9
  obtain ⟨t1, e2, hF⟩ := ob hF
  have hPc := hP
  have hDc := hD
  have hFc := my_free hD hS hA
  refine va_callr (va_runS (As := [.ref (ad .le), .int (u0 0 10)]) (rest := []) ⟨hx, hb, hml, hown, hts⟩ (c_J7_copyOf_9075b_le l dC dI cy nb ad ks g hk u0 ((u0 0 10)) (t1.1) (t1.2.1) (t1.2.2) H.size e2) (va_cwS 2 hts (gS mw_309 mw_310 mw_91 mw_311) rfl rfl rfl (by decide +kernel) ⟨Nat.le_of_ble_eq_true rfl, Nat.le_of_ble_eq_true rfl⟩) (my_preS hPc hK hDc hE hS hFc) rfl rfl hl.1 rfl (lv_room (Nat.le_of_ble_eq_true rfl)) dX5_textRead_8 ⟨Nat.le_of_ble_eq_true rfl, Nat.le_of_ble_eq_true rfl⟩) hS (fun q _ h => hFc q h) hFc (fun u ra t H1 locs ht hvm hw hB hz1 hk1 hS => ?_)
  obtain ⟨ad3, ks4, hra, hk5, ax6, hP1, hD1⟩ := hB
  rw [ht] at hP1
  have hP := hP1
  have hD := hD1.weaken (fun k q _ h => hFc q.1 h)
  generalize H1 = H at hP hS ⊢
  have hl : lv_has ls 1 [(0, .ref (ad3 .rd))] := by rw [(ax6 .rd True.intro).2]; exact hl
  clear hP1 hD1 hPc hDc hFc hk1 hz1 hvm ht
  obtain rfl := hra.symm
  refine W.widen (k := 1) (n := 16) (by omega) (by omega) ?_
  have hZ := s1 hF
  have zro : (t1.1) = ro := (congrArg (fun q => q.1) hZ)
  have zgz : (t1.2.1) = gz := (congrArg (fun q => q.2.1) hZ)
  have zuz : (t1.2.2) = uz := (congrArg (fun q => q.2.2) hZ)
  have hP9 : va_P (dC, dI) vwCl (WC cy ad3 ks4 gz uz) H := by rw [← zuz, ← zgz]; exact hP
  have hD9 : va_D A (WC cy ad3 ks4 gz uz) := by rw [← zuz, ← zgz]; exact hD
  have hk9 : GA nb ad3 gz ks4 := by rw [← zgz]; exact hk5
  have ax9 : AX g ad gz ad3 := by rw [← zgz]; exact ax6
  refine W.widen (k := 1) (n := 16) (by omega) (by omega) ?_
  rw [hQ]
  exact W.aret (v := .ref (ad3 (.tx (t1.1).toNatClampNeg))) hx hb hr (by first | exact Or.inl ⟨_, rfl⟩ | exact Or.inr ⟨_, rfl⟩) (Or.inr ⟨_, rfl⟩) (fun t ht hW => ⟨⟨(), (ad3 (.tx (t1.1).toNatClampNeg)), rfl, trivial, ad3, ks4, (congrArg (fun q => ad3 (.tx (q : Int32).toNatClampNeg)) zro), hk9, ax9, by rw [ht]; exact hP9, hD9⟩, hS.F ht⟩) hS.2.2 dX5_textRead_11
noncomputable def C5_readCard (g : CG) (u0 : RS) (L : Nat) (a2 : Int32) : Option (CG × RS) := if (u0 (10 + L) 9) < 30 then ((C5_readNumber g u0 (0) (((u0 (10 + L) 8) - 1))).bind fun t2 => (C5_isFine g (t2.2)).bind fun x4 => (if x4 = 0 then (some (t2.2)) else ((C5_readText g (t2.2)).bind fun u21 => some u21) : Option (RS)).bind fun t7 => (C5_isFine g t7).bind fun x10 => if x10 = 0 then (some (g, t7)) else ((C5_textRead g t7).bind fun t13 => (C3_addCard (t13.2.1) (t13.2.2) L ((t2.1)) t13.1).bind fun u19 => some ((t13.2.1), u19))) else ((C5_error g u0 (4) (a2)).bind fun u23 => some (g, u23))
set_option maxHeartbeats 4000000 in
set_option maxRecDepth 100000 in
theorem c_X5_readCard (l : Launch) (dC : Nat → ClassId) (dI : Nat → Nat → Nat) (cy : Nat → ClassId) (nb : Nat → Nat) (ad : CK → Nat) (ks : List CK) (g : CG) (hk : GA nb ad g ks) (u0 : RS) (L : Nat) (a2 : Int32) (gz : CG) (uz : RS) (sz : Nat) (h_L : has g (.ln L)) (hF : C5_readCard g u0 L a2 = some (gz, uz)) : Met l yX5_readCard (wsg yX5_readCard cX5_readCard 4 none) ({ frames := 10, cells := 1, slots := 16, locals := 500 }) (va_Pc [.ref (ad .rd), .ref (ad (.ln L)), .int a2] (fun U => U.heap.size = sz ∧ va_P (dC, dI) vwCl (WC cy ad ks g u0) U.heap ∧ va_K (dC, dI) vwCl (tyL cy) U ∧ va_D (fun _ => True) (WC cy ad ks g u0) ∧ GE nb (va_A (WC cy ad ks g u0) sz) U)) (va_Qv (fun (_ : Unit) => True) (fun _ t => ∃ (ad' : CK → Nat) (ks' : List CK), GA nb ad' gz ks' ∧ AX g ad gz ad' ∧ va_P (dC, dI) vwCl (WC cy ad' ks' gz uz) t.heap ∧ va_D (va_A (WC cy ad ks g u0) sz) (WC cy ad' ks' gz uz)) (va_A (WC cy ad ks g u0) sz)) 1 16 (va_A (WC cy ad ks g u0) sz) := by
  refine Met.ofW (cc := cX5_readCard) (maxL := 4) (ret := none) pn_X5 rfl ?_
  intro p e s m args below meth c s₁ B hml hv
  obtain ⟨rfl, hsz, hP, hK, hD0, hE⟩ := hv
  have hx := B.exec
  have hb := B.bytes
  have hr := B.returns
  have hts0 := atoms_spec (ws := (wsg yX5_readCard cX5_readCard 4 none)) B.pre
  have hts : ∀ w ∈ wsL_law, w.before _ s = true := fun w h => hts0 w (List.mem_cons_of_mem _ h)
  have hown : s.vm.findClass RX5 = some m.cls := by have h9 := findClass_of_methodNamed B.named; exact h9
  have hlocks := B.notSynchronized
  subst hsz
  have hD := hD0.self (sz := s.heap.size)
  generalize hAe : va_A (WC cy ad ks g u0) s.heap.size = A at hD hE ⊢
  have hA : ∀ q : Nat, s.heap.size ≤ q → A q := fun q h => by rw [← hAe]; exact Or.inr h
  have hS : va_S A s.heap s.heap [] := va_S.rf
  have hl := lv_entry ([.ref (ad .rd), .ref (ad (.ln L)), .int a2]) (n := 4) (Nat.le_of_ble_eq_true rfl)
  rw [lg_entry_eq]
  generalize (lg_sl ([.ref (ad .rd), .ref (ad (.ln L)), .int a2]) ++ List.replicate (4 - (lg_sl ([.ref (ad .rd), .ref (ad (.ln L)), .int a2])).length) Slot.unset).toArray = ls at hl ⊢
  have hl : lv_has ls 4 [(0, .ref (ad .rd)), (1, .ref (ad (.ln L))), (2, .int a2)] := hl
  generalize hHe : s.heap = H at hP hS ⊢
  have hS : va_S A s.heap H [] := by rw [hHe]; exact hS
  refine my_Q (fun Qn hQ => ?_)
  simp only [C5_readCard] at hF
  refine lv_aload_n hx hb dX5_readCard_0 rfl (lv_at hl 1 rfl) ?_
  obtain ⟨q9, h9⟩ := wc_at (cy := cy) (ad := ad) (ks := ks) (g := g) (u := u0) (κ := (.ln L)) hk.1 h_L
  refine va_get (D := (dC, dI)) (ci := 3) (v := .int (u0 (10 + L) 9)) (C := RX3) (T := TX3) (N := 17) hx hb hts inlX3 hown hK hP q9 h9 rfl 9 (by decide) (hts _ mw_278) (fun _ h9 => h9) rfl dX5_readCard_1 ?_
  clear h9
  refine lv_bipush (v := 30) hx hb dX5_readCard_4 (by decide) ?_
  refine lv_icmp_lt (tgt := 16) hx hb dX5_readCard_6 (by decide) (fun c1 => ?_) (fun c1 => ?_)
  · rw [if_pos c1] at hF
    refine lv_aload_n hx hb dX5_readCard_16 rfl (lv_at hl 0 rfl) ?_
    refine lv_iconst (v := 0) hx hb dX5_readCard_17 (by decide) ?_
    refine lv_aload_n hx hb dX5_readCard_18 rfl (lv_at hl 1 rfl) ?_
    obtain ⟨q9, h9⟩ := wc_at (cy := cy) (ad := ad) (ks := ks) (g := g) (u := u0) (κ := (.ln L)) hk.1 h_L
    refine va_get (D := (dC, dI)) (ci := 3) (v := .int (u0 (10 + L) 8)) (C := RX3) (T := TX3) (N := 17) hx hb hts inlX3 hown hK hP q9 h9 rfl 8 (by decide) (hts _ mw_256) (fun _ h9 => h9) rfl dX5_readCard_19 ?_
    clear h9
    refine lv_iconst (v := 1) hx hb dX5_readCard_22 (by decide) ?_
    refine lv_isub hx hb dX5_readCard_23 ?_
    obtain ⟨t2, e3, hF⟩ := ob hF
    have hPc := hP
    have hDc := hD
    have hFc := my_free hD hS hA
    obtain ⟨q8, h8⟩ := wc_at (cy := cy) (ad := ad) (ks := ks) (g := g) (u := u0) (κ := .rd) hk.1 True.intro
    refine va_calli (va_runV (As := [.int 0, .int ((u0 (10 + L) 8) - 1)]) (rest := []) ⟨hx, hb, hml, hown, hts⟩ (c_X5_readNumber l dC dI cy nb ad ks g hk u0 (0) (((u0 (10 + L) 8) - 1)) (t2.1) (t2.2) H.size e3) (cwV 2 hts (gV mw_227 mw_228 mw_229 mw_22 mw_230) rfl rfl rfl (by decide +kernel) ⟨Nat.le_of_ble_eq_true rfl, Nat.le_of_ble_eq_true rfl⟩) (my_preV hPc hK hDc hE hS hFc (va_recv (q := (RX5, TX5, 11)) hK hP (ci := 5) (q0 := q8) rfl h8)) rfl rfl hl.1 rfl (lv_room (Nat.le_of_ble_eq_true rfl)) dX5_readCard_24 ⟨Nat.le_of_ble_eq_true rfl, Nat.le_of_ble_eq_true rfl⟩) hS (fun q _ h => hFc q h) hFc (fun r u t H1 locs ht hvm hw hB hz1 hk1 hS => ?_)
    clear h8
    obtain ⟨hP1, hD1⟩ := hB
    rw [ht] at hP1
    have hP := hP1
    have hD := hD1.weaken (fun k q _ h => hFc q.1 h)
    generalize H1 = H at hP hS ⊢
    clear hP1 hD1 hPc hDc hFc hk1 hz1 hvm ht
    obtain rfl := hw.symm
    refine lv_istore_n (lv' := [(3, .int (t2.1)), (0, .ref (ad .rd)), (1, .ref (ad (.ln L))), (2, .int a2)]) hx hb dX5_readCard_27 rfl hl (by decide) rfl (fun ls hl => ?_)
    refine lv_aload_n hx hb dX5_readCard_28 rfl (lv_at hl 1 rfl) ?_
    obtain ⟨x4, e5, hF⟩ := ob hF
    have hPc := hP
    have hDc := hD
    have hFc := my_free hD hS hA
    obtain ⟨q8, h8⟩ := wc_at (cy := cy) (ad := ad) (ks := ks) (g := g) (u := (t2.2)) (κ := .rd) hk.1 True.intro
    refine va_calli (va_runV (As := []) (rest := []) ⟨hx, hb, hml, hown, hts⟩ (c_X5_isFine l dC dI cy nb ad ks g hk (t2.2) (x4) H.size e5) (cwV 0 hts (gV mw_239 mw_240 mw_241 mw_22 mw_242) rfl rfl rfl (by decide +kernel) ⟨Nat.le_of_ble_eq_true rfl, Nat.le_of_ble_eq_true rfl⟩) (my_preV hPc hK hDc hE hS hFc (va_recv (q := (RX5, TX5, 11)) hK hP (ci := 5) (q0 := q8) rfl h8)) rfl rfl hl.1 rfl (lv_room (Nat.le_of_ble_eq_true rfl)) dX5_readCard_29 ⟨Nat.le_of_ble_eq_true rfl, Nat.le_of_ble_eq_true rfl⟩) hS (fun q _ h => hFc q h) hFc (fun r u t H1 locs ht hvm hw hB hz1 hk1 hS => ?_)
    clear h8
    obtain ⟨hP1, hD1⟩ := hB
    rw [ht] at hP1
    have hP := hP1
    have hD := hD1.weaken (fun k q _ h => hFc q.1 h)
    generalize H1 = H at hP hS ⊢
    clear hP1 hD1 hPc hDc hFc hk1 hz1 hvm ht
    obtain rfl := hw.symm
    obtain ⟨t7, hJ8, hF⟩ := ob hF
    have join9 : ∀ (H : Heap) (locs : List Loc) (ls : Array Slot), va_P (dC, dI) vwCl (WC cy ad ks g t7) H → va_D A (WC cy ad ks g t7) → va_S A s.heap H locs → lv_has ls 4 [(3, .int (t2.1)), (0, .ref (ad .rd)), (1, .ref (ad (.ln L))), (2, .int a2)] → W p l e (headSpec (wsg yX5_readCard cX5_readCard 4 none) ({ frames := 10, cells := 1, slots := 16, locals := 500 })).room s m ([.ref (ad .rd), .ref (ad (.ln L)), .int a2] : List Value).toArray below meth c H locs 0 0 Qn (F0 m 39 ls []) := by
      intro H locs ls hP hD hS hl
      refine lv_aload_n hx hb dX5_readCard_39 rfl (lv_at hl 1 rfl) ?_
      obtain ⟨x10, e11, hF⟩ := ob hF
      have hPc := hP
      have hDc := hD
      have hFc := my_free hD hS hA
      obtain ⟨q8, h8⟩ := wc_at (cy := cy) (ad := ad) (ks := ks) (g := g) (u := t7) (κ := .rd) hk.1 True.intro
      refine va_calli (va_runV (As := []) (rest := []) ⟨hx, hb, hml, hown, hts⟩ (c_X5_isFine l dC dI cy nb ad ks g hk t7 (x10) H.size e11) (cwV 0 hts (gV mw_239 mw_240 mw_241 mw_22 mw_242) rfl rfl rfl (by decide +kernel) ⟨Nat.le_of_ble_eq_true rfl, Nat.le_of_ble_eq_true rfl⟩) (my_preV hPc hK hDc hE hS hFc (va_recv (q := (RX5, TX5, 11)) hK hP (ci := 5) (q0 := q8) rfl h8)) rfl rfl hl.1 rfl (lv_room (Nat.le_of_ble_eq_true rfl)) dX5_readCard_40 ⟨Nat.le_of_ble_eq_true rfl, Nat.le_of_ble_eq_true rfl⟩) hS (fun q _ h => hFc q h) hFc (fun r u t H1 locs ht hvm hw hB hz1 hk1 hS => ?_)
      clear h8
      obtain ⟨hP1, hD1⟩ := hB
      rw [ht] at hP1
      have hP := hP1
      have hD := hD1.weaken (fun k q _ h => hFc q.1 h)
      generalize H1 = H at hP hS ⊢
      clear hP1 hD1 hPc hDc hFc hk1 hz1 hvm ht
      obtain rfl := hw.symm
      refine lv_if_eq (tgt := 55) hx hb dX5_readCard_43 (by decide) (fun c12 => ?_) (fun c12 => ?_)
      · rw [if_pos c12] at hF
        have hZ := s1 hF
        have zgz : g = gz := (congrArg (fun q => q.1) hZ)
        have zuz : t7 = uz := (congrArg (fun q => q.2) hZ)
        have hP9 : va_P (dC, dI) vwCl (WC cy ad ks gz uz) H := by rw [← zuz, ← zgz]; exact hP
        have hD9 : va_D A (WC cy ad ks gz uz) := by rw [← zuz, ← zgz]; exact hD
        have hk9 : GA nb ad gz ks := by rw [← zgz]; exact hk
        have ax9 : AX g ad gz ad := by rw [← zgz]; exact ax_refl
        refine W.widen (k := 1) (n := 16) (by omega) (by omega) ?_
        rw [hQ]
        exact W.vret hx hb hr (fun t ht hW => ⟨⟨(), rfl, trivial, ad, ks, hk9, ax9, by rw [ht]; exact hP9, hD9⟩, hS.F ht⟩) hS.2.2 dX5_readCard_55
      · rw [if_neg c12] at hF
        refine lv_aload_n hx hb dX5_readCard_46 rfl (lv_at hl 2 rfl) ?_
        refine lv_iload_n hx hb dX5_readCard_47 rfl (lv_at hl 0 rfl) ?_
        refine lv_aload_n hx hb dX5_readCard_48 rfl (lv_at hl 1 rfl) ?_
        obtain ⟨t13, e14, hF⟩ := ob hF
        have hPc := hP
        have hDc := hD
        have hFc := my_free hD hS hA
        obtain ⟨q8, h8⟩ := wc_at (cy := cy) (ad := ad) (ks := ks) (g := g) (u := t7) (κ := .rd) hk.1 True.intro
        refine va_callr (va_runV (As := []) (rest := [.int (t2.1), .ref (ad (.ln L))]) ⟨hx, hb, hml, hown, hts⟩ (c_X5_textRead l dC dI cy nb ad ks g hk t7 (t13.1) (t13.2.1) (t13.2.2) H.size e14) (cwV 0 hts (gV mw_305 mw_306 mw_307 mw_22 mw_308) rfl rfl rfl (by decide +kernel) ⟨Nat.le_of_ble_eq_true rfl, Nat.le_of_ble_eq_true rfl⟩) (my_preV hPc hK hDc hE hS hFc (va_recv (q := (RX5, TX5, 11)) hK hP (ci := 5) (q0 := q8) rfl h8)) rfl rfl hl.1 rfl (lv_room (Nat.le_of_ble_eq_true rfl)) dX5_readCard_49 ⟨Nat.le_of_ble_eq_true rfl, Nat.le_of_ble_eq_true rfl⟩) hS (fun q _ h => hFc q h) hFc (fun u ra t H1 locs ht hvm hw hB hz1 hk1 hS => ?_)
        clear h8
        obtain ⟨ad15, ks16, hra, hk17, ax18, hP1, hD1⟩ := hB
        rw [ht] at hP1
        have hP := hP1
        have hD := hD1.weaken (fun k q _ h => hFc q.1 h)
        generalize H1 = H at hP hS ⊢
        have hl : lv_has ls 4 [(3, .int (t2.1)), (0, .ref (ad15 .rd)), (1, .ref (ad15 (.ln L))), (2, .int a2)] := by rw [(ax18 .rd True.intro).2, (ax18 (.ln L) h_L).2]; exact hl
        refine W.eq (g2 := F0 m _ ls [.ref ra, .int (t2.1), .ref (ad15 (.ln L))]) (by rw [(ax18 (.ln L) h_L).2]) ?_
        clear hP1 hD1 hPc hDc hFc hk1 hz1 hvm ht
        obtain rfl := hra.symm
        refine W.widen (k := 1) (n := 16) (by omega) (by omega) ?_
        obtain ⟨u19, e20, hF⟩ := ob hF
        have hPc := hP
        have hDc := hD
        have hFc := my_free hD hS hA
        obtain ⟨q8, h8⟩ := wc_at (cy := cy) (ad := ad15) (ks := ks16) (g := (t13.2.1)) (u := (t13.2.2)) (κ := (.ln L)) hk17.1 (ax18 (.ln L) h_L).1
        refine va_callv (va_runV (As := [.int (t2.1), .ref (ad15 (.tx (t13.1).toNatClampNeg))]) (rest := []) ⟨hx, hb, hml, hown, hts⟩ (c_X3_addCard l dC dI cy nb ad15 ks16 (t13.2.1) hk17 (t13.2.2) L ((t2.1)) t13.1 (u19) H.size (ax18 (.ln L) h_L).1 e20) (cwV 2 hts (gV mw_320 mw_321 mw_322 mw_17 mw_323) rfl rfl rfl (by decide +kernel) ⟨Nat.le_of_ble_eq_true rfl, Nat.le_of_ble_eq_true rfl⟩) (my_preV hPc hK hDc hE hS hFc (va_recv (q := (RX3, TX3, 17)) hK hP (ci := 3) (q0 := q8) rfl h8)) rfl rfl hl.1 rfl (lv_room (Nat.le_of_ble_eq_true rfl)) dX5_readCard_52 ⟨Nat.le_of_ble_eq_true rfl, Nat.le_of_ble_eq_true rfl⟩) hS (fun q _ h => hFc q h) hFc (fun u t H1 locs ht hvm hw hB hz1 hk1 hS => ?_)
        clear h8
        obtain ⟨hP1, hD1⟩ := hB
        rw [ht] at hP1
        have hP := hP1
        have hD := hD1.weaken (fun k q _ h => hFc q.1 h)
        generalize H1 = H at hP hS ⊢
        clear hP1 hD1 hPc hDc hFc hk1 hz1 hvm ht
        have hZ := s1 hF
        have zgz : (t13.2.1) = gz := (congrArg (fun q => q.1) hZ)
        have zuz : u19 = uz := (congrArg (fun q => q.2) hZ)
        have hP9 : va_P (dC, dI) vwCl (WC cy ad15 ks16 gz uz) H := by rw [← zuz, ← zgz]; exact hP
        have hD9 : va_D A (WC cy ad15 ks16 gz uz) := by rw [← zuz, ← zgz]; exact hD
        have hk9 : GA nb ad15 gz ks16 := by rw [← zgz]; exact hk17
        have ax9 : AX g ad gz ad15 := by rw [← zgz]; exact ax18
        refine W.widen (k := 1) (n := 16) (by omega) (by omega) ?_
        rw [hQ]
        exact W.vret hx hb hr (fun t ht hW => ⟨⟨(), rfl, trivial, ad15, ks16, hk9, ax9, by rw [ht]; exact hP9, hD9⟩, hS.F ht⟩) hS.2.2 dX5_readCard_55
    clear hF
    have hF := hJ8
    clear hJ8
    refine lv_if_eq (tgt := 39) hx hb dX5_readCard_32 (by decide) (fun c6 => ?_) (fun c6 => ?_)
    · rw [if_pos c6] at hF
      have ht := s1 hF
      subst ht
      exact join9 _ _ _ hP hD hS (lv_sub hl [0, 1, 2, 3] rfl)
    · rw [if_neg c6] at hF
      refine lv_aload_n hx hb dX5_readCard_35 rfl (lv_at hl 1 rfl) ?_
      obtain ⟨u21, e22, hF⟩ := ob hF
      have hPc := hP
      have hDc := hD
      have hFc := my_free hD hS hA
      obtain ⟨q8, h8⟩ := wc_at (cy := cy) (ad := ad) (ks := ks) (g := g) (u := (t2.2)) (κ := .rd) hk.1 True.intro
      refine va_callv (va_runV (As := []) (rest := []) ⟨hx, hb, hml, hown, hts⟩ (c_X5_readText l dC dI cy nb ad ks g hk (t2.2) (u21) H.size e22) (cwV 0 hts (gV mw_279 mw_280 mw_281 mw_22 mw_282) rfl rfl rfl (by decide +kernel) ⟨Nat.le_of_ble_eq_true rfl, Nat.le_of_ble_eq_true rfl⟩) (my_preV hPc hK hDc hE hS hFc (va_recv (q := (RX5, TX5, 11)) hK hP (ci := 5) (q0 := q8) rfl h8)) rfl rfl hl.1 rfl (lv_room (Nat.le_of_ble_eq_true rfl)) dX5_readCard_36 ⟨Nat.le_of_ble_eq_true rfl, Nat.le_of_ble_eq_true rfl⟩) hS (fun q _ h => hFc q h) hFc (fun u t H1 locs ht hvm hw hB hz1 hk1 hS => ?_)
      clear h8
      obtain ⟨hP1, hD1⟩ := hB
      rw [ht] at hP1
      have hP := hP1
      have hD := hD1.weaken (fun k q _ h => hFc q.1 h)
      generalize H1 = H at hP hS ⊢
      clear hP1 hD1 hPc hDc hFc hk1 hz1 hvm ht
      have ht := s1 hF
      subst ht
      exact join9 _ _ _ hP hD hS (lv_sub hl [0, 1, 2, 3] rfl)
  · rw [if_neg c1] at hF
    refine lv_aload_n hx hb dX5_readCard_9 rfl (lv_at hl 0 rfl) ?_
    refine lv_iconst (v := 4) hx hb dX5_readCard_10 (by decide) ?_
    refine lv_iload_n hx hb dX5_readCard_11 rfl (lv_at hl 2 rfl) ?_
    obtain ⟨u23, e24, hF⟩ := ob hF
    have hPc := hP
    have hDc := hD
    have hFc := my_free hD hS hA
    obtain ⟨q8, h8⟩ := wc_at (cy := cy) (ad := ad) (ks := ks) (g := g) (u := u0) (κ := .rd) hk.1 True.intro
    refine va_callv (va_runV (As := [.int 4, .int a2]) (rest := []) ⟨hx, hb, hml, hown, hts⟩ (c_X5_error l dC dI cy nb ad ks g hk u0 (4) (a2) (u23) H.size e24) (cwV 2 hts (gV mw_219 mw_220 mw_221 mw_22 mw_222) rfl rfl rfl (by decide +kernel) ⟨Nat.le_of_ble_eq_true rfl, Nat.le_of_ble_eq_true rfl⟩) (my_preV hPc hK hDc hE hS hFc (va_recv (q := (RX5, TX5, 11)) hK hP (ci := 5) (q0 := q8) rfl h8)) rfl rfl hl.1 rfl (lv_room (Nat.le_of_ble_eq_true rfl)) dX5_readCard_12 ⟨Nat.le_of_ble_eq_true rfl, Nat.le_of_ble_eq_true rfl⟩) hS (fun q _ h => hFc q h) hFc (fun u t H1 locs ht hvm hw hB hz1 hk1 hS => ?_)
    clear h8
    obtain ⟨hP1, hD1⟩ := hB
    rw [ht] at hP1
    have hP := hP1
    have hD := hD1.weaken (fun k q _ h => hFc q.1 h)
    generalize H1 = H at hP hS ⊢
    clear hP1 hD1 hPc hDc hFc hk1 hz1 hvm ht
    have hZ := s1 hF
    have zgz : g = gz := (congrArg (fun q => q.1) hZ)
    have zuz : u23 = uz := (congrArg (fun q => q.2) hZ)
    have hP9 : va_P (dC, dI) vwCl (WC cy ad ks gz uz) H := by rw [← zuz, ← zgz]; exact hP
    have hD9 : va_D A (WC cy ad ks gz uz) := by rw [← zuz, ← zgz]; exact hD
    have hk9 : GA nb ad gz ks := by rw [← zgz]; exact hk
    have ax9 : AX g ad gz ad := by rw [← zgz]; exact ax_refl
    refine W.widen (k := 1) (n := 16) (by omega) (by omega) ?_
    rw [hQ]
    exact W.vret hx hb hr (fun t ht hW => ⟨⟨(), rfl, trivial, ad, ks, hk9, ax9, by rw [ht]; exact hP9, hD9⟩, hS.F ht⟩) hS.2.2 dX5_readCard_15
noncomputable def C5_start (g : CG) (u0 : RS)  : Option (RS) := (pt u0 0 6 (0)).bind fun u1 => (pt u1 0 7 (0)).bind fun u3 => (pt u3 0 8 (0)).bind fun u5 => (pt u5 0 9 (0)).bind fun u7 => some u7
set_option maxHeartbeats 4000000 in
set_option maxRecDepth 100000 in
theorem c_X5_start (l : Launch) (dC : Nat → ClassId) (dI : Nat → Nat → Nat) (cy : Nat → ClassId) (nb : Nat → Nat) (ad : CK → Nat) (ks : List CK) (g : CG) (hk : GA nb ad g ks) (u0 : RS)  (uz : RS) (sz : Nat) (hF : C5_start g u0  = some uz) : Met l yX5_start (wsg yX5_start cX5_start 1 none) ({ frames := 7, cells := 0, slots := 0, locals := 200 }) (va_Pc [.ref (ad .rd)] (fun U => U.heap.size = sz ∧ va_P (dC, dI) vwCl (WC cy ad ks g u0) U.heap ∧ va_K (dC, dI) vwCl (tyL cy) U ∧ va_D (fun _ => True) (WC cy ad ks g u0) ∧ GE nb (va_A (WC cy ad ks g u0) sz) U)) (va_Qv (fun (_ : Unit) => True) (fun _ t => va_P (dC, dI) vwCl (WC cy ad ks g uz) t.heap ∧ va_D (va_A (WC cy ad ks g u0) sz) (WC cy ad ks g uz)) (va_A (WC cy ad ks g u0) sz)) 0 0 (va_A (WC cy ad ks g u0) sz) := by
  refine Met.ofW (cc := cX5_start) (maxL := 1) (ret := none) pn_X5 rfl ?_
  intro p e s m args below meth c s₁ B hml hv
  obtain ⟨rfl, hsz, hP, hK, hD0, hE⟩ := hv
  have hx := B.exec
  have hb := B.bytes
  have hr := B.returns
  have hts0 := atoms_spec (ws := (wsg yX5_start cX5_start 1 none)) B.pre
  have hts : ∀ w ∈ wsL_law, w.before _ s = true := fun w h => hts0 w (List.mem_cons_of_mem _ h)
  have hown : s.vm.findClass RX5 = some m.cls := by have h9 := findClass_of_methodNamed B.named; exact h9
  have hlocks := B.notSynchronized
  subst hsz
  have hD := hD0.self (sz := s.heap.size)
  generalize hAe : va_A (WC cy ad ks g u0) s.heap.size = A at hD hE ⊢
  have hA : ∀ q : Nat, s.heap.size ≤ q → A q := fun q h => by rw [← hAe]; exact Or.inr h
  have hS : va_S A s.heap s.heap [] := va_S.rf
  have hl := lv_entry ([.ref (ad .rd)]) (n := 1) (Nat.le_of_ble_eq_true rfl)
  rw [lg_entry_eq]
  generalize (lg_sl ([.ref (ad .rd)]) ++ List.replicate (1 - (lg_sl ([.ref (ad .rd)])).length) Slot.unset).toArray = ls at hl ⊢
  have hl : lv_has ls 1 [(0, .ref (ad .rd))] := hl
  generalize hHe : s.heap = H at hP hS ⊢
  have hS : va_S A s.heap H [] := by rw [hHe]; exact hS
  refine my_Q (fun Qn hQ => ?_)
  simp only [C5_start] at hF
  refine lv_aload_n hx hb dX5_start_0 rfl (lv_at hl 0 rfl) ?_
  refine lv_iconst (v := 0) hx hb dX5_start_1 (by decide) ?_
  obtain ⟨q9, h9, ez9⟩ := wc_set (cy := cy) (ad := ad) (ks := ks) (g := g) (u := u0) (κ := .rd) (r := 0) (i := 6) (v := (0)) hk.1 True.intro (own_rd (by decide)) (sf_rd_2)
  refine va_put (D := (dC, dI)) (ci := 5) (v := .int 0) (ty := .int) (C := RX5) (T := TX5) (N := 11) hx hb hts inlX5 tyX5 tyX5_ok nmX5 hown hK hP hD hS q9 h9 rfl 2 (by decide) (hts _ mw_148) (fun _ h9 => h9) rfl (by decide +kernel) rfl rfl (Nat.le_of_ble_eq_true rfl) dX5_start_2 (fun H locs hP hD hS => ?_)
  obtain ⟨u1, e2, hF⟩ := ob hF
  have hP : va_P (dC, dI) vwCl (WC cy ad ks g u1) H := by rw [← pt_eq e2, ← ez9]; exact hP
  have hD : va_D A (WC cy ad ks g u1) := by rw [← pt_eq e2, ← ez9]; exact hD
  clear ez9 h9
  refine lv_aload_n hx hb dX5_start_5 rfl (lv_at hl 0 rfl) ?_
  refine lv_iconst (v := 0) hx hb dX5_start_6 (by decide) ?_
  obtain ⟨q9, h9, ez9⟩ := wc_set (cy := cy) (ad := ad) (ks := ks) (g := g) (u := u1) (κ := .rd) (r := 0) (i := 7) (v := (0)) hk.1 True.intro (own_rd (by decide)) (sf_rd_3)
  refine va_put (D := (dC, dI)) (ci := 5) (v := .int 0) (ty := .int) (C := RX5) (T := TX5) (N := 11) hx hb hts inlX5 tyX5 tyX5_ok nmX5 hown hK hP hD hS q9 h9 rfl 3 (by decide) (hts _ mw_149) (fun _ h9 => h9) rfl (by decide +kernel) rfl rfl (Nat.le_of_ble_eq_true rfl) dX5_start_7 (fun H locs hP hD hS => ?_)
  obtain ⟨u3, e4, hF⟩ := ob hF
  have hP : va_P (dC, dI) vwCl (WC cy ad ks g u3) H := by rw [← pt_eq e4, ← ez9]; exact hP
  have hD : va_D A (WC cy ad ks g u3) := by rw [← pt_eq e4, ← ez9]; exact hD
  clear ez9 h9
  refine lv_aload_n hx hb dX5_start_10 rfl (lv_at hl 0 rfl) ?_
  refine lv_iconst (v := 0) hx hb dX5_start_11 (by decide) ?_
  obtain ⟨q9, h9, ez9⟩ := wc_set (cy := cy) (ad := ad) (ks := ks) (g := g) (u := u3) (κ := .rd) (r := 0) (i := 8) (v := (0)) hk.1 True.intro (own_rd (by decide)) (sf_rd_4)
  refine va_put (D := (dC, dI)) (ci := 5) (v := .int 0) (ty := .int) (C := RX5) (T := TX5) (N := 11) hx hb hts inlX5 tyX5 tyX5_ok nmX5 hown hK hP hD hS q9 h9 rfl 4 (by decide) (hts _ mw_150) (fun _ h9 => h9) rfl (by decide +kernel) rfl rfl (Nat.le_of_ble_eq_true rfl) dX5_start_12 (fun H locs hP hD hS => ?_)
  obtain ⟨u5, e6, hF⟩ := ob hF
  have hP : va_P (dC, dI) vwCl (WC cy ad ks g u5) H := by rw [← pt_eq e6, ← ez9]; exact hP
  have hD : va_D A (WC cy ad ks g u5) := by rw [← pt_eq e6, ← ez9]; exact hD
  clear ez9 h9
  refine lv_aload_n hx hb dX5_start_15 rfl (lv_at hl 0 rfl) ?_
  refine lv_iconst (v := 0) hx hb dX5_start_16 (by decide) ?_
  obtain ⟨q9, h9, ez9⟩ := wc_set (cy := cy) (ad := ad) (ks := ks) (g := g) (u := u5) (κ := .rd) (r := 0) (i := 9) (v := (0)) hk.1 True.intro (own_rd (by decide)) (sf_rd_5)
  refine va_put (D := (dC, dI)) (ci := 5) (v := .int 0) (ty := .int) (C := RX5) (T := TX5) (N := 11) hx hb hts inlX5 tyX5 tyX5_ok nmX5 hown hK hP hD hS q9 h9 rfl 5 (by decide) (hts _ mw_143) (fun _ h9 => h9) rfl (by decide +kernel) rfl rfl (Nat.le_of_ble_eq_true rfl) dX5_start_17 (fun H locs hP hD hS => ?_)
  obtain ⟨u7, e8, hF⟩ := ob hF
  have hP : va_P (dC, dI) vwCl (WC cy ad ks g u7) H := by rw [← pt_eq e8, ← ez9]; exact hP
  have hD : va_D A (WC cy ad ks g u7) := by rw [← pt_eq e8, ← ez9]; exact hD
  clear ez9 h9
  have hZ := s1 hF
  have zuz : u7 = uz := hZ
  have hP9 : va_P (dC, dI) vwCl (WC cy ad ks g uz) H := by rw [← zuz]; exact hP
  have hD9 : va_D A (WC cy ad ks g uz) := by rw [← zuz]; exact hD
  rw [hQ]
  exact W.vret hx hb hr (fun t ht hW => ⟨⟨(), rfl, trivial, by rw [ht]; exact hP9, hD9⟩, hS.F ht⟩) hS.2.2 dX5_start_20
noncomputable def C5_stands_L17 (a2 : Int32) (g : CG) (u0 : RS) (bs : List Int32) : Nat → Int32 → Option (Sum (Int32) (Int32))
  | 0, _ => none
  | m11 + 1, y4 => (F_J0_length_8abf5  bs).bind fun x12 => if x12 ≤ y4 then (some (.inr y4)) else ((rd u0 3 600 (a2 + y4)).bind fun x15 => (F_J0_charAt_5068e (y4) bs).bind fun x17 => if x15 = x17 then (C5_stands_L17 a2 g u0 bs m11 ((y4 + 1))) else (some (.inl (0 : Int32))))
noncomputable def C5_stands (g : CG) (u0 : RS) (a2 : Int32) (bs : List Int32) : Option (Int32) := (F_J0_length_8abf5  bs).bind fun x1 => if ((u0 0 6) - a2) = x1 then ((C5_stands_L17 a2 g u0 bs FUEL (0 : Int32)).bind fun t5 => match t5 with | .inl r => some r | .inr t9 => some (1 : Int32)) else (some (0 : Int32))
set_option maxHeartbeats 4000000 in
set_option maxRecDepth 100000 in
theorem c_X5_stands (l : Launch) (dC : Nat → ClassId) (dI : Nat → Nat → Nat) (cy : Nat → ClassId) (nb : Nat → Nat) (ad : CK → Nat) (ks : List CK) (g : CG) (hk : GA nb ad g ks) (u0 : RS) (a2 : Int32) (k : Nat) (C0 : String) (e0 : Nat) (tx : String) (bs : List Int32) (ro : Int32) (sz : Nat) (hk9 : xW[k]? = some (C0, e0, tx, bs)) (hF : C5_stands g u0 a2 bs = some ro) : Met l yX5_stands (wsg yX5_stands cX5_stands 4 (some .boolean)) ({ frames := 11, cells := 0, slots := 0, locals := 600 }) (va_Pc [.ref (ad .rd), .ref (nb (3 + 2 * k)), .int a2] (fun U => U.heap.size = sz ∧ va_P (dC, dI) vwCl (WC cy ad ks g u0) U.heap ∧ va_K (dC, dI) vwCl (tyL cy) U ∧ va_D (fun _ => True) (WC cy ad ks g u0) ∧ GE nb (va_A (WC cy ad ks g u0) sz) U)) (va_Qi (fun (r : Int32) (_ : Unit) => r = ro) (fun _ t => va_P (dC, dI) vwCl (WC cy ad ks g u0) t.heap ∧ va_D (va_A (WC cy ad ks g u0) sz) (WC cy ad ks g u0)) (va_A (WC cy ad ks g u0) sz)) 0 0 (va_A (WC cy ad ks g u0) sz) := by
  refine Met.ofW (cc := cX5_stands) (maxL := 4) (ret := (some .boolean)) pn_X5 rfl ?_
  intro p e s m args below meth c s₁ B hml hv
  obtain ⟨rfl, hsz, hP, hK, hD0, hE⟩ := hv
  have hx := B.exec
  have hb := B.bytes
  have hr := B.returns
  have hts0 := atoms_spec (ws := (wsg yX5_stands cX5_stands 4 (some .boolean))) B.pre
  have hts : ∀ w ∈ wsL_law, w.before _ s = true := fun w h => hts0 w (List.mem_cons_of_mem _ h)
  have hown : s.vm.findClass RX5 = some m.cls := by have h9 := findClass_of_methodNamed B.named; exact h9
  have hlocks := B.notSynchronized
  subst hsz
  have hD := hD0.self (sz := s.heap.size)
  generalize hAe : va_A (WC cy ad ks g u0) s.heap.size = A at hD hE ⊢
  have hA : ∀ q : Nat, s.heap.size ≤ q → A q := fun q h => by rw [← hAe]; exact Or.inr h
  have hS : va_S A s.heap s.heap [] := va_S.rf
  have hl := lv_entry ([.ref (ad .rd), .ref (nb (3 + 2 * k)), .int a2]) (n := 4) (Nat.le_of_ble_eq_true rfl)
  rw [lg_entry_eq]
  generalize (lg_sl ([.ref (ad .rd), .ref (nb (3 + 2 * k)), .int a2]) ++ List.replicate (4 - (lg_sl ([.ref (ad .rd), .ref (nb (3 + 2 * k)), .int a2])).length) Slot.unset).toArray = ls at hl ⊢
  have hl : lv_has ls 4 [(0, .ref (ad .rd)), (1, .ref (nb (3 + 2 * k))), (2, .int a2)] := hl
  generalize hHe : s.heap = H at hP hS ⊢
  have hS : va_S A s.heap H [] := by rw [hHe]; exact hS
  refine my_Q (fun Qn hQ => ?_)
  simp only [C5_stands] at hF
  refine lv_aload_n hx hb dX5_stands_0 rfl (lv_at hl 0 rfl) ?_
  obtain ⟨q9, h9⟩ := wc_at (cy := cy) (ad := ad) (ks := ks) (g := g) (u := u0) (κ := .rd) hk.1 True.intro
  refine va_get (D := (dC, dI)) (ci := 5) (v := .int (u0 0 6)) (C := RX5) (T := TX5) (N := 11) hx hb hts inlX5 hown hK hP q9 h9 rfl 2 (by decide) (hts _ mw_148) (fun _ h9 => h9) rfl dX5_stands_1 ?_
  clear h9
  refine lv_iload_n hx hb dX5_stands_4 rfl (lv_at hl 2 rfl) ?_
  refine lv_isub hx hb dX5_stands_5 ?_
  refine lv_aload_n hx hb dX5_stands_6 rfl (lv_at hl 1 rfl) ?_
  obtain ⟨x1, e2, hF⟩ := ob hF
  have hPc : va_P (dC, dI) vwCl ([] : va_W) H := fun k q h => by simp at h
  have hDc : va_D A ([] : va_W) := ⟨fun i j p q h => by simp at h, fun k q h => by simp at h⟩
  have hFc := my_free0 hS hA
  refine va_calli (va_runV (As := []) (rest := [.int ((u0 0 6) - a2)]) ⟨hx, hb, hml, hown, hts⟩ (k_J0_length_8abf5 l dC dI cy nb k C0 e0 tx bs (x1) H.size (show xW[k]? = some (C0, e0, tx, bs) from hk9) e2) (cwV 0 hts (gV mw_170 mw_171 mw_172 mw_173 mw_174) rfl rfl rfl (by decide +kernel) ⟨Nat.le_of_ble_eq_true rfl, Nat.le_of_ble_eq_true rfl⟩) (my_preV hPc hK hDc hE hS hFc (my_recvO (hE.wh k hk9).1 hS)) rfl rfl hl.1 rfl (lv_room (Nat.le_of_ble_eq_true rfl)) dX5_stands_7 ⟨Nat.le_of_ble_eq_true rfl, Nat.le_of_ble_eq_true rfl⟩) hS (fun q _ h => hFc q h) hFc (fun r u t H1 locs ht hvm hw hB hz1 hk1 hS => ?_)
  obtain ⟨hP1, hD1⟩ := hB
  rw [ht] at hP1
  have hP := my_keep hP hk1
  generalize H1 = H at hP hS ⊢
  clear hP1 hD1 hPc hDc hFc hk1 hz1 hvm ht
  obtain rfl := hw.symm
  refine lv_icmp_eq (tgt := 15) hx hb dX5_stands_10 (by decide) (fun c3 => ?_) (fun c3 => ?_)
  · rw [if_pos c3] at hF
    refine lv_iconst (v := 0) hx hb dX5_stands_15 (by decide) ?_
    refine lv_istore_n (lv' := [(3, .int 0), (0, .ref (ad .rd)), (1, .ref (nb (3 + 2 * k))), (2, .int a2)]) hx hb dX5_stands_16 rfl hl (by decide) rfl (fun ls hl => ?_)
    obtain ⟨t5, hL6, hF⟩ := ob hF
    have kx7 : ∀ (t9 : Int32), t5 = .inr t9 → ∀ (H : Heap) (locs : List Loc) (ls : Array Slot), va_P (dC, dI) vwCl (WC cy ad ks g u0) H → va_D A (WC cy ad ks g u0) → va_S A s.heap H locs → lv_has ls 4 [(3, .int t9), (0, .ref (ad .rd)), (1, .ref (nb (3 + 2 * k))), (2, .int a2)] → W p l e (headSpec (wsg yX5_stands cX5_stands 4 (some .boolean)) ({ frames := 11, cells := 0, slots := 0, locals := 600 })).room s m ([.ref (ad .rd), .ref (nb (3 + 2 * k)), .int a2] : List Value).toArray below meth c H locs 0 0 Qn (F0 m 49 ls []) := by
      intro t9 he H locs ls hP hD hS hl
      subst he
      refine lv_iconst (v := 1) hx hb dX5_stands_49 (by decide) ?_
      have hZ := s1 hF
      have zro : (1 : Int32) = ro := hZ
      have hP9 : va_P (dC, dI) vwCl (WC cy ad ks g u0) H := by exact hP
      have hD9 : va_D A (WC cy ad ks g u0) := by exact hD
      rw [hQ]
      exact W.zret (v := (1 : Int32)) hx hb hr (by rfl) (fun t ht hW => ⟨⟨(1 : Int32), (), rfl, zro, by rw [ht]; exact hP9, hD9⟩, hS.F ht⟩) hS.2.2 dX5_stands_50
    have kr8 : ∀ r : Int32, t5 = .inl r → some r = some ro := by
      intro r he
      subst he
      exact hF
    clear hF
    have loop10 : ∀ (m11 : Nat) (y4 : Int32), C5_stands_L17 a2 g u0 bs m11 y4 = some t5 → ∀ (H : Heap) (locs : List Loc) (ls : Array Slot), va_P (dC, dI) vwCl (WC cy ad ks g u0) H → va_D A (WC cy ad ks g u0) → va_S A s.heap H locs → lv_has ls 4 [(3, .int y4), (0, .ref (ad .rd)), (1, .ref (nb (3 + 2 * k))), (2, .int a2)] → W p l e (headSpec (wsg yX5_stands cX5_stands 4 (some .boolean)) ({ frames := 11, cells := 0, slots := 0, locals := 600 })).room s m ([.ref (ad .rd), .ref (nb (3 + 2 * k)), .int a2] : List Value).toArray below meth c H locs 0 0 Qn (F0 m 17 ls []) := by
      intro m11
      induction m11 with
      | zero => intro y4 hF; cases hF
      | succ m11 ih =>
        intro y4 hF H locs ls hP hD hS hl
        simp only [C5_stands_L17] at hF
        refine lv_iload_n hx hb dX5_stands_17 rfl (lv_at hl 0 rfl) ?_
        refine lv_aload_n hx hb dX5_stands_18 rfl (lv_at hl 2 rfl) ?_
        obtain ⟨x12, e13, hF⟩ := ob hF
        have hPc : va_P (dC, dI) vwCl ([] : va_W) H := fun k q h => by simp at h
        have hDc : va_D A ([] : va_W) := ⟨fun i j p q h => by simp at h, fun k q h => by simp at h⟩
        have hFc := my_free0 hS hA
        refine va_calli (va_runV (As := []) (rest := [.int y4]) ⟨hx, hb, hml, hown, hts⟩ (k_J0_length_8abf5 l dC dI cy nb k C0 e0 tx bs (x12) H.size (show xW[k]? = some (C0, e0, tx, bs) from hk9) e13) (cwV 0 hts (gV mw_170 mw_171 mw_172 mw_173 mw_174) rfl rfl rfl (by decide +kernel) ⟨Nat.le_of_ble_eq_true rfl, Nat.le_of_ble_eq_true rfl⟩) (my_preV hPc hK hDc hE hS hFc (my_recvO (hE.wh k hk9).1 hS)) rfl rfl hl.1 rfl (lv_room (Nat.le_of_ble_eq_true rfl)) dX5_stands_19 ⟨Nat.le_of_ble_eq_true rfl, Nat.le_of_ble_eq_true rfl⟩) hS (fun q _ h => hFc q h) hFc (fun r u t H1 locs ht hvm hw hB hz1 hk1 hS => ?_)
        obtain ⟨hP1, hD1⟩ := hB
        rw [ht] at hP1
        have hP := my_keep hP hk1
        generalize H1 = H at hP hS ⊢
        clear hP1 hD1 hPc hDc hFc hk1 hz1 hvm ht
        obtain rfl := hw.symm
        refine lv_icmp_ge (tgt := 49) hx hb dX5_stands_22 (by decide) (fun c14 => ?_) (fun c14 => ?_)
        · rw [if_pos c14] at hF
          exact kx7 _ (s1 hF).symm _ _ _ hP hD hS (lv_sub hl [0, 1, 2, 3] rfl)
        · rw [if_neg c14] at hF
          refine lv_aload_n hx hb dX5_stands_25 rfl (lv_at hl 1 rfl) ?_
          obtain ⟨q9, h9⟩ := wc_at (cy := cy) (ad := ad) (ks := ks) (g := g) (u := u0) (κ := .rd) hk.1 True.intro
          refine va_get (D := (dC, dI)) (ci := 5) (v := .ref (ad .tb)) (C := RX5) (T := TX5) (N := 11) hx hb hts inlX5 hown hK hP q9 h9 rfl 0 (by decide) (hts _ mw_72) (fun _ h9 => h9) rfl dX5_stands_26 ?_
          clear h9
          refine lv_iload_n hx hb dX5_stands_29 rfl (lv_at hl 3 rfl) ?_
          refine lv_iload_n hx hb dX5_stands_30 rfl (lv_at hl 0 rfl) ?_
          refine lv_iadd hx hb dX5_stands_31 ?_
          obtain ⟨x15, e16, hF⟩ := ob hF
          obtain ⟨q9, h9⟩ := wc_at (cy := cy) (ad := ad) (ks := ks) (g := g) (u := u0) (κ := .tb) hk.1 True.intro
          refine va_bald hx hb hK hP q9 0 h9 rfl (rd_in e16) dX5_stands_32 ?_
          refine my_topi (y := x15) (rd_eq e16) ?_
          clear h9
          refine lv_aload_n hx hb dX5_stands_33 rfl (lv_at hl 2 rfl) ?_
          refine lv_iload_n hx hb dX5_stands_34 rfl (lv_at hl 0 rfl) ?_
          obtain ⟨x17, e18, hF⟩ := ob hF
          have hPc : va_P (dC, dI) vwCl ([] : va_W) H := fun k q h => by simp at h
          have hDc : va_D A ([] : va_W) := ⟨fun i j p q h => by simp at h, fun k q h => by simp at h⟩
          have hFc := my_free0 hS hA
          refine va_calli (va_runV (As := [.int y4]) (rest := [.int x15]) ⟨hx, hb, hml, hown, hts⟩ (k_J0_charAt_5068e l dC dI cy nb (y4) k C0 e0 tx bs (x17) H.size (show xW[k]? = some (C0, e0, tx, bs) from hk9) e18) (cwV 1 hts (gV mw_182 mw_183 mw_184 mw_173 mw_185) rfl rfl rfl (by decide +kernel) ⟨Nat.le_of_ble_eq_true rfl, Nat.le_of_ble_eq_true rfl⟩) (my_preV hPc hK hDc hE hS hFc (my_recvO (hE.wh k hk9).1 hS)) rfl rfl hl.1 rfl (lv_room (Nat.le_of_ble_eq_true rfl)) dX5_stands_35 ⟨Nat.le_of_ble_eq_true rfl, Nat.le_of_ble_eq_true rfl⟩) hS (fun q _ h => hFc q h) hFc (fun r u t H1 locs ht hvm hw hB hz1 hk1 hS => ?_)
          obtain ⟨hP1, hD1⟩ := hB
          rw [ht] at hP1
          have hP := my_keep hP hk1
          generalize H1 = H at hP hS ⊢
          clear hP1 hD1 hPc hDc hFc hk1 hz1 hvm ht
          obtain rfl := hw.symm
          refine lv_icmp_eq (tgt := 43) hx hb dX5_stands_38 (by decide) (fun c19 => ?_) (fun c19 => ?_)
          · rw [if_pos c19] at hF
            refine lv_iinc (v := (y4 + 1)) (lv' := [(3, .int (y4 + 1)), (0, .ref (ad .rd)), (1, .ref (nb (3 + 2 * k))), (2, .int a2)]) hx hb dX5_stands_43 hl (k := 0) rfl (by rfl) (by decide) rfl (fun ls hl => ?_)
            refine lv_goto (tgt := 17) hx hb dX5_stands_46 (by decide) ?_
            exact ih _ hF _ _ _ hP hD hS (lv_sub hl [0, 1, 2, 3] rfl)
          · rw [if_neg c19] at hF
            refine lv_iconst (v := 0) hx hb dX5_stands_41 (by decide) ?_
            have hF := kr8 _ (s1 hF).symm
            have hZ := s1 hF
            have zro : (0 : Int32) = ro := hZ
            have hP9 : va_P (dC, dI) vwCl (WC cy ad ks g u0) H := by exact hP
            have hD9 : va_D A (WC cy ad ks g u0) := by exact hD
            rw [hQ]
            exact W.zret (v := (0 : Int32)) hx hb hr (by rfl) (fun t ht hW => ⟨⟨(0 : Int32), (), rfl, zro, by rw [ht]; exact hP9, hD9⟩, hS.F ht⟩) hS.2.2 dX5_stands_42
    exact loop10 FUEL _ hL6 _ _ _ hP hD hS (lv_sub hl [0, 1, 2, 3] rfl)
  · rw [if_neg c3] at hF
    refine lv_iconst (v := 0) hx hb dX5_stands_13 (by decide) ?_
    have hZ := s1 hF
    have zro : (0 : Int32) = ro := hZ
    have hP9 : va_P (dC, dI) vwCl (WC cy ad ks g u0) H := by exact hP
    have hD9 : va_D A (WC cy ad ks g u0) := by exact hD
    rw [hQ]
    exact W.zret (v := (0 : Int32)) hx hb hr (by rfl) (fun t ht hW => ⟨⟨(0 : Int32), (), rfl, zro, by rw [ht]; exact hP9, hD9⟩, hS.F ht⟩) hS.2.2 dX5_stands_14
