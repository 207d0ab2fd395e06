noncomputable def C7_station (g : CG) (u0 : RS) (a1 : Int32) (a2 : Int32) : Option (Sum Int32 (Int32)) := (C7_needStation g u0 (a1)).bind fun t1 => tr t1 fun t3 => (ix 6 a1).bind fun n4 => if a2 = 0 then (some (.inr (u0 (10 + 0) (17 + 16 * n4 + 0)))) else (if a2 = 1 then (some (.inr (u0 (10 + 0) (17 + 16 * n4 + 1)))) else (if a2 = 2 then (some (.inr (u0 (10 + 0) (17 + 16 * n4 + 2)))) else (if a2 = 3 then (some (.inr (u0 (10 + 0) (17 + 16 * n4 + 3)))) else (if a2 = 4 then (some (.inr (u0 (10 + 0) (17 + 16 * n4 + 4)))) else (if a2 = 5 then (some (.inr (u0 (10 + 0) (17 + 16 * n4 + 5)))) else (if a2 = 6 then (some (.inr (u0 (10 + 0) (17 + 16 * n4 + 6)))) else (if a2 = 7 then ((if (u0 (10 + 0) (17 + 16 * n4 + 7)) = 0 then (some (0 : Int32)) else (some (1 : Int32)) : Option (Int32)).bind fun t15 => some (.inr t15)) else (if a2 = 8 then ((if (u0 (10 + 0) (17 + 16 * n4 + 0)) = 3 then (some (u0 (10 + 0) (17 + 16 * n4 + 8))) else (some (-1 : Int32)) : Option (Int32)).bind fun t20 => some (.inr t20)) else (if a2 = 9 then (some (.inr (u0 (10 + 0) (17 + 16 * n4 + 9)))) else (if a2 = 10 then (some (.inr (u0 (10 + 0) (17 + 16 * n4 + 10)))) else (if a2 = 11 then (some (.inr (u0 (10 + 0) (17 + 16 * n4 + 11)))) else (if a2 = 12 then (some (.inr (u0 (10 + 0) (17 + 16 * n4 + 12)))) else (some (.inl (2 : Int32)))))))))))))))
set_option maxHeartbeats 4000000 in
set_option maxRecDepth 100000 in
theorem c_X7_station (l : Launch) (dC : Nat → ClassId) (dI : Nat → Nat → Nat) (cy : Nat → ClassId) (nb : Nat → Nat) (ad : CK → Nat) (ks : List CK) (g : CG) (hk : GA nb ad g ks) (u0 : RS) (a1 : Int32) (a2 : Int32) (ro : Int32) (sz : Nat) (hF : C7_station g u0 a1 a2 = some (.inr ro)) : Met l yX7_station (wsg yX7_station cX7_station 4 (some .int)) ({ frames := 8, cells := 0, slots := 0, locals := 300 }) (va_Pc [.ref (ad .cl), .int a1, .int a2] (fun U => U.heap.size = sz ∧ va_P (dC, dI) vwCl (WC cy ad ks g u0) U.heap ∧ va_K (dC, dI) vwCl (tyL cy) U ∧ va_D (fun _ => True) (WC cy ad ks g u0) ∧ GE nb (va_A (WC cy ad ks g u0) sz) U)) (va_Qi (fun (r : Int32) (_ : Unit) => r = ro) (fun _ t => va_P (dC, dI) vwCl (WC cy ad ks g u0) t.heap ∧ va_D (va_A (WC cy ad ks g u0) sz) (WC cy ad ks g u0)) (va_A (WC cy ad ks g u0) sz)) 0 0 (va_A (WC cy ad ks g u0) sz) := by
  refine Met.ofW (cc := cX7_station) (maxL := 4) (ret := (some .int)) pn_X7 rfl ?_
  intro p e s m args below meth c s₁ B hml hv
  obtain ⟨rfl, hsz, hP, hK, hD0, hE⟩ := hv
  have hx := B.exec
  have hb := B.bytes
  have hr := B.returns
  have hts0 := atoms_spec (ws := (wsg yX7_station cX7_station 4 (some .int))) B.pre
  have hts : ∀ w ∈ wsL_law, w.before _ s = true := fun w h => hts0 w (List.mem_cons_of_mem _ h)
  have hown : s.vm.findClass RX7 = some m.cls := by have h9 := findClass_of_methodNamed B.named; exact h9
  have hlocks := B.notSynchronized
  subst hsz
  have hD := hD0.self (sz := s.heap.size)
  generalize hAe : va_A (WC cy ad ks g u0) s.heap.size = A at hD hE ⊢
  have hA : ∀ q : Nat, s.heap.size ≤ q → A q := fun q h => by rw [← hAe]; exact Or.inr h
  have hS : va_S A s.heap s.heap [] := va_S.rf
  have hl := lv_entry ([.ref (ad .cl), .int a1, .int a2]) (n := 4) (Nat.le_of_ble_eq_true rfl)
  rw [lg_entry_eq]
  generalize (lg_sl ([.ref (ad .cl), .int a1, .int a2]) ++ List.replicate (4 - (lg_sl ([.ref (ad .cl), .int a1, .int a2])).length) Slot.unset).toArray = ls at hl ⊢
  have hl : lv_has ls 4 [(0, .ref (ad .cl)), (1, .int a1), (2, .int a2)] := hl
  generalize hHe : s.heap = H at hP hS ⊢
  have hS : va_S A s.heap H [] := by rw [hHe]; exact hS
  refine my_Q (fun Qn hQ => ?_)
  simp only [C7_station] at hF
  refine lv_aload_n hx hb dX7_station_0 rfl (lv_at hl 0 rfl) ?_
  refine lv_iload_n hx hb dX7_station_1 rfl (lv_at hl 1 rfl) ?_
  obtain ⟨t1, e2, hF⟩ := ob hF
  rcases t1 with xz9 | t3
  · have hF : some (Sum.inl xz9) = some (.inr ro) := hF
    cases hF
  · dsimp only [tr] at hF
    have hPc := hP
    have hDc := hD
    have hFc := my_free hD hS hA
    obtain ⟨q8, h8⟩ := wc_at (cy := cy) (ad := ad) (ks := ks) (g := g) (u := u0) (κ := .cl) hk.1 True.intro
    refine va_callv (va_runV (As := [.int a1]) (rest := []) ⟨hx, hb, hml, hown, hts⟩ (c_X7_needStation l dC dI cy nb ad ks g hk u0 (a1) H.size e2) (cwV 1 hts (gV mw_631 mw_632 mw_633 mw_2 mw_634) rfl rfl rfl (by decide +kernel) ⟨Nat.le_of_ble_eq_true rfl, Nat.le_of_ble_eq_true rfl⟩) (my_preV hPc hK hDc hE hS hFc (va_recv (q := (RX7, TX7, 12)) hK hP (ci := 7) (q0 := q8) rfl h8)) rfl rfl hl.1 rfl (lv_room (Nat.le_of_ble_eq_true rfl)) dX7_station_2 ⟨Nat.le_of_ble_eq_true rfl, Nat.le_of_ble_eq_true rfl⟩) hS (fun q _ h => hFc q h) hFc (fun u t H1 locs ht hvm hw hB hz1 hk1 hS => ?_)
    clear h8
    obtain ⟨hP1, hD1⟩ := hB
    rw [ht] at hP1
    have hP := hP1
    have hD := hD1.weaken (fun k q _ h => hFc q.1 h)
    generalize H1 = H at hP hS ⊢
    clear hP1 hD1 hPc hDc hFc hk1 hz1 hvm ht
    refine lv_aload_n hx hb dX7_station_5 rfl (lv_at hl 0 rfl) ?_
    obtain ⟨q9, h9⟩ := wc_at (cy := cy) (ad := ad) (ks := ks) (g := g) (u := u0) (κ := .cl) hk.1 True.intro
    refine va_get (D := (dC, dI)) (ci := 7) (v := .ref (ad (.ln 0))) (C := RX7) (T := TX7) (N := 12) hx hb hts inlX7 hown hK hP q9 h9 rfl 0 (by decide) (hts _ mw_18) (fun _ h9 => h9) rfl dX7_station_6 ?_
    clear h9
    obtain ⟨q9, h9⟩ := wc_at (cy := cy) (ad := ad) (ks := ks) (g := g) (u := u0) (κ := (.ln 0)) hk.1 (Or.inl (by decide))
    refine va_get (D := (dC, dI)) (ci := 3) (v := .ref (ad (.ss 0))) (C := RX3) (T := TX3) (N := 17) hx hb hts inlX3 hown hK hP q9 h9 rfl 10 (by decide) (hts _ mw_617) (fun _ h9 => h9) rfl dX7_station_9 ?_
    clear h9
    refine lv_iload_n hx hb dX7_station_12 rfl (lv_at hl 1 rfl) ?_
    obtain ⟨n4, e5, hF⟩ := ob hF
    obtain ⟨q9, h9⟩ := wc_at (cy := cy) (ad := ad) (ks := ks) (g := g) (u := u0) (κ := (.ss 0)) hk.1 (Or.inl (by decide))
    refine va_aldq hx hb hK hP q9 6 h9 rfl (ix_in e5) dX7_station_13 ?_
    refine my_top (y := .ref (ad (.st 0 n4))) (ixv (F := fun j => ad (.st 0 j)) e5) ?_
    clear h9
    refine lv_astore_n (lv' := [(3, .ref (ad (.st 0 n4))), (0, .ref (ad .cl)), (1, .int a1), (2, .int a2)]) hx hb dX7_station_14 rfl hl (by decide) rfl (fun ls hl => ?_)
    refine lv_iload_n hx hb dX7_station_15 rfl (lv_at hl 3 rfl) ?_
    by_cases c6 : a2 = 0
    · rw [if_pos c6] at hF
      refine my_topi (y := 0) c6 ?_
      refine lv_tableIn (off := 68) (tgt := 84) hx hb dX7_station_16 (by decide) (by decide) (by decide) (by decide) ?_
      refine lv_aload_n hx hb dX7_station_84 rfl (lv_at hl 0 rfl) ?_
      obtain ⟨q9, h9⟩ := wc_at (cy := cy) (ad := ad) (ks := ks) (g := g) (u := u0) (κ := (.st 0 n4)) hk.1 ⟨(Or.inl (by decide)), (ix_lt e5)⟩
      refine va_get (D := (dC, dI)) (ci := 6) (v := .int (u0 (10 + 0) (17 + 16 * n4 + 0))) (C := RX6) (T := TX6) (N := 15) hx hb hts inlX6 hown hK hP q9 h9 rfl 0 (by decide) (hts _ mw_618) (fun _ h9 => h9) rfl dX7_station_85 ?_
      clear h9
      have hZ := s3 hF
      have zro : (u0 (10 + 0) (17 + 16 * n4 + 0)) = ro := hZ
      have hP9 : va_P (dC, dI) vwCl (WC cy ad ks g u0) H := by exact hP
      have hD9 : va_D A (WC cy ad ks g u0) := by exact hD
      rw [hQ]
      exact W.iret (v := (u0 (10 + 0) (17 + 16 * n4 + 0))) hx hb hr (fun t ht hW => ⟨⟨(u0 (10 + 0) (17 + 16 * n4 + 0)), (), rfl, zro, by rw [ht]; exact hP9, hD9⟩, hS.F ht⟩) hS.2.2 dX7_station_88
    · rw [if_neg c6] at hF
      by_cases c7 : a2 = 1
      · rw [if_pos c7] at hF
        refine my_topi (y := 1) c7 ?_
        refine lv_tableIn (off := 73) (tgt := 89) hx hb dX7_station_16 (by decide) (by decide) (by decide) (by decide) ?_
        refine lv_aload_n hx hb dX7_station_89 rfl (lv_at hl 0 rfl) ?_
        obtain ⟨q9, h9⟩ := wc_at (cy := cy) (ad := ad) (ks := ks) (g := g) (u := u0) (κ := (.st 0 n4)) hk.1 ⟨(Or.inl (by decide)), (ix_lt e5)⟩
        refine va_get (D := (dC, dI)) (ci := 6) (v := .int (u0 (10 + 0) (17 + 16 * n4 + 1))) (C := RX6) (T := TX6) (N := 15) hx hb hts inlX6 hown hK hP q9 h9 rfl 1 (by decide) (hts _ mw_619) (fun _ h9 => h9) rfl dX7_station_90 ?_
        clear h9
        have hZ := s3 hF
        have zro : (u0 (10 + 0) (17 + 16 * n4 + 1)) = ro := hZ
        have hP9 : va_P (dC, dI) vwCl (WC cy ad ks g u0) H := by exact hP
        have hD9 : va_D A (WC cy ad ks g u0) := by exact hD
        rw [hQ]
        exact W.iret (v := (u0 (10 + 0) (17 + 16 * n4 + 1))) hx hb hr (fun t ht hW => ⟨⟨(u0 (10 + 0) (17 + 16 * n4 + 1)), (), rfl, zro, by rw [ht]; exact hP9, hD9⟩, hS.F ht⟩) hS.2.2 dX7_station_93
      · rw [if_neg c7] at hF
        by_cases c8 : a2 = 2
        · rw [if_pos c8] at hF
          refine my_topi (y := 2) c8 ?_
          refine lv_tableIn (off := 78) (tgt := 94) hx hb dX7_station_16 (by decide) (by decide) (by decide) (by decide) ?_
          refine lv_aload_n hx hb dX7_station_94 rfl (lv_at hl 0 rfl) ?_
          obtain ⟨q9, h9⟩ := wc_at (cy := cy) (ad := ad) (ks := ks) (g := g) (u := u0) (κ := (.st 0 n4)) hk.1 ⟨(Or.inl (by decide)), (ix_lt e5)⟩
          refine va_get (D := (dC, dI)) (ci := 6) (v := .int (u0 (10 + 0) (17 + 16 * n4 + 2))) (C := RX6) (T := TX6) (N := 15) hx hb hts inlX6 hown hK hP q9 h9 rfl 3 (by decide) (hts _ mw_620) (fun _ h9 => h9) rfl dX7_station_95 ?_
          clear h9
          have hZ := s3 hF
          have zro : (u0 (10 + 0) (17 + 16 * n4 + 2)) = ro := hZ
          have hP9 : va_P (dC, dI) vwCl (WC cy ad ks g u0) H := by exact hP
          have hD9 : va_D A (WC cy ad ks g u0) := by exact hD
          rw [hQ]
          exact W.iret (v := (u0 (10 + 0) (17 + 16 * n4 + 2))) hx hb hr (fun t ht hW => ⟨⟨(u0 (10 + 0) (17 + 16 * n4 + 2)), (), rfl, zro, by rw [ht]; exact hP9, hD9⟩, hS.F ht⟩) hS.2.2 dX7_station_98
        · rw [if_neg c8] at hF
          by_cases c9 : a2 = 3
          · rw [if_pos c9] at hF
            refine my_topi (y := 3) c9 ?_
            refine lv_tableIn (off := 83) (tgt := 99) hx hb dX7_station_16 (by decide) (by decide) (by decide) (by decide) ?_
            refine lv_aload_n hx hb dX7_station_99 rfl (lv_at hl 0 rfl) ?_
            obtain ⟨q9, h9⟩ := wc_at (cy := cy) (ad := ad) (ks := ks) (g := g) (u := u0) (κ := (.st 0 n4)) hk.1 ⟨(Or.inl (by decide)), (ix_lt e5)⟩
            refine va_get (D := (dC, dI)) (ci := 6) (v := .int (u0 (10 + 0) (17 + 16 * n4 + 3))) (C := RX6) (T := TX6) (N := 15) hx hb hts inlX6 hown hK hP q9 h9 rfl 4 (by decide) (hts _ mw_621) (fun _ h9 => h9) rfl dX7_station_100 ?_
            clear h9
            have hZ := s3 hF
            have zro : (u0 (10 + 0) (17 + 16 * n4 + 3)) = ro := hZ
            have hP9 : va_P (dC, dI) vwCl (WC cy ad ks g u0) H := by exact hP
            have hD9 : va_D A (WC cy ad ks g u0) := by exact hD
            rw [hQ]
            exact W.iret (v := (u0 (10 + 0) (17 + 16 * n4 + 3))) hx hb hr (fun t ht hW => ⟨⟨(u0 (10 + 0) (17 + 16 * n4 + 3)), (), rfl, zro, by rw [ht]; exact hP9, hD9⟩, hS.F ht⟩) hS.2.2 dX7_station_103
          · rw [if_neg c9] at hF
            by_cases c10 : a2 = 4
            · rw [if_pos c10] at hF
              refine my_topi (y := 4) c10 ?_
              refine lv_tableIn (off := 88) (tgt := 104) hx hb dX7_station_16 (by decide) (by decide) (by decide) (by decide) ?_
              refine lv_aload_n hx hb dX7_station_104 rfl (lv_at hl 0 rfl) ?_
              obtain ⟨q9, h9⟩ := wc_at (cy := cy) (ad := ad) (ks := ks) (g := g) (u := u0) (κ := (.st 0 n4)) hk.1 ⟨(Or.inl (by decide)), (ix_lt e5)⟩
              refine va_get (D := (dC, dI)) (ci := 6) (v := .int (u0 (10 + 0) (17 + 16 * n4 + 4))) (C := RX6) (T := TX6) (N := 15) hx hb hts inlX6 hown hK hP q9 h9 rfl 5 (by decide) (hts _ mw_622) (fun _ h9 => h9) rfl dX7_station_105 ?_
              clear h9
              have hZ := s3 hF
              have zro : (u0 (10 + 0) (17 + 16 * n4 + 4)) = ro := hZ
              have hP9 : va_P (dC, dI) vwCl (WC cy ad ks g u0) H := by exact hP
              have hD9 : va_D A (WC cy ad ks g u0) := by exact hD
              rw [hQ]
              exact W.iret (v := (u0 (10 + 0) (17 + 16 * n4 + 4))) hx hb hr (fun t ht hW => ⟨⟨(u0 (10 + 0) (17 + 16 * n4 + 4)), (), rfl, zro, by rw [ht]; exact hP9, hD9⟩, hS.F ht⟩) hS.2.2 dX7_station_108
            · rw [if_neg c10] at hF
              by_cases c11 : a2 = 5
              · rw [if_pos c11] at hF
                refine my_topi (y := 5) c11 ?_
                refine lv_tableIn (off := 93) (tgt := 109) hx hb dX7_station_16 (by decide) (by decide) (by decide) (by decide) ?_
                refine lv_aload_n hx hb dX7_station_109 rfl (lv_at hl 0 rfl) ?_
                obtain ⟨q9, h9⟩ := wc_at (cy := cy) (ad := ad) (ks := ks) (g := g) (u := u0) (κ := (.st 0 n4)) hk.1 ⟨(Or.inl (by decide)), (ix_lt e5)⟩
                refine va_get (D := (dC, dI)) (ci := 6) (v := .int (u0 (10 + 0) (17 + 16 * n4 + 5))) (C := RX6) (T := TX6) (N := 15) hx hb hts inlX6 hown hK hP q9 h9 rfl 7 (by decide) (hts _ mw_623) (fun _ h9 => h9) rfl dX7_station_110 ?_
                clear h9
                have hZ := s3 hF
                have zro : (u0 (10 + 0) (17 + 16 * n4 + 5)) = ro := hZ
                have hP9 : va_P (dC, dI) vwCl (WC cy ad ks g u0) H := by exact hP
                have hD9 : va_D A (WC cy ad ks g u0) := by exact hD
                rw [hQ]
                exact W.iret (v := (u0 (10 + 0) (17 + 16 * n4 + 5))) hx hb hr (fun t ht hW => ⟨⟨(u0 (10 + 0) (17 + 16 * n4 + 5)), (), rfl, zro, by rw [ht]; exact hP9, hD9⟩, hS.F ht⟩) hS.2.2 dX7_station_113
              · rw [if_neg c11] at hF
                by_cases c12 : a2 = 6
                · rw [if_pos c12] at hF
                  refine my_topi (y := 6) c12 ?_
                  refine lv_tableIn (off := 98) (tgt := 114) hx hb dX7_station_16 (by decide) (by decide) (by decide) (by decide) ?_
                  refine lv_aload_n hx hb dX7_station_114 rfl (lv_at hl 0 rfl) ?_
                  obtain ⟨q9, h9⟩ := wc_at (cy := cy) (ad := ad) (ks := ks) (g := g) (u := u0) (κ := (.st 0 n4)) hk.1 ⟨(Or.inl (by decide)), (ix_lt e5)⟩
                  refine va_get (D := (dC, dI)) (ci := 6) (v := .int (u0 (10 + 0) (17 + 16 * n4 + 6))) (C := RX6) (T := TX6) (N := 15) hx hb hts inlX6 hown hK hP q9 h9 rfl 8 (by decide) (hts _ mw_624) (fun _ h9 => h9) rfl dX7_station_115 ?_
                  clear h9
                  have hZ := s3 hF
                  have zro : (u0 (10 + 0) (17 + 16 * n4 + 6)) = ro := hZ
                  have hP9 : va_P (dC, dI) vwCl (WC cy ad ks g u0) H := by exact hP
                  have hD9 : va_D A (WC cy ad ks g u0) := by exact hD
                  rw [hQ]
                  exact W.iret (v := (u0 (10 + 0) (17 + 16 * n4 + 6))) hx hb hr (fun t ht hW => ⟨⟨(u0 (10 + 0) (17 + 16 * n4 + 6)), (), rfl, zro, by rw [ht]; exact hP9, hD9⟩, hS.F ht⟩) hS.2.2 dX7_station_118
                · rw [if_neg c12] at hF
                  by_cases c13 : a2 = 7
                  · rw [if_pos c13] at hF
                    refine my_topi (y := 7) c13 ?_
                    refine lv_tableIn (off := 103) (tgt := 119) hx hb dX7_station_16 (by decide) (by decide) (by decide) (by decide) ?_
                    refine lv_aload_n hx hb dX7_station_119 rfl (lv_at hl 0 rfl) ?_
                    obtain ⟨q9, h9⟩ := wc_at (cy := cy) (ad := ad) (ks := ks) (g := g) (u := u0) (κ := (.st 0 n4)) hk.1 ⟨(Or.inl (by decide)), (ix_lt e5)⟩
                    refine va_get (D := (dC, dI)) (ci := 6) (v := .int (u0 (10 + 0) (17 + 16 * n4 + 7))) (C := RX6) (T := TX6) (N := 15) hx hb hts inlX6 hown hK hP q9 h9 rfl 9 (by decide) (hts _ mw_625) (fun _ h9 => h9) rfl dX7_station_120 ?_
                    clear h9
                    obtain ⟨t15, hJ16, hF⟩ := ob hF
                    have join17 : ∀ (H : Heap) (locs : List Loc) (ls : Array Slot), va_P (dC, dI) vwCl (WC cy ad ks g u0) H → va_D A (WC cy ad ks g u0) → va_S A s.heap H locs → lv_has ls 4 [(3, .ref (ad (.st 0 n4))), (0, .ref (ad .cl)), (1, .int a1), (2, .int a2)] → W p l e (headSpec (wsg yX7_station cX7_station 4 (some .int)) ({ frames := 8, cells := 0, slots := 0, locals := 300 })).room s m ([.ref (ad .cl), .int a1, .int a2] : List Value).toArray below meth c H locs 0 0 Qn (F0 m 131 ls [.int t15]) := by
                      intro H locs ls hP hD hS hl
                      have hZ := s3 hF
                      have zro : t15 = ro := hZ
                      have hP9 : va_P (dC, dI) vwCl (WC cy ad ks g u0) H := by exact hP
                      have hD9 : va_D A (WC cy ad ks g u0) := by exact hD
                      rw [hQ]
                      exact W.iret (v := t15) hx hb hr (fun t ht hW => ⟨⟨t15, (), rfl, zro, by rw [ht]; exact hP9, hD9⟩, hS.F ht⟩) hS.2.2 dX7_station_131
                    clear hF
                    have hF := hJ16
                    clear hJ16
                    refine lv_if_eq (tgt := 130) hx hb dX7_station_123 (by decide) (fun c14 => ?_) (fun c14 => ?_)
                    · rw [if_pos c14] at hF
                      refine lv_iconst (v := 0) hx hb dX7_station_130 (by decide) ?_
                      have ht := s1 hF
                      subst ht
                      exact join17 _ _ _ hP hD hS (lv_sub hl [0, 1, 2, 3] rfl)
                    · rw [if_neg c14] at hF
                      refine lv_iconst (v := 1) hx hb dX7_station_126 (by decide) ?_
                      refine lv_goto (tgt := 131) hx hb dX7_station_127 (by decide) ?_
                      have ht := s1 hF
                      subst ht
                      exact join17 _ _ _ hP hD hS (lv_sub hl [0, 1, 2, 3] rfl)
                  · rw [if_neg c13] at hF
                    by_cases c18 : a2 = 8
                    · rw [if_pos c18] at hF
                      refine my_topi (y := 8) c18 ?_
                      refine lv_tableIn (off := 116) (tgt := 132) hx hb dX7_station_16 (by decide) (by decide) (by decide) (by decide) ?_
                      refine lv_aload_n hx hb dX7_station_132 rfl (lv_at hl 0 rfl) ?_
                      obtain ⟨q9, h9⟩ := wc_at (cy := cy) (ad := ad) (ks := ks) (g := g) (u := u0) (κ := (.st 0 n4)) hk.1 ⟨(Or.inl (by decide)), (ix_lt e5)⟩
                      refine va_get (D := (dC, dI)) (ci := 6) (v := .int (u0 (10 + 0) (17 + 16 * n4 + 0))) (C := RX6) (T := TX6) (N := 15) hx hb hts inlX6 hown hK hP q9 h9 rfl 0 (by decide) (hts _ mw_618) (fun _ h9 => h9) rfl dX7_station_133 ?_
                      clear h9
                      refine lv_iconst (v := 3) hx hb dX7_station_136 (by decide) ?_
                      obtain ⟨t20, hJ21, hF⟩ := ob hF
                      have join22 : ∀ (H : Heap) (locs : List Loc) (ls : Array Slot), va_P (dC, dI) vwCl (WC cy ad ks g u0) H → va_D A (WC cy ad ks g u0) → va_S A s.heap H locs → lv_has ls 4 [(3, .ref (ad (.st 0 n4))), (0, .ref (ad .cl)), (1, .int a1), (2, .int a2)] → W p l e (headSpec (wsg yX7_station cX7_station 4 (some .int)) ({ frames := 8, cells := 0, slots := 0, locals := 300 })).room s m ([.ref (ad .cl), .int a1, .int a2] : List Value).toArray below meth c H locs 0 0 Qn (F0 m 148 ls [.int t20]) := by
                        intro H locs ls hP hD hS hl
                        have hZ := s3 hF
                        have zro : t20 = ro := hZ
                        have hP9 : va_P (dC, dI) vwCl (WC cy ad ks g u0) H := by exact hP
                        have hD9 : va_D A (WC cy ad ks g u0) := by exact hD
                        rw [hQ]
                        exact W.iret (v := t20) hx hb hr (fun t ht hW => ⟨⟨t20, (), rfl, zro, by rw [ht]; exact hP9, hD9⟩, hS.F ht⟩) hS.2.2 dX7_station_148
                      clear hF
                      have hF := hJ21
                      clear hJ21
                      refine lv_icmp_ne (tgt := 147) hx hb dX7_station_137 (by decide) (fun c19 => ?_) (fun c19 => ?_)
                      · rw [if_neg c19] at hF
                        refine lv_iconst (v := (-1)) hx hb dX7_station_147 (by decide) ?_
                        have ht := s1 hF
                        subst ht
                        exact join22 _ _ _ hP hD hS (lv_sub hl [0, 1, 2, 3] rfl)
                      · rw [if_pos c19] at hF
                        refine lv_aload_n hx hb dX7_station_140 rfl (lv_at hl 0 rfl) ?_
                        obtain ⟨q9, h9⟩ := wc_at (cy := cy) (ad := ad) (ks := ks) (g := g) (u := u0) (κ := (.st 0 n4)) hk.1 ⟨(Or.inl (by decide)), (ix_lt e5)⟩
                        refine va_get (D := (dC, dI)) (ci := 6) (v := .int (u0 (10 + 0) (17 + 16 * n4 + 8))) (C := RX6) (T := TX6) (N := 15) hx hb hts inlX6 hown hK hP q9 h9 rfl 10 (by decide) (hts _ mw_626) (fun _ h9 => h9) rfl dX7_station_141 ?_
                        clear h9
                        refine lv_goto (tgt := 148) hx hb dX7_station_144 (by decide) ?_
                        have ht := s1 hF
                        subst ht
                        exact join22 _ _ _ hP hD hS (lv_sub hl [0, 1, 2, 3] rfl)
                    · rw [if_neg c18] at hF
                      by_cases c23 : a2 = 9
                      · rw [if_pos c23] at hF
                        refine my_topi (y := 9) c23 ?_
                        refine lv_tableIn (off := 133) (tgt := 149) hx hb dX7_station_16 (by decide) (by decide) (by decide) (by decide) ?_
                        refine lv_aload_n hx hb dX7_station_149 rfl (lv_at hl 0 rfl) ?_
                        obtain ⟨q9, h9⟩ := wc_at (cy := cy) (ad := ad) (ks := ks) (g := g) (u := u0) (κ := (.st 0 n4)) hk.1 ⟨(Or.inl (by decide)), (ix_lt e5)⟩
                        refine va_get (D := (dC, dI)) (ci := 6) (v := .int (u0 (10 + 0) (17 + 16 * n4 + 9))) (C := RX6) (T := TX6) (N := 15) hx hb hts inlX6 hown hK hP q9 h9 rfl 11 (by decide) (hts _ mw_627) (fun _ h9 => h9) rfl dX7_station_150 ?_
                        clear h9
                        have hZ := s3 hF
                        have zro : (u0 (10 + 0) (17 + 16 * n4 + 9)) = ro := hZ
                        have hP9 : va_P (dC, dI) vwCl (WC cy ad ks g u0) H := by exact hP
                        have hD9 : va_D A (WC cy ad ks g u0) := by exact hD
                        rw [hQ]
                        exact W.iret (v := (u0 (10 + 0) (17 + 16 * n4 + 9))) hx hb hr (fun t ht hW => ⟨⟨(u0 (10 + 0) (17 + 16 * n4 + 9)), (), rfl, zro, by rw [ht]; exact hP9, hD9⟩, hS.F ht⟩) hS.2.2 dX7_station_153
                      · rw [if_neg c23] at hF
                        by_cases c24 : a2 = 10
                        · rw [if_pos c24] at hF
                          refine my_topi (y := 10) c24 ?_
                          refine lv_tableIn (off := 138) (tgt := 154) hx hb dX7_station_16 (by decide) (by decide) (by decide) (by decide) ?_
                          refine lv_aload_n hx hb dX7_station_154 rfl (lv_at hl 0 rfl) ?_
                          obtain ⟨q9, h9⟩ := wc_at (cy := cy) (ad := ad) (ks := ks) (g := g) (u := u0) (κ := (.st 0 n4)) hk.1 ⟨(Or.inl (by decide)), (ix_lt e5)⟩
                          refine va_get (D := (dC, dI)) (ci := 6) (v := .int (u0 (10 + 0) (17 + 16 * n4 + 10))) (C := RX6) (T := TX6) (N := 15) hx hb hts inlX6 hown hK hP q9 h9 rfl 12 (by decide) (hts _ mw_628) (fun _ h9 => h9) rfl dX7_station_155 ?_
                          clear h9
                          have hZ := s3 hF
                          have zro : (u0 (10 + 0) (17 + 16 * n4 + 10)) = ro := hZ
                          have hP9 : va_P (dC, dI) vwCl (WC cy ad ks g u0) H := by exact hP
                          have hD9 : va_D A (WC cy ad ks g u0) := by exact hD
                          rw [hQ]
                          exact W.iret (v := (u0 (10 + 0) (17 + 16 * n4 + 10))) hx hb hr (fun t ht hW => ⟨⟨(u0 (10 + 0) (17 + 16 * n4 + 10)), (), rfl, zro, by rw [ht]; exact hP9, hD9⟩, hS.F ht⟩) hS.2.2 dX7_station_158
                        · rw [if_neg c24] at hF
                          by_cases c25 : a2 = 11
                          · rw [if_pos c25] at hF
                            refine my_topi (y := 11) c25 ?_
                            refine lv_tableIn (off := 143) (tgt := 159) hx hb dX7_station_16 (by decide) (by decide) (by decide) (by decide) ?_
                            refine lv_aload_n hx hb dX7_station_159 rfl (lv_at hl 0 rfl) ?_
                            obtain ⟨q9, h9⟩ := wc_at (cy := cy) (ad := ad) (ks := ks) (g := g) (u := u0) (κ := (.st 0 n4)) hk.1 ⟨(Or.inl (by decide)), (ix_lt e5)⟩
                            refine va_get (D := (dC, dI)) (ci := 6) (v := .int (u0 (10 + 0) (17 + 16 * n4 + 11))) (C := RX6) (T := TX6) (N := 15) hx hb hts inlX6 hown hK hP q9 h9 rfl 13 (by decide) (hts _ mw_629) (fun _ h9 => h9) rfl dX7_station_160 ?_
                            clear h9
                            have hZ := s3 hF
                            have zro : (u0 (10 + 0) (17 + 16 * n4 + 11)) = ro := hZ
                            have hP9 : va_P (dC, dI) vwCl (WC cy ad ks g u0) H := by exact hP
                            have hD9 : va_D A (WC cy ad ks g u0) := by exact hD
                            rw [hQ]
                            exact W.iret (v := (u0 (10 + 0) (17 + 16 * n4 + 11))) hx hb hr (fun t ht hW => ⟨⟨(u0 (10 + 0) (17 + 16 * n4 + 11)), (), rfl, zro, by rw [ht]; exact hP9, hD9⟩, hS.F ht⟩) hS.2.2 dX7_station_163
                          · rw [if_neg c25] at hF
                            by_cases c26 : a2 = 12
                            · rw [if_pos c26] at hF
                              refine my_topi (y := 12) c26 ?_
                              refine lv_tableIn (off := 148) (tgt := 164) hx hb dX7_station_16 (by decide) (by decide) (by decide) (by decide) ?_
                              refine lv_aload_n hx hb dX7_station_164 rfl (lv_at hl 0 rfl) ?_
                              obtain ⟨q9, h9⟩ := wc_at (cy := cy) (ad := ad) (ks := ks) (g := g) (u := u0) (κ := (.st 0 n4)) hk.1 ⟨(Or.inl (by decide)), (ix_lt e5)⟩
                              refine va_get (D := (dC, dI)) (ci := 6) (v := .int (u0 (10 + 0) (17 + 16 * n4 + 12))) (C := RX6) (T := TX6) (N := 15) hx hb hts inlX6 hown hK hP q9 h9 rfl 14 (by decide) (hts _ mw_630) (fun _ h9 => h9) rfl dX7_station_165 ?_
                              clear h9
                              have hZ := s3 hF
                              have zro : (u0 (10 + 0) (17 + 16 * n4 + 12)) = ro := hZ
                              have hP9 : va_P (dC, dI) vwCl (WC cy ad ks g u0) H := by exact hP
                              have hD9 : va_D A (WC cy ad ks g u0) := by exact hD
                              rw [hQ]
                              exact W.iret (v := (u0 (10 + 0) (17 + 16 * n4 + 12))) hx hb hr (fun t ht hW => ⟨⟨(u0 (10 + 0) (17 + 16 * n4 + 12)), (), rfl, zro, by rw [ht]; exact hP9, hD9⟩, hS.F ht⟩) hS.2.2 dX7_station_168
                            · rw [if_neg c26] at hF
                              refine lv_tableOut (tgt := 169) hx hb dX7_station_16 (sw_out (lo := 0) (hi := 12) (fun k h1 h2 => by rcases (show k = 0 ∨ k = 1 ∨ k = 2 ∨ k = 3 ∨ k = 4 ∨ k = 5 ∨ k = 6 ∨ k = 7 ∨ k = 8 ∨ k = 9 ∨ k = 10 ∨ k = 11 ∨ k = 12 by omega) with rfl | rfl | rfl | rfl | rfl | rfl | rfl | rfl | rfl | rfl | rfl | rfl | rfl <;> intro q <;> first | exact c6 (q.trans (by decide)) | exact c7 (q.trans (by decide)) | exact c8 (q.trans (by decide)) | exact c9 (q.trans (by decide)) | exact c10 (q.trans (by decide)) | exact c11 (q.trans (by decide)) | exact c12 (q.trans (by decide)) | exact c13 (q.trans (by decide)) | exact c18 (q.trans (by decide)) | exact c23 (q.trans (by decide)) | exact c24 (q.trans (by decide)) | exact c25 (q.trans (by decide)) | exact c26 (q.trans (by decide)))) (by decide) ?_
                              cases hF
noncomputable def C7_steps (g : CG) (u0 : RS) (a1 : Int32) (a2 : Int32) : Option (Sum Int32 (Int32)) := (C7_needCard g u0 (a1)).bind fun t1 => tr t1 fun t3 => (C7_needRange (a2) (0) (25)).bind fun t4 => tr t4 fun t6 => (ix 30 a1).bind fun n7 => (C7_stepsOf g u0 (u0 (10 + 0) (137 + 25 * n7 + 2)) (a2)).bind fun x9 => some (.inr x9)
set_option maxHeartbeats 4000000 in
set_option maxRecDepth 100000 in
theorem c_X7_steps (l : Launch) (dC : Nat → ClassId) (dI : Nat → Nat → Nat) (cy : Nat → ClassId) (nb : Nat → Nat) (ad : CK → Nat) (ks : List CK) (g : CG) (hk : GA nb ad g ks) (u0 : RS) (a1 : Int32) (a2 : Int32) (ro : Int32) (sz : Nat) (hF : C7_steps g u0 a1 a2 = some (.inr ro)) : Met l yX7_steps (wsg yX7_steps cX7_steps 3 (some .int)) ({ frames := 8, cells := 0, slots := 0, locals := 300 }) (va_Pc [.ref (ad .cl), .int a1, .int a2] (fun U => U.heap.size = sz ∧ va_P (dC, dI) vwCl (WC cy ad ks g u0) U.heap ∧ va_K (dC, dI) vwCl (tyL cy) U ∧ va_D (fun _ => True) (WC cy ad ks g u0) ∧ GE nb (va_A (WC cy ad ks g u0) sz) U)) (va_Qi (fun (r : Int32) (_ : Unit) => r = ro) (fun _ t => va_P (dC, dI) vwCl (WC cy ad ks g u0) t.heap ∧ va_D (va_A (WC cy ad ks g u0) sz) (WC cy ad ks g u0)) (va_A (WC cy ad ks g u0) sz)) 0 0 (va_A (WC cy ad ks g u0) sz) := by
  refine Met.ofW (cc := cX7_steps) (maxL := 3) (ret := (some .int)) pn_X7 rfl ?_
  intro p e s m args below meth c s₁ B hml hv
  obtain ⟨rfl, hsz, hP, hK, hD0, hE⟩ := hv
  have hx := B.exec
  have hb := B.bytes
  have hr := B.returns
  have hts0 := atoms_spec (ws := (wsg yX7_steps cX7_steps 3 (some .int))) B.pre
  have hts : ∀ w ∈ wsL_law, w.before _ s = true := fun w h => hts0 w (List.mem_cons_of_mem _ h)
  have hown : s.vm.findClass RX7 = some m.cls := by have h9 := findClass_of_methodNamed B.named; exact h9
  have hlocks := B.notSynchronized
  subst hsz
  have hD := hD0.self (sz := s.heap.size)
  generalize hAe : va_A (WC cy ad ks g u0) s.heap.size = A at hD hE ⊢
  have hA : ∀ q : Nat, s.heap.size ≤ q → A q := fun q h => by rw [← hAe]; exact Or.inr h
  have hS : va_S A s.heap s.heap [] := va_S.rf
  have hl := lv_entry ([.ref (ad .cl), .int a1, .int a2]) (n := 3) (Nat.le_of_ble_eq_true rfl)
  rw [lg_entry_eq]
  generalize (lg_sl ([.ref (ad .cl), .int a1, .int a2]) ++ List.replicate (3 - (lg_sl ([.ref (ad .cl), .int a1, .int a2])).length) Slot.unset).toArray = ls at hl ⊢
  have hl : lv_has ls 3 [(0, .ref (ad .cl)), (1, .int a1), (2, .int a2)] := hl
  generalize hHe : s.heap = H at hP hS ⊢
  have hS : va_S A s.heap H [] := by rw [hHe]; exact hS
  refine my_Q (fun Qn hQ => ?_)
  simp only [C7_steps] at hF
  refine lv_aload_n hx hb dX7_steps_0 rfl (lv_at hl 0 rfl) ?_
  refine lv_iload_n hx hb dX7_steps_1 rfl (lv_at hl 1 rfl) ?_
  obtain ⟨t1, e2, hF⟩ := ob hF
  rcases t1 with xz9 | t3
  · have hF : some (Sum.inl xz9) = some (.inr ro) := hF
    cases hF
  · dsimp only [tr] at hF
    have hPc := hP
    have hDc := hD
    have hFc := my_free hD hS hA
    obtain ⟨q8, h8⟩ := wc_at (cy := cy) (ad := ad) (ks := ks) (g := g) (u := u0) (κ := .cl) hk.1 True.intro
    refine va_callv (va_runV (As := [.int a1]) (rest := []) ⟨hx, hb, hml, hown, hts⟩ (c_X7_needCard l dC dI cy nb ad ks g hk u0 (a1) H.size e2) (cwV 1 hts (gV mw_666 mw_667 mw_668 mw_2 mw_669) rfl rfl rfl (by decide +kernel) ⟨Nat.le_of_ble_eq_true rfl, Nat.le_of_ble_eq_true rfl⟩) (my_preV hPc hK hDc hE hS hFc (va_recv (q := (RX7, TX7, 12)) hK hP (ci := 7) (q0 := q8) rfl h8)) rfl rfl hl.1 rfl (lv_room (Nat.le_of_ble_eq_true rfl)) dX7_steps_2 ⟨Nat.le_of_ble_eq_true rfl, Nat.le_of_ble_eq_true rfl⟩) hS (fun q _ h => hFc q h) hFc (fun u t H1 locs ht hvm hw hB hz1 hk1 hS => ?_)
    clear h8
    obtain ⟨hP1, hD1⟩ := hB
    rw [ht] at hP1
    have hP := hP1
    have hD := hD1.weaken (fun k q _ h => hFc q.1 h)
    generalize H1 = H at hP hS ⊢
    clear hP1 hD1 hPc hDc hFc hk1 hz1 hvm ht
    refine lv_iload_n hx hb dX7_steps_5 rfl (lv_at hl 2 rfl) ?_
    refine lv_iconst (v := 0) hx hb dX7_steps_6 (by decide) ?_
    refine lv_bipush (v := 25) hx hb dX7_steps_7 (by decide) ?_
    obtain ⟨t4, e5, hF⟩ := ob hF
    rcases t4 with xz9 | t6
    · have hF : some (Sum.inl xz9) = some (.inr ro) := hF
      cases hF
    · dsimp only [tr] at hF
      have hPc : va_P (dC, dI) vwCl ([] : va_W) H := fun k q h => by simp at h
      have hDc : va_D A ([] : va_W) := ⟨fun i j p q h => by simp at h, fun k q h => by simp at h⟩
      have hFc := my_free0 hS hA
      refine va_callv (va_runS (As := [.int a2, .int 0, .int 25]) (rest := []) ⟨hx, hb, hml, hown, hts⟩ (c_X7_needRange l dC dI cy nb (a2) (0) (25) H.size e5) (va_cwS 3 hts (gS mw_815 mw_816 mw_2 mw_817) rfl rfl rfl (by decide +kernel) ⟨Nat.le_of_ble_eq_true rfl, Nat.le_of_ble_eq_true rfl⟩) (my_preS hPc hK hDc hE hS hFc) rfl rfl hl.1 rfl (lv_room (Nat.le_of_ble_eq_true rfl)) dX7_steps_9 ⟨Nat.le_of_ble_eq_true rfl, Nat.le_of_ble_eq_true rfl⟩) hS (fun q _ h => hFc q h) hFc (fun u t H1 locs ht hvm hw hB hz1 hk1 hS => ?_)
      obtain ⟨hP1, hD1⟩ := hB
      rw [ht] at hP1
      have hP := my_keep hP hk1
      generalize H1 = H at hP hS ⊢
      clear hP1 hD1 hPc hDc hFc hk1 hz1 hvm ht
      refine lv_aload_n hx hb dX7_steps_12 rfl (lv_at hl 0 rfl) ?_
      obtain ⟨q9, h9⟩ := wc_at (cy := cy) (ad := ad) (ks := ks) (g := g) (u := u0) (κ := .cl) hk.1 True.intro
      refine va_get (D := (dC, dI)) (ci := 7) (v := .ref (ad (.ln 0))) (C := RX7) (T := TX7) (N := 12) hx hb hts inlX7 hown hK hP q9 h9 rfl 0 (by decide) (hts _ mw_18) (fun _ h9 => h9) rfl dX7_steps_13 ?_
      clear h9
      obtain ⟨q9, h9⟩ := wc_at (cy := cy) (ad := ad) (ks := ks) (g := g) (u := u0) (κ := (.ln 0)) hk.1 (Or.inl (by decide))
      refine va_get (D := (dC, dI)) (ci := 3) (v := .ref (ad (.cs 0))) (C := RX3) (T := TX3) (N := 17) hx hb hts inlX3 hown hK hP q9 h9 rfl 12 (by decide) (hts _ mw_657) (fun _ h9 => h9) rfl dX7_steps_16 ?_
      clear h9
      refine lv_iload_n hx hb dX7_steps_19 rfl (lv_at hl 1 rfl) ?_
      obtain ⟨n7, e8, hF⟩ := ob hF
      obtain ⟨q9, h9⟩ := wc_at (cy := cy) (ad := ad) (ks := ks) (g := g) (u := u0) (κ := (.cs 0)) hk.1 (Or.inl (by decide))
      refine va_aldq hx hb hK hP q9 8 h9 rfl (ix_in e8) dX7_steps_20 ?_
      refine my_top (y := .ref (ad (.cd 0 n7))) (ixv (F := fun j => ad (.cd 0 j)) e8) ?_
      clear h9
      obtain ⟨q9, h9⟩ := wc_at (cy := cy) (ad := ad) (ks := ks) (g := g) (u := u0) (κ := (.cd 0 n7)) hk.1 ⟨(Or.inl (by decide)), (ix_lt e8)⟩
      refine va_get (D := (dC, dI)) (ci := 2) (v := .ref (ad (.tx (u0 (10 + 0) (137 + 25 * n7 + 2)).toNatClampNeg))) (C := RX1) (T := TX1) (N := 9) hx hb hts inlX1 hown hK hP q9 h9 rfl 2 (by decide) (hts _ mw_660) (fun _ h9 => h9) rfl dX7_steps_21 ?_
      clear h9
      refine lv_iload_n hx hb dX7_steps_24 rfl (lv_at hl 2 rfl) ?_
      obtain ⟨x9, e10, hF⟩ := ob hF
      have hPc := hP
      have hDc := hD
      have hFc := my_free hD hS hA
      refine va_calli (va_runS (As := [.ref (ad (.tx (u0 (10 + 0) (137 + 25 * n7 + 2)).toNatClampNeg)), .int a2]) (rest := []) ⟨hx, hb, hml, hown, hts⟩ (c_X7_stepsOf l dC dI cy nb ad ks g hk u0 (u0 (10 + 0) (137 + 25 * n7 + 2)) (a2) (x9) H.size e10) (va_cwS 2 hts (gS mw_818 mw_819 mw_2 mw_820) rfl rfl rfl (by decide +kernel) ⟨Nat.le_of_ble_eq_true rfl, Nat.le_of_ble_eq_true rfl⟩) (my_preS hPc hK hDc hE hS hFc) rfl rfl hl.1 rfl (lv_room (Nat.le_of_ble_eq_true rfl)) dX7_steps_25 ⟨Nat.le_of_ble_eq_true rfl, Nat.le_of_ble_eq_true rfl⟩) hS (fun q _ h => hFc q h) hFc (fun r u t H1 locs ht hvm hw hB hz1 hk1 hS => ?_)
      obtain ⟨hP1, hD1⟩ := hB
      rw [ht] at hP1
      have hP := hP1
      have hD := hD1.weaken (fun k q _ h => hFc q.1 h)
      generalize H1 = H at hP hS ⊢
      clear hP1 hD1 hPc hDc hFc hk1 hz1 hvm ht
      obtain rfl := hw.symm
      have hZ := s3 hF
      have zro : x9 = ro := hZ
      have hP9 : va_P (dC, dI) vwCl (WC cy ad ks g u0) H := by exact hP
      have hD9 : va_D A (WC cy ad ks g u0) := by exact hD
      rw [hQ]
      exact W.iret (v := x9) hx hb hr (fun t ht hW => ⟨⟨x9, (), rfl, zro, by rw [ht]; exact hP9, hD9⟩, hS.F ht⟩) hS.2.2 dX7_steps_28
noncomputable def C7_stop_L27 (a1 : Int32) (a2 : Int32) (t4 : CG × RS) (u14 : RS) : Nat → Int32 → Int32 → Option (Int32 × Int32)
  | 0, _, _ => none
  | m23 + 1, y16, y17 => if (u14 (10 + 0) 7) ≤ y16 then (some ((y16, y17))) else ((ix 6 y16).bind fun n25 => (if (u14 (10 + 0) (17 + 16 * n25 + 7)) = 0 then (some y17) else (some (y17 + 1)) : Option (Int32)).bind fun t28 => C7_stop_L27 a1 a2 t4 u14 m23 ((y16 + 1)) (t28))
noncomputable def C7_stop (g : CG) (u0 : RS) (a1 : Int32) (a2 : Int32) : Option (Sum Int32 (Int32 × CG × RS)) := (C7_needStation g u0 (a1)).bind fun t1 => tr t1 fun t3 => (C7_remember g u0).bind fun t4 => (ix 6 a1).bind fun n10 => (nz a2).bind fun x12 => (pt (t4.2) (10 + 0) (17 + 16 * n10 + 7) x12).bind fun u14 => (C7_stop_L27 a1 a2 t4 u14 FUEL (0 : Int32) (0 : Int32)).bind fun t18 => some (.inr ((t18.2), (t4.1), u14))
set_option maxHeartbeats 4000000 in
set_option maxRecDepth 100000 in
theorem c_X7_stop (l : Launch) (dC : Nat → ClassId) (dI : Nat → Nat → Nat) (cy : Nat → ClassId) (nb : Nat → Nat) (ad : CK → Nat) (ks : List CK) (g : CG) (hk : GA nb ad g ks) (u0 : RS) (a1 : Int32) (a2 : Int32) (ro : Int32) (gz : CG) (uz : RS) (sz : Nat) (hF : C7_stop g u0 a1 a2 = some (.inr (ro, gz, uz))) : Met l yX7_stop (wsg yX7_stop cX7_stop 5 (some .int)) ({ frames := 11, cells := 67, slots := 831, locals := 600 }) (va_Pc [.ref (ad .cl), .int a1, .int a2] (fun U => U.heap.size = sz ∧ va_P (dC, dI) vwCl (WC cy ad ks g u0) U.heap ∧ va_K (dC, dI) vwCl (tyL cy) U ∧ va_D (fun _ => True) (WC cy ad ks g u0) ∧ GE nb (va_A (WC cy ad ks g u0) sz) U)) (va_Qi (fun (r : Int32) (_ : Unit) => r = ro) (fun _ t => ∃ (ad' : CK → Nat) (ks' : List CK), GA nb ad' gz ks' ∧ AX g ad gz ad' ∧ va_P (dC, dI) vwCl (WC cy ad' ks' gz uz) t.heap ∧ va_D (va_A (WC cy ad ks g u0) sz) (WC cy ad' ks' gz uz)) (va_A (WC cy ad ks g u0) sz)) 67 831 (va_A (WC cy ad ks g u0) sz) := by
  refine Met.ofW (cc := cX7_stop) (maxL := 5) (ret := (some .int)) pn_X7 rfl ?_
  intro p e s m args below meth c s₁ B hml hv
  obtain ⟨rfl, hsz, hP, hK, hD0, hE⟩ := hv
  have hx := B.exec
  have hb := B.bytes
  have hr := B.returns
  have hts0 := atoms_spec (ws := (wsg yX7_stop cX7_stop 5 (some .int))) B.pre
  have hts : ∀ w ∈ wsL_law, w.before _ s = true := fun w h => hts0 w (List.mem_cons_of_mem _ h)
  have hown : s.vm.findClass RX7 = some m.cls := by have h9 := findClass_of_methodNamed B.named; exact h9
  have hlocks := B.notSynchronized
  subst hsz
  have hD := hD0.self (sz := s.heap.size)
  generalize hAe : va_A (WC cy ad ks g u0) s.heap.size = A at hD hE ⊢
  have hA : ∀ q : Nat, s.heap.size ≤ q → A q := fun q h => by rw [← hAe]; exact Or.inr h
  have hS : va_S A s.heap s.heap [] := va_S.rf
  have hl := lv_entry ([.ref (ad .cl), .int a1, .int a2]) (n := 5) (Nat.le_of_ble_eq_true rfl)
  rw [lg_entry_eq]
  generalize (lg_sl ([.ref (ad .cl), .int a1, .int a2]) ++ List.replicate (5 - (lg_sl ([.ref (ad .cl), .int a1, .int a2])).length) Slot.unset).toArray = ls at hl ⊢
  have hl : lv_has ls 5 [(0, .ref (ad .cl)), (1, .int a1), (2, .int a2)] := hl
  generalize hHe : s.heap = H at hP hS ⊢
  have hS : va_S A s.heap H [] := by rw [hHe]; exact hS
  refine my_Q (fun Qn hQ => ?_)
  simp only [C7_stop] at hF
  refine lv_aload_n hx hb dX7_stop_0 rfl (lv_at hl 0 rfl) ?_
  refine lv_iload_n hx hb dX7_stop_1 rfl (lv_at hl 1 rfl) ?_
  obtain ⟨t1, e2, hF⟩ := ob hF
  rcases t1 with xz9 | t3
  · have hF : some (Sum.inl xz9) = some (.inr (ro, gz, uz)) := hF
    cases hF
  · dsimp only [tr] at hF
    have hPc := hP
    have hDc := hD
    have hFc := my_free hD hS hA
    obtain ⟨q8, h8⟩ := wc_at (cy := cy) (ad := ad) (ks := ks) (g := g) (u := u0) (κ := .cl) hk.1 True.intro
    refine va_callv (va_runV (As := [.int a1]) (rest := []) ⟨hx, hb, hml, hown, hts⟩ (c_X7_needStation l dC dI cy nb ad ks g hk u0 (a1) H.size e2) (cwV 1 hts (gV mw_631 mw_632 mw_633 mw_2 mw_634) rfl rfl rfl (by decide +kernel) ⟨Nat.le_of_ble_eq_true rfl, Nat.le_of_ble_eq_true rfl⟩) (my_preV hPc hK hDc hE hS hFc (va_recv (q := (RX7, TX7, 12)) hK hP (ci := 7) (q0 := q8) rfl h8)) rfl rfl hl.1 rfl (lv_room (Nat.le_of_ble_eq_true rfl)) dX7_stop_2 ⟨Nat.le_of_ble_eq_true rfl, Nat.le_of_ble_eq_true rfl⟩) hS (fun q _ h => hFc q h) hFc (fun u t H1 locs ht hvm hw hB hz1 hk1 hS => ?_)
    clear h8
    obtain ⟨hP1, hD1⟩ := hB
    rw [ht] at hP1
    have hP := hP1
    have hD := hD1.weaken (fun k q _ h => hFc q.1 h)
    generalize H1 = H at hP hS ⊢
    clear hP1 hD1 hPc hDc hFc hk1 hz1 hvm ht
    refine lv_aload_n hx hb dX7_stop_5 rfl (lv_at hl 0 rfl) ?_
    obtain ⟨t4, e5, hF⟩ := ob hF
    have hPc := hP
    have hDc := hD
    have hFc := my_free hD hS hA
    obtain ⟨q8, h8⟩ := wc_at (cy := cy) (ad := ad) (ks := ks) (g := g) (u := u0) (κ := .cl) hk.1 True.intro
    refine va_callv (va_runV (As := []) (rest := []) ⟨hx, hb, hml, hown, hts⟩ (c_X7_remember l dC dI cy nb ad ks g hk u0 (t4.1) (t4.2) H.size e5) (cwV 0 hts (gV mw_973 mw_974 mw_975 mw_2 mw_976) rfl rfl rfl (by decide +kernel) ⟨Nat.le_of_ble_eq_true rfl, Nat.le_of_ble_eq_true rfl⟩) (my_preV hPc hK hDc hE hS hFc (va_recv (q := (RX7, TX7, 12)) hK hP (ci := 7) (q0 := q8) rfl h8)) rfl rfl hl.1 rfl (lv_room (Nat.le_of_ble_eq_true rfl)) dX7_stop_6 ⟨Nat.le_of_ble_eq_true rfl, Nat.le_of_ble_eq_true rfl⟩) hS (fun q _ h => hFc q h) hFc (fun u t H1 locs ht hvm hw hB hz1 hk1 hS => ?_)
    clear h8
    obtain ⟨ad6, ks7, hk8, ax9, hP1, hD1⟩ := hB
    rw [ht] at hP1
    have hP := hP1
    have hD := hD1.weaken (fun k q _ h => hFc q.1 h)
    generalize H1 = H at hP hS ⊢
    have hl : lv_has ls 5 [(0, .ref (ad6 .cl)), (1, .int a1), (2, .int a2)] := by rw [(ax9 .cl True.intro).2]; exact hl
    clear hP1 hD1 hPc hDc hFc hk1 hz1 hvm ht
    refine W.widen (k := 67) (n := 831) (by omega) (by omega) ?_
    refine lv_aload_n hx hb dX7_stop_9 rfl (lv_at hl 0 rfl) ?_
    obtain ⟨q9, h9⟩ := wc_at (cy := cy) (ad := ad6) (ks := ks7) (g := (t4.1)) (u := (t4.2)) (κ := .cl) hk8.1 True.intro
    refine va_get (D := (dC, dI)) (ci := 7) (v := .ref (ad6 (.ln 0))) (C := RX7) (T := TX7) (N := 12) hx hb hts inlX7 hown hK hP q9 h9 rfl 0 (by decide) (hts _ mw_18) (fun _ h9 => h9) rfl dX7_stop_10 ?_
    clear h9
    obtain ⟨q9, h9⟩ := wc_at (cy := cy) (ad := ad6) (ks := ks7) (g := (t4.1)) (u := (t4.2)) (κ := (.ln 0)) hk8.1 (Or.inl (by decide))
    refine va_get (D := (dC, dI)) (ci := 3) (v := .ref (ad6 (.ss 0))) (C := RX3) (T := TX3) (N := 17) hx hb hts inlX3 hown hK hP q9 h9 rfl 10 (by decide) (hts _ mw_617) (fun _ h9 => h9) rfl dX7_stop_13 ?_
    clear h9
    refine lv_iload_n hx hb dX7_stop_16 rfl (lv_at hl 1 rfl) ?_
    obtain ⟨n10, e11, hF⟩ := ob hF
    obtain ⟨q9, h9⟩ := wc_at (cy := cy) (ad := ad6) (ks := ks7) (g := (t4.1)) (u := (t4.2)) (κ := (.ss 0)) hk8.1 (Or.inl (by decide))
    refine va_aldq hx hb hK hP q9 6 h9 rfl (ix_in e11) dX7_stop_17 ?_
    refine my_top (y := .ref (ad6 (.st 0 n10))) (ixv (F := fun j => ad6 (.st 0 j)) e11) ?_
    clear h9
    refine lv_iload_n hx hb dX7_stop_18 rfl (lv_at hl 2 rfl) ?_
    obtain ⟨x12, e13, hF⟩ := ob hF
    refine my_topi (y := x12) (nz_e e13) ?_
    obtain ⟨q9, h9, ez9⟩ := wc_set (cy := cy) (ad := ad6) (ks := ks7) (g := (t4.1)) (u := (t4.2)) (κ := (.st 0 n10)) (r := (10 + 0)) (i := (17 + 16 * n10 + 7)) (v := x12) hk8.1 ⟨(Or.inl (by decide)), (ix_lt e11)⟩ (own_st (show 0 < 12 by decide) (ix_lt e11) (by decide)) (sf_st_9)
    refine va_put (D := (dC, dI)) (ci := 6) (v := .int x12) (ty := .boolean) (C := RX6) (T := TX6) (N := 15) hx hb hts inlX6 tyX6 tyX6_ok nmX6 hown hK hP hD hS q9 h9 rfl 9 (by decide) (hts _ mw_625) (fun _ h9 => h9) rfl (by decide +kernel) (nz_n e13) (nz_f e13) (Nat.le_of_ble_eq_true rfl) dX7_stop_19 (fun H locs hP hD hS => ?_)
    obtain ⟨u14, e15, hF⟩ := ob hF
    have hP : va_P (dC, dI) vwCl (WC cy ad6 ks7 (t4.1) u14) H := by rw [← pt_eq e15, ← ez9]; exact hP
    have hD : va_D A (WC cy ad6 ks7 (t4.1) u14) := by rw [← pt_eq e15, ← ez9]; exact hD
    clear ez9 h9
    refine lv_iconst (v := 0) hx hb dX7_stop_22 (by decide) ?_
    refine lv_istore_n (lv' := [(3, .int 0), (0, .ref (ad6 .cl)), (1, .int a1), (2, .int a2)]) hx hb dX7_stop_23 rfl hl (by decide) rfl (fun ls hl => ?_)
    refine lv_iconst (v := 0) hx hb dX7_stop_24 (by decide) ?_
    refine lv_istore (lv' := [(4, .int 0), (3, .int 0), (0, .ref (ad6 .cl)), (1, .int a1), (2, .int a2)]) hx hb dX7_stop_25 hl (by decide) rfl (fun ls hl => ?_)
    obtain ⟨t18, hL19, hF⟩ := ob hF
    have kx20 : ∀ (H : Heap) (locs : List Loc) (ls : Array Slot), va_P (dC, dI) vwCl (WC cy ad6 ks7 (t4.1) u14) H → va_D A (WC cy ad6 ks7 (t4.1) u14) → va_S A s.heap H locs → lv_has ls 5 [(4, .int (t18.1)), (3, .int (t18.2)), (0, .ref (ad6 .cl)), (1, .int a1), (2, .int a2)] → W p l e (headSpec (wsg yX7_stop cX7_stop 5 (some .int)) ({ frames := 11, cells := 67, slots := 831, locals := 600 })).room s m ([.ref (ad .cl), .int a1, .int a2] : List Value).toArray below meth c H locs 67 831 Qn (F0 m 64 ls []) := by
      intro H locs ls hP hD hS hl
      refine lv_iload_n hx hb dX7_stop_64 rfl (lv_at hl 1 rfl) ?_
      have hZ := s3 hF
      have zro : (t18.2) = ro := (congrArg (fun q => q.1) hZ)
      have zgz : (t4.1) = gz := (congrArg (fun q => q.2.1) hZ)
      have zuz : u14 = uz := (congrArg (fun q => q.2.2) hZ)
      have hP9 : va_P (dC, dI) vwCl (WC cy ad6 ks7 gz uz) H := by rw [← zuz, ← zgz]; exact hP
      have hD9 : va_D A (WC cy ad6 ks7 gz uz) := by rw [← zuz, ← zgz]; exact hD
      have hk9 : GA nb ad6 gz ks7 := by rw [← zgz]; exact hk8
      have ax9 : AX g ad gz ad6 := by rw [← zgz]; exact ax9
      refine W.widen (k := 67) (n := 831) (by omega) (by omega) ?_
      rw [hQ]
      exact W.iret (v := (t18.2)) hx hb hr (fun t ht hW => ⟨⟨(t18.2), (), rfl, zro, ad6, ks7, hk9, ax9, by rw [ht]; exact hP9, hD9⟩, hS.F ht⟩) hS.2.2 dX7_stop_65
    clear hF
    have loop22 : ∀ (m23 : Nat) (y16 : Int32) (y17 : Int32), C7_stop_L27 a1 a2 t4 u14 m23 y16 y17 = some t18 → ∀ (H : Heap) (locs : List Loc) (ls : Array Slot), va_P (dC, dI) vwCl (WC cy ad6 ks7 (t4.1) u14) H → va_D A (WC cy ad6 ks7 (t4.1) u14) → va_S A s.heap H locs → lv_has ls 5 [(4, .int y16), (3, .int y17), (0, .ref (ad6 .cl)), (1, .int a1), (2, .int a2)] → W p l e (headSpec (wsg yX7_stop cX7_stop 5 (some .int)) ({ frames := 11, cells := 67, slots := 831, locals := 600 })).room s m ([.ref (ad .cl), .int a1, .int a2] : List Value).toArray below meth c H locs 67 831 Qn (F0 m 27 ls []) := by
      intro m23
      induction m23 with
      | zero => intro y16 y17 hF; cases hF
      | succ m23 ih =>
        intro y16 y17 hF H locs ls hP hD hS hl
        simp only [C7_stop_L27] at hF
        refine lv_iload hx hb dX7_stop_27 (lv_at hl 0 rfl) ?_
        refine lv_aload_n hx hb dX7_stop_29 rfl (lv_at hl 2 rfl) ?_
        obtain ⟨q9, h9⟩ := wc_at (cy := cy) (ad := ad6) (ks := ks7) (g := (t4.1)) (u := u14) (κ := .cl) hk8.1 True.intro
        refine va_get (D := (dC, dI)) (ci := 7) (v := .ref (ad6 (.ln 0))) (C := RX7) (T := TX7) (N := 12) hx hb hts inlX7 hown hK hP q9 h9 rfl 0 (by decide) (hts _ mw_18) (fun _ h9 => h9) rfl dX7_stop_30 ?_
        clear h9
        obtain ⟨q9, h9⟩ := wc_at (cy := cy) (ad := ad6) (ks := ks7) (g := (t4.1)) (u := u14) (κ := (.ln 0)) hk8.1 (Or.inl (by decide))
        refine va_get (D := (dC, dI)) (ci := 3) (v := .int (u14 (10 + 0) 7)) (C := RX3) (T := TX3) (N := 17) hx hb hts inlX3 hown hK hP q9 h9 rfl 7 (by decide) (hts _ mw_138) (fun _ h9 => h9) rfl dX7_stop_33 ?_
        clear h9
        refine lv_icmp_ge (tgt := 64) hx hb dX7_stop_36 (by decide) (fun c24 => ?_) (fun c24 => ?_)
        · rw [if_pos c24] at hF
          have ht := s1 hF
          subst ht
          exact kx20 _ _ _ hP hD hS (lv_sub hl [0, 1, 2, 3, 4] rfl)
        · rw [if_neg c24] at hF
          refine lv_aload_n hx hb dX7_stop_39 rfl (lv_at hl 2 rfl) ?_
          obtain ⟨q9, h9⟩ := wc_at (cy := cy) (ad := ad6) (ks := ks7) (g := (t4.1)) (u := u14) (κ := .cl) hk8.1 True.intro
          refine va_get (D := (dC, dI)) (ci := 7) (v := .ref (ad6 (.ln 0))) (C := RX7) (T := TX7) (N := 12) hx hb hts inlX7 hown hK hP q9 h9 rfl 0 (by decide) (hts _ mw_18) (fun _ h9 => h9) rfl dX7_stop_40 ?_
          clear h9
          obtain ⟨q9, h9⟩ := wc_at (cy := cy) (ad := ad6) (ks := ks7) (g := (t4.1)) (u := u14) (κ := (.ln 0)) hk8.1 (Or.inl (by decide))
          refine va_get (D := (dC, dI)) (ci := 3) (v := .ref (ad6 (.ss 0))) (C := RX3) (T := TX3) (N := 17) hx hb hts inlX3 hown hK hP q9 h9 rfl 10 (by decide) (hts _ mw_617) (fun _ h9 => h9) rfl dX7_stop_43 ?_
          clear h9
          refine lv_iload hx hb dX7_stop_46 (lv_at hl 0 rfl) ?_
          obtain ⟨n25, e26, hF⟩ := ob hF
          obtain ⟨q9, h9⟩ := wc_at (cy := cy) (ad := ad6) (ks := ks7) (g := (t4.1)) (u := u14) (κ := (.ss 0)) hk8.1 (Or.inl (by decide))
          refine va_aldq hx hb hK hP q9 6 h9 rfl (ix_in e26) dX7_stop_48 ?_
          refine my_top (y := .ref (ad6 (.st 0 n25))) (ixv (F := fun j => ad6 (.st 0 j)) e26) ?_
          clear h9
          obtain ⟨q9, h9⟩ := wc_at (cy := cy) (ad := ad6) (ks := ks7) (g := (t4.1)) (u := u14) (κ := (.st 0 n25)) hk8.1 ⟨(Or.inl (by decide)), (ix_lt e26)⟩
          refine va_get (D := (dC, dI)) (ci := 6) (v := .int (u14 (10 + 0) (17 + 16 * n25 + 7))) (C := RX6) (T := TX6) (N := 15) hx hb hts inlX6 hown hK hP q9 h9 rfl 9 (by decide) (hts _ mw_625) (fun _ h9 => h9) rfl dX7_stop_49 ?_
          clear h9
          obtain ⟨t28, hJ29, hF⟩ := ob hF
          have join30 : ∀ (H : Heap) (locs : List Loc) (ls : Array Slot), va_P (dC, dI) vwCl (WC cy ad6 ks7 (t4.1) u14) H → va_D A (WC cy ad6 ks7 (t4.1) u14) → va_S A s.heap H locs → lv_has ls 5 [(4, .int y16), (3, .int t28), (0, .ref (ad6 .cl)), (1, .int a1), (2, .int a2)] → W p l e (headSpec (wsg yX7_stop cX7_stop 5 (some .int)) ({ frames := 11, cells := 67, slots := 831, locals := 600 })).room s m ([.ref (ad .cl), .int a1, .int a2] : List Value).toArray below meth c H locs 67 831 Qn (F0 m 58 ls []) := by
            intro H locs ls hP hD hS hl
            refine lv_iinc (v := (y16 + 1)) (lv' := [(4, .int (y16 + 1)), (3, .int t28), (0, .ref (ad6 .cl)), (1, .int a1), (2, .int a2)]) hx hb dX7_stop_58 hl (k := 0) rfl (by rfl) (by decide) rfl (fun ls hl => ?_)
            refine lv_goto (tgt := 27) hx hb dX7_stop_61 (by decide) ?_
            exact ih _ _ hF _ _ _ hP hD hS (lv_sub hl [0, 1, 2, 3, 4] rfl)
          clear hF
          have hF := hJ29
          clear hJ29
          refine lv_if_eq (tgt := 58) hx hb dX7_stop_52 (by decide) (fun c27 => ?_) (fun c27 => ?_)
          · rw [if_pos c27] at hF
            have ht := s1 hF
            subst ht
            exact join30 _ _ _ hP hD hS (lv_sub hl [0, 1, 2, 3, 4] rfl)
          · rw [if_neg c27] at hF
            refine lv_iinc (v := (y17 + 1)) (lv' := [(3, .int (y17 + 1)), (4, .int y16), (0, .ref (ad6 .cl)), (1, .int a1), (2, .int a2)]) hx hb dX7_stop_55 hl (k := 1) rfl (by rfl) (by decide) rfl (fun ls hl => ?_)
            have ht := s1 hF
            subst ht
            exact join30 _ _ _ hP hD hS (lv_sub hl [1, 0, 2, 3, 4] rfl)
    exact loop22 FUEL _ _ hL19 _ _ _ hP hD hS (lv_sub hl [0, 1, 2, 3, 4] rfl)
noncomputable def C7_swap (g : CG) (u0 : RS) (a1 : Int32) (a2 : Int32) : Option (Sum Int32 (Int32 × CG × RS)) := (C7_needCard g u0 (a1)).bind fun t1 => tr t1 fun t3 => (C7_needCard g u0 (a2)).bind fun t4 => tr t4 fun t6 => if a1 = a2 then (some (.inl (2 : Int32))) else ((ix 30 a1).bind fun n8 => (ix 30 a2).bind fun n10 => if (u0 (10 + 0) (137 + 25 * n8 + 0)) = (u0 (10 + 0) (137 + 25 * n10 + 0)) then ((C7_waits g u0 (a1)).bind fun x13 => if x13 = 0 then (some (.inr ((-3 : Int32), g, u0))) else ((C7_waits g u0 (a2)).bind fun x16 => if x16 = 0 then (some (.inr ((-3 : Int32), g, u0))) else ((C7_remember g u0).bind fun t19 => (ix 30 a2).bind fun n25 => (ix 30 a1).bind fun n27 => (C3_putAt (t19.1) (t19.2) 0 (a2) (((t19.2) (10 + 0) (137 + 25 * n27 + 1)))).bind fun u29 => (C3_putAt (t19.1) u29 0 (a1) (((t19.2) (10 + 0) (137 + 25 * n25 + 1)))).bind fun u31 => some (.inr (((t19.2) (10 + 0) (137 + 25 * n25 + 1)), (t19.1), u31))))) else (some (.inl (2 : Int32))))
set_option maxHeartbeats 4000000 in
set_option maxRecDepth 100000 in
theorem c_X7_swap (l : Launch) (dC : Nat → ClassId) (dI : Nat → Nat → Nat) (cy : Nat → ClassId) (nb : Nat → Nat) (ad : CK → Nat) (ks : List CK) (g : CG) (hk : GA nb ad g ks) (u0 : RS) (a1 : Int32) (a2 : Int32) (ro : Int32) (gz : CG) (uz : RS) (sz : Nat) (hF : C7_swap g u0 a1 a2 = some (.inr (ro, gz, uz))) : Met l yX7_swap (wsg yX7_swap cX7_swap 4 (some .int)) ({ frames := 11, cells := 67, slots := 831, locals := 600 }) (va_Pc [.ref (ad .cl), .int a1, .int a2] (fun U => U.heap.size = sz ∧ va_P (dC, dI) vwCl (WC cy ad ks g u0) U.heap ∧ va_K (dC, dI) vwCl (tyL cy) U ∧ va_D (fun _ => True) (WC cy ad ks g u0) ∧ GE nb (va_A (WC cy ad ks g u0) sz) U)) (va_Qi (fun (r : Int32) (_ : Unit) => r = ro) (fun _ t => ∃ (ad' : CK → Nat) (ks' : List CK), GA nb ad' gz ks' ∧ AX g ad gz ad' ∧ va_P (dC, dI) vwCl (WC cy ad' ks' gz uz) t.heap ∧ va_D (va_A (WC cy ad ks g u0) sz) (WC cy ad' ks' gz uz)) (va_A (WC cy ad ks g u0) sz)) 67 831 (va_A (WC cy ad ks g u0) sz) := by
  refine Met.ofW (cc := cX7_swap) (maxL := 4) (ret := (some .int)) pn_X7 rfl ?_
  intro p e s m args below meth c s₁ B hml hv
  obtain ⟨rfl, hsz, hP, hK, hD0, hE⟩ := hv
  have hx := B.exec
  have hb := B.bytes
  have hr := B.returns
  have hts0 := atoms_spec (ws := (wsg yX7_swap cX7_swap 4 (some .int))) B.pre
  have hts : ∀ w ∈ wsL_law, w.before _ s = true := fun w h => hts0 w (List.mem_cons_of_mem _ h)
  have hown : s.vm.findClass RX7 = some m.cls := by have h9 := findClass_of_methodNamed B.named; exact h9
  have hlocks := B.notSynchronized
  subst hsz
  have hD := hD0.self (sz := s.heap.size)
  generalize hAe : va_A (WC cy ad ks g u0) s.heap.size = A at hD hE ⊢
  have hA : ∀ q : Nat, s.heap.size ≤ q → A q := fun q h => by rw [← hAe]; exact Or.inr h
  have hS : va_S A s.heap s.heap [] := va_S.rf
  have hl := lv_entry ([.ref (ad .cl), .int a1, .int a2]) (n := 4) (Nat.le_of_ble_eq_true rfl)
  rw [lg_entry_eq]
  generalize (lg_sl ([.ref (ad .cl), .int a1, .int a2]) ++ List.replicate (4 - (lg_sl ([.ref (ad .cl), .int a1, .int a2])).length) Slot.unset).toArray = ls at hl ⊢
  have hl : lv_has ls 4 [(0, .ref (ad .cl)), (1, .int a1), (2, .int a2)] := hl
  generalize hHe : s.heap = H at hP hS ⊢
  have hS : va_S A s.heap H [] := by rw [hHe]; exact hS
  refine my_Q (fun Qn hQ => ?_)
  simp only [C7_swap] at hF
  refine lv_aload_n hx hb dX7_swap_0 rfl (lv_at hl 0 rfl) ?_
  refine lv_iload_n hx hb dX7_swap_1 rfl (lv_at hl 1 rfl) ?_
  obtain ⟨t1, e2, hF⟩ := ob hF
  rcases t1 with xz9 | t3
  · have hF : some (Sum.inl xz9) = some (.inr (ro, gz, uz)) := hF
    cases hF
  · dsimp only [tr] at hF
    have hPc := hP
    have hDc := hD
    have hFc := my_free hD hS hA
    obtain ⟨q8, h8⟩ := wc_at (cy := cy) (ad := ad) (ks := ks) (g := g) (u := u0) (κ := .cl) hk.1 True.intro
    refine va_callv (va_runV (As := [.int a1]) (rest := []) ⟨hx, hb, hml, hown, hts⟩ (c_X7_needCard l dC dI cy nb ad ks g hk u0 (a1) H.size e2) (cwV 1 hts (gV mw_666 mw_667 mw_668 mw_2 mw_669) rfl rfl rfl (by decide +kernel) ⟨Nat.le_of_ble_eq_true rfl, Nat.le_of_ble_eq_true rfl⟩) (my_preV hPc hK hDc hE hS hFc (va_recv (q := (RX7, TX7, 12)) hK hP (ci := 7) (q0 := q8) rfl h8)) rfl rfl hl.1 rfl (lv_room (Nat.le_of_ble_eq_true rfl)) dX7_swap_2 ⟨Nat.le_of_ble_eq_true rfl, Nat.le_of_ble_eq_true rfl⟩) hS (fun q _ h => hFc q h) hFc (fun u t H1 locs ht hvm hw hB hz1 hk1 hS => ?_)
    clear h8
    obtain ⟨hP1, hD1⟩ := hB
    rw [ht] at hP1
    have hP := hP1
    have hD := hD1.weaken (fun k q _ h => hFc q.1 h)
    generalize H1 = H at hP hS ⊢
    clear hP1 hD1 hPc hDc hFc hk1 hz1 hvm ht
    refine lv_aload_n hx hb dX7_swap_5 rfl (lv_at hl 0 rfl) ?_
    refine lv_iload_n hx hb dX7_swap_6 rfl (lv_at hl 2 rfl) ?_
    obtain ⟨t4, e5, hF⟩ := ob hF
    rcases t4 with xz9 | t6
    · have hF : some (Sum.inl xz9) = some (.inr (ro, gz, uz)) := hF
      cases hF
    · dsimp only [tr] at hF
      have hPc := hP
      have hDc := hD
      have hFc := my_free hD hS hA
      obtain ⟨q8, h8⟩ := wc_at (cy := cy) (ad := ad) (ks := ks) (g := g) (u := u0) (κ := .cl) hk.1 True.intro
      refine va_callv (va_runV (As := [.int a2]) (rest := []) ⟨hx, hb, hml, hown, hts⟩ (c_X7_needCard l dC dI cy nb ad ks g hk u0 (a2) H.size e5) (cwV 1 hts (gV mw_666 mw_667 mw_668 mw_2 mw_669) rfl rfl rfl (by decide +kernel) ⟨Nat.le_of_ble_eq_true rfl, Nat.le_of_ble_eq_true rfl⟩) (my_preV hPc hK hDc hE hS hFc (va_recv (q := (RX7, TX7, 12)) hK hP (ci := 7) (q0 := q8) rfl h8)) rfl rfl hl.1 rfl (lv_room (Nat.le_of_ble_eq_true rfl)) dX7_swap_7 ⟨Nat.le_of_ble_eq_true rfl, Nat.le_of_ble_eq_true rfl⟩) hS (fun q _ h => hFc q h) hFc (fun u t H1 locs ht hvm hw hB hz1 hk1 hS => ?_)
      clear h8
      obtain ⟨hP1, hD1⟩ := hB
      rw [ht] at hP1
      have hP := hP1
      have hD := hD1.weaken (fun k q _ h => hFc q.1 h)
      generalize H1 = H at hP hS ⊢
      clear hP1 hD1 hPc hDc hFc hk1 hz1 hvm ht
      refine lv_iload_n hx hb dX7_swap_10 rfl (lv_at hl 1 rfl) ?_
      refine lv_iload_n hx hb dX7_swap_11 rfl (lv_at hl 2 rfl) ?_
      refine lv_icmp_eq (tgt := 42) hx hb dX7_swap_12 (by decide) (fun c7 => ?_) (fun c7 => ?_)
      · rw [if_pos c7] at hF
        cases hF
      · rw [if_neg c7] at hF
        refine lv_aload_n hx hb dX7_swap_15 rfl (lv_at hl 0 rfl) ?_
        obtain ⟨q9, h9⟩ := wc_at (cy := cy) (ad := ad) (ks := ks) (g := g) (u := u0) (κ := .cl) hk.1 True.intro
        refine va_get (D := (dC, dI)) (ci := 7) (v := .ref (ad (.ln 0))) (C := RX7) (T := TX7) (N := 12) hx hb hts inlX7 hown hK hP q9 h9 rfl 0 (by decide) (hts _ mw_18) (fun _ h9 => h9) rfl dX7_swap_16 ?_
        clear h9
        obtain ⟨q9, h9⟩ := wc_at (cy := cy) (ad := ad) (ks := ks) (g := g) (u := u0) (κ := (.ln 0)) hk.1 (Or.inl (by decide))
        refine va_get (D := (dC, dI)) (ci := 3) (v := .ref (ad (.cs 0))) (C := RX3) (T := TX3) (N := 17) hx hb hts inlX3 hown hK hP q9 h9 rfl 12 (by decide) (hts _ mw_657) (fun _ h9 => h9) rfl dX7_swap_19 ?_
        clear h9
        refine lv_iload_n hx hb dX7_swap_22 rfl (lv_at hl 1 rfl) ?_
        obtain ⟨n8, e9, hF⟩ := ob hF
        obtain ⟨q9, h9⟩ := wc_at (cy := cy) (ad := ad) (ks := ks) (g := g) (u := u0) (κ := (.cs 0)) hk.1 (Or.inl (by decide))
        refine va_aldq hx hb hK hP q9 8 h9 rfl (ix_in e9) dX7_swap_23 ?_
        refine my_top (y := .ref (ad (.cd 0 n8))) (ixv (F := fun j => ad (.cd 0 j)) e9) ?_
        clear h9
        obtain ⟨q9, h9⟩ := wc_at (cy := cy) (ad := ad) (ks := ks) (g := g) (u := u0) (κ := (.cd 0 n8)) hk.1 ⟨(Or.inl (by decide)), (ix_lt e9)⟩
        refine va_get (D := (dC, dI)) (ci := 2) (v := .int (u0 (10 + 0) (137 + 25 * n8 + 0))) (C := RX1) (T := TX1) (N := 9) hx hb hts inlX1 hown hK hP q9 h9 rfl 0 (by decide) (hts _ mw_658) (fun _ h9 => h9) rfl dX7_swap_24 ?_
        clear h9
        refine lv_aload_n hx hb dX7_swap_27 rfl (lv_at hl 0 rfl) ?_
        obtain ⟨q9, h9⟩ := wc_at (cy := cy) (ad := ad) (ks := ks) (g := g) (u := u0) (κ := .cl) hk.1 True.intro
        refine va_get (D := (dC, dI)) (ci := 7) (v := .ref (ad (.ln 0))) (C := RX7) (T := TX7) (N := 12) hx hb hts inlX7 hown hK hP q9 h9 rfl 0 (by decide) (hts _ mw_18) (fun _ h9 => h9) rfl dX7_swap_28 ?_
        clear h9
        obtain ⟨q9, h9⟩ := wc_at (cy := cy) (ad := ad) (ks := ks) (g := g) (u := u0) (κ := (.ln 0)) hk.1 (Or.inl (by decide))
        refine va_get (D := (dC, dI)) (ci := 3) (v := .ref (ad (.cs 0))) (C := RX3) (T := TX3) (N := 17) hx hb hts inlX3 hown hK hP q9 h9 rfl 12 (by decide) (hts _ mw_657) (fun _ h9 => h9) rfl dX7_swap_31 ?_
        clear h9
        refine lv_iload_n hx hb dX7_swap_34 rfl (lv_at hl 2 rfl) ?_
        obtain ⟨n10, e11, hF⟩ := ob hF
        obtain ⟨q9, h9⟩ := wc_at (cy := cy) (ad := ad) (ks := ks) (g := g) (u := u0) (κ := (.cs 0)) hk.1 (Or.inl (by decide))
        refine va_aldq hx hb hK hP q9 8 h9 rfl (ix_in e11) dX7_swap_35 ?_
        refine my_top (y := .ref (ad (.cd 0 n10))) (ixv (F := fun j => ad (.cd 0 j)) e11) ?_
        clear h9
        obtain ⟨q9, h9⟩ := wc_at (cy := cy) (ad := ad) (ks := ks) (g := g) (u := u0) (κ := (.cd 0 n10)) hk.1 ⟨(Or.inl (by decide)), (ix_lt e11)⟩
        refine va_get (D := (dC, dI)) (ci := 2) (v := .int (u0 (10 + 0) (137 + 25 * n10 + 0))) (C := RX1) (T := TX1) (N := 9) hx hb hts inlX1 hown hK hP q9 h9 rfl 0 (by decide) (hts _ mw_658) (fun _ h9 => h9) rfl dX7_swap_36 ?_
        clear h9
        refine lv_icmp_eq (tgt := 53) hx hb dX7_swap_39 (by decide) (fun c12 => ?_) (fun c12 => ?_)
        · rw [if_pos c12] at hF
          refine lv_aload_n hx hb dX7_swap_53 rfl (lv_at hl 0 rfl) ?_
          refine lv_iload_n hx hb dX7_swap_54 rfl (lv_at hl 1 rfl) ?_
          obtain ⟨x13, e14, hF⟩ := ob hF
          have hPc := hP
          have hDc := hD
          have hFc := my_free hD hS hA
          obtain ⟨q8, h8⟩ := wc_at (cy := cy) (ad := ad) (ks := ks) (g := g) (u := u0) (κ := .cl) hk.1 True.intro
          refine va_calli (va_runV (As := [.int a1]) (rest := []) ⟨hx, hb, hml, hown, hts⟩ (c_X7_waits l dC dI cy nb ad ks g hk u0 (a1) (x13) H.size e14) (cwV 1 hts (gV mw_994 mw_995 mw_996 mw_2 mw_997) rfl rfl rfl (by decide +kernel) ⟨Nat.le_of_ble_eq_true rfl, Nat.le_of_ble_eq_true rfl⟩) (my_preV hPc hK hDc hE hS hFc (va_recv (q := (RX7, TX7, 12)) hK hP (ci := 7) (q0 := q8) rfl h8)) rfl rfl hl.1 rfl (lv_room (Nat.le_of_ble_eq_true rfl)) dX7_swap_55 ⟨Nat.le_of_ble_eq_true rfl, Nat.le_of_ble_eq_true rfl⟩) hS (fun q _ h => hFc q h) hFc (fun r u t H1 locs ht hvm hw hB hz1 hk1 hS => ?_)
          clear h8
          obtain ⟨hP1, hD1⟩ := hB
          rw [ht] at hP1
          have hP := hP1
          have hD := hD1.weaken (fun k q _ h => hFc q.1 h)
          generalize H1 = H at hP hS ⊢
          clear hP1 hD1 hPc hDc hFc hk1 hz1 hvm ht
          obtain rfl := hw.symm
          refine lv_if_eq (tgt := 69) hx hb dX7_swap_58 (by decide) (fun c15 => ?_) (fun c15 => ?_)
          · rw [if_pos c15] at hF
            refine lv_bipush (v := (-3)) hx hb dX7_swap_69 (by decide) ?_
            have hZ := s3 hF
            have zro : (-3 : Int32) = ro := (congrArg (fun q => q.1) hZ)
            have zgz : g = gz := (congrArg (fun q => q.2.1) hZ)
            have zuz : u0 = uz := (congrArg (fun q => q.2.2) hZ)
            have hP9 : va_P (dC, dI) vwCl (WC cy ad ks gz uz) H := by rw [← zuz, ← zgz]; exact hP
            have hD9 : va_D A (WC cy ad ks gz uz) := by rw [← zuz, ← zgz]; exact hD
            have hk9 : GA nb ad gz ks := by rw [← zgz]; exact hk
            have ax9 : AX g ad gz ad := by rw [← zgz]; exact ax_refl
            refine W.widen (k := 67) (n := 831) (by omega) (by omega) ?_
            rw [hQ]
            exact W.iret (v := (-3 : Int32)) hx hb hr (fun t ht hW => ⟨⟨(-3 : Int32), (), rfl, zro, ad, ks, hk9, ax9, by rw [ht]; exact hP9, hD9⟩, hS.F ht⟩) hS.2.2 dX7_swap_71
          · rw [if_neg c15] at hF
            refine lv_aload_n hx hb dX7_swap_61 rfl (lv_at hl 0 rfl) ?_
            refine lv_iload_n hx hb dX7_swap_62 rfl (lv_at hl 2 rfl) ?_
            obtain ⟨x16, e17, hF⟩ := ob hF
            have hPc := hP
            have hDc := hD
            have hFc := my_free hD hS hA
            obtain ⟨q8, h8⟩ := wc_at (cy := cy) (ad := ad) (ks := ks) (g := g) (u := u0) (κ := .cl) hk.1 True.intro
            refine va_calli (va_runV (As := [.int a2]) (rest := []) ⟨hx, hb, hml, hown, hts⟩ (c_X7_waits l dC dI cy nb ad ks g hk u0 (a2) (x16) H.size e17) (cwV 1 hts (gV mw_994 mw_995 mw_996 mw_2 mw_997) rfl rfl rfl (by decide +kernel) ⟨Nat.le_of_ble_eq_true rfl, Nat.le_of_ble_eq_true rfl⟩) (my_preV hPc hK hDc hE hS hFc (va_recv (q := (RX7, TX7, 12)) hK hP (ci := 7) (q0 := q8) rfl h8)) rfl rfl hl.1 rfl (lv_room (Nat.le_of_ble_eq_true rfl)) dX7_swap_63 ⟨Nat.le_of_ble_eq_true rfl, Nat.le_of_ble_eq_true rfl⟩) hS (fun q _ h => hFc q h) hFc (fun r u t H1 locs ht hvm hw hB hz1 hk1 hS => ?_)
            clear h8
            obtain ⟨hP1, hD1⟩ := hB
            rw [ht] at hP1
            have hP := hP1
            have hD := hD1.weaken (fun k q _ h => hFc q.1 h)
            generalize H1 = H at hP hS ⊢
            clear hP1 hD1 hPc hDc hFc hk1 hz1 hvm ht
            obtain rfl := hw.symm
            refine lv_if_ne (tgt := 72) hx hb dX7_swap_66 (by decide) (fun c18 => ?_) (fun c18 => ?_)
            · rw [if_neg c18] at hF
              refine lv_aload_n hx hb dX7_swap_72 rfl (lv_at hl 0 rfl) ?_
              obtain ⟨t19, e20, hF⟩ := ob hF
              have hPc := hP
              have hDc := hD
              have hFc := my_free hD hS hA
              obtain ⟨q8, h8⟩ := wc_at (cy := cy) (ad := ad) (ks := ks) (g := g) (u := u0) (κ := .cl) hk.1 True.intro
              refine va_callv (va_runV (As := []) (rest := []) ⟨hx, hb, hml, hown, hts⟩ (c_X7_remember l dC dI cy nb ad ks g hk u0 (t19.1) (t19.2) H.size e20) (cwV 0 hts (gV mw_973 mw_974 mw_975 mw_2 mw_976) rfl rfl rfl (by decide +kernel) ⟨Nat.le_of_ble_eq_true rfl, Nat.le_of_ble_eq_true rfl⟩) (my_preV hPc hK hDc hE hS hFc (va_recv (q := (RX7, TX7, 12)) hK hP (ci := 7) (q0 := q8) rfl h8)) rfl rfl hl.1 rfl (lv_room (Nat.le_of_ble_eq_true rfl)) dX7_swap_73 ⟨Nat.le_of_ble_eq_true rfl, Nat.le_of_ble_eq_true rfl⟩) hS (fun q _ h => hFc q h) hFc (fun u t H1 locs ht hvm hw hB hz1 hk1 hS => ?_)
              clear h8
              obtain ⟨ad21, ks22, hk23, ax24, hP1, hD1⟩ := hB
              rw [ht] at hP1
              have hP := hP1
              have hD := hD1.weaken (fun k q _ h => hFc q.1 h)
              generalize H1 = H at hP hS ⊢
              have hl : lv_has ls 4 [(0, .ref (ad21 .cl)), (1, .int a1), (2, .int a2)] := by rw [(ax24 .cl True.intro).2]; exact hl
              clear hP1 hD1 hPc hDc hFc hk1 hz1 hvm ht
              refine W.widen (k := 67) (n := 831) (by omega) (by omega) ?_
              refine lv_aload_n hx hb dX7_swap_76 rfl (lv_at hl 0 rfl) ?_
              obtain ⟨q9, h9⟩ := wc_at (cy := cy) (ad := ad21) (ks := ks22) (g := (t19.1)) (u := (t19.2)) (κ := .cl) hk23.1 True.intro
              refine va_get (D := (dC, dI)) (ci := 7) (v := .ref (ad21 (.ln 0))) (C := RX7) (T := TX7) (N := 12) hx hb hts inlX7 hown hK hP q9 h9 rfl 0 (by decide) (hts _ mw_18) (fun _ h9 => h9) rfl dX7_swap_77 ?_
              clear h9
              obtain ⟨q9, h9⟩ := wc_at (cy := cy) (ad := ad21) (ks := ks22) (g := (t19.1)) (u := (t19.2)) (κ := (.ln 0)) hk23.1 (Or.inl (by decide))
              refine va_get (D := (dC, dI)) (ci := 3) (v := .ref (ad21 (.cs 0))) (C := RX3) (T := TX3) (N := 17) hx hb hts inlX3 hown hK hP q9 h9 rfl 12 (by decide) (hts _ mw_657) (fun _ h9 => h9) rfl dX7_swap_80 ?_
              clear h9
              refine lv_iload_n hx hb dX7_swap_83 rfl (lv_at hl 2 rfl) ?_
              obtain ⟨n25, e26, hF⟩ := ob hF
              obtain ⟨q9, h9⟩ := wc_at (cy := cy) (ad := ad21) (ks := ks22) (g := (t19.1)) (u := (t19.2)) (κ := (.cs 0)) hk23.1 (Or.inl (by decide))
              refine va_aldq hx hb hK hP q9 8 h9 rfl (ix_in e26) dX7_swap_84 ?_
              refine my_top (y := .ref (ad21 (.cd 0 n25))) (ixv (F := fun j => ad21 (.cd 0 j)) e26) ?_
              clear h9
              obtain ⟨q9, h9⟩ := wc_at (cy := cy) (ad := ad21) (ks := ks22) (g := (t19.1)) (u := (t19.2)) (κ := (.cd 0 n25)) hk23.1 ⟨(Or.inl (by decide)), (ix_lt e26)⟩
              refine va_get (D := (dC, dI)) (ci := 2) (v := .int ((t19.2) (10 + 0) (137 + 25 * n25 + 1))) (C := RX1) (T := TX1) (N := 9) hx hb hts inlX1 hown hK hP q9 h9 rfl 1 (by decide) (hts _ mw_659) (fun _ h9 => h9) rfl dX7_swap_85 ?_
              clear h9
              refine lv_istore_n (lv' := [(3, .int ((t19.2) (10 + 0) (137 + 25 * n25 + 1))), (0, .ref (ad21 .cl)), (1, .int a1), (2, .int a2)]) hx hb dX7_swap_88 rfl hl (by decide) rfl (fun ls hl => ?_)
              refine lv_aload_n hx hb dX7_swap_89 rfl (lv_at hl 1 rfl) ?_
              obtain ⟨q9, h9⟩ := wc_at (cy := cy) (ad := ad21) (ks := ks22) (g := (t19.1)) (u := (t19.2)) (κ := .cl) hk23.1 True.intro
              refine va_get (D := (dC, dI)) (ci := 7) (v := .ref (ad21 (.ln 0))) (C := RX7) (T := TX7) (N := 12) hx hb hts inlX7 hown hK hP q9 h9 rfl 0 (by decide) (hts _ mw_18) (fun _ h9 => h9) rfl dX7_swap_90 ?_
              clear h9
              refine lv_iload_n hx hb dX7_swap_93 rfl (lv_at hl 3 rfl) ?_
              refine lv_aload_n hx hb dX7_swap_94 rfl (lv_at hl 1 rfl) ?_
              obtain ⟨q9, h9⟩ := wc_at (cy := cy) (ad := ad21) (ks := ks22) (g := (t19.1)) (u := (t19.2)) (κ := .cl) hk23.1 True.intro
              refine va_get (D := (dC, dI)) (ci := 7) (v := .ref (ad21 (.ln 0))) (C := RX7) (T := TX7) (N := 12) hx hb hts inlX7 hown hK hP q9 h9 rfl 0 (by decide) (hts _ mw_18) (fun _ h9 => h9) rfl dX7_swap_95 ?_
              clear h9
              obtain ⟨q9, h9⟩ := wc_at (cy := cy) (ad := ad21) (ks := ks22) (g := (t19.1)) (u := (t19.2)) (κ := (.ln 0)) hk23.1 (Or.inl (by decide))
              refine va_get (D := (dC, dI)) (ci := 3) (v := .ref (ad21 (.cs 0))) (C := RX3) (T := TX3) (N := 17) hx hb hts inlX3 hown hK hP q9 h9 rfl 12 (by decide) (hts _ mw_657) (fun _ h9 => h9) rfl dX7_swap_98 ?_
              clear h9
              refine lv_iload_n hx hb dX7_swap_101 rfl (lv_at hl 2 rfl) ?_
              obtain ⟨n27, e28, hF⟩ := ob hF
              obtain ⟨q9, h9⟩ := wc_at (cy := cy) (ad := ad21) (ks := ks22) (g := (t19.1)) (u := (t19.2)) (κ := (.cs 0)) hk23.1 (Or.inl (by decide))
              refine va_aldq hx hb hK hP q9 8 h9 rfl (ix_in e28) dX7_swap_102 ?_
              refine my_top (y := .ref (ad21 (.cd 0 n27))) (ixv (F := fun j => ad21 (.cd 0 j)) e28) ?_
              clear h9
              obtain ⟨q9, h9⟩ := wc_at (cy := cy) (ad := ad21) (ks := ks22) (g := (t19.1)) (u := (t19.2)) (κ := (.cd 0 n27)) hk23.1 ⟨(Or.inl (by decide)), (ix_lt e28)⟩
              refine va_get (D := (dC, dI)) (ci := 2) (v := .int ((t19.2) (10 + 0) (137 + 25 * n27 + 1))) (C := RX1) (T := TX1) (N := 9) hx hb hts inlX1 hown hK hP q9 h9 rfl 1 (by decide) (hts _ mw_659) (fun _ h9 => h9) rfl dX7_swap_103 ?_
              clear h9
              obtain ⟨u29, e30, hF⟩ := ob hF
              have hPc := hP
              have hDc := hD
              have hFc := my_free hD hS hA
              obtain ⟨q8, h8⟩ := wc_at (cy := cy) (ad := ad21) (ks := ks22) (g := (t19.1)) (u := (t19.2)) (κ := (.ln 0)) hk23.1 (Or.inl (by decide))
              refine va_callv (va_runV (As := [.int a2, .int ((t19.2) (10 + 0) (137 + 25 * n27 + 1))]) (rest := []) ⟨hx, hb, hml, hown, hts⟩ (c_X3_putAt l dC dI cy nb ad21 ks22 (t19.1) hk23 (t19.2) 0 (a2) (((t19.2) (10 + 0) (137 + 25 * n27 + 1))) (u29) H.size (Or.inl (by decide)) e30) (cwV 2 hts (gV mw_1098 mw_1099 mw_1100 mw_17 mw_1101) rfl rfl rfl (by decide +kernel) ⟨Nat.le_of_ble_eq_true rfl, Nat.le_of_ble_eq_true rfl⟩) (my_preV hPc hK hDc hE hS hFc (va_recv (q := (RX3, TX3, 17)) hK hP (ci := 3) (q0 := q8) rfl h8)) rfl rfl hl.1 rfl (lv_room (Nat.le_of_ble_eq_true rfl)) dX7_swap_106 ⟨Nat.le_of_ble_eq_true rfl, Nat.le_of_ble_eq_true rfl⟩) hS (fun q _ h => hFc q h) hFc (fun u t H1 locs ht hvm hw hB hz1 hk1 hS => ?_)
              clear h8
              obtain ⟨hP1, hD1⟩ := hB
              rw [ht] at hP1
              have hP := hP1
              have hD := hD1.weaken (fun k q _ h => hFc q.1 h)
              generalize H1 = H at hP hS ⊢
              clear hP1 hD1 hPc hDc hFc hk1 hz1 hvm ht
              refine lv_aload_n hx hb dX7_swap_109 rfl (lv_at hl 1 rfl) ?_
              obtain ⟨q9, h9⟩ := wc_at (cy := cy) (ad := ad21) (ks := ks22) (g := (t19.1)) (u := u29) (κ := .cl) hk23.1 True.intro
              refine va_get (D := (dC, dI)) (ci := 7) (v := .ref (ad21 (.ln 0))) (C := RX7) (T := TX7) (N := 12) hx hb hts inlX7 hown hK hP q9 h9 rfl 0 (by decide) (hts _ mw_18) (fun _ h9 => h9) rfl dX7_swap_110 ?_
              clear h9
              refine lv_iload_n hx hb dX7_swap_113 rfl (lv_at hl 2 rfl) ?_
              refine lv_iload_n hx hb dX7_swap_114 rfl (lv_at hl 0 rfl) ?_
              obtain ⟨u31, e32, hF⟩ := ob hF
              have hPc := hP
              have hDc := hD
              have hFc := my_free hD hS hA
              obtain ⟨q8, h8⟩ := wc_at (cy := cy) (ad := ad21) (ks := ks22) (g := (t19.1)) (u := u29) (κ := (.ln 0)) hk23.1 (Or.inl (by decide))
              refine va_callv (va_runV (As := [.int a1, .int ((t19.2) (10 + 0) (137 + 25 * n25 + 1))]) (rest := []) ⟨hx, hb, hml, hown, hts⟩ (c_X3_putAt l dC dI cy nb ad21 ks22 (t19.1) hk23 u29 0 (a1) (((t19.2) (10 + 0) (137 + 25 * n25 + 1))) (u31) H.size (Or.inl (by decide)) e32) (cwV 2 hts (gV mw_1098 mw_1099 mw_1100 mw_17 mw_1101) rfl rfl rfl (by decide +kernel) ⟨Nat.le_of_ble_eq_true rfl, Nat.le_of_ble_eq_true rfl⟩) (my_preV hPc hK hDc hE hS hFc (va_recv (q := (RX3, TX3, 17)) hK hP (ci := 3) (q0 := q8) rfl h8)) rfl rfl hl.1 rfl (lv_room (Nat.le_of_ble_eq_true rfl)) dX7_swap_115 ⟨Nat.le_of_ble_eq_true rfl, Nat.le_of_ble_eq_true rfl⟩) hS (fun q _ h => hFc q h) hFc (fun u t H1 locs ht hvm hw hB hz1 hk1 hS => ?_)
              clear h8
              obtain ⟨hP1, hD1⟩ := hB
              rw [ht] at hP1
              have hP := hP1
              have hD := hD1.weaken (fun k q _ h => hFc q.1 h)
              generalize H1 = H at hP hS ⊢
              clear hP1 hD1 hPc hDc hFc hk1 hz1 hvm ht
              refine lv_iload_n hx hb dX7_swap_118 rfl (lv_at hl 0 rfl) ?_
              have hZ := s3 hF
              have zro : ((t19.2) (10 + 0) (137 + 25 * n25 + 1)) = ro := (congrArg (fun q => q.1) hZ)
              have zgz : (t19.1) = gz := (congrArg (fun q => q.2.1) hZ)
              have zuz : u31 = uz := (congrArg (fun q => q.2.2) hZ)
              have hP9 : va_P (dC, dI) vwCl (WC cy ad21 ks22 gz uz) H := by rw [← zuz, ← zgz]; exact hP
              have hD9 : va_D A (WC cy ad21 ks22 gz uz) := by rw [← zuz, ← zgz]; exact hD
              have hk9 : GA nb ad21 gz ks22 := by rw [← zgz]; exact hk23
              have ax9 : AX g ad gz ad21 := by rw [← zgz]; exact ax24
              refine W.widen (k := 67) (n := 831) (by omega) (by omega) ?_
              rw [hQ]
              exact W.iret (v := ((t19.2) (10 + 0) (137 + 25 * n25 + 1))) hx hb hr (fun t ht hW => ⟨⟨((t19.2) (10 + 0) (137 + 25 * n25 + 1)), (), rfl, zro, ad21, ks22, hk9, ax9, by rw [ht]; exact hP9, hD9⟩, hS.F ht⟩) hS.2.2 dX7_swap_119
            · rw [if_pos c18] at hF
              refine lv_bipush (v := (-3)) hx hb dX7_swap_69 (by decide) ?_
              have hZ := s3 hF
              have zro : (-3 : Int32) = ro := (congrArg (fun q => q.1) hZ)
              have zgz : g = gz := (congrArg (fun q => q.2.1) hZ)
              have zuz : u0 = uz := (congrArg (fun q => q.2.2) hZ)
              have hP9 : va_P (dC, dI) vwCl (WC cy ad ks gz uz) H := by rw [← zuz, ← zgz]; exact hP
              have hD9 : va_D A (WC cy ad ks gz uz) := by rw [← zuz, ← zgz]; exact hD
              have hk9 : GA nb ad gz ks := by rw [← zgz]; exact hk
              have ax9 : AX g ad gz ad := by rw [← zgz]; exact ax_refl
              refine W.widen (k := 67) (n := 831) (by omega) (by omega) ?_
              rw [hQ]
              exact W.iret (v := (-3 : Int32)) hx hb hr (fun t ht hW => ⟨⟨(-3 : Int32), (), rfl, zro, ad, ks, hk9, ax9, by rw [ht]; exact hP9, hD9⟩, hS.F ht⟩) hS.2.2 dX7_swap_71
        · rw [if_neg c12] at hF
          cases hF
noncomputable def C7_ticksFor (g : CG) (u0 : RS) (a1 : Int32) (a2 : Int32) : Option (Sum Int32 (Int32)) := (C7_needStation g u0 (a1)).bind fun t1 => tr t1 fun t3 => (C7_needCard g u0 (a2)).bind fun t4 => tr t4 fun t6 => (ix 6 a1).bind fun n7 => (ix 30 a2).bind fun n9 => (C6_ticksOf g u0 0 n7 (u0 (10 + 0) (137 + 25 * n9 + 2))).bind fun x11 => some (.inr x11)
set_option maxHeartbeats 4000000 in
set_option maxRecDepth 100000 in
theorem c_X7_ticksFor (l : Launch) (dC : Nat → ClassId) (dI : Nat → Nat → Nat) (cy : Nat → ClassId) (nb : Nat → Nat) (ad : CK → Nat) (ks : List CK) (g : CG) (hk : GA nb ad g ks) (u0 : RS) (a1 : Int32) (a2 : Int32) (ro : Int32) (sz : Nat) (hF : C7_ticksFor g u0 a1 a2 = some (.inr ro)) : Met l yX7_ticksFor (wsg yX7_ticksFor cX7_ticksFor 3 (some .int)) ({ frames := 10, cells := 0, slots := 0, locals := 500 }) (va_Pc [.ref (ad .cl), .int a1, .int a2] (fun U => U.heap.size = sz ∧ va_P (dC, dI) vwCl (WC cy ad ks g u0) U.heap ∧ va_K (dC, dI) vwCl (tyL cy) U ∧ va_D (fun _ => True) (WC cy ad ks g u0) ∧ GE nb (va_A (WC cy ad ks g u0) sz) U)) (va_Qi (fun (r : Int32) (_ : Unit) => r = ro) (fun _ t => va_P (dC, dI) vwCl (WC cy ad ks g u0) t.heap ∧ va_D (va_A (WC cy ad ks g u0) sz) (WC cy ad ks g u0)) (va_A (WC cy ad ks g u0) sz)) 0 0 (va_A (WC cy ad ks g u0) sz) := by
  refine Met.ofW (cc := cX7_ticksFor) (maxL := 3) (ret := (some .int)) pn_X7 rfl ?_
  intro p e s m args below meth c s₁ B hml hv
  obtain ⟨rfl, hsz, hP, hK, hD0, hE⟩ := hv
  have hx := B.exec
  have hb := B.bytes
  have hr := B.returns
  have hts0 := atoms_spec (ws := (wsg yX7_ticksFor cX7_ticksFor 3 (some .int))) B.pre
  have hts : ∀ w ∈ wsL_law, w.before _ s = true := fun w h => hts0 w (List.mem_cons_of_mem _ h)
  have hown : s.vm.findClass RX7 = some m.cls := by have h9 := findClass_of_methodNamed B.named; exact h9
  have hlocks := B.notSynchronized
  subst hsz
  have hD := hD0.self (sz := s.heap.size)
  generalize hAe : va_A (WC cy ad ks g u0) s.heap.size = A at hD hE ⊢
  have hA : ∀ q : Nat, s.heap.size ≤ q → A q := fun q h => by rw [← hAe]; exact Or.inr h
  have hS : va_S A s.heap s.heap [] := va_S.rf
  have hl := lv_entry ([.ref (ad .cl), .int a1, .int a2]) (n := 3) (Nat.le_of_ble_eq_true rfl)
  rw [lg_entry_eq]
  generalize (lg_sl ([.ref (ad .cl), .int a1, .int a2]) ++ List.replicate (3 - (lg_sl ([.ref (ad .cl), .int a1, .int a2])).length) Slot.unset).toArray = ls at hl ⊢
  have hl : lv_has ls 3 [(0, .ref (ad .cl)), (1, .int a1), (2, .int a2)] := hl
  generalize hHe : s.heap = H at hP hS ⊢
  have hS : va_S A s.heap H [] := by rw [hHe]; exact hS
  refine my_Q (fun Qn hQ => ?_)
  simp only [C7_ticksFor] at hF
  refine lv_aload_n hx hb dX7_ticksFor_0 rfl (lv_at hl 0 rfl) ?_
  refine lv_iload_n hx hb dX7_ticksFor_1 rfl (lv_at hl 1 rfl) ?_
  obtain ⟨t1, e2, hF⟩ := ob hF
  rcases t1 with xz9 | t3
  · have hF : some (Sum.inl xz9) = some (.inr ro) := hF
    cases hF
  · dsimp only [tr] at hF
    have hPc := hP
    have hDc := hD
    have hFc := my_free hD hS hA
    obtain ⟨q8, h8⟩ := wc_at (cy := cy) (ad := ad) (ks := ks) (g := g) (u := u0) (κ := .cl) hk.1 True.intro
    refine va_callv (va_runV (As := [.int a1]) (rest := []) ⟨hx, hb, hml, hown, hts⟩ (c_X7_needStation l dC dI cy nb ad ks g hk u0 (a1) H.size e2) (cwV 1 hts (gV mw_631 mw_632 mw_633 mw_2 mw_634) rfl rfl rfl (by decide +kernel) ⟨Nat.le_of_ble_eq_true rfl, Nat.le_of_ble_eq_true rfl⟩) (my_preV hPc hK hDc hE hS hFc (va_recv (q := (RX7, TX7, 12)) hK hP (ci := 7) (q0 := q8) rfl h8)) rfl rfl hl.1 rfl (lv_room (Nat.le_of_ble_eq_true rfl)) dX7_ticksFor_2 ⟨Nat.le_of_ble_eq_true rfl, Nat.le_of_ble_eq_true rfl⟩) hS (fun q _ h => hFc q h) hFc (fun u t H1 locs ht hvm hw hB hz1 hk1 hS => ?_)
    clear h8
    obtain ⟨hP1, hD1⟩ := hB
    rw [ht] at hP1
    have hP := hP1
    have hD := hD1.weaken (fun k q _ h => hFc q.1 h)
    generalize H1 = H at hP hS ⊢
    clear hP1 hD1 hPc hDc hFc hk1 hz1 hvm ht
    refine lv_aload_n hx hb dX7_ticksFor_5 rfl (lv_at hl 0 rfl) ?_
    refine lv_iload_n hx hb dX7_ticksFor_6 rfl (lv_at hl 2 rfl) ?_
    obtain ⟨t4, e5, hF⟩ := ob hF
    rcases t4 with xz9 | t6
    · have hF : some (Sum.inl xz9) = some (.inr ro) := hF
      cases hF
    · dsimp only [tr] at hF
      have hPc := hP
      have hDc := hD
      have hFc := my_free hD hS hA
      obtain ⟨q8, h8⟩ := wc_at (cy := cy) (ad := ad) (ks := ks) (g := g) (u := u0) (κ := .cl) hk.1 True.intro
      refine va_callv (va_runV (As := [.int a2]) (rest := []) ⟨hx, hb, hml, hown, hts⟩ (c_X7_needCard l dC dI cy nb ad ks g hk u0 (a2) H.size e5) (cwV 1 hts (gV mw_666 mw_667 mw_668 mw_2 mw_669) rfl rfl rfl (by decide +kernel) ⟨Nat.le_of_ble_eq_true rfl, Nat.le_of_ble_eq_true rfl⟩) (my_preV hPc hK hDc hE hS hFc (va_recv (q := (RX7, TX7, 12)) hK hP (ci := 7) (q0 := q8) rfl h8)) rfl rfl hl.1 rfl (lv_room (Nat.le_of_ble_eq_true rfl)) dX7_ticksFor_7 ⟨Nat.le_of_ble_eq_true rfl, Nat.le_of_ble_eq_true rfl⟩) hS (fun q _ h => hFc q h) hFc (fun u t H1 locs ht hvm hw hB hz1 hk1 hS => ?_)
      clear h8
      obtain ⟨hP1, hD1⟩ := hB
      rw [ht] at hP1
      have hP := hP1
      have hD := hD1.weaken (fun k q _ h => hFc q.1 h)
      generalize H1 = H at hP hS ⊢
      clear hP1 hD1 hPc hDc hFc hk1 hz1 hvm ht
      refine lv_aload_n hx hb dX7_ticksFor_10 rfl (lv_at hl 0 rfl) ?_
      obtain ⟨q9, h9⟩ := wc_at (cy := cy) (ad := ad) (ks := ks) (g := g) (u := u0) (κ := .cl) hk.1 True.intro
      refine va_get (D := (dC, dI)) (ci := 7) (v := .ref (ad (.ln 0))) (C := RX7) (T := TX7) (N := 12) hx hb hts inlX7 hown hK hP q9 h9 rfl 0 (by decide) (hts _ mw_18) (fun _ h9 => h9) rfl dX7_ticksFor_11 ?_
      clear h9
      obtain ⟨q9, h9⟩ := wc_at (cy := cy) (ad := ad) (ks := ks) (g := g) (u := u0) (κ := (.ln 0)) hk.1 (Or.inl (by decide))
      refine va_get (D := (dC, dI)) (ci := 3) (v := .ref (ad (.ss 0))) (C := RX3) (T := TX3) (N := 17) hx hb hts inlX3 hown hK hP q9 h9 rfl 10 (by decide) (hts _ mw_617) (fun _ h9 => h9) rfl dX7_ticksFor_14 ?_
      clear h9
      refine lv_iload_n hx hb dX7_ticksFor_17 rfl (lv_at hl 1 rfl) ?_
      obtain ⟨n7, e8, hF⟩ := ob hF
      obtain ⟨q9, h9⟩ := wc_at (cy := cy) (ad := ad) (ks := ks) (g := g) (u := u0) (κ := (.ss 0)) hk.1 (Or.inl (by decide))
      refine va_aldq hx hb hK hP q9 6 h9 rfl (ix_in e8) dX7_ticksFor_18 ?_
      refine my_top (y := .ref (ad (.st 0 n7))) (ixv (F := fun j => ad (.st 0 j)) e8) ?_
      clear h9
      refine lv_aload_n hx hb dX7_ticksFor_19 rfl (lv_at hl 0 rfl) ?_
      obtain ⟨q9, h9⟩ := wc_at (cy := cy) (ad := ad) (ks := ks) (g := g) (u := u0) (κ := .cl) hk.1 True.intro
      refine va_get (D := (dC, dI)) (ci := 7) (v := .ref (ad (.ln 0))) (C := RX7) (T := TX7) (N := 12) hx hb hts inlX7 hown hK hP q9 h9 rfl 0 (by decide) (hts _ mw_18) (fun _ h9 => h9) rfl dX7_ticksFor_20 ?_
      clear h9
      obtain ⟨q9, h9⟩ := wc_at (cy := cy) (ad := ad) (ks := ks) (g := g) (u := u0) (κ := (.ln 0)) hk.1 (Or.inl (by decide))
      refine va_get (D := (dC, dI)) (ci := 3) (v := .ref (ad (.cs 0))) (C := RX3) (T := TX3) (N := 17) hx hb hts inlX3 hown hK hP q9 h9 rfl 12 (by decide) (hts _ mw_657) (fun _ h9 => h9) rfl dX7_ticksFor_23 ?_
      clear h9
      refine lv_iload_n hx hb dX7_ticksFor_26 rfl (lv_at hl 2 rfl) ?_
      obtain ⟨n9, e10, hF⟩ := ob hF
      obtain ⟨q9, h9⟩ := wc_at (cy := cy) (ad := ad) (ks := ks) (g := g) (u := u0) (κ := (.cs 0)) hk.1 (Or.inl (by decide))
      refine va_aldq hx hb hK hP q9 8 h9 rfl (ix_in e10) dX7_ticksFor_27 ?_
      refine my_top (y := .ref (ad (.cd 0 n9))) (ixv (F := fun j => ad (.cd 0 j)) e10) ?_
      clear h9
      obtain ⟨q9, h9⟩ := wc_at (cy := cy) (ad := ad) (ks := ks) (g := g) (u := u0) (κ := (.cd 0 n9)) hk.1 ⟨(Or.inl (by decide)), (ix_lt e10)⟩
      refine va_get (D := (dC, dI)) (ci := 2) (v := .ref (ad (.tx (u0 (10 + 0) (137 + 25 * n9 + 2)).toNatClampNeg))) (C := RX1) (T := TX1) (N := 9) hx hb hts inlX1 hown hK hP q9 h9 rfl 2 (by decide) (hts _ mw_660) (fun _ h9 => h9) rfl dX7_ticksFor_28 ?_
      clear h9
      obtain ⟨x11, e12, hF⟩ := ob hF
      have hPc := hP
      have hDc := hD
      have hFc := my_free hD hS hA
      obtain ⟨q8, h8⟩ := wc_at (cy := cy) (ad := ad) (ks := ks) (g := g) (u := u0) (κ := (.st 0 n7)) hk.1 ⟨(Or.inl (by decide)), (ix_lt e8)⟩
      refine va_calli (va_runV (As := [.ref (ad (.tx (u0 (10 + 0) (137 + 25 * n9 + 2)).toNatClampNeg))]) (rest := []) ⟨hx, hb, hml, hown, hts⟩ (c_X6_ticksOf l dC dI cy nb ad ks g hk u0 0 n7 (u0 (10 + 0) (137 + 25 * n9 + 2)) (x11) H.size ⟨(Or.inl (by decide)), (ix_lt e8)⟩ e12) (cwV 1 hts (gV mw_843 mw_844 mw_845 mw_50 mw_846) rfl rfl rfl (by decide +kernel) ⟨Nat.le_of_ble_eq_true rfl, Nat.le_of_ble_eq_true rfl⟩) (my_preV hPc hK hDc hE hS hFc (va_recv (q := (RX6, TX6, 15)) hK hP (ci := 6) (q0 := q8) rfl h8)) rfl rfl hl.1 rfl (lv_room (Nat.le_of_ble_eq_true rfl)) dX7_ticksFor_31 ⟨Nat.le_of_ble_eq_true rfl, Nat.le_of_ble_eq_true rfl⟩) hS (fun q _ h => hFc q h) hFc (fun r u t H1 locs ht hvm hw hB hz1 hk1 hS => ?_)
      clear h8
      obtain ⟨hP1, hD1⟩ := hB
      rw [ht] at hP1
      have hP := hP1
      have hD := hD1.weaken (fun k q _ h => hFc q.1 h)
      generalize H1 = H at hP hS ⊢
      clear hP1 hD1 hPc hDc hFc hk1 hz1 hvm ht
      obtain rfl := hw.symm
      have hZ := s3 hF
      have zro : x11 = ro := hZ
      have hP9 : va_P (dC, dI) vwCl (WC cy ad ks g u0) H := by exact hP
      have hD9 : va_D A (WC cy ad ks g u0) := by exact hD
      rw [hQ]
      exact W.iret (v := x11) hx hb hr (fun t ht hW => ⟨⟨x11, (), rfl, zro, by rw [ht]; exact hP9, hD9⟩, hS.F ht⟩) hS.2.2 dX7_ticksFor_34
noncomputable def C7_today (g : CG) (u0 : RS) (a1 : Int32) (a2 : Int32) : Option (Sum Int32 (Int32)) := (C7_needLot g u0 (a1)).bind fun t1 => tr t1 fun t3 => (C7_needRange (a2) (0) (1)).bind fun t4 => tr t4 fun t6 => (if a2 = 0 then ((ix 6 a1).bind fun n13 => some (u0 (10 + 0) (113 + 4 * n13 + 2))) else ((ix 6 a1).bind fun n11 => some (u0 (10 + 0) (113 + 4 * n11 + 3))) : Option (Int32)).bind fun t8 => some (.inr t8)
set_option maxHeartbeats 4000000 in
set_option maxRecDepth 100000 in
theorem c_X7_today (l : Launch) (dC : Nat → ClassId) (dI : Nat → Nat → Nat) (cy : Nat → ClassId) (nb : Nat → Nat) (ad : CK → Nat) (ks : List CK) (g : CG) (hk : GA nb ad g ks) (u0 : RS) (a1 : Int32) (a2 : Int32) (ro : Int32) (sz : Nat) (hF : C7_today g u0 a1 a2 = some (.inr ro)) : Met l yX7_today (wsg yX7_today cX7_today 3 (some .int)) ({ frames := 8, cells := 0, slots := 0, locals := 300 }) (va_Pc [.ref (ad .cl), .int a1, .int a2] (fun U => U.heap.size = sz ∧ va_P (dC, dI) vwCl (WC cy ad ks g u0) U.heap ∧ va_K (dC, dI) vwCl (tyL cy) U ∧ va_D (fun _ => True) (WC cy ad ks g u0) ∧ GE nb (va_A (WC cy ad ks g u0) sz) U)) (va_Qi (fun (r : Int32) (_ : Unit) => r = ro) (fun _ t => va_P (dC, dI) vwCl (WC cy ad ks g u0) t.heap ∧ va_D (va_A (WC cy ad ks g u0) sz) (WC cy ad ks g u0)) (va_A (WC cy ad ks g u0) sz)) 0 0 (va_A (WC cy ad ks g u0) sz) := by
  refine Met.ofW (cc := cX7_today) (maxL := 3) (ret := (some .int)) pn_X7 rfl ?_
  intro p e s m args below meth c s₁ B hml hv
  obtain ⟨rfl, hsz, hP, hK, hD0, hE⟩ := hv
  have hx := B.exec
  have hb := B.bytes
  have hr := B.returns
  have hts0 := atoms_spec (ws := (wsg yX7_today cX7_today 3 (some .int))) B.pre
  have hts : ∀ w ∈ wsL_law, w.before _ s = true := fun w h => hts0 w (List.mem_cons_of_mem _ h)
  have hown : s.vm.findClass RX7 = some m.cls := by have h9 := findClass_of_methodNamed B.named; exact h9
  have hlocks := B.notSynchronized
  subst hsz
  have hD := hD0.self (sz := s.heap.size)
  generalize hAe : va_A (WC cy ad ks g u0) s.heap.size = A at hD hE ⊢
  have hA : ∀ q : Nat, s.heap.size ≤ q → A q := fun q h => by rw [← hAe]; exact Or.inr h
  have hS : va_S A s.heap s.heap [] := va_S.rf
  have hl := lv_entry ([.ref (ad .cl), .int a1, .int a2]) (n := 3) (Nat.le_of_ble_eq_true rfl)
  rw [lg_entry_eq]
  generalize (lg_sl ([.ref (ad .cl), .int a1, .int a2]) ++ List.replicate (3 - (lg_sl ([.ref (ad .cl), .int a1, .int a2])).length) Slot.unset).toArray = ls at hl ⊢
  have hl : lv_has ls 3 [(0, .ref (ad .cl)), (1, .int a1), (2, .int a2)] := hl
  generalize hHe : s.heap = H at hP hS ⊢
  have hS : va_S A s.heap H [] := by rw [hHe]; exact hS
  refine my_Q (fun Qn hQ => ?_)
  simp only [C7_today] at hF
  refine lv_aload_n hx hb dX7_today_0 rfl (lv_at hl 0 rfl) ?_
  refine lv_iload_n hx hb dX7_today_1 rfl (lv_at hl 1 rfl) ?_
  obtain ⟨t1, e2, hF⟩ := ob hF
  rcases t1 with xz9 | t3
  · have hF : some (Sum.inl xz9) = some (.inr ro) := hF
    cases hF
  · dsimp only [tr] at hF
    have hPc := hP
    have hDc := hD
    have hFc := my_free hD hS hA
    obtain ⟨q8, h8⟩ := wc_at (cy := cy) (ad := ad) (ks := ks) (g := g) (u := u0) (κ := .cl) hk.1 True.intro
    refine va_callv (va_runV (As := [.int a1]) (rest := []) ⟨hx, hb, hml, hown, hts⟩ (c_X7_needLot l dC dI cy nb ad ks g hk u0 (a1) H.size e2) (cwV 1 hts (gV mw_704 mw_705 mw_706 mw_2 mw_707) rfl rfl rfl (by decide +kernel) ⟨Nat.le_of_ble_eq_true rfl, Nat.le_of_ble_eq_true rfl⟩) (my_preV hPc hK hDc hE hS hFc (va_recv (q := (RX7, TX7, 12)) hK hP (ci := 7) (q0 := q8) rfl h8)) rfl rfl hl.1 rfl (lv_room (Nat.le_of_ble_eq_true rfl)) dX7_today_2 ⟨Nat.le_of_ble_eq_true rfl, Nat.le_of_ble_eq_true rfl⟩) hS (fun q _ h => hFc q h) hFc (fun u t H1 locs ht hvm hw hB hz1 hk1 hS => ?_)
    clear h8
    obtain ⟨hP1, hD1⟩ := hB
    rw [ht] at hP1
    have hP := hP1
    have hD := hD1.weaken (fun k q _ h => hFc q.1 h)
    generalize H1 = H at hP hS ⊢
    clear hP1 hD1 hPc hDc hFc hk1 hz1 hvm ht
    refine lv_iload_n hx hb dX7_today_5 rfl (lv_at hl 2 rfl) ?_
    refine lv_iconst (v := 0) hx hb dX7_today_6 (by decide) ?_
    refine lv_iconst (v := 1) hx hb dX7_today_7 (by decide) ?_
    obtain ⟨t4, e5, hF⟩ := ob hF
    rcases t4 with xz9 | t6
    · have hF : some (Sum.inl xz9) = some (.inr ro) := hF
      cases hF
    · dsimp only [tr] at hF
      have hPc : va_P (dC, dI) vwCl ([] : va_W) H := fun k q h => by simp at h
      have hDc : va_D A ([] : va_W) := ⟨fun i j p q h => by simp at h, fun k q h => by simp at h⟩
      have hFc := my_free0 hS hA
      refine va_callv (va_runS (As := [.int a2, .int 0, .int 1]) (rest := []) ⟨hx, hb, hml, hown, hts⟩ (c_X7_needRange l dC dI cy nb (a2) (0) (1) H.size e5) (va_cwS 3 hts (gS mw_815 mw_816 mw_2 mw_817) rfl rfl rfl (by decide +kernel) ⟨Nat.le_of_ble_eq_true rfl, Nat.le_of_ble_eq_true rfl⟩) (my_preS hPc hK hDc hE hS hFc) rfl rfl hl.1 rfl (lv_room (Nat.le_of_ble_eq_true rfl)) dX7_today_8 ⟨Nat.le_of_ble_eq_true rfl, Nat.le_of_ble_eq_true rfl⟩) hS (fun q _ h => hFc q h) hFc (fun u t H1 locs ht hvm hw hB hz1 hk1 hS => ?_)
      obtain ⟨hP1, hD1⟩ := hB
      rw [ht] at hP1
      have hP := my_keep hP hk1
      generalize H1 = H at hP hS ⊢
      clear hP1 hD1 hPc hDc hFc hk1 hz1 hvm ht
      refine lv_iload_n hx hb dX7_today_11 rfl (lv_at hl 2 rfl) ?_
      obtain ⟨t8, hJ9, hF⟩ := ob hF
      have join10 : ∀ (H : Heap) (locs : List Loc) (ls : Array Slot), va_P (dC, dI) vwCl (WC cy ad ks g u0) H → va_D A (WC cy ad ks g u0) → va_S A s.heap H locs → lv_has ls 3 [(0, .ref (ad .cl)), (1, .int a1), (2, .int a2)] → W p l e (headSpec (wsg yX7_today cX7_today 3 (some .int)) ({ frames := 8, cells := 0, slots := 0, locals := 300 })).room s m ([.ref (ad .cl), .int a1, .int a2] : List Value).toArray below meth c H locs 0 0 Qn (F0 m 42 ls [.int t8]) := by
        intro H locs ls hP hD hS hl
        have hZ := s3 hF
        have zro : t8 = ro := hZ
        have hP9 : va_P (dC, dI) vwCl (WC cy ad ks g u0) H := by exact hP
        have hD9 : va_D A (WC cy ad ks g u0) := by exact hD
        rw [hQ]
        exact W.iret (v := t8) hx hb hr (fun t ht hW => ⟨⟨t8, (), rfl, zro, by rw [ht]; exact hP9, hD9⟩, hS.F ht⟩) hS.2.2 dX7_today_42
      clear hF
      have hF := hJ9
      clear hJ9
      refine lv_if_ne (tgt := 30) hx hb dX7_today_12 (by decide) (fun c7 => ?_) (fun c7 => ?_)
      · rw [if_neg c7] at hF
        refine lv_aload_n hx hb dX7_today_30 rfl (lv_at hl 0 rfl) ?_
        obtain ⟨q9, h9⟩ := wc_at (cy := cy) (ad := ad) (ks := ks) (g := g) (u := u0) (κ := .cl) hk.1 True.intro
        refine va_get (D := (dC, dI)) (ci := 7) (v := .ref (ad (.ln 0))) (C := RX7) (T := TX7) (N := 12) hx hb hts inlX7 hown hK hP q9 h9 rfl 0 (by decide) (hts _ mw_18) (fun _ h9 => h9) rfl dX7_today_31 ?_
        clear h9
        obtain ⟨q9, h9⟩ := wc_at (cy := cy) (ad := ad) (ks := ks) (g := g) (u := u0) (κ := (.ln 0)) hk.1 (Or.inl (by decide))
        refine va_get (D := (dC, dI)) (ci := 3) (v := .ref (ad (.ls 0))) (C := RX3) (T := TX3) (N := 17) hx hb hts inlX3 hown hK hP q9 h9 rfl 11 (by decide) (hts _ mw_697) (fun _ h9 => h9) rfl dX7_today_34 ?_
        clear h9
        refine lv_iload_n hx hb dX7_today_37 rfl (lv_at hl 1 rfl) ?_
        obtain ⟨n11, e12, hF⟩ := ob hF
        obtain ⟨q9, h9⟩ := wc_at (cy := cy) (ad := ad) (ks := ks) (g := g) (u := u0) (κ := (.ls 0)) hk.1 (Or.inl (by decide))
        refine va_aldq hx hb hK hP q9 7 h9 rfl (ix_in e12) dX7_today_38 ?_
        refine my_top (y := .ref (ad (.lo 0 n11))) (ixv (F := fun j => ad (.lo 0 j)) e12) ?_
        clear h9
        obtain ⟨q9, h9⟩ := wc_at (cy := cy) (ad := ad) (ks := ks) (g := g) (u := u0) (κ := (.lo 0 n11)) hk.1 ⟨(Or.inl (by decide)), (ix_lt e12)⟩
        refine va_get (D := (dC, dI)) (ci := 4) (v := .int (u0 (10 + 0) (113 + 4 * n11 + 3))) (C := RX4) (T := TX4) (N := 12) hx hb hts inlX4 hown hK hP q9 h9 rfl 9 (by decide) (hts _ mw_897) (fun _ h9 => h9) rfl dX7_today_39 ?_
        clear h9
        have ht := s1 hF
        subst ht
        exact join10 _ _ _ hP hD hS (lv_sub hl [0, 1, 2] rfl)
      · rw [if_pos c7] at hF
        refine lv_aload_n hx hb dX7_today_15 rfl (lv_at hl 0 rfl) ?_
        obtain ⟨q9, h9⟩ := wc_at (cy := cy) (ad := ad) (ks := ks) (g := g) (u := u0) (κ := .cl) hk.1 True.intro
        refine va_get (D := (dC, dI)) (ci := 7) (v := .ref (ad (.ln 0))) (C := RX7) (T := TX7) (N := 12) hx hb hts inlX7 hown hK hP q9 h9 rfl 0 (by decide) (hts _ mw_18) (fun _ h9 => h9) rfl dX7_today_16 ?_
        clear h9
        obtain ⟨q9, h9⟩ := wc_at (cy := cy) (ad := ad) (ks := ks) (g := g) (u := u0) (κ := (.ln 0)) hk.1 (Or.inl (by decide))
        refine va_get (D := (dC, dI)) (ci := 3) (v := .ref (ad (.ls 0))) (C := RX3) (T := TX3) (N := 17) hx hb hts inlX3 hown hK hP q9 h9 rfl 11 (by decide) (hts _ mw_697) (fun _ h9 => h9) rfl dX7_today_19 ?_
        clear h9
        refine lv_iload_n hx hb dX7_today_22 rfl (lv_at hl 1 rfl) ?_
        obtain ⟨n13, e14, hF⟩ := ob hF
        obtain ⟨q9, h9⟩ := wc_at (cy := cy) (ad := ad) (ks := ks) (g := g) (u := u0) (κ := (.ls 0)) hk.1 (Or.inl (by decide))
        refine va_aldq hx hb hK hP q9 7 h9 rfl (ix_in e14) dX7_today_23 ?_
        refine my_top (y := .ref (ad (.lo 0 n13))) (ixv (F := fun j => ad (.lo 0 j)) e14) ?_
        clear h9
        obtain ⟨q9, h9⟩ := wc_at (cy := cy) (ad := ad) (ks := ks) (g := g) (u := u0) (κ := (.lo 0 n13)) hk.1 ⟨(Or.inl (by decide)), (ix_lt e14)⟩
        refine va_get (D := (dC, dI)) (ci := 4) (v := .int (u0 (10 + 0) (113 + 4 * n13 + 2))) (C := RX4) (T := TX4) (N := 12) hx hb hts inlX4 hown hK hP q9 h9 rfl 8 (by decide) (hts _ mw_896) (fun _ h9 => h9) rfl dX7_today_24 ?_
        clear h9
        refine lv_goto (tgt := 42) hx hb dX7_today_27 (by decide) ?_
        have ht := s1 hF
        subst ht
        exact join10 _ _ _ hP hD hS (lv_sub hl [0, 1, 2] rfl)
noncomputable def C7_total (g : CG) (u0 : RS) (a1 : Int32) : Option (Sum Int32 (Int32)) := (C7_needRange (a1) (0) (4)).bind fun t1 => tr t1 fun t3 => (rdo u0 (10 + 0) 12 5 a1).bind fun x4 => some (.inr x4)
set_option maxHeartbeats 4000000 in
set_option maxRecDepth 100000 in
theorem c_X7_total (l : Launch) (dC : Nat → ClassId) (dI : Nat → Nat → Nat) (cy : Nat → ClassId) (nb : Nat → Nat) (ad : CK → Nat) (ks : List CK) (g : CG) (hk : GA nb ad g ks) (u0 : RS) (a1 : Int32) (ro : Int32) (sz : Nat) (hF : C7_total g u0 a1 = some (.inr ro)) : Met l yX7_total (wsg yX7_total cX7_total 2 (some .int)) ({ frames := 8, cells := 0, slots := 0, locals := 300 }) (va_Pc [.ref (ad .cl), .int a1] (fun U => U.heap.size = sz ∧ va_P (dC, dI) vwCl (WC cy ad ks g u0) U.heap ∧ va_K (dC, dI) vwCl (tyL cy) U ∧ va_D (fun _ => True) (WC cy ad ks g u0) ∧ GE nb (va_A (WC cy ad ks g u0) sz) U)) (va_Qi (fun (r : Int32) (_ : Unit) => r = ro) (fun _ t => va_P (dC, dI) vwCl (WC cy ad ks g u0) t.heap ∧ va_D (va_A (WC cy ad ks g u0) sz) (WC cy ad ks g u0)) (va_A (WC cy ad ks g u0) sz)) 0 0 (va_A (WC cy ad ks g u0) sz) := by
  refine Met.ofW (cc := cX7_total) (maxL := 2) (ret := (some .int)) pn_X7 rfl ?_
  intro p e s m args below meth c s₁ B hml hv
  obtain ⟨rfl, hsz, hP, hK, hD0, hE⟩ := hv
  have hx := B.exec
  have hb := B.bytes
  have hr := B.returns
  have hts0 := atoms_spec (ws := (wsg yX7_total cX7_total 2 (some .int))) B.pre
  have hts : ∀ w ∈ wsL_law, w.before _ s = true := fun w h => hts0 w (List.mem_cons_of_mem _ h)
  have hown : s.vm.findClass RX7 = some m.cls := by have h9 := findClass_of_methodNamed B.named; exact h9
  have hlocks := B.notSynchronized
  subst hsz
  have hD := hD0.self (sz := s.heap.size)
  generalize hAe : va_A (WC cy ad ks g u0) s.heap.size = A at hD hE ⊢
  have hA : ∀ q : Nat, s.heap.size ≤ q → A q := fun q h => by rw [← hAe]; exact Or.inr h
  have hS : va_S A s.heap s.heap [] := va_S.rf
  have hl := lv_entry ([.ref (ad .cl), .int a1]) (n := 2) (Nat.le_of_ble_eq_true rfl)
  rw [lg_entry_eq]
  generalize (lg_sl ([.ref (ad .cl), .int a1]) ++ List.replicate (2 - (lg_sl ([.ref (ad .cl), .int a1])).length) Slot.unset).toArray = ls at hl ⊢
  have hl : lv_has ls 2 [(0, .ref (ad .cl)), (1, .int a1)] := hl
  generalize hHe : s.heap = H at hP hS ⊢
  have hS : va_S A s.heap H [] := by rw [hHe]; exact hS
  refine my_Q (fun Qn hQ => ?_)
  simp only [C7_total] at hF
  refine lv_iload_n hx hb dX7_total_0 rfl (lv_at hl 1 rfl) ?_
  refine lv_iconst (v := 0) hx hb dX7_total_1 (by decide) ?_
  refine lv_iconst (v := 4) hx hb dX7_total_2 (by decide) ?_
  obtain ⟨t1, e2, hF⟩ := ob hF
  rcases t1 with xz9 | t3
  · have hF : some (Sum.inl xz9) = some (.inr ro) := hF
    cases hF
  · dsimp only [tr] at hF
    have hPc : va_P (dC, dI) vwCl ([] : va_W) H := fun k q h => by simp at h
    have hDc : va_D A ([] : va_W) := ⟨fun i j p q h => by simp at h, fun k q h => by simp at h⟩
    have hFc := my_free0 hS hA
    refine va_callv (va_runS (As := [.int a1, .int 0, .int 4]) (rest := []) ⟨hx, hb, hml, hown, hts⟩ (c_X7_needRange l dC dI cy nb (a1) (0) (4) H.size e2) (va_cwS 3 hts (gS mw_815 mw_816 mw_2 mw_817) rfl rfl rfl (by decide +kernel) ⟨Nat.le_of_ble_eq_true rfl, Nat.le_of_ble_eq_true rfl⟩) (my_preS hPc hK hDc hE hS hFc) rfl rfl hl.1 rfl (lv_room (Nat.le_of_ble_eq_true rfl)) dX7_total_3 ⟨Nat.le_of_ble_eq_true rfl, Nat.le_of_ble_eq_true rfl⟩) hS (fun q _ h => hFc q h) hFc (fun u t H1 locs ht hvm hw hB hz1 hk1 hS => ?_)
    obtain ⟨hP1, hD1⟩ := hB
    rw [ht] at hP1
    have hP := my_keep hP hk1
    generalize H1 = H at hP hS ⊢
    clear hP1 hD1 hPc hDc hFc hk1 hz1 hvm ht
    refine lv_aload_n hx hb dX7_total_6 rfl (lv_at hl 0 rfl) ?_
    obtain ⟨q9, h9⟩ := wc_at (cy := cy) (ad := ad) (ks := ks) (g := g) (u := u0) (κ := .cl) hk.1 True.intro
    refine va_get (D := (dC, dI)) (ci := 7) (v := .ref (ad (.ln 0))) (C := RX7) (T := TX7) (N := 12) hx hb hts inlX7 hown hK hP q9 h9 rfl 0 (by decide) (hts _ mw_18) (fun _ h9 => h9) rfl dX7_total_7 ?_
    clear h9
    obtain ⟨q9, h9⟩ := wc_at (cy := cy) (ad := ad) (ks := ks) (g := g) (u := u0) (κ := (.ln 0)) hk.1 (Or.inl (by decide))
    refine va_get (D := (dC, dI)) (ci := 3) (v := .ref (ad (.tt 0))) (C := RX3) (T := TX3) (N := 17) hx hb hts inlX3 hown hK hP q9 h9 rfl 15 (by decide) (hts _ mw_909) (fun _ h9 => h9) rfl dX7_total_10 ?_
    clear h9
    refine lv_iload_n hx hb dX7_total_13 rfl (lv_at hl 1 rfl) ?_
    obtain ⟨x4, e5, hF⟩ := ob hF
    obtain ⟨q9, h9⟩ := wc_at (cy := cy) (ad := ad) (ks := ks) (g := g) (u := u0) (κ := (.tt 0)) hk.1 (Or.inl (by decide))
    refine va_iald hx hb hK hP q9 1 h9 rfl (rdo_in e5) dX7_total_14 ?_
    refine my_topi (y := x4) (rdo_eq e5) ?_
    clear h9
    have hZ := s3 hF
    have zro : x4 = ro := hZ
    have hP9 : va_P (dC, dI) vwCl (WC cy ad ks g u0) H := by exact hP
    have hD9 : va_D A (WC cy ad ks g u0) := by exact hD
    rw [hQ]
    exact W.iret (v := x4) hx hb hr (fun t ht hW => ⟨⟨x4, (), rfl, zro, by rw [ht]; exact hP9, hD9⟩, hS.F ht⟩) hS.2.2 dX7_total_15
noncomputable def C7_trayAt_L4 (a1 : Int32) (g : CG) (u0 : RS) : Nat → Int32 → Int32 → Option (Sum (Int32) (Int32 × Int32))
  | 0, _, _ => none
  | m9 + 1, y1, y2 => if (u0 (10 + 0) 9) ≤ y1 then (some (.inr (y1, y2))) else ((ix 30 y1).bind fun n11 => if (u0 (10 + 0) (137 + 25 * n11 + 3)) = 2 then (if y2 = a1 then (some (.inl y1)) else (C7_trayAt_L4 a1 g u0 m9 ((y1 + 1)) ((y2 + 1)))) else (C7_trayAt_L4 a1 g u0 m9 ((y1 + 1)) (y2)))
noncomputable def C7_trayAt (g : CG) (u0 : RS) (a1 : Int32) : Option (Int32) := (C7_trayAt_L4 a1 g u0 FUEL (0 : Int32) (0 : Int32)).bind fun t3 => match t3 with | .inl r => some r | .inr t7 => some (-1 : Int32)
set_option maxHeartbeats 4000000 in
set_option maxRecDepth 100000 in
theorem c_X7_trayAt (l : Launch) (dC : Nat → ClassId) (dI : Nat → Nat → Nat) (cy : Nat → ClassId) (nb : Nat → Nat) (ad : CK → Nat) (ks : List CK) (g : CG) (hk : GA nb ad g ks) (u0 : RS) (a1 : Int32) (ro : Int32) (sz : Nat) (hF : C7_trayAt g u0 a1 = some ro) : Met l yX7_trayAt (wsg yX7_trayAt cX7_trayAt 4 (some .int)) ({ frames := 7, cells := 0, slots := 0, locals := 200 }) (va_Pc [.ref (ad .cl), .int a1] (fun U => U.heap.size = sz ∧ va_P (dC, dI) vwCl (WC cy ad ks g u0) U.heap ∧ va_K (dC, dI) vwCl (tyL cy) U ∧ va_D (fun _ => True) (WC cy ad ks g u0) ∧ GE nb (va_A (WC cy ad ks g u0) sz) U)) (va_Qi (fun (r : Int32) (_ : Unit) => r = ro) (fun _ t => va_P (dC, dI) vwCl (WC cy ad ks g u0) t.heap ∧ va_D (va_A (WC cy ad ks g u0) sz) (WC cy ad ks g u0)) (va_A (WC cy ad ks g u0) sz)) 0 0 (va_A (WC cy ad ks g u0) sz) := by
  refine Met.ofW (cc := cX7_trayAt) (maxL := 4) (ret := (some .int)) pn_X7 rfl ?_
  intro p e s m args below meth c s₁ B hml hv
  obtain ⟨rfl, hsz, hP, hK, hD0, hE⟩ := hv
  have hx := B.exec
  have hb := B.bytes
  have hr := B.returns
  have hts0 := atoms_spec (ws := (wsg yX7_trayAt cX7_trayAt 4 (some .int))) B.pre
  have hts : ∀ w ∈ wsL_law, w.before _ s = true := fun w h => hts0 w (List.mem_cons_of_mem _ h)
  have hown : s.vm.findClass RX7 = some m.cls := by have h9 := findClass_of_methodNamed B.named; exact h9
  have hlocks := B.notSynchronized
  subst hsz
  have hD := hD0.self (sz := s.heap.size)
  generalize hAe : va_A (WC cy ad ks g u0) s.heap.size = A at hD hE ⊢
  have hA : ∀ q : Nat, s.heap.size ≤ q → A q := fun q h => by rw [← hAe]; exact Or.inr h
  have hS : va_S A s.heap s.heap [] := va_S.rf
  have hl := lv_entry ([.ref (ad .cl), .int a1]) (n := 4) (Nat.le_of_ble_eq_true rfl)
  rw [lg_entry_eq]
  generalize (lg_sl ([.ref (ad .cl), .int a1]) ++ List.replicate (4 - (lg_sl ([.ref (ad .cl), .int a1])).length) Slot.unset).toArray = ls at hl ⊢
  have hl : lv_has ls 4 [(0, .ref (ad .cl)), (1, .int a1)] := hl
  generalize hHe : s.heap = H at hP hS ⊢
  have hS : va_S A s.heap H [] := by rw [hHe]; exact hS
  refine my_Q (fun Qn hQ => ?_)
  simp only [C7_trayAt] at hF
  refine lv_iconst (v := 0) hx hb dX7_trayAt_0 (by decide) ?_
  refine lv_istore_n (lv' := [(2, .int 0), (0, .ref (ad .cl)), (1, .int a1)]) hx hb dX7_trayAt_1 rfl hl (by decide) rfl (fun ls hl => ?_)
  refine lv_iconst (v := 0) hx hb dX7_trayAt_2 (by decide) ?_
  refine lv_istore_n (lv' := [(3, .int 0), (2, .int 0), (0, .ref (ad .cl)), (1, .int a1)]) hx hb dX7_trayAt_3 rfl hl (by decide) rfl (fun ls hl => ?_)
  obtain ⟨t3, hL4, hF⟩ := ob hF
  have kx5 : ∀ (t7 : Int32 × Int32), t3 = .inr t7 → ∀ (H : Heap) (locs : List Loc) (ls : Array Slot), va_P (dC, dI) vwCl (WC cy ad ks g u0) H → va_D A (WC cy ad ks g u0) → va_S A s.heap H locs → lv_has ls 4 [(3, .int (t7.1)), (2, .int (t7.2)), (0, .ref (ad .cl)), (1, .int a1)] → W p l e (headSpec (wsg yX7_trayAt cX7_trayAt 4 (some .int)) ({ frames := 7, cells := 0, slots := 0, locals := 200 })).room s m ([.ref (ad .cl), .int a1] : List Value).toArray below meth c H locs 0 0 Qn (F0 m 47 ls []) := by
    intro t7 he H locs ls hP hD hS hl
    subst he
    refine lv_iconst (v := (-1)) hx hb dX7_trayAt_47 (by decide) ?_
    have hZ := s1 hF
    have zro : (-1 : Int32) = ro := hZ
    have hP9 : va_P (dC, dI) vwCl (WC cy ad ks g u0) H := by exact hP
    have hD9 : va_D A (WC cy ad ks g u0) := by exact hD
    rw [hQ]
    exact W.iret (v := (-1 : Int32)) hx hb hr (fun t ht hW => ⟨⟨(-1 : Int32), (), rfl, zro, by rw [ht]; exact hP9, hD9⟩, hS.F ht⟩) hS.2.2 dX7_trayAt_48
  have kr6 : ∀ r : Int32, t3 = .inl r → some r = some ro := by
    intro r he
    subst he
    exact hF
  clear hF
  have loop8 : ∀ (m9 : Nat) (y1 : Int32) (y2 : Int32), C7_trayAt_L4 a1 g u0 m9 y1 y2 = some t3 → ∀ (H : Heap) (locs : List Loc) (ls : Array Slot), va_P (dC, dI) vwCl (WC cy ad ks g u0) H → va_D A (WC cy ad ks g u0) → va_S A s.heap H locs → lv_has ls 4 [(3, .int y1), (2, .int y2), (0, .ref (ad .cl)), (1, .int a1)] → W p l e (headSpec (wsg yX7_trayAt cX7_trayAt 4 (some .int)) ({ frames := 7, cells := 0, slots := 0, locals := 200 })).room s m ([.ref (ad .cl), .int a1] : List Value).toArray below meth c H locs 0 0 Qn (F0 m 4 ls []) := by
    intro m9
    induction m9 with
    | zero => intro y1 y2 hF; cases hF
    | succ m9 ih =>
      intro y1 y2 hF H locs ls hP hD hS hl
      simp only [C7_trayAt_L4] at hF
      refine lv_iload_n hx hb dX7_trayAt_4 rfl (lv_at hl 0 rfl) ?_
      refine lv_aload_n hx hb dX7_trayAt_5 rfl (lv_at hl 2 rfl) ?_
      obtain ⟨q9, h9⟩ := wc_at (cy := cy) (ad := ad) (ks := ks) (g := g) (u := u0) (κ := .cl) hk.1 True.intro
      refine va_get (D := (dC, dI)) (ci := 7) (v := .ref (ad (.ln 0))) (C := RX7) (T := TX7) (N := 12) hx hb hts inlX7 hown hK hP q9 h9 rfl 0 (by decide) (hts _ mw_18) (fun _ h9 => h9) rfl dX7_trayAt_6 ?_
      clear h9
      obtain ⟨q9, h9⟩ := wc_at (cy := cy) (ad := ad) (ks := ks) (g := g) (u := u0) (κ := (.ln 0)) hk.1 (Or.inl (by decide))
      refine va_get (D := (dC, dI)) (ci := 3) (v := .int (u0 (10 + 0) 9)) (C := RX3) (T := TX3) (N := 17) hx hb hts inlX3 hown hK hP q9 h9 rfl 9 (by decide) (hts _ mw_572) (fun _ h9 => h9) rfl dX7_trayAt_9 ?_
      clear h9
      refine lv_icmp_ge (tgt := 47) hx hb dX7_trayAt_12 (by decide) (fun c10 => ?_) (fun c10 => ?_)
      · rw [if_pos c10] at hF
        exact kx5 _ (s1 hF).symm _ _ _ hP hD hS (lv_sub hl [0, 1, 2, 3] rfl)
      · rw [if_neg c10] at hF
        refine lv_aload_n hx hb dX7_trayAt_15 rfl (lv_at hl 2 rfl) ?_
        obtain ⟨q9, h9⟩ := wc_at (cy := cy) (ad := ad) (ks := ks) (g := g) (u := u0) (κ := .cl) hk.1 True.intro
        refine va_get (D := (dC, dI)) (ci := 7) (v := .ref (ad (.ln 0))) (C := RX7) (T := TX7) (N := 12) hx hb hts inlX7 hown hK hP q9 h9 rfl 0 (by decide) (hts _ mw_18) (fun _ h9 => h9) rfl dX7_trayAt_16 ?_
        clear h9
        obtain ⟨q9, h9⟩ := wc_at (cy := cy) (ad := ad) (ks := ks) (g := g) (u := u0) (κ := (.ln 0)) hk.1 (Or.inl (by decide))
        refine va_get (D := (dC, dI)) (ci := 3) (v := .ref (ad (.cs 0))) (C := RX3) (T := TX3) (N := 17) hx hb hts inlX3 hown hK hP q9 h9 rfl 12 (by decide) (hts _ mw_657) (fun _ h9 => h9) rfl dX7_trayAt_19 ?_
        clear h9
        refine lv_iload_n hx hb dX7_trayAt_22 rfl (lv_at hl 0 rfl) ?_
        obtain ⟨n11, e12, hF⟩ := ob hF
        obtain ⟨q9, h9⟩ := wc_at (cy := cy) (ad := ad) (ks := ks) (g := g) (u := u0) (κ := (.cs 0)) hk.1 (Or.inl (by decide))
        refine va_aldq hx hb hK hP q9 8 h9 rfl (ix_in e12) dX7_trayAt_23 ?_
        refine my_top (y := .ref (ad (.cd 0 n11))) (ixv (F := fun j => ad (.cd 0 j)) e12) ?_
        clear h9
        obtain ⟨q9, h9⟩ := wc_at (cy := cy) (ad := ad) (ks := ks) (g := g) (u := u0) (κ := (.cd 0 n11)) hk.1 ⟨(Or.inl (by decide)), (ix_lt e12)⟩
        refine va_get (D := (dC, dI)) (ci := 2) (v := .int (u0 (10 + 0) (137 + 25 * n11 + 3))) (C := RX1) (T := TX1) (N := 9) hx hb hts inlX1 hown hK hP q9 h9 rfl 3 (by decide) (hts _ mw_661) (fun _ h9 => h9) rfl dX7_trayAt_24 ?_
        clear h9
        refine lv_iconst (v := 2) hx hb dX7_trayAt_27 (by decide) ?_
        refine lv_icmp_ne (tgt := 41) hx hb dX7_trayAt_28 (by decide) (fun c13 => ?_) (fun c13 => ?_)
        · rw [if_neg c13] at hF
          refine lv_iinc (v := (y1 + 1)) (lv' := [(3, .int (y1 + 1)), (2, .int y2), (0, .ref (ad .cl)), (1, .int a1)]) hx hb dX7_trayAt_41 hl (k := 0) rfl (by rfl) (by decide) rfl (fun ls hl => ?_)
          refine lv_goto (tgt := 4) hx hb dX7_trayAt_44 (by decide) ?_
          exact ih _ _ hF _ _ _ hP hD hS (lv_sub hl [0, 1, 2, 3] rfl)
        · rw [if_pos c13] at hF
          refine lv_iload_n hx hb dX7_trayAt_31 rfl (lv_at hl 1 rfl) ?_
          refine lv_iload_n hx hb dX7_trayAt_32 rfl (lv_at hl 3 rfl) ?_
          refine lv_icmp_ne (tgt := 38) hx hb dX7_trayAt_33 (by decide) (fun c14 => ?_) (fun c14 => ?_)
          · rw [if_neg c14] at hF
            refine lv_iinc (v := (y2 + 1)) (lv' := [(2, .int (y2 + 1)), (3, .int y1), (0, .ref (ad .cl)), (1, .int a1)]) hx hb dX7_trayAt_38 hl (k := 1) rfl (by rfl) (by decide) rfl (fun ls hl => ?_)
            refine lv_iinc (v := (y1 + 1)) (lv' := [(3, .int (y1 + 1)), (2, .int (y2 + 1)), (0, .ref (ad .cl)), (1, .int a1)]) hx hb dX7_trayAt_41 hl (k := 1) rfl (by rfl) (by decide) rfl (fun ls hl => ?_)
            refine lv_goto (tgt := 4) hx hb dX7_trayAt_44 (by decide) ?_
            exact ih _ _ hF _ _ _ hP hD hS (lv_sub hl [0, 1, 2, 3] rfl)
          · rw [if_pos c14] at hF
            refine lv_iload_n hx hb dX7_trayAt_36 rfl (lv_at hl 0 rfl) ?_
            have hF := kr6 _ (s1 hF).symm
            have hZ := s1 hF
            have zro : y1 = ro := hZ
            have hP9 : va_P (dC, dI) vwCl (WC cy ad ks g u0) H := by exact hP
            have hD9 : va_D A (WC cy ad ks g u0) := by exact hD
            rw [hQ]
            exact W.iret (v := y1) hx hb hr (fun t ht hW => ⟨⟨y1, (), rfl, zro, by rw [ht]; exact hP9, hD9⟩, hS.F ht⟩) hS.2.2 dX7_trayAt_37
  exact loop8 FUEL _ _ hL4 _ _ _ hP hD hS (lv_sub hl [0, 1, 2, 3] rfl)
noncomputable def C7_undo (g : CG) (u0 : RS)  : Option (Int32 × RS) := if (u0 0 4) = 0 then (some ((-1 : Int32), u0)) else ((pt u0 0 4 ((u0 0 4) - 1)).bind fun u2 => (rm ((u2 0 3) + (u2 0 4)) 8).bind fun x4 => (ix 8 x4).bind fun n6 => if g.pl (2 + n6) = true then ((C3_copyFrom g u2 0 (2 + n6)).bind fun u9 => some ((u9 0 4), u9)) else (some ((u2 0 4), u2)))
set_option maxHeartbeats 4000000 in
set_option maxRecDepth 100000 in
theorem c_X7_undo (l : Launch) (dC : Nat → ClassId) (dI : Nat → Nat → Nat) (cy : Nat → ClassId) (nb : Nat → Nat) (ad : CK → Nat) (ks : List CK) (g : CG) (hk : GA nb ad g ks) (u0 : RS)  (ro : Int32) (uz : RS) (sz : Nat) (hF : C7_undo g u0  = some (ro, uz)) : Met l yX7_undo (wsg yX7_undo cX7_undo 2 (some .int)) ({ frames := 9, cells := 0, slots := 0, locals := 400 }) (va_Pc [.ref (ad .cl)] (fun U => U.heap.size = sz ∧ va_P (dC, dI) vwCl (WC cy ad ks g u0) U.heap ∧ va_K (dC, dI) vwCl (tyL cy) U ∧ va_D (fun _ => True) (WC cy ad ks g u0) ∧ GE nb (va_A (WC cy ad ks g u0) sz) U)) (va_Qi (fun (r : Int32) (_ : Unit) => r = ro) (fun _ t => va_P (dC, dI) vwCl (WC cy ad ks g uz) t.heap ∧ va_D (va_A (WC cy ad ks g u0) sz) (WC cy ad ks g uz)) (va_A (WC cy ad ks g u0) sz)) 0 0 (va_A (WC cy ad ks g u0) sz) := by
  refine Met.ofW (cc := cX7_undo) (maxL := 2) (ret := (some .int)) pn_X7 rfl ?_
  intro p e s m args below meth c s₁ B hml hv
  obtain ⟨rfl, hsz, hP, hK, hD0, hE⟩ := hv
  have hx := B.exec
  have hb := B.bytes
  have hr := B.returns
  have hts0 := atoms_spec (ws := (wsg yX7_undo cX7_undo 2 (some .int))) B.pre
  have hts : ∀ w ∈ wsL_law, w.before _ s = true := fun w h => hts0 w (List.mem_cons_of_mem _ h)
  have hown : s.vm.findClass RX7 = some m.cls := by have h9 := findClass_of_methodNamed B.named; exact h9
  have hlocks := B.notSynchronized
  subst hsz
  have hD := hD0.self (sz := s.heap.size)
  generalize hAe : va_A (WC cy ad ks g u0) s.heap.size = A at hD hE ⊢
  have hA : ∀ q : Nat, s.heap.size ≤ q → A q := fun q h => by rw [← hAe]; exact Or.inr h
  have hS : va_S A s.heap s.heap [] := va_S.rf
  have hl := lv_entry ([.ref (ad .cl)]) (n := 2) (Nat.le_of_ble_eq_true rfl)
  rw [lg_entry_eq]
  generalize (lg_sl ([.ref (ad .cl)]) ++ List.replicate (2 - (lg_sl ([.ref (ad .cl)])).length) Slot.unset).toArray = ls at hl ⊢
  have hl : lv_has ls 2 [(0, .ref (ad .cl))] := hl
  generalize hHe : s.heap = H at hP hS ⊢
  have hS : va_S A s.heap H [] := by rw [hHe]; exact hS
  refine my_Q (fun Qn hQ => ?_)
  simp only [C7_undo] at hF
  refine lv_aload_n hx hb dX7_undo_0 rfl (lv_at hl 0 rfl) ?_
  obtain ⟨q9, h9⟩ := wc_at (cy := cy) (ad := ad) (ks := ks) (g := g) (u := u0) (κ := .cl) hk.1 True.intro
  refine va_get (D := (dC, dI)) (ci := 7) (v := .int (u0 0 4)) (C := RX7) (T := TX7) (N := 12) hx hb hts inlX7 hown hK hP q9 h9 rfl 11 (by decide) (hts _ mw_34) (fun _ h9 => h9) rfl dX7_undo_1 ?_
  clear h9
  refine lv_if_ne (tgt := 9) hx hb dX7_undo_4 (by decide) (fun c1 => ?_) (fun c1 => ?_)
  · rw [if_neg c1] at hF
    refine lv_aload_n hx hb dX7_undo_9 rfl (lv_at hl 0 rfl) ?_
    refine lv_dup hx hb dX7_undo_10 rfl ?_
    obtain ⟨q9, h9⟩ := wc_at (cy := cy) (ad := ad) (ks := ks) (g := g) (u := u0) (κ := .cl) hk.1 True.intro
    refine va_get (D := (dC, dI)) (ci := 7) (v := .int (u0 0 4)) (C := RX7) (T := TX7) (N := 12) hx hb hts inlX7 hown hK hP q9 h9 rfl 11 (by decide) (hts _ mw_34) (fun _ h9 => h9) rfl dX7_undo_11 ?_
    clear h9
    refine lv_iconst (v := 1) hx hb dX7_undo_14 (by decide) ?_
    refine lv_isub hx hb dX7_undo_15 ?_
    obtain ⟨q9, h9, ez9⟩ := wc_set (cy := cy) (ad := ad) (ks := ks) (g := g) (u := u0) (κ := .cl) (r := 0) (i := 4) (v := ((u0 0 4) - 1)) hk.1 True.intro (own_cl (by decide)) (sf_cl_11)
    refine va_put (D := (dC, dI)) (ci := 7) (v := .int ((u0 0 4) - 1)) (ty := .int) (C := RX7) (T := TX7) (N := 12) hx hb hts inlX7 tyX7 tyX7_ok nmX7 hown hK hP hD hS q9 h9 rfl 11 (by decide) (hts _ mw_34) (fun _ h9 => h9) rfl (by decide +kernel) rfl rfl (Nat.le_of_ble_eq_true rfl) dX7_undo_16 (fun H locs hP hD hS => ?_)
    obtain ⟨u2, e3, hF⟩ := ob hF
    have hP : va_P (dC, dI) vwCl (WC cy ad ks g u2) H := by rw [← pt_eq e3, ← ez9]; exact hP
    have hD : va_D A (WC cy ad ks g u2) := by rw [← pt_eq e3, ← ez9]; exact hD
    clear ez9 h9
    refine lv_aload_n hx hb dX7_undo_19 rfl (lv_at hl 0 rfl) ?_
    obtain ⟨q9, h9⟩ := wc_at (cy := cy) (ad := ad) (ks := ks) (g := g) (u := u2) (κ := .cl) hk.1 True.intro
    refine va_get (D := (dC, dI)) (ci := 7) (v := .ref (ad .pa)) (C := RX7) (T := TX7) (N := 12) hx hb hts inlX7 hown hK hP q9 h9 rfl 4 (by decide) (hts _ mw_26) (fun _ h9 => h9) rfl dX7_undo_20 ?_
    clear h9
    refine lv_aload_n hx hb dX7_undo_23 rfl (lv_at hl 0 rfl) ?_
    obtain ⟨q9, h9⟩ := wc_at (cy := cy) (ad := ad) (ks := ks) (g := g) (u := u2) (κ := .cl) hk.1 True.intro
    refine va_get (D := (dC, dI)) (ci := 7) (v := .int (u2 0 3)) (C := RX7) (T := TX7) (N := 12) hx hb hts inlX7 hown hK hP q9 h9 rfl 10 (by decide) (hts _ mw_33) (fun _ h9 => h9) rfl dX7_undo_24 ?_
    clear h9
    refine lv_aload_n hx hb dX7_undo_27 rfl (lv_at hl 0 rfl) ?_
    obtain ⟨q9, h9⟩ := wc_at (cy := cy) (ad := ad) (ks := ks) (g := g) (u := u2) (κ := .cl) hk.1 True.intro
    refine va_get (D := (dC, dI)) (ci := 7) (v := .int (u2 0 4)) (C := RX7) (T := TX7) (N := 12) hx hb hts inlX7 hown hK hP q9 h9 rfl 11 (by decide) (hts _ mw_34) (fun _ h9 => h9) rfl dX7_undo_28 ?_
    clear h9
    refine lv_iadd hx hb dX7_undo_31 ?_
    refine lv_bipush (v := 8) hx hb dX7_undo_32 (by decide) ?_
    obtain ⟨x4, e5, hF⟩ := ob hF
    refine lv_irem hx hb dX7_undo_34 (rm_ne e5) ?_
    refine my_topi (y := x4) (rm_eq e5) ?_
    obtain ⟨n6, e7, hF⟩ := ob hF
    by_cases c8 : g.pl (2 + n6) = true
    · rw [if_pos c8] at hF
      obtain ⟨q9, h9⟩ := wc_at (cy := cy) (ad := ad) (ks := ks) (g := g) (u := u2) (κ := .pa) hk.1 True.intro
      refine va_aldq hx hb hK hP q9 5 h9 rfl (ix_in e7) dX7_undo_35 ?_
      refine my_top (y := .ref (ad (.ln (2 + n6)))) (plv (F := fun j => ad (.ln (2 + j))) e7 c8) ?_
      clear h9
      refine lv_astore_n (lv' := [(1, .ref (ad (.ln (2 + n6)))), (0, .ref (ad .cl))]) hx hb dX7_undo_36 rfl hl (by decide) rfl (fun ls hl => ?_)
      refine lv_aload_n hx hb dX7_undo_37 rfl (lv_at hl 0 rfl) ?_
      refine lv_ifnull hx hb dX7_undo_38 ?_
      refine lv_aload_n hx hb dX7_undo_41 rfl (lv_at hl 1 rfl) ?_
      obtain ⟨q9, h9⟩ := wc_at (cy := cy) (ad := ad) (ks := ks) (g := g) (u := u2) (κ := .cl) hk.1 True.intro
      refine va_get (D := (dC, dI)) (ci := 7) (v := .ref (ad (.ln 0))) (C := RX7) (T := TX7) (N := 12) hx hb hts inlX7 hown hK hP q9 h9 rfl 0 (by decide) (hts _ mw_18) (fun _ h9 => h9) rfl dX7_undo_42 ?_
      clear h9
      refine lv_aload_n hx hb dX7_undo_45 rfl (lv_at hl 0 rfl) ?_
      obtain ⟨u9, e10, hF⟩ := ob hF
      have hPc := hP
      have hDc := hD
      have hFc := my_free hD hS hA
      obtain ⟨q8, h8⟩ := wc_at (cy := cy) (ad := ad) (ks := ks) (g := g) (u := u2) (κ := (.ln 0)) hk.1 (Or.inl (by decide))
      refine va_callv (va_runV (As := [.ref (ad (.ln (2 + n6)))]) (rest := []) ⟨hx, hb, hml, hown, hts⟩ (c_X3_copyFrom l dC dI cy nb ad ks g hk u2 0 (2 + n6) (u9) H.size (Or.inl (by decide)) (Or.inr ⟨by have := ix_lt e7; omega, c8⟩) e10) (cwV 1 hts (gV mw_392 mw_393 mw_394 mw_17 mw_395) rfl rfl rfl (by decide +kernel) ⟨Nat.le_of_ble_eq_true rfl, Nat.le_of_ble_eq_true rfl⟩) (my_preV hPc hK hDc hE hS hFc (va_recv (q := (RX3, TX3, 17)) hK hP (ci := 3) (q0 := q8) rfl h8)) rfl rfl hl.1 rfl (lv_room (Nat.le_of_ble_eq_true rfl)) dX7_undo_46 ⟨Nat.le_of_ble_eq_true rfl, Nat.le_of_ble_eq_true rfl⟩) hS (fun q _ h => hFc q h) hFc (fun u t H1 locs ht hvm hw hB hz1 hk1 hS => ?_)
      clear h8
      obtain ⟨hP1, hD1⟩ := hB
      rw [ht] at hP1
      have hP := hP1
      have hD := hD1.weaken (fun k q _ h => hFc q.1 h)
      generalize H1 = H at hP hS ⊢
      clear hP1 hD1 hPc hDc hFc hk1 hz1 hvm ht
      refine lv_aload_n hx hb dX7_undo_49 rfl (lv_at hl 1 rfl) ?_
      obtain ⟨q9, h9⟩ := wc_at (cy := cy) (ad := ad) (ks := ks) (g := g) (u := u9) (κ := .cl) hk.1 True.intro
      refine va_get (D := (dC, dI)) (ci := 7) (v := .int (u9 0 4)) (C := RX7) (T := TX7) (N := 12) hx hb hts inlX7 hown hK hP q9 h9 rfl 11 (by decide) (hts _ mw_34) (fun _ h9 => h9) rfl dX7_undo_50 ?_
      clear h9
      have hZ := s1 hF
      have zro : (u9 0 4) = ro := (congrArg (fun q => q.1) hZ)
      have zuz : u9 = uz := (congrArg (fun q => q.2) hZ)
      have hP9 : va_P (dC, dI) vwCl (WC cy ad ks g uz) H := by rw [← zuz]; exact hP
      have hD9 : va_D A (WC cy ad ks g uz) := by rw [← zuz]; exact hD
      rw [hQ]
      exact W.iret (v := (u9 0 4)) hx hb hr (fun t ht hW => ⟨⟨(u9 0 4), (), rfl, zro, by rw [ht]; exact hP9, hD9⟩, hS.F ht⟩) hS.2.2 dX7_undo_53
    · rw [if_neg c8] at hF
      obtain ⟨q9, h9⟩ := wc_at (cy := cy) (ad := ad) (ks := ks) (g := g) (u := u2) (κ := .pa) hk.1 True.intro
      refine va_aldq hx hb hK hP q9 5 h9 rfl (ix_in e7) dX7_undo_35 ?_
      refine my_top (y := .null) (plv_n (F := fun j => ad (.ln (2 + j))) e7 c8) ?_
      clear h9
      refine lv_astore_nN (lv' := [(1, .null), (0, .ref (ad .cl))]) hx hb dX7_undo_36 rfl hl (by decide) rfl (fun ls hl => ?_)
      refine lv_aload_nN hx hb dX7_undo_37 rfl (lv_at hl 0 rfl) ?_
      refine lv_ifnullN (tgt := 49) hx hb dX7_undo_38 (by decide) ?_
      refine lv_aload_n hx hb dX7_undo_49 rfl (lv_at hl 1 rfl) ?_
      obtain ⟨q9, h9⟩ := wc_at (cy := cy) (ad := ad) (ks := ks) (g := g) (u := u2) (κ := .cl) hk.1 True.intro
      refine va_get (D := (dC, dI)) (ci := 7) (v := .int (u2 0 4)) (C := RX7) (T := TX7) (N := 12) hx hb hts inlX7 hown hK hP q9 h9 rfl 11 (by decide) (hts _ mw_34) (fun _ h9 => h9) rfl dX7_undo_50 ?_
      clear h9
      have hZ := s1 hF
      have zro : (u2 0 4) = ro := (congrArg (fun q => q.1) hZ)
      have zuz : u2 = uz := (congrArg (fun q => q.2) hZ)
      have hP9 : va_P (dC, dI) vwCl (WC cy ad ks g uz) H := by rw [← zuz]; exact hP
      have hD9 : va_D A (WC cy ad ks g uz) := by rw [← zuz]; exact hD
      rw [hQ]
      exact W.iret (v := (u2 0 4)) hx hb hr (fun t ht hW => ⟨⟨(u2 0 4), (), rfl, zro, by rw [ht]; exact hP9, hD9⟩, hS.F ht⟩) hS.2.2 dX7_undo_53
  · rw [if_pos c1] at hF
    refine lv_iconst (v := (-1)) hx hb dX7_undo_7 (by decide) ?_
    have hZ := s1 hF
    have zro : (-1 : Int32) = ro := (congrArg (fun q => q.1) hZ)
    have zuz : u0 = uz := (congrArg (fun q => q.2) hZ)
    have hP9 : va_P (dC, dI) vwCl (WC cy ad ks g uz) H := by rw [← zuz]; exact hP
    have hD9 : va_D A (WC cy ad ks g uz) := by rw [← zuz]; exact hD
    rw [hQ]
    exact W.iret (v := (-1 : Int32)) hx hb hr (fun t ht hW => ⟨⟨(-1 : Int32), (), rfl, zro, by rw [ht]; exact hP9, hD9⟩, hS.F ht⟩) hS.2.2 dX7_undo_8
noncomputable def C7_writeCard_L34 (u0 : RS) (n4 : Nat) (a1 : Int32) (g : CG) : Nat → Int32 → RS → Option (Int32 × RS)
  | 0, _, _ => none
  | m17 + 1, y10, u11 => if (u11 0 0) ≤ y10 then (some ((y10, u11))) else ((tbt g u11 (u0 (10 + 0) (137 + 25 * n4 + 2)) y10).bind fun x19 => (ws u11 1 16 y10 (vp_nar .byte ((97 + x19)).toInt8.toInt32)).bind fun u21 => C7_writeCard_L34 u0 n4 a1 g m17 ((y10 + 1)) u21)
noncomputable def C7_writeCard (g : CG) (u0 : RS) (a1 : Int32) : Option (Sum Int32 (Int32 × RS)) := (C7_needCard g u0 (a1)).bind fun t1 => tr t1 fun t3 => (ix 30 a1).bind fun n4 => (tln g u0 (u0 (10 + 0) (137 + 25 * n4 + 2))).bind fun x6 => (pt u0 0 0 (if (16 : Int32) < x6 then (16 : Int32) else x6)).bind fun u8 => (C7_writeCard_L34 u0 n4 a1 g FUEL (0 : Int32) u8).bind fun t12 => some (.inr (((t12.2) 0 0), (t12.2)))
set_option maxHeartbeats 4000000 in
set_option maxRecDepth 100000 in
theorem c_X7_writeCard (l : Launch) (dC : Nat → ClassId) (dI : Nat → Nat → Nat) (cy : Nat → ClassId) (nb : Nat → Nat) (ad : CK → Nat) (ks : List CK) (g : CG) (hk : GA nb ad g ks) (u0 : RS) (a1 : Int32) (ro : Int32) (uz : RS) (sz : Nat) (hF : C7_writeCard g u0 a1 = some (.inr (ro, uz))) : Met l yX7_writeCard (wsg yX7_writeCard cX7_writeCard 4 (some .int)) ({ frames := 8, cells := 0, slots := 0, locals := 300 }) (va_Pc [.ref (ad .cl), .int a1] (fun U => U.heap.size = sz ∧ va_P (dC, dI) vwCl (WC cy ad ks g u0) U.heap ∧ va_K (dC, dI) vwCl (tyL cy) U ∧ va_D (fun _ => True) (WC cy ad ks g u0) ∧ GE nb (va_A (WC cy ad ks g u0) sz) U)) (va_Qi (fun (r : Int32) (_ : Unit) => r = ro) (fun _ t => va_P (dC, dI) vwCl (WC cy ad ks g uz) t.heap ∧ va_D (va_A (WC cy ad ks g u0) sz) (WC cy ad ks g uz)) (va_A (WC cy ad ks g u0) sz)) 0 0 (va_A (WC cy ad ks g u0) sz) := by
  refine Met.ofW (cc := cX7_writeCard) (maxL := 4) (ret := (some .int)) pn_X7 rfl ?_
  intro p e s m args below meth c s₁ B hml hv
  obtain ⟨rfl, hsz, hP, hK, hD0, hE⟩ := hv
  have hx := B.exec
  have hb := B.bytes
  have hr := B.returns
  have hts0 := atoms_spec (ws := (wsg yX7_writeCard cX7_writeCard 4 (some .int))) B.pre
  have hts : ∀ w ∈ wsL_law, w.before _ s = true := fun w h => hts0 w (List.mem_cons_of_mem _ h)
  have hown : s.vm.findClass RX7 = some m.cls := by have h9 := findClass_of_methodNamed B.named; exact h9
  have hlocks := B.notSynchronized
  subst hsz
  have hD := hD0.self (sz := s.heap.size)
  generalize hAe : va_A (WC cy ad ks g u0) s.heap.size = A at hD hE ⊢
  have hA : ∀ q : Nat, s.heap.size ≤ q → A q := fun q h => by rw [← hAe]; exact Or.inr h
  have hS : va_S A s.heap s.heap [] := va_S.rf
  have hl := lv_entry ([.ref (ad .cl), .int a1]) (n := 4) (Nat.le_of_ble_eq_true rfl)
  rw [lg_entry_eq]
  generalize (lg_sl ([.ref (ad .cl), .int a1]) ++ List.replicate (4 - (lg_sl ([.ref (ad .cl), .int a1])).length) Slot.unset).toArray = ls at hl ⊢
  have hl : lv_has ls 4 [(0, .ref (ad .cl)), (1, .int a1)] := hl
  generalize hHe : s.heap = H at hP hS ⊢
  have hS : va_S A s.heap H [] := by rw [hHe]; exact hS
  refine my_Q (fun Qn hQ => ?_)
  simp only [C7_writeCard] at hF
  refine lv_aload_n hx hb dX7_writeCard_0 rfl (lv_at hl 0 rfl) ?_
  refine lv_iload_n hx hb dX7_writeCard_1 rfl (lv_at hl 1 rfl) ?_
  obtain ⟨t1, e2, hF⟩ := ob hF
  rcases t1 with xz9 | t3
  · have hF : some (Sum.inl xz9) = some (.inr (ro, uz)) := hF
    cases hF
  · dsimp only [tr] at hF
    have hPc := hP
    have hDc := hD
    have hFc := my_free hD hS hA
    obtain ⟨q8, h8⟩ := wc_at (cy := cy) (ad := ad) (ks := ks) (g := g) (u := u0) (κ := .cl) hk.1 True.intro
    refine va_callv (va_runV (As := [.int a1]) (rest := []) ⟨hx, hb, hml, hown, hts⟩ (c_X7_needCard l dC dI cy nb ad ks g hk u0 (a1) H.size e2) (cwV 1 hts (gV mw_666 mw_667 mw_668 mw_2 mw_669) rfl rfl rfl (by decide +kernel) ⟨Nat.le_of_ble_eq_true rfl, Nat.le_of_ble_eq_true rfl⟩) (my_preV hPc hK hDc hE hS hFc (va_recv (q := (RX7, TX7, 12)) hK hP (ci := 7) (q0 := q8) rfl h8)) rfl rfl hl.1 rfl (lv_room (Nat.le_of_ble_eq_true rfl)) dX7_writeCard_2 ⟨Nat.le_of_ble_eq_true rfl, Nat.le_of_ble_eq_true rfl⟩) hS (fun q _ h => hFc q h) hFc (fun u t H1 locs ht hvm hw hB hz1 hk1 hS => ?_)
    clear h8
    obtain ⟨hP1, hD1⟩ := hB
    rw [ht] at hP1
    have hP := hP1
    have hD := hD1.weaken (fun k q _ h => hFc q.1 h)
    generalize H1 = H at hP hS ⊢
    clear hP1 hD1 hPc hDc hFc hk1 hz1 hvm ht
    refine lv_aload_n hx hb dX7_writeCard_5 rfl (lv_at hl 0 rfl) ?_
    obtain ⟨q9, h9⟩ := wc_at (cy := cy) (ad := ad) (ks := ks) (g := g) (u := u0) (κ := .cl) hk.1 True.intro
    refine va_get (D := (dC, dI)) (ci := 7) (v := .ref (ad (.ln 0))) (C := RX7) (T := TX7) (N := 12) hx hb hts inlX7 hown hK hP q9 h9 rfl 0 (by decide) (hts _ mw_18) (fun _ h9 => h9) rfl dX7_writeCard_6 ?_
    clear h9
    obtain ⟨q9, h9⟩ := wc_at (cy := cy) (ad := ad) (ks := ks) (g := g) (u := u0) (κ := (.ln 0)) hk.1 (Or.inl (by decide))
    refine va_get (D := (dC, dI)) (ci := 3) (v := .ref (ad (.cs 0))) (C := RX3) (T := TX3) (N := 17) hx hb hts inlX3 hown hK hP q9 h9 rfl 12 (by decide) (hts _ mw_657) (fun _ h9 => h9) rfl dX7_writeCard_9 ?_
    clear h9
    refine lv_iload_n hx hb dX7_writeCard_12 rfl (lv_at hl 1 rfl) ?_
    obtain ⟨n4, e5, hF⟩ := ob hF
    obtain ⟨q9, h9⟩ := wc_at (cy := cy) (ad := ad) (ks := ks) (g := g) (u := u0) (κ := (.cs 0)) hk.1 (Or.inl (by decide))
    refine va_aldq hx hb hK hP q9 8 h9 rfl (ix_in e5) dX7_writeCard_13 ?_
    refine my_top (y := .ref (ad (.cd 0 n4))) (ixv (F := fun j => ad (.cd 0 j)) e5) ?_
    clear h9
    obtain ⟨q9, h9⟩ := wc_at (cy := cy) (ad := ad) (ks := ks) (g := g) (u := u0) (κ := (.cd 0 n4)) hk.1 ⟨(Or.inl (by decide)), (ix_lt e5)⟩
    refine va_get (D := (dC, dI)) (ci := 2) (v := .ref (ad (.tx (u0 (10 + 0) (137 + 25 * n4 + 2)).toNatClampNeg))) (C := RX1) (T := TX1) (N := 9) hx hb hts inlX1 hown hK hP q9 h9 rfl 2 (by decide) (hts _ mw_660) (fun _ h9 => h9) rfl dX7_writeCard_14 ?_
    clear h9
    refine lv_astore_n (lv' := [(2, .ref (ad (.tx (u0 (10 + 0) (137 + 25 * n4 + 2)).toNatClampNeg))), (0, .ref (ad .cl)), (1, .int a1)]) hx hb dX7_writeCard_17 rfl hl (by decide) rfl (fun ls hl => ?_)
    refine lv_aload_n hx hb dX7_writeCard_18 rfl (lv_at hl 1 rfl) ?_
    refine lv_aload_n hx hb dX7_writeCard_19 rfl (lv_at hl 0 rfl) ?_
    obtain ⟨x6, e7, hF⟩ := ob hF
    obtain ⟨q9, h9⟩ := wc_at (cy := cy) (ad := ad) (ks := ks) (g := g) (u := u0) (κ := (.tx (u0 (10 + 0) (137 + 25 * n4 + 2)).toNatClampNeg)) hk.1 (tln_h e7)
    refine va_alen (v := x6) hx hb hK hP q9 0 h9 (ty := .byte) rfl (tln_l e7) dX7_writeCard_20 ?_
    clear h9
    refine lv_aload_n hx hb dX7_writeCard_21 rfl (lv_at hl 1 rfl) ?_
    obtain ⟨q9, h9⟩ := wc_at (cy := cy) (ad := ad) (ks := ks) (g := g) (u := u0) (κ := .cl) hk.1 True.intro
    refine va_get (D := (dC, dI)) (ci := 7) (v := .ref (ad .ou)) (C := RX7) (T := TX7) (N := 12) hx hb hts inlX7 hown hK hP q9 h9 rfl 3 (by decide) (hts _ mw_25) (fun _ h9 => h9) rfl dX7_writeCard_22 ?_
    clear h9
    obtain ⟨q9, h9⟩ := wc_at (cy := cy) (ad := ad) (ks := ks) (g := g) (u := u0) (κ := .ou) hk.1 True.intro
    refine va_alen (v := 16) hx hb hK hP q9 0 h9 rfl rfl dX7_writeCard_25 ?_
    clear h9
    refine va_mmin hx hb (hml.trans hl.1.symm) hown (hts _ mw_1459) (hts _ mw_233) (hts _ mw_234) (hts _ mw_235) (Nat.le_of_ble_eq_true rfl) (Nat.le_of_ble_eq_true rfl) (Nat.le_of_ble_eq_true rfl) (Nat.le_of_ble_eq_true rfl) dX7_writeCard_26 ?_
    obtain ⟨q9, h9, ez9⟩ := wc_set (cy := cy) (ad := ad) (ks := ks) (g := g) (u := u0) (κ := .cl) (r := 0) (i := 0) (v := (if (16 : Int32) < x6 then (16 : Int32) else x6)) hk.1 True.intro (own_cl (by decide)) (sf_cl_7)
    refine va_put (D := (dC, dI)) (ci := 7) (v := .int (if (16 : Int32) < x6 then (16 : Int32) else x6)) (ty := .int) (C := RX7) (T := TX7) (N := 12) hx hb hts inlX7 tyX7 tyX7_ok nmX7 hown hK hP hD hS q9 h9 rfl 7 (by decide) (hts _ mw_30) (fun _ h9 => h9) rfl (by decide +kernel) rfl rfl (Nat.le_of_ble_eq_true rfl) dX7_writeCard_29 (fun H locs hP hD hS => ?_)
    obtain ⟨u8, e9, hF⟩ := ob hF
    have hP : va_P (dC, dI) vwCl (WC cy ad ks g u8) H := by rw [← pt_eq e9, ← ez9]; exact hP
    have hD : va_D A (WC cy ad ks g u8) := by rw [← pt_eq e9, ← ez9]; exact hD
    clear ez9 h9
    refine lv_iconst (v := 0) hx hb dX7_writeCard_32 (by decide) ?_
    refine lv_istore_n (lv' := [(3, .int 0), (2, .ref (ad (.tx (u0 (10 + 0) (137 + 25 * n4 + 2)).toNatClampNeg))), (0, .ref (ad .cl)), (1, .int a1)]) hx hb dX7_writeCard_33 rfl hl (by decide) rfl (fun ls hl => ?_)
    obtain ⟨t12, hL13, hF⟩ := ob hF
    have kx14 : ∀ (H : Heap) (locs : List Loc) (ls : Array Slot), va_P (dC, dI) vwCl (WC cy ad ks g (t12.2)) H → va_D A (WC cy ad ks g (t12.2)) → va_S A s.heap H locs → lv_has ls 4 [(3, .int (t12.1)), (2, .ref (ad (.tx (u0 (10 + 0) (137 + 25 * n4 + 2)).toNatClampNeg))), (0, .ref (ad .cl)), (1, .int a1)] → W p l e (headSpec (wsg yX7_writeCard cX7_writeCard 4 (some .int)) ({ frames := 8, cells := 0, slots := 0, locals := 300 })).room s m ([.ref (ad .cl), .int a1] : List Value).toArray below meth c H locs 0 0 Qn (F0 m 61 ls []) := by
      intro H locs ls hP hD hS hl
      refine lv_aload_n hx hb dX7_writeCard_61 rfl (lv_at hl 2 rfl) ?_
      obtain ⟨q9, h9⟩ := wc_at (cy := cy) (ad := ad) (ks := ks) (g := g) (u := (t12.2)) (κ := .cl) hk.1 True.intro
      refine va_get (D := (dC, dI)) (ci := 7) (v := .int ((t12.2) 0 0)) (C := RX7) (T := TX7) (N := 12) hx hb hts inlX7 hown hK hP q9 h9 rfl 7 (by decide) (hts _ mw_30) (fun _ h9 => h9) rfl dX7_writeCard_62 ?_
      clear h9
      have hZ := s3 hF
      have zro : ((t12.2) 0 0) = ro := (congrArg (fun q => q.1) hZ)
      have zuz : (t12.2) = uz := (congrArg (fun q => q.2) hZ)
      have hP9 : va_P (dC, dI) vwCl (WC cy ad ks g uz) H := by rw [← zuz]; exact hP
      have hD9 : va_D A (WC cy ad ks g uz) := by rw [← zuz]; exact hD
      rw [hQ]
      exact W.iret (v := ((t12.2) 0 0)) hx hb hr (fun t ht hW => ⟨⟨((t12.2) 0 0), (), rfl, zro, by rw [ht]; exact hP9, hD9⟩, hS.F ht⟩) hS.2.2 dX7_writeCard_65
    clear hF
    have loop16 : ∀ (m17 : Nat) (y10 : Int32) (u11 : RS), C7_writeCard_L34 u0 n4 a1 g m17 y10 u11 = some t12 → ∀ (H : Heap) (locs : List Loc) (ls : Array Slot), va_P (dC, dI) vwCl (WC cy ad ks g u11) H → va_D A (WC cy ad ks g u11) → va_S A s.heap H locs → lv_has ls 4 [(3, .int y10), (2, .ref (ad (.tx (u0 (10 + 0) (137 + 25 * n4 + 2)).toNatClampNeg))), (0, .ref (ad .cl)), (1, .int a1)] → W p l e (headSpec (wsg yX7_writeCard cX7_writeCard 4 (some .int)) ({ frames := 8, cells := 0, slots := 0, locals := 300 })).room s m ([.ref (ad .cl), .int a1] : List Value).toArray below meth c H locs 0 0 Qn (F0 m 34 ls []) := by
      intro m17
      induction m17 with
      | zero => intro y10 u11 hF; cases hF
      | succ m17 ih =>
        intro y10 u11 hF H locs ls hP hD hS hl
        simp only [C7_writeCard_L34] at hF
        refine lv_iload_n hx hb dX7_writeCard_34 rfl (lv_at hl 0 rfl) ?_
        refine lv_aload_n hx hb dX7_writeCard_35 rfl (lv_at hl 2 rfl) ?_
        obtain ⟨q9, h9⟩ := wc_at (cy := cy) (ad := ad) (ks := ks) (g := g) (u := u11) (κ := .cl) hk.1 True.intro
        refine va_get (D := (dC, dI)) (ci := 7) (v := .int (u11 0 0)) (C := RX7) (T := TX7) (N := 12) hx hb hts inlX7 hown hK hP q9 h9 rfl 7 (by decide) (hts _ mw_30) (fun _ h9 => h9) rfl dX7_writeCard_36 ?_
        clear h9
        refine lv_icmp_ge (tgt := 61) hx hb dX7_writeCard_39 (by decide) (fun c18 => ?_) (fun c18 => ?_)
        · rw [if_pos c18] at hF
          have ht := s1 hF
          subst ht
          exact kx14 _ _ _ hP hD hS (lv_sub hl [0, 1, 2, 3] rfl)
        · rw [if_neg c18] at hF
          refine lv_aload_n hx hb dX7_writeCard_42 rfl (lv_at hl 2 rfl) ?_
          obtain ⟨q9, h9⟩ := wc_at (cy := cy) (ad := ad) (ks := ks) (g := g) (u := u11) (κ := .cl) hk.1 True.intro
          refine va_get (D := (dC, dI)) (ci := 7) (v := .ref (ad .ou)) (C := RX7) (T := TX7) (N := 12) hx hb hts inlX7 hown hK hP q9 h9 rfl 3 (by decide) (hts _ mw_25) (fun _ h9 => h9) rfl dX7_writeCard_43 ?_
          clear h9
          refine lv_iload_n hx hb dX7_writeCard_46 rfl (lv_at hl 0 rfl) ?_
          refine lv_bipush (v := 97) hx hb dX7_writeCard_47 (by decide) ?_
          refine lv_aload_n hx hb dX7_writeCard_49 rfl (lv_at hl 1 rfl) ?_
          refine lv_iload_n hx hb dX7_writeCard_50 rfl (lv_at hl 0 rfl) ?_
          obtain ⟨x19, e20, hF⟩ := ob hF
          obtain ⟨q9, h9⟩ := wc_at (cy := cy) (ad := ad) (ks := ks) (g := g) (u := u11) (κ := (.tx (u0 (10 + 0) (137 + 25 * n4 + 2)).toNatClampNeg)) hk.1 (tbt_h e20)
          refine va_bald hx hb hK hP q9 0 h9 rfl (tbt_in e20) dX7_writeCard_51 ?_
          refine my_topi (y := x19) (tbt_eq e20) ?_
          clear h9
          refine lv_iadd hx hb dX7_writeCard_52 ?_
          refine lv_i2b (v := ((97 + x19)).toInt8.toInt32) hx hb dX7_writeCard_53 rfl ?_
          obtain ⟨u21, e22, hF⟩ := ob hF
          obtain ⟨q9, h9, ez9⟩ := wc_set (cy := cy) (ad := ad) (ks := ks) (g := g) (u := u11) (κ := .ou) (r := 1) (i := (y10 : Int32).toNatClampNeg) (v := (vp_nar .byte ((97 + x19)).toInt8.toInt32)) hk.1 True.intro own_ou (sf_ou)
          refine va_bast hx hb hK hP hD hS q9 0 h9 rfl (ws_in e22) dX7_writeCard_54 (fun H locs hP hD hS => ?_)
          have hP : va_P (dC, dI) vwCl (WC cy ad ks g u21) H := by rw [← ws_eq e22, ← ez9]; exact hP
          have hD : va_D A (WC cy ad ks g u21) := by rw [← ws_eq e22, ← ez9]; exact hD
          clear ez9 h9
          refine lv_iinc (v := (y10 + 1)) (lv' := [(3, .int (y10 + 1)), (2, .ref (ad (.tx (u0 (10 + 0) (137 + 25 * n4 + 2)).toNatClampNeg))), (0, .ref (ad .cl)), (1, .int a1)]) hx hb dX7_writeCard_55 hl (k := 0) rfl (by rfl) (by decide) rfl (fun ls hl => ?_)
          refine lv_goto (tgt := 34) hx hb dX7_writeCard_58 (by decide) ?_
          exact ih _ _ hF _ _ _ hP hD hS (lv_sub hl [0, 1, 2, 3] rfl)
    exact loop16 FUEL _ _ hL13 _ _ _ hP hD hS (lv_sub hl [0, 1, 2, 3] rfl)
noncomputable def C7_yieldPart (g : CG) (u0 : RS)  : Option (UInt64) := (if (u0 (10 + 0) (12 + 0)) = 0 then (some FP.dconst0) else ((dd (FP.i2d (u0 (400 + 0) 3)) (FP.i2d (u0 (10 + 0) (12 + 0)))).bind fun x5 => some x5) : Option (UInt64)).bind fun t2 => some t2
set_option maxHeartbeats 4000000 in
set_option maxRecDepth 100000 in
theorem c_X7_yieldPart (l : Launch) (dC : Nat → ClassId) (dI : Nat → Nat → Nat) (cy : Nat → ClassId) (nb : Nat → Nat) (ad : CK → Nat) (ks : List CK) (g : CG) (hk : GA nb ad g ks) (u0 : RS)  (ro : UInt64) (sz : Nat) (hF : C7_yieldPart g u0  = some ro) : Met l yX7_yieldPart (wsg yX7_yieldPart cX7_yieldPart 2 (some .double)) ({ frames := 7, cells := 0, slots := 0, locals := 200 }) (va_Pc [.ref (ad .cl)] (fun U => U.heap.size = sz ∧ va_P (dC, dI) vwCl (WC cy ad ks g u0) U.heap ∧ va_K (dC, dI) vwCl (tyL cy) U ∧ va_D (fun _ => True) (WC cy ad ks g u0) ∧ GE nb (va_A (WC cy ad ks g u0) sz) U)) (va_Qd (fun (r : UInt64) (_ : Unit) => r = ro) (fun _ t => va_P (dC, dI) vwCl (WC cy ad ks g u0) t.heap ∧ va_D (va_A (WC cy ad ks g u0) sz) (WC cy ad ks g u0)) (va_A (WC cy ad ks g u0) sz)) 0 0 (va_A (WC cy ad ks g u0) sz) := by
  refine Met.ofW (cc := cX7_yieldPart) (maxL := 2) (ret := (some .double)) pn_X7 rfl ?_
  intro p e s m args below meth c s₁ B hml hv
  obtain ⟨rfl, hsz, hP, hK, hD0, hE⟩ := hv
  have hx := B.exec
  have hb := B.bytes
  have hr := B.returns
  have hts0 := atoms_spec (ws := (wsg yX7_yieldPart cX7_yieldPart 2 (some .double))) B.pre
  have hts : ∀ w ∈ wsL_law, w.before _ s = true := fun w h => hts0 w (List.mem_cons_of_mem _ h)
  have hown : s.vm.findClass RX7 = some m.cls := by have h9 := findClass_of_methodNamed B.named; exact h9
  have hlocks := B.notSynchronized
  subst hsz
  have hD := hD0.self (sz := s.heap.size)
  generalize hAe : va_A (WC cy ad ks g u0) s.heap.size = A at hD hE ⊢
  have hA : ∀ q : Nat, s.heap.size ≤ q → A q := fun q h => by rw [← hAe]; exact Or.inr h
  have hS : va_S A s.heap s.heap [] := va_S.rf
  have hl := lv_entry ([.ref (ad .cl)]) (n := 2) (Nat.le_of_ble_eq_true rfl)
  rw [lg_entry_eq]
  generalize (lg_sl ([.ref (ad .cl)]) ++ List.replicate (2 - (lg_sl ([.ref (ad .cl)])).length) Slot.unset).toArray = ls at hl ⊢
  have hl : lv_has ls 2 [(0, .ref (ad .cl))] := hl
  generalize hHe : s.heap = H at hP hS ⊢
  have hS : va_S A s.heap H [] := by rw [hHe]; exact hS
  refine my_Q (fun Qn hQ => ?_)
  simp only [C7_yieldPart] at hF
  refine lv_aload_n hx hb dX7_yieldPart_0 rfl (lv_at hl 0 rfl) ?_
  obtain ⟨q9, h9⟩ := wc_at (cy := cy) (ad := ad) (ks := ks) (g := g) (u := u0) (κ := .cl) hk.1 True.intro
  refine va_get (D := (dC, dI)) (ci := 7) (v := .ref (ad (.ln 0))) (C := RX7) (T := TX7) (N := 12) hx hb hts inlX7 hown hK hP q9 h9 rfl 0 (by decide) (hts _ mw_18) (fun _ h9 => h9) rfl dX7_yieldPart_1 ?_
  clear h9
  obtain ⟨q9, h9⟩ := wc_at (cy := cy) (ad := ad) (ks := ks) (g := g) (u := u0) (κ := (.ln 0)) hk.1 (Or.inl (by decide))
  refine va_get (D := (dC, dI)) (ci := 3) (v := .ref (ad (.tt 0))) (C := RX3) (T := TX3) (N := 17) hx hb hts inlX3 hown hK hP q9 h9 rfl 15 (by decide) (hts _ mw_909) (fun _ h9 => h9) rfl dX7_yieldPart_4 ?_
  clear h9
  refine lv_iconst (v := 0) hx hb dX7_yieldPart_7 (by decide) ?_
  obtain ⟨q9, h9⟩ := wc_at (cy := cy) (ad := ad) (ks := ks) (g := g) (u := u0) (κ := (.tt 0)) hk.1 (Or.inl (by decide))
  refine va_iald hx hb hK hP q9 1 h9 rfl (vp_in_nI (n := 0) (by decide) (by decide)) dX7_yieldPart_8 ?_
  refine my_topi (y := (u0 (10 + 0) (12 + 0))) (by rfl) ?_
  clear h9
  refine lv_istore_n (lv' := [(1, .int (u0 (10 + 0) (12 + 0))), (0, .ref (ad .cl))]) hx hb dX7_yieldPart_9 rfl hl (by decide) rfl (fun ls hl => ?_)
  refine lv_iload_n hx hb dX7_yieldPart_10 rfl (lv_at hl 0 rfl) ?_
  obtain ⟨t2, hJ3, hF⟩ := ob hF
  have join4 : ∀ (H : Heap) (locs : List Loc) (ls : Array Slot), va_P (dC, dI) vwCl (WC cy ad ks g u0) H → va_D A (WC cy ad ks g u0) → va_S A s.heap H locs → lv_has ls 2 [(1, .int (u0 (10 + 0) (12 + 0))), (0, .ref (ad .cl))] → W p l e (headSpec (wsg yX7_yieldPart cX7_yieldPart 2 (some .double)) ({ frames := 7, cells := 0, slots := 0, locals := 200 })).room s m ([.ref (ad .cl)] : List Value).toArray below meth c H locs 0 0 Qn (F0 m 31 ls [.double t2]) := by
    intro H locs ls hP hD hS hl
    have hZ := s1 hF
    have zro : t2 = ro := hZ
    have hP9 : va_P (dC, dI) vwCl (WC cy ad ks g u0) H := by exact hP
    have hD9 : va_D A (WC cy ad ks g u0) := by exact hD
    rw [hQ]
    exact W.dret (v := t2) hx hb hr (fun t ht hW => ⟨⟨t2, (), rfl, zro, by rw [ht]; exact hP9, hD9⟩, hS.F ht⟩) hS.2.2 dX7_yieldPart_31
  clear hF
  have hF := hJ3
  clear hJ3
  refine lv_if_ne (tgt := 18) hx hb dX7_yieldPart_11 (by decide) (fun c1 => ?_) (fun c1 => ?_)
  · rw [if_neg c1] at hF
    refine lv_aload_n hx hb dX7_yieldPart_18 rfl (lv_at hl 1 rfl) ?_
    obtain ⟨q9, h9⟩ := wc_at (cy := cy) (ad := ad) (ks := ks) (g := g) (u := u0) (κ := .cl) hk.1 True.intro
    refine va_get (D := (dC, dI)) (ci := 7) (v := .ref (ad (.ln 0))) (C := RX7) (T := TX7) (N := 12) hx hb hts inlX7 hown hK hP q9 h9 rfl 0 (by decide) (hts _ mw_18) (fun _ h9 => h9) rfl dX7_yieldPart_19 ?_
    clear h9
    obtain ⟨q9, h9⟩ := wc_at (cy := cy) (ad := ad) (ks := ks) (g := g) (u := u0) (κ := (.ln 0)) hk.1 (Or.inl (by decide))
    refine va_get (D := (dC, dI)) (ci := 3) (v := .ref (ad (.is 0))) (C := RX3) (T := TX3) (N := 17) hx hb hts inlX3 hown hK hP q9 h9 rfl 13 (by decide) (hts _ mw_574) (fun _ h9 => h9) rfl dX7_yieldPart_22 ?_
    clear h9
    refine lv_iconst (v := 3) hx hb dX7_yieldPart_25 (by decide) ?_
    obtain ⟨q9, h9⟩ := wc_at (cy := cy) (ad := ad) (ks := ks) (g := g) (u := u0) (κ := (.is 0)) hk.1 (Or.inl (by decide))
    refine va_iald hx hb hK hP q9 1 h9 rfl (vp_in_nI (n := 3) (by decide) (by decide)) dX7_yieldPart_26 ?_
    refine my_topi (y := (u0 (400 + 0) 3)) (by rfl) ?_
    clear h9
    refine lv_i2d hx hb dX7_yieldPart_27 ?_
    refine lv_iload_n hx hb dX7_yieldPart_28 rfl (lv_at hl 0 rfl) ?_
    refine lv_i2d hx hb dX7_yieldPart_29 ?_
    obtain ⟨x5, e6, hF⟩ := ob hF
    refine lv_ddiv hx hb dX7_yieldPart_30 (dd_n e6) ?_
    refine my_top (y := .double x5) (by rw [dd_e e6]) ?_
    have ht := s1 hF
    subst ht
    exact join4 _ _ _ hP hD hS (lv_sub hl [0, 1] rfl)
  · rw [if_pos c1] at hF
    refine lv_dconst0 hx hb dX7_yieldPart_14 ?_
    refine lv_goto (tgt := 31) hx hb dX7_yieldPart_15 (by decide) ?_
    have ht := s1 hF
    subst ht
    exact join4 _ _ _ hP hD hS (lv_sub hl [0, 1] rfl)
