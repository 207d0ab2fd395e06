noncomputable def C5_readWord_L5 (u0 : RS) (g : CG) : Nat → RS → Option (RS)
  | 0, _ => none
  | m34 + 1, u1 => if (u1 0 5) ≤ (u1 0 6) then (some (u1)) else ((rd u1 3 600 (u1 0 6)).bind fun x36 => (C5_isLetter (x36)).bind fun x38 => if x38 = 0 then (some (u1)) else ((pt u1 0 6 ((u1 0 6) + 1)).bind fun u41 => C5_readWord_L5 u0 g m34  u41))
noncomputable def C5_readWord (g : CG) (u0 : RS)  : Option (Int32 × RS) := (C5_readWord_L5 u0 g FUEL  u0).bind fun t2 => (C5_stands g t2 ((u0 0 6)) [99, 104, 105, 112]).bind fun x6 => if x6 = 0 then ((C5_stands g t2 ((u0 0 6)) [115, 116, 114, 105, 112, 101]).bind fun x9 => if x9 = 0 then ((C5_stands g t2 ((u0 0 6)) [112, 114, 105, 110, 116]).bind fun x12 => if x12 = 0 then ((C5_stands g t2 ((u0 0 6)) [119, 104, 101, 101, 108]).bind fun x15 => if x15 = 0 then ((C5_stands g t2 ((u0 0 6)) [114, 101, 115, 116]).bind fun x18 => if x18 = 0 then ((C5_stands g t2 ((u0 0 6)) [108, 111, 116]).bind fun x21 => if x21 = 0 then ((C5_stands g t2 ((u0 0 6)) [99, 97, 114, 100]).bind fun x24 => if x24 = 0 then ((C5_stands g t2 ((u0 0 6)) [108, 105, 110, 101]).bind fun x27 => (if x27 = 0 then (some (-1 : Int32)) else (some (4 : Int32)) : Option (Int32)).bind fun t30 => some (t30, t2)) else (some ((7 : Int32), t2))) else (some ((6 : Int32), t2))) else (some ((5 : Int32), t2))) else (some ((3 : Int32), t2))) else (some ((2 : Int32), t2))) else (some ((1 : Int32), t2))) else (some ((0 : Int32), t2))
set_option maxHeartbeats 4000000 in
set_option maxRecDepth 100000 in
theorem c_X5_readWord (l : Launch) (dC : Nat → ClassId) (dI : Nat → Nat → Nat) (cy : Nat → ClassId) (nb : Nat → Nat) (ad : CK → Nat) (ks : List CK) (g : CG) (hk : GA nb ad g ks) (u0 : RS)  (ro : Int32) (uz : RS) (sz : Nat) (hF : C5_readWord g u0  = some (ro, uz)) : Met l yX5_readWord (wsg yX5_readWord cX5_readWord 2 (some .int)) ({ frames := 12, cells := 0, slots := 0, locals := 700 }) (va_Pc [.ref (ad .rd)] (fun U => U.heap.size = sz ∧ va_P (dC, dI) vwCl (WC cy ad ks g u0) U.heap ∧ va_K (dC, dI) vwCl (tyL cy) U ∧ va_D (fun _ => True) (WC cy ad ks g u0) ∧ GE nb (va_A (WC cy ad ks g u0) sz) U)) (va_Qi (fun (r : Int32) (_ : Unit) => r = ro) (fun _ t => va_P (dC, dI) vwCl (WC cy ad ks g uz) t.heap ∧ va_D (va_A (WC cy ad ks g u0) sz) (WC cy ad ks g uz)) (va_A (WC cy ad ks g u0) sz)) 0 0 (va_A (WC cy ad ks g u0) sz) := by
  refine Met.ofW (cc := cX5_readWord) (maxL := 2) (ret := (some .int)) pn_X5 rfl ?_
  intro p e s m args below meth c s₁ B hml hv
  obtain ⟨rfl, hsz, hP, hK, hD0, hE⟩ := hv
  have hx := B.exec
  have hb := B.bytes
  have hr := B.returns
  have hts0 := atoms_spec (ws := (wsg yX5_readWord cX5_readWord 2 (some .int))) B.pre
  have hts : ∀ w ∈ wsL_law, w.before _ s = true := fun w h => hts0 w (List.mem_cons_of_mem _ h)
  have hown : s.vm.findClass RX5 = some m.cls := by have h9 := findClass_of_methodNamed B.named; exact h9
  have hlocks := B.notSynchronized
  subst hsz
  have hD := hD0.self (sz := s.heap.size)
  generalize hAe : va_A (WC cy ad ks g u0) s.heap.size = A at hD hE ⊢
  have hA : ∀ q : Nat, s.heap.size ≤ q → A q := fun q h => by rw [← hAe]; exact Or.inr h
  have hS : va_S A s.heap s.heap [] := va_S.rf
  have hl := lv_entry ([.ref (ad .rd)]) (n := 2) (Nat.le_of_ble_eq_true rfl)
  rw [lg_entry_eq]
  generalize (lg_sl ([.ref (ad .rd)]) ++ List.replicate (2 - (lg_sl ([.ref (ad .rd)])).length) Slot.unset).toArray = ls at hl ⊢
  have hl : lv_has ls 2 [(0, .ref (ad .rd))] := hl
  generalize hHe : s.heap = H at hP hS ⊢
  have hS : va_S A s.heap H [] := by rw [hHe]; exact hS
  refine my_Q (fun Qn hQ => ?_)
  simp only [C5_readWord] at hF
  refine lv_aload_n hx hb dX5_readWord_0 rfl (lv_at hl 0 rfl) ?_
  obtain ⟨q9, h9⟩ := wc_at (cy := cy) (ad := ad) (ks := ks) (g := g) (u := u0) (κ := .rd) hk.1 True.intro
  refine va_get (D := (dC, dI)) (ci := 5) (v := .int (u0 0 6)) (C := RX5) (T := TX5) (N := 11) hx hb hts inlX5 hown hK hP q9 h9 rfl 2 (by decide) (hts _ mw_148) (fun _ h9 => h9) rfl dX5_readWord_1 ?_
  clear h9
  refine lv_istore_n (lv' := [(1, .int (u0 0 6)), (0, .ref (ad .rd))]) hx hb dX5_readWord_4 rfl hl (by decide) rfl (fun ls hl => ?_)
  obtain ⟨t2, hL3, hF⟩ := ob hF
  have kx4 : ∀ (H : Heap) (locs : List Loc) (ls : Array Slot), va_P (dC, dI) vwCl (WC cy ad ks g t2) H → va_D A (WC cy ad ks g t2) → va_S A s.heap H locs → lv_has ls 2 [(1, .int (u0 0 6)), (0, .ref (ad .rd))] → W p l e (headSpec (wsg yX5_readWord cX5_readWord 2 (some .int)) ({ frames := 12, cells := 0, slots := 0, locals := 700 })).room s m ([.ref (ad .rd)] : List Value).toArray below meth c H locs 0 0 Qn (F0 m 44 ls []) := by
    intro H locs ls hP hD hS hl
    refine lv_aload_n hx hb dX5_readWord_44 rfl (lv_at hl 1 rfl) ?_
    refine va_ldcS hx hb hown (hE.wr 0 (w := (RX5, 144, "chip", [99, 104, 105, 112])) rfl) dX5_readWord_45 ?_
    refine lv_iload_n hx hb dX5_readWord_47 rfl (lv_at hl 0 rfl) ?_
    obtain ⟨x6, e7, hF⟩ := ob hF
    have hPc := hP
    have hDc := hD
    have hFc := my_free hD hS hA
    obtain ⟨q8, h8⟩ := wc_at (cy := cy) (ad := ad) (ks := ks) (g := g) (u := t2) (κ := .rd) hk.1 True.intro
    refine va_calli (va_runV (As := [.ref (nb (3 + 2 * 0)), .int (u0 0 6)]) (rest := []) ⟨hx, hb, hml, hown, hts⟩ (c_X5_stands l dC dI cy nb ad ks g hk t2 ((u0 0 6)) 0 RX5 144 "chip" [99, 104, 105, 112] (x6) H.size (show xW[0]? = some (RX5, 144, "chip", [99, 104, 105, 112]) from rfl) e7) (cwV 2 hts (gV mw_166 mw_167 mw_168 mw_22 mw_169) rfl rfl rfl (by decide +kernel) ⟨Nat.le_of_ble_eq_true rfl, Nat.le_of_ble_eq_true rfl⟩) (my_preV hPc hK hDc hE hS hFc (va_recv (q := (RX5, TX5, 11)) hK hP (ci := 5) (q0 := q8) rfl h8)) rfl rfl hl.1 rfl (lv_room (Nat.le_of_ble_eq_true rfl)) dX5_readWord_48 ⟨Nat.le_of_ble_eq_true rfl, Nat.le_of_ble_eq_true rfl⟩) hS (fun q _ h => hFc q h) hFc (fun r u t H1 locs ht hvm hw hB hz1 hk1 hS => ?_)
    clear h8
    obtain ⟨hP1, hD1⟩ := hB
    rw [ht] at hP1
    have hP := hP1
    have hD := hD1.weaken (fun k q _ h => hFc q.1 h)
    generalize H1 = H at hP hS ⊢
    clear hP1 hD1 hPc hDc hFc hk1 hz1 hvm ht
    obtain rfl := hw.symm
    refine lv_if_eq (tgt := 56) hx hb dX5_readWord_51 (by decide) (fun c8 => ?_) (fun c8 => ?_)
    · rw [if_pos c8] at hF
      refine lv_aload_n hx hb dX5_readWord_56 rfl (lv_at hl 1 rfl) ?_
      refine va_ldcS hx hb hown (hE.wr 1 (w := (RX5, 150, "stripe", [115, 116, 114, 105, 112, 101])) rfl) dX5_readWord_57 ?_
      refine lv_iload_n hx hb dX5_readWord_59 rfl (lv_at hl 0 rfl) ?_
      obtain ⟨x9, e10, hF⟩ := ob hF
      have hPc := hP
      have hDc := hD
      have hFc := my_free hD hS hA
      obtain ⟨q8, h8⟩ := wc_at (cy := cy) (ad := ad) (ks := ks) (g := g) (u := t2) (κ := .rd) hk.1 True.intro
      refine va_calli (va_runV (As := [.ref (nb (3 + 2 * 1)), .int (u0 0 6)]) (rest := []) ⟨hx, hb, hml, hown, hts⟩ (c_X5_stands l dC dI cy nb ad ks g hk t2 ((u0 0 6)) 1 RX5 150 "stripe" [115, 116, 114, 105, 112, 101] (x9) H.size (show xW[1]? = some (RX5, 150, "stripe", [115, 116, 114, 105, 112, 101]) from rfl) e10) (cwV 2 hts (gV mw_166 mw_167 mw_168 mw_22 mw_169) rfl rfl rfl (by decide +kernel) ⟨Nat.le_of_ble_eq_true rfl, Nat.le_of_ble_eq_true rfl⟩) (my_preV hPc hK hDc hE hS hFc (va_recv (q := (RX5, TX5, 11)) hK hP (ci := 5) (q0 := q8) rfl h8)) rfl rfl hl.1 rfl (lv_room (Nat.le_of_ble_eq_true rfl)) dX5_readWord_60 ⟨Nat.le_of_ble_eq_true rfl, Nat.le_of_ble_eq_true rfl⟩) hS (fun q _ h => hFc q h) hFc (fun r u t H1 locs ht hvm hw hB hz1 hk1 hS => ?_)
      clear h8
      obtain ⟨hP1, hD1⟩ := hB
      rw [ht] at hP1
      have hP := hP1
      have hD := hD1.weaken (fun k q _ h => hFc q.1 h)
      generalize H1 = H at hP hS ⊢
      clear hP1 hD1 hPc hDc hFc hk1 hz1 hvm ht
      obtain rfl := hw.symm
      refine lv_if_eq (tgt := 68) hx hb dX5_readWord_63 (by decide) (fun c11 => ?_) (fun c11 => ?_)
      · rw [if_pos c11] at hF
        refine lv_aload_n hx hb dX5_readWord_68 rfl (lv_at hl 1 rfl) ?_
        refine va_ldcS hx hb hown (hE.wr 2 (w := (RX5, 152, "print", [112, 114, 105, 110, 116])) rfl) dX5_readWord_69 ?_
        refine lv_iload_n hx hb dX5_readWord_71 rfl (lv_at hl 0 rfl) ?_
        obtain ⟨x12, e13, hF⟩ := ob hF
        have hPc := hP
        have hDc := hD
        have hFc := my_free hD hS hA
        obtain ⟨q8, h8⟩ := wc_at (cy := cy) (ad := ad) (ks := ks) (g := g) (u := t2) (κ := .rd) hk.1 True.intro
        refine va_calli (va_runV (As := [.ref (nb (3 + 2 * 2)), .int (u0 0 6)]) (rest := []) ⟨hx, hb, hml, hown, hts⟩ (c_X5_stands l dC dI cy nb ad ks g hk t2 ((u0 0 6)) 2 RX5 152 "print" [112, 114, 105, 110, 116] (x12) H.size (show xW[2]? = some (RX5, 152, "print", [112, 114, 105, 110, 116]) from rfl) e13) (cwV 2 hts (gV mw_166 mw_167 mw_168 mw_22 mw_169) rfl rfl rfl (by decide +kernel) ⟨Nat.le_of_ble_eq_true rfl, Nat.le_of_ble_eq_true rfl⟩) (my_preV hPc hK hDc hE hS hFc (va_recv (q := (RX5, TX5, 11)) hK hP (ci := 5) (q0 := q8) rfl h8)) rfl rfl hl.1 rfl (lv_room (Nat.le_of_ble_eq_true rfl)) dX5_readWord_72 ⟨Nat.le_of_ble_eq_true rfl, Nat.le_of_ble_eq_true rfl⟩) hS (fun q _ h => hFc q h) hFc (fun r u t H1 locs ht hvm hw hB hz1 hk1 hS => ?_)
        clear h8
        obtain ⟨hP1, hD1⟩ := hB
        rw [ht] at hP1
        have hP := hP1
        have hD := hD1.weaken (fun k q _ h => hFc q.1 h)
        generalize H1 = H at hP hS ⊢
        clear hP1 hD1 hPc hDc hFc hk1 hz1 hvm ht
        obtain rfl := hw.symm
        refine lv_if_eq (tgt := 80) hx hb dX5_readWord_75 (by decide) (fun c14 => ?_) (fun c14 => ?_)
        · rw [if_pos c14] at hF
          refine lv_aload_n hx hb dX5_readWord_80 rfl (lv_at hl 1 rfl) ?_
          refine va_ldcS hx hb hown (hE.wr 3 (w := (RX5, 154, "wheel", [119, 104, 101, 101, 108])) rfl) dX5_readWord_81 ?_
          refine lv_iload_n hx hb dX5_readWord_83 rfl (lv_at hl 0 rfl) ?_
          obtain ⟨x15, e16, hF⟩ := ob hF
          have hPc := hP
          have hDc := hD
          have hFc := my_free hD hS hA
          obtain ⟨q8, h8⟩ := wc_at (cy := cy) (ad := ad) (ks := ks) (g := g) (u := t2) (κ := .rd) hk.1 True.intro
          refine va_calli (va_runV (As := [.ref (nb (3 + 2 * 3)), .int (u0 0 6)]) (rest := []) ⟨hx, hb, hml, hown, hts⟩ (c_X5_stands l dC dI cy nb ad ks g hk t2 ((u0 0 6)) 3 RX5 154 "wheel" [119, 104, 101, 101, 108] (x15) H.size (show xW[3]? = some (RX5, 154, "wheel", [119, 104, 101, 101, 108]) from rfl) e16) (cwV 2 hts (gV mw_166 mw_167 mw_168 mw_22 mw_169) rfl rfl rfl (by decide +kernel) ⟨Nat.le_of_ble_eq_true rfl, Nat.le_of_ble_eq_true rfl⟩) (my_preV hPc hK hDc hE hS hFc (va_recv (q := (RX5, TX5, 11)) hK hP (ci := 5) (q0 := q8) rfl h8)) rfl rfl hl.1 rfl (lv_room (Nat.le_of_ble_eq_true rfl)) dX5_readWord_84 ⟨Nat.le_of_ble_eq_true rfl, Nat.le_of_ble_eq_true rfl⟩) hS (fun q _ h => hFc q h) hFc (fun r u t H1 locs ht hvm hw hB hz1 hk1 hS => ?_)
          clear h8
          obtain ⟨hP1, hD1⟩ := hB
          rw [ht] at hP1
          have hP := hP1
          have hD := hD1.weaken (fun k q _ h => hFc q.1 h)
          generalize H1 = H at hP hS ⊢
          clear hP1 hD1 hPc hDc hFc hk1 hz1 hvm ht
          obtain rfl := hw.symm
          refine lv_if_eq (tgt := 92) hx hb dX5_readWord_87 (by decide) (fun c17 => ?_) (fun c17 => ?_)
          · rw [if_pos c17] at hF
            refine lv_aload_n hx hb dX5_readWord_92 rfl (lv_at hl 1 rfl) ?_
            refine va_ldcS hx hb hown (hE.wr 4 (w := (RX5, 156, "rest", [114, 101, 115, 116])) rfl) dX5_readWord_93 ?_
            refine lv_iload_n hx hb dX5_readWord_95 rfl (lv_at hl 0 rfl) ?_
            obtain ⟨x18, e19, hF⟩ := ob hF
            have hPc := hP
            have hDc := hD
            have hFc := my_free hD hS hA
            obtain ⟨q8, h8⟩ := wc_at (cy := cy) (ad := ad) (ks := ks) (g := g) (u := t2) (κ := .rd) hk.1 True.intro
            refine va_calli (va_runV (As := [.ref (nb (3 + 2 * 4)), .int (u0 0 6)]) (rest := []) ⟨hx, hb, hml, hown, hts⟩ (c_X5_stands l dC dI cy nb ad ks g hk t2 ((u0 0 6)) 4 RX5 156 "rest" [114, 101, 115, 116] (x18) H.size (show xW[4]? = some (RX5, 156, "rest", [114, 101, 115, 116]) from rfl) e19) (cwV 2 hts (gV mw_166 mw_167 mw_168 mw_22 mw_169) rfl rfl rfl (by decide +kernel) ⟨Nat.le_of_ble_eq_true rfl, Nat.le_of_ble_eq_true rfl⟩) (my_preV hPc hK hDc hE hS hFc (va_recv (q := (RX5, TX5, 11)) hK hP (ci := 5) (q0 := q8) rfl h8)) rfl rfl hl.1 rfl (lv_room (Nat.le_of_ble_eq_true rfl)) dX5_readWord_96 ⟨Nat.le_of_ble_eq_true rfl, Nat.le_of_ble_eq_true rfl⟩) hS (fun q _ h => hFc q h) hFc (fun r u t H1 locs ht hvm hw hB hz1 hk1 hS => ?_)
            clear h8
            obtain ⟨hP1, hD1⟩ := hB
            rw [ht] at hP1
            have hP := hP1
            have hD := hD1.weaken (fun k q _ h => hFc q.1 h)
            generalize H1 = H at hP hS ⊢
            clear hP1 hD1 hPc hDc hFc hk1 hz1 hvm ht
            obtain rfl := hw.symm
            refine lv_if_eq (tgt := 104) hx hb dX5_readWord_99 (by decide) (fun c20 => ?_) (fun c20 => ?_)
            · rw [if_pos c20] at hF
              refine lv_aload_n hx hb dX5_readWord_104 rfl (lv_at hl 1 rfl) ?_
              refine va_ldcS hx hb hown (hE.wr 5 (w := (RX5, 158, "lot", [108, 111, 116])) rfl) dX5_readWord_105 ?_
              refine lv_iload_n hx hb dX5_readWord_107 rfl (lv_at hl 0 rfl) ?_
              obtain ⟨x21, e22, hF⟩ := ob hF
              have hPc := hP
              have hDc := hD
              have hFc := my_free hD hS hA
              obtain ⟨q8, h8⟩ := wc_at (cy := cy) (ad := ad) (ks := ks) (g := g) (u := t2) (κ := .rd) hk.1 True.intro
              refine va_calli (va_runV (As := [.ref (nb (3 + 2 * 5)), .int (u0 0 6)]) (rest := []) ⟨hx, hb, hml, hown, hts⟩ (c_X5_stands l dC dI cy nb ad ks g hk t2 ((u0 0 6)) 5 RX5 158 "lot" [108, 111, 116] (x21) H.size (show xW[5]? = some (RX5, 158, "lot", [108, 111, 116]) from rfl) e22) (cwV 2 hts (gV mw_166 mw_167 mw_168 mw_22 mw_169) rfl rfl rfl (by decide +kernel) ⟨Nat.le_of_ble_eq_true rfl, Nat.le_of_ble_eq_true rfl⟩) (my_preV hPc hK hDc hE hS hFc (va_recv (q := (RX5, TX5, 11)) hK hP (ci := 5) (q0 := q8) rfl h8)) rfl rfl hl.1 rfl (lv_room (Nat.le_of_ble_eq_true rfl)) dX5_readWord_108 ⟨Nat.le_of_ble_eq_true rfl, Nat.le_of_ble_eq_true rfl⟩) hS (fun q _ h => hFc q h) hFc (fun r u t H1 locs ht hvm hw hB hz1 hk1 hS => ?_)
              clear h8
              obtain ⟨hP1, hD1⟩ := hB
              rw [ht] at hP1
              have hP := hP1
              have hD := hD1.weaken (fun k q _ h => hFc q.1 h)
              generalize H1 = H at hP hS ⊢
              clear hP1 hD1 hPc hDc hFc hk1 hz1 hvm ht
              obtain rfl := hw.symm
              refine lv_if_eq (tgt := 117) hx hb dX5_readWord_111 (by decide) (fun c23 => ?_) (fun c23 => ?_)
              · rw [if_pos c23] at hF
                refine lv_aload_n hx hb dX5_readWord_117 rfl (lv_at hl 1 rfl) ?_
                refine va_ldcS hx hb hown (hE.wr 6 (w := (RX5, 160, "card", [99, 97, 114, 100])) rfl) dX5_readWord_118 ?_
                refine lv_iload_n hx hb dX5_readWord_120 rfl (lv_at hl 0 rfl) ?_
                obtain ⟨x24, e25, hF⟩ := ob hF
                have hPc := hP
                have hDc := hD
                have hFc := my_free hD hS hA
                obtain ⟨q8, h8⟩ := wc_at (cy := cy) (ad := ad) (ks := ks) (g := g) (u := t2) (κ := .rd) hk.1 True.intro
                refine va_calli (va_runV (As := [.ref (nb (3 + 2 * 6)), .int (u0 0 6)]) (rest := []) ⟨hx, hb, hml, hown, hts⟩ (c_X5_stands l dC dI cy nb ad ks g hk t2 ((u0 0 6)) 6 RX5 160 "card" [99, 97, 114, 100] (x24) H.size (show xW[6]? = some (RX5, 160, "card", [99, 97, 114, 100]) from rfl) e25) (cwV 2 hts (gV mw_166 mw_167 mw_168 mw_22 mw_169) rfl rfl rfl (by decide +kernel) ⟨Nat.le_of_ble_eq_true rfl, Nat.le_of_ble_eq_true rfl⟩) (my_preV hPc hK hDc hE hS hFc (va_recv (q := (RX5, TX5, 11)) hK hP (ci := 5) (q0 := q8) rfl h8)) rfl rfl hl.1 rfl (lv_room (Nat.le_of_ble_eq_true rfl)) dX5_readWord_121 ⟨Nat.le_of_ble_eq_true rfl, Nat.le_of_ble_eq_true rfl⟩) hS (fun q _ h => hFc q h) hFc (fun r u t H1 locs ht hvm hw hB hz1 hk1 hS => ?_)
                clear h8
                obtain ⟨hP1, hD1⟩ := hB
                rw [ht] at hP1
                have hP := hP1
                have hD := hD1.weaken (fun k q _ h => hFc q.1 h)
                generalize H1 = H at hP hS ⊢
                clear hP1 hD1 hPc hDc hFc hk1 hz1 hvm ht
                obtain rfl := hw.symm
                refine lv_if_eq (tgt := 130) hx hb dX5_readWord_124 (by decide) (fun c26 => ?_) (fun c26 => ?_)
                · rw [if_pos c26] at hF
                  refine lv_aload_n hx hb dX5_readWord_130 rfl (lv_at hl 1 rfl) ?_
                  refine va_ldcS hx hb hown (hE.wr 7 (w := (RX5, 162, "line", [108, 105, 110, 101])) rfl) dX5_readWord_131 ?_
                  refine lv_iload_n hx hb dX5_readWord_133 rfl (lv_at hl 0 rfl) ?_
                  obtain ⟨x27, e28, hF⟩ := ob hF
                  have hPc := hP
                  have hDc := hD
                  have hFc := my_free hD hS hA
                  obtain ⟨q8, h8⟩ := wc_at (cy := cy) (ad := ad) (ks := ks) (g := g) (u := t2) (κ := .rd) hk.1 True.intro
                  refine va_calli (va_runV (As := [.ref (nb (3 + 2 * 7)), .int (u0 0 6)]) (rest := []) ⟨hx, hb, hml, hown, hts⟩ (c_X5_stands l dC dI cy nb ad ks g hk t2 ((u0 0 6)) 7 RX5 162 "line" [108, 105, 110, 101] (x27) H.size (show xW[7]? = some (RX5, 162, "line", [108, 105, 110, 101]) from rfl) e28) (cwV 2 hts (gV mw_166 mw_167 mw_168 mw_22 mw_169) rfl rfl rfl (by decide +kernel) ⟨Nat.le_of_ble_eq_true rfl, Nat.le_of_ble_eq_true rfl⟩) (my_preV hPc hK hDc hE hS hFc (va_recv (q := (RX5, TX5, 11)) hK hP (ci := 5) (q0 := q8) rfl h8)) rfl rfl hl.1 rfl (lv_room (Nat.le_of_ble_eq_true rfl)) dX5_readWord_134 ⟨Nat.le_of_ble_eq_true rfl, Nat.le_of_ble_eq_true rfl⟩) hS (fun q _ h => hFc q h) hFc (fun r u t H1 locs ht hvm hw hB hz1 hk1 hS => ?_)
                  clear h8
                  obtain ⟨hP1, hD1⟩ := hB
                  rw [ht] at hP1
                  have hP := hP1
                  have hD := hD1.weaken (fun k q _ h => hFc q.1 h)
                  generalize H1 = H at hP hS ⊢
                  clear hP1 hD1 hPc hDc hFc hk1 hz1 hvm ht
                  obtain rfl := hw.symm
                  obtain ⟨t30, hJ31, hF⟩ := ob hF
                  have join32 : ∀ (H : Heap) (locs : List Loc) (ls : Array Slot), va_P (dC, dI) vwCl (WC cy ad ks g t2) H → va_D A (WC cy ad ks g t2) → va_S A s.heap H locs → lv_has ls 2 [(1, .int (u0 0 6)), (0, .ref (ad .rd))] → W p l e (headSpec (wsg yX5_readWord cX5_readWord 2 (some .int)) ({ frames := 12, cells := 0, slots := 0, locals := 700 })).room s m ([.ref (ad .rd)] : List Value).toArray below meth c H locs 0 0 Qn (F0 m 145 ls [.int t30]) := by
                    intro H locs ls hP hD hS hl
                    have hZ := s1 hF
                    have zro : t30 = ro := (congrArg (fun q => q.1) hZ)
                    have zuz : t2 = uz := (congrArg (fun q => q.2) hZ)
                    have hP9 : va_P (dC, dI) vwCl (WC cy ad ks g uz) H := by rw [← zuz]; exact hP
                    have hD9 : va_D A (WC cy ad ks g uz) := by rw [← zuz]; exact hD
                    rw [hQ]
                    exact W.iret (v := t30) hx hb hr (fun t ht hW => ⟨⟨t30, (), rfl, zro, by rw [ht]; exact hP9, hD9⟩, hS.F ht⟩) hS.2.2 dX5_readWord_145
                  clear hF
                  have hF := hJ31
                  clear hJ31
                  refine lv_if_eq (tgt := 144) hx hb dX5_readWord_137 (by decide) (fun c29 => ?_) (fun c29 => ?_)
                  · rw [if_pos c29] at hF
                    refine lv_iconst (v := (-1)) hx hb dX5_readWord_144 (by decide) ?_
                    have ht := s1 hF
                    subst ht
                    exact join32 _ _ _ hP hD hS (lv_sub hl [0, 1] rfl)
                  · rw [if_neg c29] at hF
                    refine lv_iconst (v := 4) hx hb dX5_readWord_140 (by decide) ?_
                    refine lv_goto (tgt := 145) hx hb dX5_readWord_141 (by decide) ?_
                    have ht := s1 hF
                    subst ht
                    exact join32 _ _ _ hP hD hS (lv_sub hl [0, 1] rfl)
                · rw [if_neg c26] at hF
                  refine lv_bipush (v := 7) hx hb dX5_readWord_127 (by decide) ?_
                  have hZ := s1 hF
                  have zro : (7 : Int32) = ro := (congrArg (fun q => q.1) hZ)
                  have zuz : t2 = uz := (congrArg (fun q => q.2) hZ)
                  have hP9 : va_P (dC, dI) vwCl (WC cy ad ks g uz) H := by rw [← zuz]; exact hP
                  have hD9 : va_D A (WC cy ad ks g uz) := by rw [← zuz]; exact hD
                  rw [hQ]
                  exact W.iret (v := (7 : Int32)) hx hb hr (fun t ht hW => ⟨⟨(7 : Int32), (), rfl, zro, by rw [ht]; exact hP9, hD9⟩, hS.F ht⟩) hS.2.2 dX5_readWord_129
              · rw [if_neg c23] at hF
                refine lv_bipush (v := 6) hx hb dX5_readWord_114 (by decide) ?_
                have hZ := s1 hF
                have zro : (6 : Int32) = ro := (congrArg (fun q => q.1) hZ)
                have zuz : t2 = uz := (congrArg (fun q => q.2) hZ)
                have hP9 : va_P (dC, dI) vwCl (WC cy ad ks g uz) H := by rw [← zuz]; exact hP
                have hD9 : va_D A (WC cy ad ks g uz) := by rw [← zuz]; exact hD
                rw [hQ]
                exact W.iret (v := (6 : Int32)) hx hb hr (fun t ht hW => ⟨⟨(6 : Int32), (), rfl, zro, by rw [ht]; exact hP9, hD9⟩, hS.F ht⟩) hS.2.2 dX5_readWord_116
            · rw [if_neg c20] at hF
              refine lv_iconst (v := 5) hx hb dX5_readWord_102 (by decide) ?_
              have hZ := s1 hF
              have zro : (5 : Int32) = ro := (congrArg (fun q => q.1) hZ)
              have zuz : t2 = uz := (congrArg (fun q => q.2) hZ)
              have hP9 : va_P (dC, dI) vwCl (WC cy ad ks g uz) H := by rw [← zuz]; exact hP
              have hD9 : va_D A (WC cy ad ks g uz) := by rw [← zuz]; exact hD
              rw [hQ]
              exact W.iret (v := (5 : Int32)) hx hb hr (fun t ht hW => ⟨⟨(5 : Int32), (), rfl, zro, by rw [ht]; exact hP9, hD9⟩, hS.F ht⟩) hS.2.2 dX5_readWord_103
          · rw [if_neg c17] at hF
            refine lv_iconst (v := 3) hx hb dX5_readWord_90 (by decide) ?_
            have hZ := s1 hF
            have zro : (3 : Int32) = ro := (congrArg (fun q => q.1) hZ)
            have zuz : t2 = uz := (congrArg (fun q => q.2) hZ)
            have hP9 : va_P (dC, dI) vwCl (WC cy ad ks g uz) H := by rw [← zuz]; exact hP
            have hD9 : va_D A (WC cy ad ks g uz) := by rw [← zuz]; exact hD
            rw [hQ]
            exact W.iret (v := (3 : Int32)) hx hb hr (fun t ht hW => ⟨⟨(3 : Int32), (), rfl, zro, by rw [ht]; exact hP9, hD9⟩, hS.F ht⟩) hS.2.2 dX5_readWord_91
        · rw [if_neg c14] at hF
          refine lv_iconst (v := 2) hx hb dX5_readWord_78 (by decide) ?_
          have hZ := s1 hF
          have zro : (2 : Int32) = ro := (congrArg (fun q => q.1) hZ)
          have zuz : t2 = uz := (congrArg (fun q => q.2) hZ)
          have hP9 : va_P (dC, dI) vwCl (WC cy ad ks g uz) H := by rw [← zuz]; exact hP
          have hD9 : va_D A (WC cy ad ks g uz) := by rw [← zuz]; exact hD
          rw [hQ]
          exact W.iret (v := (2 : Int32)) hx hb hr (fun t ht hW => ⟨⟨(2 : Int32), (), rfl, zro, by rw [ht]; exact hP9, hD9⟩, hS.F ht⟩) hS.2.2 dX5_readWord_79
      · rw [if_neg c11] at hF
        refine lv_iconst (v := 1) hx hb dX5_readWord_66 (by decide) ?_
        have hZ := s1 hF
        have zro : (1 : Int32) = ro := (congrArg (fun q => q.1) hZ)
        have zuz : t2 = uz := (congrArg (fun q => q.2) hZ)
        have hP9 : va_P (dC, dI) vwCl (WC cy ad ks g uz) H := by rw [← zuz]; exact hP
        have hD9 : va_D A (WC cy ad ks g uz) := by rw [← zuz]; exact hD
        rw [hQ]
        exact W.iret (v := (1 : Int32)) hx hb hr (fun t ht hW => ⟨⟨(1 : Int32), (), rfl, zro, by rw [ht]; exact hP9, hD9⟩, hS.F ht⟩) hS.2.2 dX5_readWord_67
    · rw [if_neg c8] at hF
      refine lv_iconst (v := 0) hx hb dX5_readWord_54 (by decide) ?_
      have hZ := s1 hF
      have zro : (0 : Int32) = ro := (congrArg (fun q => q.1) hZ)
      have zuz : t2 = uz := (congrArg (fun q => q.2) hZ)
      have hP9 : va_P (dC, dI) vwCl (WC cy ad ks g uz) H := by rw [← zuz]; exact hP
      have hD9 : va_D A (WC cy ad ks g uz) := by rw [← zuz]; exact hD
      rw [hQ]
      exact W.iret (v := (0 : Int32)) hx hb hr (fun t ht hW => ⟨⟨(0 : Int32), (), rfl, zro, by rw [ht]; exact hP9, hD9⟩, hS.F ht⟩) hS.2.2 dX5_readWord_55
  clear hF
  have loop33 : ∀ (m34 : Nat)  (u1 : RS), C5_readWord_L5 u0 g m34 u1 = some t2 → ∀ (H : Heap) (locs : List Loc) (ls : Array Slot), va_P (dC, dI) vwCl (WC cy ad ks g u1) H → va_D A (WC cy ad ks g u1) → va_S A s.heap H locs → lv_has ls 2 [(1, .int (u0 0 6)), (0, .ref (ad .rd))] → W p l e (headSpec (wsg yX5_readWord cX5_readWord 2 (some .int)) ({ frames := 12, cells := 0, slots := 0, locals := 700 })).room s m ([.ref (ad .rd)] : List Value).toArray below meth c H locs 0 0 Qn (F0 m 5 ls []) := by
    intro m34
    induction m34 with
    | zero => intro u1 hF; cases hF
    | succ m34 ih =>
      intro u1 hF H locs ls hP hD hS hl
      simp only [C5_readWord_L5] at hF
      refine lv_aload_n hx hb dX5_readWord_5 rfl (lv_at hl 1 rfl) ?_
      obtain ⟨q9, h9⟩ := wc_at (cy := cy) (ad := ad) (ks := ks) (g := g) (u := u1) (κ := .rd) hk.1 True.intro
      refine va_get (D := (dC, dI)) (ci := 5) (v := .int (u1 0 6)) (C := RX5) (T := TX5) (N := 11) hx hb hts inlX5 hown hK hP q9 h9 rfl 2 (by decide) (hts _ mw_148) (fun _ h9 => h9) rfl dX5_readWord_6 ?_
      clear h9
      refine lv_aload_n hx hb dX5_readWord_9 rfl (lv_at hl 1 rfl) ?_
      obtain ⟨q9, h9⟩ := wc_at (cy := cy) (ad := ad) (ks := ks) (g := g) (u := u1) (κ := .rd) hk.1 True.intro
      refine va_get (D := (dC, dI)) (ci := 5) (v := .int (u1 0 5)) (C := RX5) (T := TX5) (N := 11) hx hb hts inlX5 hown hK hP q9 h9 rfl 1 (by decide) (hts _ mw_122) (fun _ h9 => h9) rfl dX5_readWord_10 ?_
      clear h9
      refine lv_icmp_ge (tgt := 44) hx hb dX5_readWord_13 (by decide) (fun c35 => ?_) (fun c35 => ?_)
      · rw [if_pos c35] at hF
        have ht := s1 hF
        subst ht
        exact kx4 _ _ _ hP hD hS (lv_sub hl [0, 1] rfl)
      · rw [if_neg c35] at hF
        refine lv_aload_n hx hb dX5_readWord_16 rfl (lv_at hl 1 rfl) ?_
        obtain ⟨q9, h9⟩ := wc_at (cy := cy) (ad := ad) (ks := ks) (g := g) (u := u1) (κ := .rd) hk.1 True.intro
        refine va_get (D := (dC, dI)) (ci := 5) (v := .ref (ad .tb)) (C := RX5) (T := TX5) (N := 11) hx hb hts inlX5 hown hK hP q9 h9 rfl 0 (by decide) (hts _ mw_72) (fun _ h9 => h9) rfl dX5_readWord_17 ?_
        clear h9
        refine lv_aload_n hx hb dX5_readWord_20 rfl (lv_at hl 1 rfl) ?_
        obtain ⟨q9, h9⟩ := wc_at (cy := cy) (ad := ad) (ks := ks) (g := g) (u := u1) (κ := .rd) hk.1 True.intro
        refine va_get (D := (dC, dI)) (ci := 5) (v := .int (u1 0 6)) (C := RX5) (T := TX5) (N := 11) hx hb hts inlX5 hown hK hP q9 h9 rfl 2 (by decide) (hts _ mw_148) (fun _ h9 => h9) rfl dX5_readWord_21 ?_
        clear h9
        obtain ⟨x36, e37, hF⟩ := ob hF
        obtain ⟨q9, h9⟩ := wc_at (cy := cy) (ad := ad) (ks := ks) (g := g) (u := u1) (κ := .tb) hk.1 True.intro
        refine va_bald hx hb hK hP q9 0 h9 rfl (rd_in e37) dX5_readWord_24 ?_
        refine my_topi (y := x36) (rd_eq e37) ?_
        clear h9
        obtain ⟨x38, e39, hF⟩ := ob hF
        have hPc : va_P (dC, dI) vwCl ([] : va_W) H := fun k q h => by simp at h
        have hDc : va_D A ([] : va_W) := ⟨fun i j p q h => by simp at h, fun k q h => by simp at h⟩
        have hFc := my_free0 hS hA
        refine va_calli (va_runS (As := [.int x36]) (rest := []) ⟨hx, hb, hml, hown, hts⟩ (c_X5_isLetter l dC dI cy nb (x36) (x38) H.size e39) (va_cwS 1 hts (gS mw_163 mw_164 mw_22 mw_165) rfl rfl rfl (by decide +kernel) ⟨Nat.le_of_ble_eq_true rfl, Nat.le_of_ble_eq_true rfl⟩) (my_preS hPc hK hDc hE hS hFc) rfl rfl hl.1 rfl (lv_room (Nat.le_of_ble_eq_true rfl)) dX5_readWord_25 ⟨Nat.le_of_ble_eq_true rfl, Nat.le_of_ble_eq_true rfl⟩) hS (fun q _ h => hFc q h) hFc (fun r u t H1 locs ht hvm hw hB hz1 hk1 hS => ?_)
        obtain ⟨hP1, hD1⟩ := hB
        rw [ht] at hP1
        have hP := my_keep hP hk1
        generalize H1 = H at hP hS ⊢
        clear hP1 hD1 hPc hDc hFc hk1 hz1 hvm ht
        obtain rfl := hw.symm
        refine lv_if_eq (tgt := 44) hx hb dX5_readWord_28 (by decide) (fun c40 => ?_) (fun c40 => ?_)
        · rw [if_pos c40] at hF
          have ht := s1 hF
          subst ht
          exact kx4 _ _ _ hP hD hS (lv_sub hl [0, 1] rfl)
        · rw [if_neg c40] at hF
          refine lv_aload_n hx hb dX5_readWord_31 rfl (lv_at hl 1 rfl) ?_
          refine lv_dup hx hb dX5_readWord_32 rfl ?_
          obtain ⟨q9, h9⟩ := wc_at (cy := cy) (ad := ad) (ks := ks) (g := g) (u := u1) (κ := .rd) hk.1 True.intro
          refine va_get (D := (dC, dI)) (ci := 5) (v := .int (u1 0 6)) (C := RX5) (T := TX5) (N := 11) hx hb hts inlX5 hown hK hP q9 h9 rfl 2 (by decide) (hts _ mw_148) (fun _ h9 => h9) rfl dX5_readWord_33 ?_
          clear h9
          refine lv_iconst (v := 1) hx hb dX5_readWord_36 (by decide) ?_
          refine lv_iadd hx hb dX5_readWord_37 ?_
          obtain ⟨q9, h9, ez9⟩ := wc_set (cy := cy) (ad := ad) (ks := ks) (g := g) (u := u1) (κ := .rd) (r := 0) (i := 6) (v := ((u1 0 6) + 1)) hk.1 True.intro (own_rd (by decide)) (sf_rd_2)
          refine va_put (D := (dC, dI)) (ci := 5) (v := .int ((u1 0 6) + 1)) (ty := .int) (C := RX5) (T := TX5) (N := 11) hx hb hts inlX5 tyX5 tyX5_ok nmX5 hown hK hP hD hS q9 h9 rfl 2 (by decide) (hts _ mw_148) (fun _ h9 => h9) rfl (by decide +kernel) rfl rfl (Nat.le_of_ble_eq_true rfl) dX5_readWord_38 (fun H locs hP hD hS => ?_)
          obtain ⟨u41, e42, hF⟩ := ob hF
          have hP : va_P (dC, dI) vwCl (WC cy ad ks g u41) H := by rw [← pt_eq e42, ← ez9]; exact hP
          have hD : va_D A (WC cy ad ks g u41) := by rw [← pt_eq e42, ← ez9]; exact hD
          clear ez9 h9
          refine lv_goto (tgt := 5) hx hb dX5_readWord_41 (by decide) ?_
          exact ih _ hF _ _ _ hP hD hS (lv_sub hl [0, 1] rfl)
  exact loop33 FUEL _ hL3 _ _ _ hP hD hS (lv_sub hl [0, 1] rfl)
noncomputable def C5_readLine (g : CG) (u0 : RS) (L : Nat) : Option (RS) := (C5_readNumber g u0 (1) (2000)).bind fun t1 => (C5_readNumber g (t1.2) (0) (999)).bind fun t3 => (C5_readNumber g (t3.2) (1) (20)).bind fun t5 => (C5_readNumber g (t5.2) (1) (9)).bind fun t7 => (C5_isFine g (t7.2)).bind fun x9 => (if x9 = 0 then (some (t7.2)) else ((C3_begin g (t7.2) L ((t1.1)) ((t3.1)) ((t5.1)) ((t7.1))).bind fun u15 => some u15) : Option (RS)).bind fun t12 => some t12
set_option maxHeartbeats 4000000 in
set_option maxRecDepth 100000 in
theorem c_X5_readLine (l : Launch) (dC : Nat → ClassId) (dI : Nat → Nat → Nat) (cy : Nat → ClassId) (nb : Nat → Nat) (ad : CK → Nat) (ks : List CK) (g : CG) (hk : GA nb ad g ks) (u0 : RS) (L : Nat) (uz : RS) (sz : Nat) (h_L : has g (.ln L)) (hF : C5_readLine g u0 L = some uz) : Met l yX5_readLine (wsg yX5_readLine cX5_readLine 6 none) ({ frames := 9, cells := 0, slots := 0, locals := 400 }) (va_Pc [.ref (ad .rd), .ref (ad (.ln L))] (fun U => U.heap.size = sz ∧ va_P (dC, dI) vwCl (WC cy ad ks g u0) U.heap ∧ va_K (dC, dI) vwCl (tyL cy) U ∧ va_D (fun _ => True) (WC cy ad ks g u0) ∧ GE nb (va_A (WC cy ad ks g u0) sz) U)) (va_Qv (fun (_ : Unit) => True) (fun _ t => va_P (dC, dI) vwCl (WC cy ad ks g uz) t.heap ∧ va_D (va_A (WC cy ad ks g u0) sz) (WC cy ad ks g uz)) (va_A (WC cy ad ks g u0) sz)) 0 0 (va_A (WC cy ad ks g u0) sz) := by
  refine Met.ofW (cc := cX5_readLine) (maxL := 6) (ret := none) pn_X5 rfl ?_
  intro p e s m args below meth c s₁ B hml hv
  obtain ⟨rfl, hsz, hP, hK, hD0, hE⟩ := hv
  have hx := B.exec
  have hb := B.bytes
  have hr := B.returns
  have hts0 := atoms_spec (ws := (wsg yX5_readLine cX5_readLine 6 none)) B.pre
  have hts : ∀ w ∈ wsL_law, w.before _ s = true := fun w h => hts0 w (List.mem_cons_of_mem _ h)
  have hown : s.vm.findClass RX5 = some m.cls := by have h9 := findClass_of_methodNamed B.named; exact h9
  have hlocks := B.notSynchronized
  subst hsz
  have hD := hD0.self (sz := s.heap.size)
  generalize hAe : va_A (WC cy ad ks g u0) s.heap.size = A at hD hE ⊢
  have hA : ∀ q : Nat, s.heap.size ≤ q → A q := fun q h => by rw [← hAe]; exact Or.inr h
  have hS : va_S A s.heap s.heap [] := va_S.rf
  have hl := lv_entry ([.ref (ad .rd), .ref (ad (.ln L))]) (n := 6) (Nat.le_of_ble_eq_true rfl)
  rw [lg_entry_eq]
  generalize (lg_sl ([.ref (ad .rd), .ref (ad (.ln L))]) ++ List.replicate (6 - (lg_sl ([.ref (ad .rd), .ref (ad (.ln L))])).length) Slot.unset).toArray = ls at hl ⊢
  have hl : lv_has ls 6 [(0, .ref (ad .rd)), (1, .ref (ad (.ln L)))] := hl
  generalize hHe : s.heap = H at hP hS ⊢
  have hS : va_S A s.heap H [] := by rw [hHe]; exact hS
  refine my_Q (fun Qn hQ => ?_)
  simp only [C5_readLine] at hF
  refine lv_aload_n hx hb dX5_readLine_0 rfl (lv_at hl 0 rfl) ?_
  refine lv_iconst (v := 1) hx hb dX5_readLine_1 (by decide) ?_
  refine lv_sipush (v := 2000) hx hb dX5_readLine_2 (by decide) ?_
  obtain ⟨t1, e2, hF⟩ := ob hF
  have hPc := hP
  have hDc := hD
  have hFc := my_free hD hS hA
  obtain ⟨q8, h8⟩ := wc_at (cy := cy) (ad := ad) (ks := ks) (g := g) (u := u0) (κ := .rd) hk.1 True.intro
  refine va_calli (va_runV (As := [.int 1, .int 2000]) (rest := []) ⟨hx, hb, hml, hown, hts⟩ (c_X5_readNumber l dC dI cy nb ad ks g hk u0 (1) (2000) (t1.1) (t1.2) H.size e2) (cwV 2 hts (gV mw_227 mw_228 mw_229 mw_22 mw_230) rfl rfl rfl (by decide +kernel) ⟨Nat.le_of_ble_eq_true rfl, Nat.le_of_ble_eq_true rfl⟩) (my_preV hPc hK hDc hE hS hFc (va_recv (q := (RX5, TX5, 11)) hK hP (ci := 5) (q0 := q8) rfl h8)) rfl rfl hl.1 rfl (lv_room (Nat.le_of_ble_eq_true rfl)) dX5_readLine_5 ⟨Nat.le_of_ble_eq_true rfl, Nat.le_of_ble_eq_true rfl⟩) hS (fun q _ h => hFc q h) hFc (fun r u t H1 locs ht hvm hw hB hz1 hk1 hS => ?_)
  clear h8
  obtain ⟨hP1, hD1⟩ := hB
  rw [ht] at hP1
  have hP := hP1
  have hD := hD1.weaken (fun k q _ h => hFc q.1 h)
  generalize H1 = H at hP hS ⊢
  clear hP1 hD1 hPc hDc hFc hk1 hz1 hvm ht
  obtain rfl := hw.symm
  refine lv_istore_n (lv' := [(2, .int (t1.1)), (0, .ref (ad .rd)), (1, .ref (ad (.ln L)))]) hx hb dX5_readLine_8 rfl hl (by decide) rfl (fun ls hl => ?_)
  refine lv_aload_n hx hb dX5_readLine_9 rfl (lv_at hl 1 rfl) ?_
  refine lv_iconst (v := 0) hx hb dX5_readLine_10 (by decide) ?_
  refine lv_sipush (v := 999) hx hb dX5_readLine_11 (by decide) ?_
  obtain ⟨t3, e4, hF⟩ := ob hF
  have hPc := hP
  have hDc := hD
  have hFc := my_free hD hS hA
  obtain ⟨q8, h8⟩ := wc_at (cy := cy) (ad := ad) (ks := ks) (g := g) (u := (t1.2)) (κ := .rd) hk.1 True.intro
  refine va_calli (va_runV (As := [.int 0, .int 999]) (rest := []) ⟨hx, hb, hml, hown, hts⟩ (c_X5_readNumber l dC dI cy nb ad ks g hk (t1.2) (0) (999) (t3.1) (t3.2) H.size e4) (cwV 2 hts (gV mw_227 mw_228 mw_229 mw_22 mw_230) rfl rfl rfl (by decide +kernel) ⟨Nat.le_of_ble_eq_true rfl, Nat.le_of_ble_eq_true rfl⟩) (my_preV hPc hK hDc hE hS hFc (va_recv (q := (RX5, TX5, 11)) hK hP (ci := 5) (q0 := q8) rfl h8)) rfl rfl hl.1 rfl (lv_room (Nat.le_of_ble_eq_true rfl)) dX5_readLine_14 ⟨Nat.le_of_ble_eq_true rfl, Nat.le_of_ble_eq_true rfl⟩) hS (fun q _ h => hFc q h) hFc (fun r u t H1 locs ht hvm hw hB hz1 hk1 hS => ?_)
  clear h8
  obtain ⟨hP1, hD1⟩ := hB
  rw [ht] at hP1
  have hP := hP1
  have hD := hD1.weaken (fun k q _ h => hFc q.1 h)
  generalize H1 = H at hP hS ⊢
  clear hP1 hD1 hPc hDc hFc hk1 hz1 hvm ht
  obtain rfl := hw.symm
  refine lv_istore_n (lv' := [(3, .int (t3.1)), (2, .int (t1.1)), (0, .ref (ad .rd)), (1, .ref (ad (.ln L)))]) hx hb dX5_readLine_17 rfl hl (by decide) rfl (fun ls hl => ?_)
  refine lv_aload_n hx hb dX5_readLine_18 rfl (lv_at hl 2 rfl) ?_
  refine lv_iconst (v := 1) hx hb dX5_readLine_19 (by decide) ?_
  refine lv_bipush (v := 20) hx hb dX5_readLine_20 (by decide) ?_
  obtain ⟨t5, e6, hF⟩ := ob hF
  have hPc := hP
  have hDc := hD
  have hFc := my_free hD hS hA
  obtain ⟨q8, h8⟩ := wc_at (cy := cy) (ad := ad) (ks := ks) (g := g) (u := (t3.2)) (κ := .rd) hk.1 True.intro
  refine va_calli (va_runV (As := [.int 1, .int 20]) (rest := []) ⟨hx, hb, hml, hown, hts⟩ (c_X5_readNumber l dC dI cy nb ad ks g hk (t3.2) (1) (20) (t5.1) (t5.2) H.size e6) (cwV 2 hts (gV mw_227 mw_228 mw_229 mw_22 mw_230) rfl rfl rfl (by decide +kernel) ⟨Nat.le_of_ble_eq_true rfl, Nat.le_of_ble_eq_true rfl⟩) (my_preV hPc hK hDc hE hS hFc (va_recv (q := (RX5, TX5, 11)) hK hP (ci := 5) (q0 := q8) rfl h8)) rfl rfl hl.1 rfl (lv_room (Nat.le_of_ble_eq_true rfl)) dX5_readLine_22 ⟨Nat.le_of_ble_eq_true rfl, Nat.le_of_ble_eq_true rfl⟩) hS (fun q _ h => hFc q h) hFc (fun r u t H1 locs ht hvm hw hB hz1 hk1 hS => ?_)
  clear h8
  obtain ⟨hP1, hD1⟩ := hB
  rw [ht] at hP1
  have hP := hP1
  have hD := hD1.weaken (fun k q _ h => hFc q.1 h)
  generalize H1 = H at hP hS ⊢
  clear hP1 hD1 hPc hDc hFc hk1 hz1 hvm ht
  obtain rfl := hw.symm
  refine lv_istore (lv' := [(4, .int (t5.1)), (3, .int (t3.1)), (2, .int (t1.1)), (0, .ref (ad .rd)), (1, .ref (ad (.ln L)))]) hx hb dX5_readLine_25 hl (by decide) rfl (fun ls hl => ?_)
  refine lv_aload_n hx hb dX5_readLine_27 rfl (lv_at hl 3 rfl) ?_
  refine lv_iconst (v := 1) hx hb dX5_readLine_28 (by decide) ?_
  refine lv_bipush (v := 9) hx hb dX5_readLine_29 (by decide) ?_
  obtain ⟨t7, e8, hF⟩ := ob hF
  have hPc := hP
  have hDc := hD
  have hFc := my_free hD hS hA
  obtain ⟨q8, h8⟩ := wc_at (cy := cy) (ad := ad) (ks := ks) (g := g) (u := (t5.2)) (κ := .rd) hk.1 True.intro
  refine va_calli (va_runV (As := [.int 1, .int 9]) (rest := []) ⟨hx, hb, hml, hown, hts⟩ (c_X5_readNumber l dC dI cy nb ad ks g hk (t5.2) (1) (9) (t7.1) (t7.2) H.size e8) (cwV 2 hts (gV mw_227 mw_228 mw_229 mw_22 mw_230) rfl rfl rfl (by decide +kernel) ⟨Nat.le_of_ble_eq_true rfl, Nat.le_of_ble_eq_true rfl⟩) (my_preV hPc hK hDc hE hS hFc (va_recv (q := (RX5, TX5, 11)) hK hP (ci := 5) (q0 := q8) rfl h8)) rfl rfl hl.1 rfl (lv_room (Nat.le_of_ble_eq_true rfl)) dX5_readLine_31 ⟨Nat.le_of_ble_eq_true rfl, Nat.le_of_ble_eq_true rfl⟩) hS (fun q _ h => hFc q h) hFc (fun r u t H1 locs ht hvm hw hB hz1 hk1 hS => ?_)
  clear h8
  obtain ⟨hP1, hD1⟩ := hB
  rw [ht] at hP1
  have hP := hP1
  have hD := hD1.weaken (fun k q _ h => hFc q.1 h)
  generalize H1 = H at hP hS ⊢
  clear hP1 hD1 hPc hDc hFc hk1 hz1 hvm ht
  obtain rfl := hw.symm
  refine lv_istore (lv' := [(5, .int (t7.1)), (4, .int (t5.1)), (3, .int (t3.1)), (2, .int (t1.1)), (0, .ref (ad .rd)), (1, .ref (ad (.ln L)))]) hx hb dX5_readLine_34 hl (by decide) rfl (fun ls hl => ?_)
  refine lv_aload_n hx hb dX5_readLine_36 rfl (lv_at hl 4 rfl) ?_
  obtain ⟨x9, e10, hF⟩ := ob hF
  have hPc := hP
  have hDc := hD
  have hFc := my_free hD hS hA
  obtain ⟨q8, h8⟩ := wc_at (cy := cy) (ad := ad) (ks := ks) (g := g) (u := (t7.2)) (κ := .rd) hk.1 True.intro
  refine va_calli (va_runV (As := []) (rest := []) ⟨hx, hb, hml, hown, hts⟩ (c_X5_isFine l dC dI cy nb ad ks g hk (t7.2) (x9) H.size e10) (cwV 0 hts (gV mw_239 mw_240 mw_241 mw_22 mw_242) rfl rfl rfl (by decide +kernel) ⟨Nat.le_of_ble_eq_true rfl, Nat.le_of_ble_eq_true rfl⟩) (my_preV hPc hK hDc hE hS hFc (va_recv (q := (RX5, TX5, 11)) hK hP (ci := 5) (q0 := q8) rfl h8)) rfl rfl hl.1 rfl (lv_room (Nat.le_of_ble_eq_true rfl)) dX5_readLine_37 ⟨Nat.le_of_ble_eq_true rfl, Nat.le_of_ble_eq_true rfl⟩) hS (fun q _ h => hFc q h) hFc (fun r u t H1 locs ht hvm hw hB hz1 hk1 hS => ?_)
  clear h8
  obtain ⟨hP1, hD1⟩ := hB
  rw [ht] at hP1
  have hP := hP1
  have hD := hD1.weaken (fun k q _ h => hFc q.1 h)
  generalize H1 = H at hP hS ⊢
  clear hP1 hD1 hPc hDc hFc hk1 hz1 hvm ht
  obtain rfl := hw.symm
  obtain ⟨t12, hJ13, hF⟩ := ob hF
  have join14 : ∀ (H : Heap) (locs : List Loc) (ls : Array Slot), va_P (dC, dI) vwCl (WC cy ad ks g t12) H → va_D A (WC cy ad ks g t12) → va_S A s.heap H locs → lv_has ls 6 [(5, .int (t7.1)), (4, .int (t5.1)), (3, .int (t3.1)), (2, .int (t1.1)), (0, .ref (ad .rd)), (1, .ref (ad (.ln L)))] → W p l e (headSpec (wsg yX5_readLine cX5_readLine 6 none) ({ frames := 9, cells := 0, slots := 0, locals := 400 })).room s m ([.ref (ad .rd), .ref (ad (.ln L))] : List Value).toArray below meth c H locs 0 0 Qn (F0 m 53 ls []) := by
    intro H locs ls hP hD hS hl
    have hZ := s1 hF
    have zuz : t12 = uz := hZ
    have hP9 : va_P (dC, dI) vwCl (WC cy ad ks g uz) H := by rw [← zuz]; exact hP
    have hD9 : va_D A (WC cy ad ks g uz) := by rw [← zuz]; exact hD
    rw [hQ]
    exact W.vret hx hb hr (fun t ht hW => ⟨⟨(), rfl, trivial, by rw [ht]; exact hP9, hD9⟩, hS.F ht⟩) hS.2.2 dX5_readLine_53
  clear hF
  have hF := hJ13
  clear hJ13
  refine lv_if_eq (tgt := 53) hx hb dX5_readLine_40 (by decide) (fun c11 => ?_) (fun c11 => ?_)
  · rw [if_pos c11] at hF
    have ht := s1 hF
    subst ht
    exact join14 _ _ _ hP hD hS (lv_sub hl [0, 1, 2, 3, 4, 5] rfl)
  · rw [if_neg c11] at hF
    refine lv_aload_n hx hb dX5_readLine_43 rfl (lv_at hl 5 rfl) ?_
    refine lv_iload_n hx hb dX5_readLine_44 rfl (lv_at hl 3 rfl) ?_
    refine lv_iload_n hx hb dX5_readLine_45 rfl (lv_at hl 2 rfl) ?_
    refine lv_iload hx hb dX5_readLine_46 (lv_at hl 1 rfl) ?_
    refine lv_iload hx hb dX5_readLine_48 (lv_at hl 0 rfl) ?_
    obtain ⟨u15, e16, hF⟩ := ob hF
    have hPc := hP
    have hDc := hD
    have hFc := my_free hD hS hA
    obtain ⟨q8, h8⟩ := wc_at (cy := cy) (ad := ad) (ks := ks) (g := g) (u := (t7.2)) (κ := (.ln L)) hk.1 h_L
    refine va_callv (va_runV (As := [.int (t1.1), .int (t3.1), .int (t5.1), .int (t7.1)]) (rest := []) ⟨hx, hb, hml, hown, hts⟩ (c_X3_begin l dC dI cy nb ad ks g hk (t7.2) L ((t1.1)) ((t3.1)) ((t5.1)) ((t7.1)) (u15) H.size h_L e16) (cwV 4 hts (gV mw_243 mw_77 mw_78 mw_17 mw_79) rfl rfl rfl (by decide +kernel) ⟨Nat.le_of_ble_eq_true rfl, Nat.le_of_ble_eq_true rfl⟩) (my_preV hPc hK hDc hE hS hFc (va_recv (q := (RX3, TX3, 17)) hK hP (ci := 3) (q0 := q8) rfl h8)) rfl rfl hl.1 rfl (lv_room (Nat.le_of_ble_eq_true rfl)) dX5_readLine_50 ⟨Nat.le_of_ble_eq_true rfl, Nat.le_of_ble_eq_true rfl⟩) hS (fun q _ h => hFc q h) hFc (fun u t H1 locs ht hvm hw hB hz1 hk1 hS => ?_)
    clear h8
    obtain ⟨hP1, hD1⟩ := hB
    rw [ht] at hP1
    have hP := hP1
    have hD := hD1.weaken (fun k q _ h => hFc q.1 h)
    generalize H1 = H at hP hS ⊢
    clear hP1 hD1 hPc hDc hFc hk1 hz1 hvm ht
    have ht := s1 hF
    subst ht
    exact join14 _ _ _ hP hD hS (lv_sub hl [0, 1, 2, 3, 4, 5] rfl)
noncomputable def C5_readRest (g : CG) (u0 : RS) (L : Nat) : Option (RS) := (C5_readNumber g u0 (0) (((u0 (10 + L) 7) - 1))).bind fun t1 => (C5_readNumber g (t1.2) (1) (99)).bind fun t3 => (C5_readNumber g (t3.2) (1) (99)).bind fun t5 => (C5_isFine g (t5.2)).bind fun x7 => (if x7 = 0 then (some (t5.2)) else ((ix 6 (t1.1)).bind fun n13 => (pt (t5.2) (10 + L) (17 + 16 * n13 + 9) (t3.1)).bind fun u15 => (ix 6 (t1.1)).bind fun n17 => (pt u15 (10 + L) (17 + 16 * n17 + 10) (t5.1)).bind fun u19 => some u19) : Option (RS)).bind fun t10 => some t10
set_option maxHeartbeats 4000000 in
set_option maxRecDepth 100000 in
theorem c_X5_readRest (l : Launch) (dC : Nat → ClassId) (dI : Nat → Nat → Nat) (cy : Nat → ClassId) (nb : Nat → Nat) (ad : CK → Nat) (ks : List CK) (g : CG) (hk : GA nb ad g ks) (u0 : RS) (L : Nat) (uz : RS) (sz : Nat) (h_L : has g (.ln L)) (hF : C5_readRest g u0 L = some uz) : Met l yX5_readRest (wsg yX5_readRest cX5_readRest 5 none) ({ frames := 9, cells := 0, slots := 0, locals := 400 }) (va_Pc [.ref (ad .rd), .ref (ad (.ln L))] (fun U => U.heap.size = sz ∧ va_P (dC, dI) vwCl (WC cy ad ks g u0) U.heap ∧ va_K (dC, dI) vwCl (tyL cy) U ∧ va_D (fun _ => True) (WC cy ad ks g u0) ∧ GE nb (va_A (WC cy ad ks g u0) sz) U)) (va_Qv (fun (_ : Unit) => True) (fun _ t => va_P (dC, dI) vwCl (WC cy ad ks g uz) t.heap ∧ va_D (va_A (WC cy ad ks g u0) sz) (WC cy ad ks g uz)) (va_A (WC cy ad ks g u0) sz)) 0 0 (va_A (WC cy ad ks g u0) sz) := by
  refine Met.ofW (cc := cX5_readRest) (maxL := 5) (ret := none) pn_X5 rfl ?_
  intro p e s m args below meth c s₁ B hml hv
  obtain ⟨rfl, hsz, hP, hK, hD0, hE⟩ := hv
  have hx := B.exec
  have hb := B.bytes
  have hr := B.returns
  have hts0 := atoms_spec (ws := (wsg yX5_readRest cX5_readRest 5 none)) B.pre
  have hts : ∀ w ∈ wsL_law, w.before _ s = true := fun w h => hts0 w (List.mem_cons_of_mem _ h)
  have hown : s.vm.findClass RX5 = some m.cls := by have h9 := findClass_of_methodNamed B.named; exact h9
  have hlocks := B.notSynchronized
  subst hsz
  have hD := hD0.self (sz := s.heap.size)
  generalize hAe : va_A (WC cy ad ks g u0) s.heap.size = A at hD hE ⊢
  have hA : ∀ q : Nat, s.heap.size ≤ q → A q := fun q h => by rw [← hAe]; exact Or.inr h
  have hS : va_S A s.heap s.heap [] := va_S.rf
  have hl := lv_entry ([.ref (ad .rd), .ref (ad (.ln L))]) (n := 5) (Nat.le_of_ble_eq_true rfl)
  rw [lg_entry_eq]
  generalize (lg_sl ([.ref (ad .rd), .ref (ad (.ln L))]) ++ List.replicate (5 - (lg_sl ([.ref (ad .rd), .ref (ad (.ln L))])).length) Slot.unset).toArray = ls at hl ⊢
  have hl : lv_has ls 5 [(0, .ref (ad .rd)), (1, .ref (ad (.ln L)))] := hl
  generalize hHe : s.heap = H at hP hS ⊢
  have hS : va_S A s.heap H [] := by rw [hHe]; exact hS
  refine my_Q (fun Qn hQ => ?_)
  simp only [C5_readRest] at hF
  refine lv_aload_n hx hb dX5_readRest_0 rfl (lv_at hl 0 rfl) ?_
  refine lv_iconst (v := 0) hx hb dX5_readRest_1 (by decide) ?_
  refine lv_aload_n hx hb dX5_readRest_2 rfl (lv_at hl 1 rfl) ?_
  obtain ⟨q9, h9⟩ := wc_at (cy := cy) (ad := ad) (ks := ks) (g := g) (u := u0) (κ := (.ln L)) hk.1 h_L
  refine va_get (D := (dC, dI)) (ci := 3) (v := .int (u0 (10 + L) 7)) (C := RX3) (T := TX3) (N := 17) hx hb hts inlX3 hown hK hP q9 h9 rfl 7 (by decide) (hts _ mw_248) (fun _ h9 => h9) rfl dX5_readRest_3 ?_
  clear h9
  refine lv_iconst (v := 1) hx hb dX5_readRest_6 (by decide) ?_
  refine lv_isub hx hb dX5_readRest_7 ?_
  obtain ⟨t1, e2, hF⟩ := ob hF
  have hPc := hP
  have hDc := hD
  have hFc := my_free hD hS hA
  obtain ⟨q8, h8⟩ := wc_at (cy := cy) (ad := ad) (ks := ks) (g := g) (u := u0) (κ := .rd) hk.1 True.intro
  refine va_calli (va_runV (As := [.int 0, .int ((u0 (10 + L) 7) - 1)]) (rest := []) ⟨hx, hb, hml, hown, hts⟩ (c_X5_readNumber l dC dI cy nb ad ks g hk u0 (0) (((u0 (10 + L) 7) - 1)) (t1.1) (t1.2) H.size e2) (cwV 2 hts (gV mw_227 mw_228 mw_229 mw_22 mw_230) rfl rfl rfl (by decide +kernel) ⟨Nat.le_of_ble_eq_true rfl, Nat.le_of_ble_eq_true rfl⟩) (my_preV hPc hK hDc hE hS hFc (va_recv (q := (RX5, TX5, 11)) hK hP (ci := 5) (q0 := q8) rfl h8)) rfl rfl hl.1 rfl (lv_room (Nat.le_of_ble_eq_true rfl)) dX5_readRest_8 ⟨Nat.le_of_ble_eq_true rfl, Nat.le_of_ble_eq_true rfl⟩) hS (fun q _ h => hFc q h) hFc (fun r u t H1 locs ht hvm hw hB hz1 hk1 hS => ?_)
  clear h8
  obtain ⟨hP1, hD1⟩ := hB
  rw [ht] at hP1
  have hP := hP1
  have hD := hD1.weaken (fun k q _ h => hFc q.1 h)
  generalize H1 = H at hP hS ⊢
  clear hP1 hD1 hPc hDc hFc hk1 hz1 hvm ht
  obtain rfl := hw.symm
  refine lv_istore_n (lv' := [(2, .int (t1.1)), (0, .ref (ad .rd)), (1, .ref (ad (.ln L)))]) hx hb dX5_readRest_11 rfl hl (by decide) rfl (fun ls hl => ?_)
  refine lv_aload_n hx hb dX5_readRest_12 rfl (lv_at hl 1 rfl) ?_
  refine lv_iconst (v := 1) hx hb dX5_readRest_13 (by decide) ?_
  refine lv_bipush (v := 99) hx hb dX5_readRest_14 (by decide) ?_
  obtain ⟨t3, e4, hF⟩ := ob hF
  have hPc := hP
  have hDc := hD
  have hFc := my_free hD hS hA
  obtain ⟨q8, h8⟩ := wc_at (cy := cy) (ad := ad) (ks := ks) (g := g) (u := (t1.2)) (κ := .rd) hk.1 True.intro
  refine va_calli (va_runV (As := [.int 1, .int 99]) (rest := []) ⟨hx, hb, hml, hown, hts⟩ (c_X5_readNumber l dC dI cy nb ad ks g hk (t1.2) (1) (99) (t3.1) (t3.2) H.size e4) (cwV 2 hts (gV mw_227 mw_228 mw_229 mw_22 mw_230) rfl rfl rfl (by decide +kernel) ⟨Nat.le_of_ble_eq_true rfl, Nat.le_of_ble_eq_true rfl⟩) (my_preV hPc hK hDc hE hS hFc (va_recv (q := (RX5, TX5, 11)) hK hP (ci := 5) (q0 := q8) rfl h8)) rfl rfl hl.1 rfl (lv_room (Nat.le_of_ble_eq_true rfl)) dX5_readRest_16 ⟨Nat.le_of_ble_eq_true rfl, Nat.le_of_ble_eq_true rfl⟩) hS (fun q _ h => hFc q h) hFc (fun r u t H1 locs ht hvm hw hB hz1 hk1 hS => ?_)
  clear h8
  obtain ⟨hP1, hD1⟩ := hB
  rw [ht] at hP1
  have hP := hP1
  have hD := hD1.weaken (fun k q _ h => hFc q.1 h)
  generalize H1 = H at hP hS ⊢
  clear hP1 hD1 hPc hDc hFc hk1 hz1 hvm ht
  obtain rfl := hw.symm
  refine lv_istore_n (lv' := [(3, .int (t3.1)), (2, .int (t1.1)), (0, .ref (ad .rd)), (1, .ref (ad (.ln L)))]) hx hb dX5_readRest_19 rfl hl (by decide) rfl (fun ls hl => ?_)
  refine lv_aload_n hx hb dX5_readRest_20 rfl (lv_at hl 2 rfl) ?_
  refine lv_iconst (v := 1) hx hb dX5_readRest_21 (by decide) ?_
  refine lv_bipush (v := 99) hx hb dX5_readRest_22 (by decide) ?_
  obtain ⟨t5, e6, hF⟩ := ob hF
  have hPc := hP
  have hDc := hD
  have hFc := my_free hD hS hA
  obtain ⟨q8, h8⟩ := wc_at (cy := cy) (ad := ad) (ks := ks) (g := g) (u := (t3.2)) (κ := .rd) hk.1 True.intro
  refine va_calli (va_runV (As := [.int 1, .int 99]) (rest := []) ⟨hx, hb, hml, hown, hts⟩ (c_X5_readNumber l dC dI cy nb ad ks g hk (t3.2) (1) (99) (t5.1) (t5.2) H.size e6) (cwV 2 hts (gV mw_227 mw_228 mw_229 mw_22 mw_230) rfl rfl rfl (by decide +kernel) ⟨Nat.le_of_ble_eq_true rfl, Nat.le_of_ble_eq_true rfl⟩) (my_preV hPc hK hDc hE hS hFc (va_recv (q := (RX5, TX5, 11)) hK hP (ci := 5) (q0 := q8) rfl h8)) rfl rfl hl.1 rfl (lv_room (Nat.le_of_ble_eq_true rfl)) dX5_readRest_24 ⟨Nat.le_of_ble_eq_true rfl, Nat.le_of_ble_eq_true rfl⟩) hS (fun q _ h => hFc q h) hFc (fun r u t H1 locs ht hvm hw hB hz1 hk1 hS => ?_)
  clear h8
  obtain ⟨hP1, hD1⟩ := hB
  rw [ht] at hP1
  have hP := hP1
  have hD := hD1.weaken (fun k q _ h => hFc q.1 h)
  generalize H1 = H at hP hS ⊢
  clear hP1 hD1 hPc hDc hFc hk1 hz1 hvm ht
  obtain rfl := hw.symm
  refine lv_istore (lv' := [(4, .int (t5.1)), (3, .int (t3.1)), (2, .int (t1.1)), (0, .ref (ad .rd)), (1, .ref (ad (.ln L)))]) hx hb dX5_readRest_27 hl (by decide) rfl (fun ls hl => ?_)
  refine lv_aload_n hx hb dX5_readRest_29 rfl (lv_at hl 3 rfl) ?_
  obtain ⟨x7, e8, hF⟩ := ob hF
  have hPc := hP
  have hDc := hD
  have hFc := my_free hD hS hA
  obtain ⟨q8, h8⟩ := wc_at (cy := cy) (ad := ad) (ks := ks) (g := g) (u := (t5.2)) (κ := .rd) hk.1 True.intro
  refine va_calli (va_runV (As := []) (rest := []) ⟨hx, hb, hml, hown, hts⟩ (c_X5_isFine l dC dI cy nb ad ks g hk (t5.2) (x7) H.size e8) (cwV 0 hts (gV mw_239 mw_240 mw_241 mw_22 mw_242) rfl rfl rfl (by decide +kernel) ⟨Nat.le_of_ble_eq_true rfl, Nat.le_of_ble_eq_true rfl⟩) (my_preV hPc hK hDc hE hS hFc (va_recv (q := (RX5, TX5, 11)) hK hP (ci := 5) (q0 := q8) rfl h8)) rfl rfl hl.1 rfl (lv_room (Nat.le_of_ble_eq_true rfl)) dX5_readRest_30 ⟨Nat.le_of_ble_eq_true rfl, Nat.le_of_ble_eq_true rfl⟩) hS (fun q _ h => hFc q h) hFc (fun r u t H1 locs ht hvm hw hB hz1 hk1 hS => ?_)
  clear h8
  obtain ⟨hP1, hD1⟩ := hB
  rw [ht] at hP1
  have hP := hP1
  have hD := hD1.weaken (fun k q _ h => hFc q.1 h)
  generalize H1 = H at hP hS ⊢
  clear hP1 hD1 hPc hDc hFc hk1 hz1 hvm ht
  obtain rfl := hw.symm
  obtain ⟨t10, hJ11, hF⟩ := ob hF
  have join12 : ∀ (H : Heap) (locs : List Loc) (ls : Array Slot), va_P (dC, dI) vwCl (WC cy ad ks g t10) H → va_D A (WC cy ad ks g t10) → va_S A s.heap H locs → lv_has ls 5 [(4, .int (t5.1)), (3, .int (t3.1)), (2, .int (t1.1)), (0, .ref (ad .rd)), (1, .ref (ad (.ln L)))] → W p l e (headSpec (wsg yX5_readRest cX5_readRest 5 none) ({ frames := 9, cells := 0, slots := 0, locals := 400 })).room s m ([.ref (ad .rd), .ref (ad (.ln L))] : List Value).toArray below meth c H locs 0 0 Qn (F0 m 57 ls []) := by
    intro H locs ls hP hD hS hl
    have hZ := s1 hF
    have zuz : t10 = uz := hZ
    have hP9 : va_P (dC, dI) vwCl (WC cy ad ks g uz) H := by rw [← zuz]; exact hP
    have hD9 : va_D A (WC cy ad ks g uz) := by rw [← zuz]; exact hD
    rw [hQ]
    exact W.vret hx hb hr (fun t ht hW => ⟨⟨(), rfl, trivial, by rw [ht]; exact hP9, hD9⟩, hS.F ht⟩) hS.2.2 dX5_readRest_57
  clear hF
  have hF := hJ11
  clear hJ11
  refine lv_if_eq (tgt := 57) hx hb dX5_readRest_33 (by decide) (fun c9 => ?_) (fun c9 => ?_)
  · rw [if_pos c9] at hF
    have ht := s1 hF
    subst ht
    exact join12 _ _ _ hP hD hS (lv_sub hl [0, 1, 2, 3, 4] rfl)
  · rw [if_neg c9] at hF
    refine lv_aload_n hx hb dX5_readRest_36 rfl (lv_at hl 4 rfl) ?_
    obtain ⟨q9, h9⟩ := wc_at (cy := cy) (ad := ad) (ks := ks) (g := g) (u := (t5.2)) (κ := (.ln L)) hk.1 h_L
    refine va_get (D := (dC, dI)) (ci := 3) (v := .ref (ad (.ss L))) (C := RX3) (T := TX3) (N := 17) hx hb hts inlX3 hown hK hP q9 h9 rfl 10 (by decide) (hts _ mw_249) (fun _ h9 => h9) rfl dX5_readRest_37 ?_
    clear h9
    refine lv_iload_n hx hb dX5_readRest_40 rfl (lv_at hl 2 rfl) ?_
    obtain ⟨n13, e14, hF⟩ := ob hF
    obtain ⟨q9, h9⟩ := wc_at (cy := cy) (ad := ad) (ks := ks) (g := g) (u := (t5.2)) (κ := (.ss L)) hk.1 h_L
    refine va_aldq hx hb hK hP q9 6 h9 rfl (ix_in e14) dX5_readRest_41 ?_
    refine my_top (y := .ref (ad (.st L n13))) (ixv (F := fun j => ad (.st L j)) e14) ?_
    clear h9
    refine lv_iload_n hx hb dX5_readRest_42 rfl (lv_at hl 1 rfl) ?_
    obtain ⟨q9, h9, ez9⟩ := wc_set (cy := cy) (ad := ad) (ks := ks) (g := g) (u := (t5.2)) (κ := (.st L n13)) (r := (10 + L)) (i := (17 + 16 * n13 + 9)) (v := (t3.1)) hk.1 ⟨h_L, (ix_lt e14)⟩ (own_st (inl_lt h_L) (ix_lt e14) (by decide)) (sf_st_11)
    refine va_put (D := (dC, dI)) (ci := 6) (v := .int (t3.1)) (ty := .int) (C := RX6) (T := TX6) (N := 15) hx hb hts inlX6 tyX6 tyX6_ok nmX6 hown hK hP hD hS q9 h9 rfl 11 (by decide) (hts _ mw_250) (fun _ h9 => h9) rfl (by decide +kernel) rfl rfl (Nat.le_of_ble_eq_true rfl) dX5_readRest_43 (fun H locs hP hD hS => ?_)
    obtain ⟨u15, e16, hF⟩ := ob hF
    have hP : va_P (dC, dI) vwCl (WC cy ad ks g u15) H := by rw [← pt_eq e16, ← ez9]; exact hP
    have hD : va_D A (WC cy ad ks g u15) := by rw [← pt_eq e16, ← ez9]; exact hD
    clear ez9 h9
    refine lv_aload_n hx hb dX5_readRest_46 rfl (lv_at hl 4 rfl) ?_
    obtain ⟨q9, h9⟩ := wc_at (cy := cy) (ad := ad) (ks := ks) (g := g) (u := u15) (κ := (.ln L)) hk.1 h_L
    refine va_get (D := (dC, dI)) (ci := 3) (v := .ref (ad (.ss L))) (C := RX3) (T := TX3) (N := 17) hx hb hts inlX3 hown hK hP q9 h9 rfl 10 (by decide) (hts _ mw_249) (fun _ h9 => h9) rfl dX5_readRest_47 ?_
    clear h9
    refine lv_iload_n hx hb dX5_readRest_50 rfl (lv_at hl 2 rfl) ?_
    obtain ⟨n17, e18, hF⟩ := ob hF
    obtain ⟨q9, h9⟩ := wc_at (cy := cy) (ad := ad) (ks := ks) (g := g) (u := u15) (κ := (.ss L)) hk.1 h_L
    refine va_aldq hx hb hK hP q9 6 h9 rfl (ix_in e18) dX5_readRest_51 ?_
    refine my_top (y := .ref (ad (.st L n17))) (ixv (F := fun j => ad (.st L j)) e18) ?_
    clear h9
    refine lv_iload hx hb dX5_readRest_52 (lv_at hl 0 rfl) ?_
    obtain ⟨q9, h9, ez9⟩ := wc_set (cy := cy) (ad := ad) (ks := ks) (g := g) (u := u15) (κ := (.st L n17)) (r := (10 + L)) (i := (17 + 16 * n17 + 10)) (v := (t5.1)) hk.1 ⟨h_L, (ix_lt e18)⟩ (own_st (inl_lt h_L) (ix_lt e18) (by decide)) (sf_st_12)
    refine va_put (D := (dC, dI)) (ci := 6) (v := .int (t5.1)) (ty := .int) (C := RX6) (T := TX6) (N := 15) hx hb hts inlX6 tyX6 tyX6_ok nmX6 hown hK hP hD hS q9 h9 rfl 12 (by decide) (hts _ mw_251) (fun _ h9 => h9) rfl (by decide +kernel) rfl rfl (Nat.le_of_ble_eq_true rfl) dX5_readRest_54 (fun H locs hP hD hS => ?_)
    obtain ⟨u19, e20, hF⟩ := ob hF
    have hP : va_P (dC, dI) vwCl (WC cy ad ks g u19) H := by rw [← pt_eq e20, ← ez9]; exact hP
    have hD : va_D A (WC cy ad ks g u19) := by rw [← pt_eq e20, ← ez9]; exact hD
    clear ez9 h9
    have ht := s1 hF
    subst ht
    exact join12 _ _ _ hP hD hS (lv_sub hl [0, 1, 2, 3, 4] rfl)
noncomputable def C5_readLot (g : CG) (u0 : RS) (L : Nat) (a2 : Int32) : Option (RS) := if (u0 (10 + L) 8) < 6 then ((C5_readNumber g u0 (0) (9)).bind fun t2 => (C5_isFine g (t2.2)).bind fun x4 => (if x4 = 0 then (some (t2.2)) else ((C3_addLot g (t2.2) L ((t2.1))).bind fun u10 => some u10) : Option (RS)).bind fun t7 => some t7) else ((C5_error g u0 (4) (a2)).bind fun u12 => some u12)
set_option maxHeartbeats 4000000 in
set_option maxRecDepth 100000 in
theorem c_X5_readLot (l : Launch) (dC : Nat → ClassId) (dI : Nat → Nat → Nat) (cy : Nat → ClassId) (nb : Nat → Nat) (ad : CK → Nat) (ks : List CK) (g : CG) (hk : GA nb ad g ks) (u0 : RS) (L : Nat) (a2 : Int32) (uz : RS) (sz : Nat) (h_L : has g (.ln L)) (hF : C5_readLot g u0 L a2 = some uz) : Met l yX5_readLot (wsg yX5_readLot cX5_readLot 4 none) ({ frames := 9, cells := 0, slots := 0, locals := 400 }) (va_Pc [.ref (ad .rd), .ref (ad (.ln L)), .int a2] (fun U => U.heap.size = sz ∧ va_P (dC, dI) vwCl (WC cy ad ks g u0) U.heap ∧ va_K (dC, dI) vwCl (tyL cy) U ∧ va_D (fun _ => True) (WC cy ad ks g u0) ∧ GE nb (va_A (WC cy ad ks g u0) sz) U)) (va_Qv (fun (_ : Unit) => True) (fun _ t => va_P (dC, dI) vwCl (WC cy ad ks g uz) t.heap ∧ va_D (va_A (WC cy ad ks g u0) sz) (WC cy ad ks g uz)) (va_A (WC cy ad ks g u0) sz)) 0 0 (va_A (WC cy ad ks g u0) sz) := by
  refine Met.ofW (cc := cX5_readLot) (maxL := 4) (ret := none) pn_X5 rfl ?_
  intro p e s m args below meth c s₁ B hml hv
  obtain ⟨rfl, hsz, hP, hK, hD0, hE⟩ := hv
  have hx := B.exec
  have hb := B.bytes
  have hr := B.returns
  have hts0 := atoms_spec (ws := (wsg yX5_readLot cX5_readLot 4 none)) B.pre
  have hts : ∀ w ∈ wsL_law, w.before _ s = true := fun w h => hts0 w (List.mem_cons_of_mem _ h)
  have hown : s.vm.findClass RX5 = some m.cls := by have h9 := findClass_of_methodNamed B.named; exact h9
  have hlocks := B.notSynchronized
  subst hsz
  have hD := hD0.self (sz := s.heap.size)
  generalize hAe : va_A (WC cy ad ks g u0) s.heap.size = A at hD hE ⊢
  have hA : ∀ q : Nat, s.heap.size ≤ q → A q := fun q h => by rw [← hAe]; exact Or.inr h
  have hS : va_S A s.heap s.heap [] := va_S.rf
  have hl := lv_entry ([.ref (ad .rd), .ref (ad (.ln L)), .int a2]) (n := 4) (Nat.le_of_ble_eq_true rfl)
  rw [lg_entry_eq]
  generalize (lg_sl ([.ref (ad .rd), .ref (ad (.ln L)), .int a2]) ++ List.replicate (4 - (lg_sl ([.ref (ad .rd), .ref (ad (.ln L)), .int a2])).length) Slot.unset).toArray = ls at hl ⊢
  have hl : lv_has ls 4 [(0, .ref (ad .rd)), (1, .ref (ad (.ln L))), (2, .int a2)] := hl
  generalize hHe : s.heap = H at hP hS ⊢
  have hS : va_S A s.heap H [] := by rw [hHe]; exact hS
  refine my_Q (fun Qn hQ => ?_)
  simp only [C5_readLot] at hF
  refine lv_aload_n hx hb dX5_readLot_0 rfl (lv_at hl 1 rfl) ?_
  obtain ⟨q9, h9⟩ := wc_at (cy := cy) (ad := ad) (ks := ks) (g := g) (u := u0) (κ := (.ln L)) hk.1 h_L
  refine va_get (D := (dC, dI)) (ci := 3) (v := .int (u0 (10 + L) 8)) (C := RX3) (T := TX3) (N := 17) hx hb hts inlX3 hown hK hP q9 h9 rfl 8 (by decide) (hts _ mw_256) (fun _ h9 => h9) rfl dX5_readLot_1 ?_
  clear h9
  refine lv_bipush (v := 6) hx hb dX5_readLot_4 (by decide) ?_
  refine lv_icmp_lt (tgt := 16) hx hb dX5_readLot_6 (by decide) (fun c1 => ?_) (fun c1 => ?_)
  · rw [if_pos c1] at hF
    refine lv_aload_n hx hb dX5_readLot_16 rfl (lv_at hl 0 rfl) ?_
    refine lv_iconst (v := 0) hx hb dX5_readLot_17 (by decide) ?_
    refine lv_bipush (v := 9) hx hb dX5_readLot_18 (by decide) ?_
    obtain ⟨t2, e3, hF⟩ := ob hF
    have hPc := hP
    have hDc := hD
    have hFc := my_free hD hS hA
    obtain ⟨q8, h8⟩ := wc_at (cy := cy) (ad := ad) (ks := ks) (g := g) (u := u0) (κ := .rd) hk.1 True.intro
    refine va_calli (va_runV (As := [.int 0, .int 9]) (rest := []) ⟨hx, hb, hml, hown, hts⟩ (c_X5_readNumber l dC dI cy nb ad ks g hk u0 (0) (9) (t2.1) (t2.2) H.size e3) (cwV 2 hts (gV mw_227 mw_228 mw_229 mw_22 mw_230) rfl rfl rfl (by decide +kernel) ⟨Nat.le_of_ble_eq_true rfl, Nat.le_of_ble_eq_true rfl⟩) (my_preV hPc hK hDc hE hS hFc (va_recv (q := (RX5, TX5, 11)) hK hP (ci := 5) (q0 := q8) rfl h8)) rfl rfl hl.1 rfl (lv_room (Nat.le_of_ble_eq_true rfl)) dX5_readLot_20 ⟨Nat.le_of_ble_eq_true rfl, Nat.le_of_ble_eq_true rfl⟩) hS (fun q _ h => hFc q h) hFc (fun r u t H1 locs ht hvm hw hB hz1 hk1 hS => ?_)
    clear h8
    obtain ⟨hP1, hD1⟩ := hB
    rw [ht] at hP1
    have hP := hP1
    have hD := hD1.weaken (fun k q _ h => hFc q.1 h)
    generalize H1 = H at hP hS ⊢
    clear hP1 hD1 hPc hDc hFc hk1 hz1 hvm ht
    obtain rfl := hw.symm
    refine lv_istore_n (lv' := [(3, .int (t2.1)), (0, .ref (ad .rd)), (1, .ref (ad (.ln L))), (2, .int a2)]) hx hb dX5_readLot_23 rfl hl (by decide) rfl (fun ls hl => ?_)
    refine lv_aload_n hx hb dX5_readLot_24 rfl (lv_at hl 1 rfl) ?_
    obtain ⟨x4, e5, hF⟩ := ob hF
    have hPc := hP
    have hDc := hD
    have hFc := my_free hD hS hA
    obtain ⟨q8, h8⟩ := wc_at (cy := cy) (ad := ad) (ks := ks) (g := g) (u := (t2.2)) (κ := .rd) hk.1 True.intro
    refine va_calli (va_runV (As := []) (rest := []) ⟨hx, hb, hml, hown, hts⟩ (c_X5_isFine l dC dI cy nb ad ks g hk (t2.2) (x4) H.size e5) (cwV 0 hts (gV mw_239 mw_240 mw_241 mw_22 mw_242) rfl rfl rfl (by decide +kernel) ⟨Nat.le_of_ble_eq_true rfl, Nat.le_of_ble_eq_true rfl⟩) (my_preV hPc hK hDc hE hS hFc (va_recv (q := (RX5, TX5, 11)) hK hP (ci := 5) (q0 := q8) rfl h8)) rfl rfl hl.1 rfl (lv_room (Nat.le_of_ble_eq_true rfl)) dX5_readLot_25 ⟨Nat.le_of_ble_eq_true rfl, Nat.le_of_ble_eq_true rfl⟩) hS (fun q _ h => hFc q h) hFc (fun r u t H1 locs ht hvm hw hB hz1 hk1 hS => ?_)
    clear h8
    obtain ⟨hP1, hD1⟩ := hB
    rw [ht] at hP1
    have hP := hP1
    have hD := hD1.weaken (fun k q _ h => hFc q.1 h)
    generalize H1 = H at hP hS ⊢
    clear hP1 hD1 hPc hDc hFc hk1 hz1 hvm ht
    obtain rfl := hw.symm
    obtain ⟨t7, hJ8, hF⟩ := ob hF
    have join9 : ∀ (H : Heap) (locs : List Loc) (ls : Array Slot), va_P (dC, dI) vwCl (WC cy ad ks g t7) H → va_D A (WC cy ad ks g t7) → va_S A s.heap H locs → lv_has ls 4 [(3, .int (t2.1)), (0, .ref (ad .rd)), (1, .ref (ad (.ln L))), (2, .int a2)] → W p l e (headSpec (wsg yX5_readLot cX5_readLot 4 none) ({ frames := 9, cells := 0, slots := 0, locals := 400 })).room s m ([.ref (ad .rd), .ref (ad (.ln L)), .int a2] : List Value).toArray below meth c H locs 0 0 Qn (F0 m 36 ls []) := by
      intro H locs ls hP hD hS hl
      have hZ := s1 hF
      have zuz : t7 = uz := hZ
      have hP9 : va_P (dC, dI) vwCl (WC cy ad ks g uz) H := by rw [← zuz]; exact hP
      have hD9 : va_D A (WC cy ad ks g uz) := by rw [← zuz]; exact hD
      rw [hQ]
      exact W.vret hx hb hr (fun t ht hW => ⟨⟨(), rfl, trivial, by rw [ht]; exact hP9, hD9⟩, hS.F ht⟩) hS.2.2 dX5_readLot_36
    clear hF
    have hF := hJ8
    clear hJ8
    refine lv_if_eq (tgt := 36) hx hb dX5_readLot_28 (by decide) (fun c6 => ?_) (fun c6 => ?_)
    · rw [if_pos c6] at hF
      have ht := s1 hF
      subst ht
      exact join9 _ _ _ hP hD hS (lv_sub hl [0, 1, 2, 3] rfl)
    · rw [if_neg c6] at hF
      refine lv_aload_n hx hb dX5_readLot_31 rfl (lv_at hl 2 rfl) ?_
      refine lv_iload_n hx hb dX5_readLot_32 rfl (lv_at hl 0 rfl) ?_
      obtain ⟨u10, e11, hF⟩ := ob hF
      have hPc := hP
      have hDc := hD
      have hFc := my_free hD hS hA
      obtain ⟨q8, h8⟩ := wc_at (cy := cy) (ad := ad) (ks := ks) (g := g) (u := (t2.2)) (κ := (.ln L)) hk.1 h_L
      refine va_callv (va_runV (As := [.int (t2.1)]) (rest := []) ⟨hx, hb, hml, hown, hts⟩ (c_X3_addLot l dC dI cy nb ad ks g hk (t2.2) L ((t2.1)) (u10) H.size h_L e11) (cwV 1 hts (gV mw_257 mw_258 mw_259 mw_17 mw_260) rfl rfl rfl (by decide +kernel) ⟨Nat.le_of_ble_eq_true rfl, Nat.le_of_ble_eq_true rfl⟩) (my_preV hPc hK hDc hE hS hFc (va_recv (q := (RX3, TX3, 17)) hK hP (ci := 3) (q0 := q8) rfl h8)) rfl rfl hl.1 rfl (lv_room (Nat.le_of_ble_eq_true rfl)) dX5_readLot_33 ⟨Nat.le_of_ble_eq_true rfl, Nat.le_of_ble_eq_true rfl⟩) hS (fun q _ h => hFc q h) hFc (fun u t H1 locs ht hvm hw hB hz1 hk1 hS => ?_)
      clear h8
      obtain ⟨hP1, hD1⟩ := hB
      rw [ht] at hP1
      have hP := hP1
      have hD := hD1.weaken (fun k q _ h => hFc q.1 h)
      generalize H1 = H at hP hS ⊢
      clear hP1 hD1 hPc hDc hFc hk1 hz1 hvm ht
      have ht := s1 hF
      subst ht
      exact join9 _ _ _ hP hD hS (lv_sub hl [0, 1, 2, 3] rfl)
  · rw [if_neg c1] at hF
    refine lv_aload_n hx hb dX5_readLot_9 rfl (lv_at hl 0 rfl) ?_
    refine lv_iconst (v := 4) hx hb dX5_readLot_10 (by decide) ?_
    refine lv_iload_n hx hb dX5_readLot_11 rfl (lv_at hl 2 rfl) ?_
    obtain ⟨u12, e13, hF⟩ := ob hF
    have hPc := hP
    have hDc := hD
    have hFc := my_free hD hS hA
    obtain ⟨q8, h8⟩ := wc_at (cy := cy) (ad := ad) (ks := ks) (g := g) (u := u0) (κ := .rd) hk.1 True.intro
    refine va_callv (va_runV (As := [.int 4, .int a2]) (rest := []) ⟨hx, hb, hml, hown, hts⟩ (c_X5_error l dC dI cy nb ad ks g hk u0 (4) (a2) (u12) H.size e13) (cwV 2 hts (gV mw_219 mw_220 mw_221 mw_22 mw_222) rfl rfl rfl (by decide +kernel) ⟨Nat.le_of_ble_eq_true rfl, Nat.le_of_ble_eq_true rfl⟩) (my_preV hPc hK hDc hE hS hFc (va_recv (q := (RX5, TX5, 11)) hK hP (ci := 5) (q0 := q8) rfl h8)) rfl rfl hl.1 rfl (lv_room (Nat.le_of_ble_eq_true rfl)) dX5_readLot_12 ⟨Nat.le_of_ble_eq_true rfl, Nat.le_of_ble_eq_true rfl⟩) hS (fun q _ h => hFc q h) hFc (fun u t H1 locs ht hvm hw hB hz1 hk1 hS => ?_)
    clear h8
    obtain ⟨hP1, hD1⟩ := hB
    rw [ht] at hP1
    have hP := hP1
    have hD := hD1.weaken (fun k q _ h => hFc q.1 h)
    generalize H1 = H at hP hS ⊢
    clear hP1 hD1 hPc hDc hFc hk1 hz1 hvm ht
    have hZ := s1 hF
    have zuz : u12 = uz := hZ
    have hP9 : va_P (dC, dI) vwCl (WC cy ad ks g uz) H := by rw [← zuz]; exact hP
    have hD9 : va_D A (WC cy ad ks g uz) := by rw [← zuz]; exact hD
    rw [hQ]
    exact W.vret hx hb hr (fun t ht hW => ⟨⟨(), rfl, trivial, by rw [ht]; exact hP9, hD9⟩, hS.F ht⟩) hS.2.2 dX5_readLot_15
noncomputable def C7_mostPace (a1 : Int32) : Option (Int32) := (if a1 = 3 then (some (9 : Int32)) else (some (99 : Int32)) : Option (Int32)).bind fun t2 => some t2
set_option maxHeartbeats 4000000 in
set_option maxRecDepth 100000 in
theorem c_X7_mostPace (l : Launch) (dC : Nat → ClassId) (dI : Nat → Nat → Nat) (cy : Nat → ClassId) (nb : Nat → Nat)  (a1 : Int32) (ro : Int32) (sz : Nat) (hF : C7_mostPace a1 = some ro) : Met l yX7_mostPace (wsg yX7_mostPace cX7_mostPace 1 (some .int)) ({ frames := 7, cells := 0, slots := 0, locals := 200 }) (va_Pc [.int a1] (fun U => U.heap.size = sz ∧ va_P (dC, dI) vwCl ([] : va_W) U.heap ∧ va_K (dC, dI) vwCl (tyL cy) U ∧ va_D (fun _ => True) ([] : va_W) ∧ GE nb (va_A ([] : va_W) sz) U)) (va_Qi (fun (r : Int32) (_ : Unit) => r = ro) (fun _ t => va_P (dC, dI) vwCl ([] : va_W) t.heap ∧ va_D (va_A ([] : va_W) sz) ([] : va_W)) (va_A ([] : va_W) sz)) 0 0 (va_A ([] : va_W) sz) := by
  refine Met.ofW (cc := cX7_mostPace) (maxL := 1) (ret := (some .int)) pn_X7 rfl ?_
  intro p e s m args below meth c s₁ B hml hv
  obtain ⟨rfl, hsz, hP, hK, hD0, hE⟩ := hv
  have hx := B.exec
  have hb := B.bytes
  have hr := B.returns
  have hts0 := atoms_spec (ws := (wsg yX7_mostPace cX7_mostPace 1 (some .int))) B.pre
  have hts : ∀ w ∈ wsL_law, w.before _ s = true := fun w h => hts0 w (List.mem_cons_of_mem _ h)
  have hown : s.vm.findClass RX7 = some m.cls := by have h9 := findClass_of_methodNamed B.named; exact h9
  have hlocks := B.notSynchronized
  subst hsz
  have hD := hD0.self (sz := s.heap.size)
  generalize hAe : va_A ([] : va_W) s.heap.size = A at hD hE ⊢
  have hA : ∀ q : Nat, s.heap.size ≤ q → A q := fun q h => by rw [← hAe]; exact Or.inr h
  have hS : va_S A s.heap s.heap [] := va_S.rf
  have hl := lv_entry ([.int a1]) (n := 1) (Nat.le_of_ble_eq_true rfl)
  rw [lg_entry_eq]
  generalize (lg_sl ([.int a1]) ++ List.replicate (1 - (lg_sl ([.int a1])).length) Slot.unset).toArray = ls at hl ⊢
  have hl : lv_has ls 1 [(0, .int a1)] := hl
  generalize hHe : s.heap = H at hP hS ⊢
  have hS : va_S A s.heap H [] := by rw [hHe]; exact hS
  refine my_Q (fun Qn hQ => ?_)
  simp only [C7_mostPace] at hF
  refine lv_iload_n hx hb dX7_mostPace_0 rfl (lv_at hl 0 rfl) ?_
  refine lv_iconst (v := 3) hx hb dX7_mostPace_1 (by decide) ?_
  obtain ⟨t2, hJ3, hF⟩ := ob hF
  have join4 : ∀ (H : Heap) (locs : List Loc) (ls : Array Slot), va_P (dC, dI) vwCl ([] : va_W) H → va_D A ([] : va_W) → va_S A s.heap H locs → lv_has ls 1 [(0, .int a1)] → W p l e (headSpec (wsg yX7_mostPace cX7_mostPace 1 (some .int)) ({ frames := 7, cells := 0, slots := 0, locals := 200 })).room s m ([.int a1] : List Value).toArray below meth c H locs 0 0 Qn (F0 m 12 ls [.int t2]) := by
    intro H locs ls hP hD hS hl
    have hZ := s1 hF
    have zro : t2 = ro := hZ
    have hP9 := hP
    have hD9 := hD
    rw [hQ]
    exact W.iret (v := t2) hx hb hr (fun t ht hW => ⟨⟨t2, (), rfl, zro, by rw [ht]; exact hP9, hD9⟩, hS.F ht⟩) hS.2.2 dX7_mostPace_12
  clear hF
  have hF := hJ3
  clear hJ3
  refine lv_icmp_ne (tgt := 10) hx hb dX7_mostPace_2 (by decide) (fun c1 => ?_) (fun c1 => ?_)
  · rw [if_neg c1] at hF
    refine lv_bipush (v := 99) hx hb dX7_mostPace_10 (by decide) ?_
    have ht := s1 hF
    subst ht
    exact join4 _ _ _ hP hD hS (lv_sub hl [0] rfl)
  · rw [if_pos c1] at hF
    refine lv_bipush (v := 9) hx hb dX7_mostPace_5 (by decide) ?_
    refine lv_goto (tgt := 12) hx hb dX7_mostPace_7 (by decide) ?_
    have ht := s1 hF
    subst ht
    exact join4 _ _ _ hP hD hS (lv_sub hl [0] rfl)
noncomputable def C5_readScript_L7 (t1 : Int32 × RS) (g : CG) : Nat → Int32 → RS → Option (Int32 × RS)
  | 0, _, _ => none
  | m31 + 1, y3, u4 => if (u4 0 5) ≤ (u4 0 6) then (some ((y3, u4))) else ((rd u4 3 600 (u4 0 6)).bind fun x33 => (C5_isDigit (x33)).bind fun x35 => if x35 = 0 then (some ((y3, u4))) else ((if y3 = 0 then (some (0 : Int32)) else ((rd u4 3 600 (u4 0 6)).bind fun x44 => if 49 < x44 then (some (0 : Int32)) else (some (1 : Int32))) : Option (Int32)).bind fun t39 => (pt u4 0 6 ((u4 0 6) + 1)).bind fun u42 => C5_readScript_L7 t1 g m31 (t39) u42))
noncomputable def C5_readScript (g : CG) (u0 : RS)  : Option (Int32 × CG × RS) := (C5_skipSpaces g u0).bind fun t1 => (C5_readScript_L7 t1 g FUEL (1 : Int32) (t1.2)).bind fun t5 => (if ((t5.2) 0 6) = (t1.1) then ((C5_error g (t5.2) (1) ((t1.1))).bind fun u28 => some u28) else (if (t5.1) = 0 then ((C5_error g (t5.2) (2) ((t1.1))).bind fun u23 => some u23) else (if (((t5.2) 0 6) - (t1.1)) ≤ 12 then (some (t5.2)) else ((C5_error g (t5.2) (2) ((t1.1))).bind fun u26 => some u26))) : Option (RS)).bind fun t10 => (C5_isFine g t10).bind fun x13 => if x13 = 0 then (some ((0), g, t10)) else ((C_J7_copyOfRange_39247_tb g t10 ((t1.1)) ((t10 0 6))).bind fun t16 => some ((t16.1), (t16.2.1), (t16.2.2)))
set_option maxHeartbeats 4000000 in
set_option maxRecDepth 100000 in
theorem c_X5_readScript (l : Launch) (dC : Nat → ClassId) (dI : Nat → Nat → Nat) (cy : Nat → ClassId) (nb : Nat → Nat) (ad : CK → Nat) (ks : List CK) (g : CG) (hk : GA nb ad g ks) (u0 : RS)  (ro : Int32) (gz : CG) (uz : RS) (sz : Nat) (hF : C5_readScript g u0  = some (ro, gz, uz)) : Met l yX5_readScript (wsg yX5_readScript cX5_readScript 3 (some (.array .byte))) ({ frames := 10, cells := 1, slots := 16, locals := 500 }) (va_Pc [.ref (ad .rd)] (fun U => U.heap.size = sz ∧ va_P (dC, dI) vwCl (WC cy ad ks g u0) U.heap ∧ va_K (dC, dI) vwCl (tyL cy) U ∧ va_D (fun _ => True) (WC cy ad ks g u0) ∧ GE nb (va_A (WC cy ad ks g u0) sz) U)) (va_Qr (fun (_ : Unit) => True) (fun _ ra t => ∃ (ad' : CK → Nat) (ks' : List CK), ra = ad' (.tx ro.toNatClampNeg) ∧ GA nb ad' gz ks' ∧ AX g ad gz ad' ∧ va_P (dC, dI) vwCl (WC cy ad' ks' gz uz) t.heap ∧ va_D (va_A (WC cy ad ks g u0) sz) (WC cy ad' ks' gz uz)) (va_A (WC cy ad ks g u0) sz)) 1 16 (va_A (WC cy ad ks g u0) sz) := by
  refine Met.ofW (cc := cX5_readScript) (maxL := 3) (ret := (some (.array .byte))) pn_X5 rfl ?_
  intro p e s m args below meth c s₁ B hml hv
  obtain ⟨rfl, hsz, hP, hK, hD0, hE⟩ := hv
  have hx := B.exec
  have hb := B.bytes
  have hr := B.returns
  have hts0 := atoms_spec (ws := (wsg yX5_readScript cX5_readScript 3 (some (.array .byte)))) B.pre
  have hts : ∀ w ∈ wsL_law, w.before _ s = true := fun w h => hts0 w (List.mem_cons_of_mem _ h)
  have hown : s.vm.findClass RX5 = some m.cls := by have h9 := findClass_of_methodNamed B.named; exact h9
  have hlocks := B.notSynchronized
  subst hsz
  have hD := hD0.self (sz := s.heap.size)
  generalize hAe : va_A (WC cy ad ks g u0) s.heap.size = A at hD hE ⊢
  have hA : ∀ q : Nat, s.heap.size ≤ q → A q := fun q h => by rw [← hAe]; exact Or.inr h
  have hS : va_S A s.heap s.heap [] := va_S.rf
  have hl := lv_entry ([.ref (ad .rd)]) (n := 3) (Nat.le_of_ble_eq_true rfl)
  rw [lg_entry_eq]
  generalize (lg_sl ([.ref (ad .rd)]) ++ List.replicate (3 - (lg_sl ([.ref (ad .rd)])).length) Slot.unset).toArray = ls at hl ⊢
  have hl : lv_has ls 3 [(0, .ref (ad .rd))] := hl
  generalize hHe : s.heap = H at hP hS ⊢
  have hS : va_S A s.heap H [] := by rw [hHe]; exact hS
  refine my_Q (fun Qn hQ => ?_)
  simp only [C5_readScript] at hF
  refine lv_aload_n hx hb dX5_readScript_0 rfl (lv_at hl 0 rfl) ?_
  obtain ⟨t1, e2, hF⟩ := ob hF
  have hPc := hP
  have hDc := hD
  have hFc := my_free hD hS hA
  obtain ⟨q8, h8⟩ := wc_at (cy := cy) (ad := ad) (ks := ks) (g := g) (u := u0) (κ := .rd) hk.1 True.intro
  refine va_calli (va_runV (As := []) (rest := []) ⟨hx, hb, hml, hown, hts⟩ (c_X5_skipSpaces l dC dI cy nb ad ks g hk u0 (t1.1) (t1.2) H.size e2) (cwV 0 hts (gV mw_155 mw_156 mw_157 mw_22 mw_158) rfl rfl rfl (by decide +kernel) ⟨Nat.le_of_ble_eq_true rfl, Nat.le_of_ble_eq_true rfl⟩) (my_preV hPc hK hDc hE hS hFc (va_recv (q := (RX5, TX5, 11)) hK hP (ci := 5) (q0 := q8) rfl h8)) rfl rfl hl.1 rfl (lv_room (Nat.le_of_ble_eq_true rfl)) dX5_readScript_1 ⟨Nat.le_of_ble_eq_true rfl, Nat.le_of_ble_eq_true rfl⟩) hS (fun q _ h => hFc q h) hFc (fun r u t H1 locs ht hvm hw hB hz1 hk1 hS => ?_)
  clear h8
  obtain ⟨hP1, hD1⟩ := hB
  rw [ht] at hP1
  have hP := hP1
  have hD := hD1.weaken (fun k q _ h => hFc q.1 h)
  generalize H1 = H at hP hS ⊢
  clear hP1 hD1 hPc hDc hFc hk1 hz1 hvm ht
  obtain rfl := hw.symm
  refine lv_istore_n (lv' := [(1, .int (t1.1)), (0, .ref (ad .rd))]) hx hb dX5_readScript_4 rfl hl (by decide) rfl (fun ls hl => ?_)
  refine lv_iconst (v := 1) hx hb dX5_readScript_5 (by decide) ?_
  refine lv_istore_n (lv' := [(2, .int 1), (1, .int (t1.1)), (0, .ref (ad .rd))]) hx hb dX5_readScript_6 rfl hl (by decide) rfl (fun ls hl => ?_)
  obtain ⟨t5, hL6, hF⟩ := ob hF
  have kx7 : ∀ (H : Heap) (locs : List Loc) (ls : Array Slot), va_P (dC, dI) vwCl (WC cy ad ks g (t5.2)) H → va_D A (WC cy ad ks g (t5.2)) → va_S A s.heap H locs → lv_has ls 3 [(2, .int (t5.1)), (1, .int (t1.1)), (0, .ref (ad .rd))] → W p l e (headSpec (wsg yX5_readScript cX5_readScript 3 (some (.array .byte))) ({ frames := 10, cells := 1, slots := 16, locals := 500 })).room s m ([.ref (ad .rd)] : List Value).toArray below meth c H locs 0 0 Qn (F0 m 70 ls []) := by
    intro H locs ls hP hD hS hl
    refine lv_aload_n hx hb dX5_readScript_70 rfl (lv_at hl 2 rfl) ?_
    obtain ⟨q9, h9⟩ := wc_at (cy := cy) (ad := ad) (ks := ks) (g := g) (u := (t5.2)) (κ := .rd) hk.1 True.intro
    refine va_get (D := (dC, dI)) (ci := 5) (v := .int ((t5.2) 0 6)) (C := RX5) (T := TX5) (N := 11) hx hb hts inlX5 hown hK hP q9 h9 rfl 2 (by decide) (hts _ mw_148) (fun _ h9 => h9) rfl dX5_readScript_71 ?_
    clear h9
    refine lv_iload_n hx hb dX5_readScript_74 rfl (lv_at hl 1 rfl) ?_
    obtain ⟨t10, hJ11, hF⟩ := ob hF
    have join12 : ∀ (H : Heap) (locs : List Loc) (ls : Array Slot), va_P (dC, dI) vwCl (WC cy ad ks g t10) H → va_D A (WC cy ad ks g t10) → va_S A s.heap H locs → lv_has ls 3 [(2, .int (t5.1)), (1, .int (t1.1)), (0, .ref (ad .rd))] → W p l e (headSpec (wsg yX5_readScript cX5_readScript 3 (some (.array .byte))) ({ frames := 10, cells := 1, slots := 16, locals := 500 })).room s m ([.ref (ad .rd)] : List Value).toArray below meth c H locs 0 0 Qn (F0 m 108 ls []) := by
      intro H locs ls hP hD hS hl
      refine lv_aload_n hx hb dX5_readScript_108 rfl (lv_at hl 2 rfl) ?_
      obtain ⟨x13, e14, hF⟩ := ob hF
      have hPc := hP
      have hDc := hD
      have hFc := my_free hD hS hA
      obtain ⟨q8, h8⟩ := wc_at (cy := cy) (ad := ad) (ks := ks) (g := g) (u := t10) (κ := .rd) hk.1 True.intro
      refine va_calli (va_runV (As := []) (rest := []) ⟨hx, hb, hml, hown, hts⟩ (c_X5_isFine l dC dI cy nb ad ks g hk t10 (x13) H.size e14) (cwV 0 hts (gV mw_239 mw_240 mw_241 mw_22 mw_242) rfl rfl rfl (by decide +kernel) ⟨Nat.le_of_ble_eq_true rfl, Nat.le_of_ble_eq_true rfl⟩) (my_preV hPc hK hDc hE hS hFc (va_recv (q := (RX5, TX5, 11)) hK hP (ci := 5) (q0 := q8) rfl h8)) rfl rfl hl.1 rfl (lv_room (Nat.le_of_ble_eq_true rfl)) dX5_readScript_109 ⟨Nat.le_of_ble_eq_true rfl, Nat.le_of_ble_eq_true rfl⟩) hS (fun q _ h => hFc q h) hFc (fun r u t H1 locs ht hvm hw hB hz1 hk1 hS => ?_)
      clear h8
      obtain ⟨hP1, hD1⟩ := hB
      rw [ht] at hP1
      have hP := hP1
      have hD := hD1.weaken (fun k q _ h => hFc q.1 h)
      generalize H1 = H at hP hS ⊢
      clear hP1 hD1 hPc hDc hFc hk1 hz1 hvm ht
      obtain rfl := hw.symm
      refine lv_if_eq (tgt := 130) hx hb dX5_readScript_112 (by decide) (fun c15 => ?_) (fun c15 => ?_)
      · rw [if_pos c15] at hF
        refine va_getsN (C := RX7) (n := "NO_BYTES") (d := "[B") (ref := RX7) (v := .ref (nb 0)) hx hb hE.nb hS hown (va_Nw.use rfl hE.f5) (fun _ h9 => h9) dX5_readScript_130 ?_
        refine my_top (y := .ref (ad (.tx (0 : Int32).toNatClampNeg))) (congrArg Value.ref hk.2.symm) ?_
        have hZ := s1 hF
        have zro : (0) = ro := (congrArg (fun q => q.1) hZ)
        have zgz : g = gz := (congrArg (fun q => q.2.1) hZ)
        have zuz : t10 = uz := (congrArg (fun q => q.2.2) hZ)
        have hP9 : va_P (dC, dI) vwCl (WC cy ad ks gz uz) H := by rw [← zuz, ← zgz]; exact hP
        have hD9 : va_D A (WC cy ad ks gz uz) := by rw [← zuz, ← zgz]; exact hD
        have hk9 : GA nb ad gz ks := by rw [← zgz]; exact hk
        have ax9 : AX g ad gz ad := by rw [← zgz]; exact ax_refl
        refine W.widen (k := 1) (n := 16) (by omega) (by omega) ?_
        rw [hQ]
        exact W.aret (v := .ref (ad (.tx (0 : Int32).toNatClampNeg))) hx hb hr (by first | exact Or.inl ⟨_, rfl⟩ | exact Or.inr ⟨_, rfl⟩) (Or.inr ⟨_, rfl⟩) (fun t ht hW => ⟨⟨(), (ad (.tx (0 : Int32).toNatClampNeg)), rfl, trivial, ad, ks, (congrArg (fun q => ad (.tx (q : Int32).toNatClampNeg)) zro), hk9, ax9, by rw [ht]; exact hP9, hD9⟩, hS.F ht⟩) hS.2.2 dX5_readScript_133
      · rw [if_neg c15] at hF
        refine lv_aload_n hx hb dX5_readScript_115 rfl (lv_at hl 2 rfl) ?_
        obtain ⟨q9, h9⟩ := wc_at (cy := cy) (ad := ad) (ks := ks) (g := g) (u := t10) (κ := .rd) hk.1 True.intro
        refine va_get (D := (dC, dI)) (ci := 5) (v := .ref (ad .tb)) (C := RX5) (T := TX5) (N := 11) hx hb hts inlX5 hown hK hP q9 h9 rfl 0 (by decide) (hts _ mw_72) (fun _ h9 => h9) rfl dX5_readScript_116 ?_
        clear h9
        refine lv_iload_n hx hb dX5_readScript_119 rfl (lv_at hl 1 rfl) ?_
        refine lv_aload_n hx hb dX5_readScript_120 rfl (lv_at hl 2 rfl) ?_
        obtain ⟨q9, h9⟩ := wc_at (cy := cy) (ad := ad) (ks := ks) (g := g) (u := t10) (κ := .rd) hk.1 True.intro
        refine va_get (D := (dC, dI)) (ci := 5) (v := .int (t10 0 6)) (C := RX5) (T := TX5) (N := 11) hx hb hts inlX5 hown hK hP q9 h9 rfl 2 (by decide) (hts _ mw_148) (fun _ h9 => h9) rfl dX5_readScript_121 ?_
        clear h9
        obtain ⟨t16, e17, hF⟩ := ob hF
        have hPc := hP
        have hDc := hD
        have hFc := my_free hD hS hA
        refine va_callr (va_runS (As := [.ref (ad .tb), .int (t1.1), .int (t10 0 6)]) (rest := []) ⟨hx, hb, hml, hown, hts⟩ (c_J7_copyOfRange_39247_tb l dC dI cy nb ad ks g hk t10 ((t1.1)) ((t10 0 6)) (t16.1) (t16.2.1) (t16.2.2) H.size e17) (va_cwS 3 hts (gS mw_348 mw_349 mw_91 mw_350) rfl rfl rfl (by decide +kernel) ⟨Nat.le_of_ble_eq_true rfl, Nat.le_of_ble_eq_true rfl⟩) (my_preS hPc hK hDc hE hS hFc) rfl rfl hl.1 rfl (lv_room (Nat.le_of_ble_eq_true rfl)) dX5_readScript_124 ⟨Nat.le_of_ble_eq_true rfl, Nat.le_of_ble_eq_true rfl⟩) hS (fun q _ h => hFc q h) hFc (fun u ra t H1 locs ht hvm hw hB hz1 hk1 hS => ?_)
        obtain ⟨ad18, ks19, hra, hk20, ax21, hP1, hD1⟩ := hB
        rw [ht] at hP1
        have hP := hP1
        have hD := hD1.weaken (fun k q _ h => hFc q.1 h)
        generalize H1 = H at hP hS ⊢
        have hl : lv_has ls 3 [(2, .int (t5.1)), (1, .int (t1.1)), (0, .ref (ad18 .rd))] := by rw [(ax21 .rd True.intro).2]; exact hl
        clear hP1 hD1 hPc hDc hFc hk1 hz1 hvm ht
        obtain rfl := hra.symm
        refine W.widen (k := 1) (n := 16) (by omega) (by omega) ?_
        refine lv_goto (tgt := 133) hx hb dX5_readScript_127 (by decide) ?_
        have hZ := s1 hF
        have zro : (t16.1) = ro := (congrArg (fun q => q.1) hZ)
        have zgz : (t16.2.1) = gz := (congrArg (fun q => q.2.1) hZ)
        have zuz : (t16.2.2) = uz := (congrArg (fun q => q.2.2) hZ)
        have hP9 : va_P (dC, dI) vwCl (WC cy ad18 ks19 gz uz) H := by rw [← zuz, ← zgz]; exact hP
        have hD9 : va_D A (WC cy ad18 ks19 gz uz) := by rw [← zuz, ← zgz]; exact hD
        have hk9 : GA nb ad18 gz ks19 := by rw [← zgz]; exact hk20
        have ax9 : AX g ad gz ad18 := by rw [← zgz]; exact ax21
        refine W.widen (k := 1) (n := 16) (by omega) (by omega) ?_
        rw [hQ]
        exact W.aret (v := .ref (ad18 (.tx (t16.1).toNatClampNeg))) hx hb hr (by first | exact Or.inl ⟨_, rfl⟩ | exact Or.inr ⟨_, rfl⟩) (Or.inr ⟨_, rfl⟩) (fun t ht hW => ⟨⟨(), (ad18 (.tx (t16.1).toNatClampNeg)), rfl, trivial, ad18, ks19, (congrArg (fun q => ad18 (.tx (q : Int32).toNatClampNeg)) zro), hk9, ax9, by rw [ht]; exact hP9, hD9⟩, hS.F ht⟩) hS.2.2 dX5_readScript_133
    clear hF
    have hF := hJ11
    clear hJ11
    refine lv_icmp_ne (tgt := 87) hx hb dX5_readScript_75 (by decide) (fun c9 => ?_) (fun c9 => ?_)
    · rw [if_neg c9] at hF
      refine lv_iload_n hx hb dX5_readScript_87 rfl (lv_at hl 0 rfl) ?_
      refine lv_if_eq (tgt := 102) hx hb dX5_readScript_88 (by decide) (fun c22 => ?_) (fun c22 => ?_)
      · rw [if_pos c22] at hF
        refine lv_aload_n hx hb dX5_readScript_102 rfl (lv_at hl 2 rfl) ?_
        refine lv_iconst (v := 2) hx hb dX5_readScript_103 (by decide) ?_
        refine lv_iload_n hx hb dX5_readScript_104 rfl (lv_at hl 1 rfl) ?_
        obtain ⟨u23, e24, hF⟩ := ob hF
        have hPc := hP
        have hDc := hD
        have hFc := my_free hD hS hA
        obtain ⟨q8, h8⟩ := wc_at (cy := cy) (ad := ad) (ks := ks) (g := g) (u := (t5.2)) (κ := .rd) hk.1 True.intro
        refine va_callv (va_runV (As := [.int 2, .int (t1.1)]) (rest := []) ⟨hx, hb, hml, hown, hts⟩ (c_X5_error l dC dI cy nb ad ks g hk (t5.2) (2) ((t1.1)) (u23) H.size e24) (cwV 2 hts (gV mw_219 mw_220 mw_221 mw_22 mw_222) rfl rfl rfl (by decide +kernel) ⟨Nat.le_of_ble_eq_true rfl, Nat.le_of_ble_eq_true rfl⟩) (my_preV hPc hK hDc hE hS hFc (va_recv (q := (RX5, TX5, 11)) hK hP (ci := 5) (q0 := q8) rfl h8)) rfl rfl hl.1 rfl (lv_room (Nat.le_of_ble_eq_true rfl)) dX5_readScript_105 ⟨Nat.le_of_ble_eq_true rfl, Nat.le_of_ble_eq_true rfl⟩) hS (fun q _ h => hFc q h) hFc (fun u t H1 locs ht hvm hw hB hz1 hk1 hS => ?_)
        clear h8
        obtain ⟨hP1, hD1⟩ := hB
        rw [ht] at hP1
        have hP := hP1
        have hD := hD1.weaken (fun k q _ h => hFc q.1 h)
        generalize H1 = H at hP hS ⊢
        clear hP1 hD1 hPc hDc hFc hk1 hz1 hvm ht
        have ht := s1 hF
        subst ht
        exact join12 _ _ _ hP hD hS (lv_sub hl [0, 1, 2] rfl)
      · rw [if_neg c22] at hF
        refine lv_aload_n hx hb dX5_readScript_91 rfl (lv_at hl 2 rfl) ?_
        obtain ⟨q9, h9⟩ := wc_at (cy := cy) (ad := ad) (ks := ks) (g := g) (u := (t5.2)) (κ := .rd) hk.1 True.intro
        refine va_get (D := (dC, dI)) (ci := 5) (v := .int ((t5.2) 0 6)) (C := RX5) (T := TX5) (N := 11) hx hb hts inlX5 hown hK hP q9 h9 rfl 2 (by decide) (hts _ mw_148) (fun _ h9 => h9) rfl dX5_readScript_92 ?_
        clear h9
        refine lv_iload_n hx hb dX5_readScript_95 rfl (lv_at hl 1 rfl) ?_
        refine lv_isub hx hb dX5_readScript_96 ?_
        refine lv_bipush (v := 12) hx hb dX5_readScript_97 (by decide) ?_
        refine lv_icmp_le (tgt := 108) hx hb dX5_readScript_99 (by decide) (fun c25 => ?_) (fun c25 => ?_)
        · rw [if_pos c25] at hF
          have ht := s1 hF
          subst ht
          exact join12 _ _ _ hP hD hS (lv_sub hl [0, 1, 2] rfl)
        · rw [if_neg c25] at hF
          refine lv_aload_n hx hb dX5_readScript_102 rfl (lv_at hl 2 rfl) ?_
          refine lv_iconst (v := 2) hx hb dX5_readScript_103 (by decide) ?_
          refine lv_iload_n hx hb dX5_readScript_104 rfl (lv_at hl 1 rfl) ?_
          obtain ⟨u26, e27, hF⟩ := ob hF
          have hPc := hP
          have hDc := hD
          have hFc := my_free hD hS hA
          obtain ⟨q8, h8⟩ := wc_at (cy := cy) (ad := ad) (ks := ks) (g := g) (u := (t5.2)) (κ := .rd) hk.1 True.intro
          refine va_callv (va_runV (As := [.int 2, .int (t1.1)]) (rest := []) ⟨hx, hb, hml, hown, hts⟩ (c_X5_error l dC dI cy nb ad ks g hk (t5.2) (2) ((t1.1)) (u26) H.size e27) (cwV 2 hts (gV mw_219 mw_220 mw_221 mw_22 mw_222) rfl rfl rfl (by decide +kernel) ⟨Nat.le_of_ble_eq_true rfl, Nat.le_of_ble_eq_true rfl⟩) (my_preV hPc hK hDc hE hS hFc (va_recv (q := (RX5, TX5, 11)) hK hP (ci := 5) (q0 := q8) rfl h8)) rfl rfl hl.1 rfl (lv_room (Nat.le_of_ble_eq_true rfl)) dX5_readScript_105 ⟨Nat.le_of_ble_eq_true rfl, Nat.le_of_ble_eq_true rfl⟩) hS (fun q _ h => hFc q h) hFc (fun u t H1 locs ht hvm hw hB hz1 hk1 hS => ?_)
          clear h8
          obtain ⟨hP1, hD1⟩ := hB
          rw [ht] at hP1
          have hP := hP1
          have hD := hD1.weaken (fun k q _ h => hFc q.1 h)
          generalize H1 = H at hP hS ⊢
          clear hP1 hD1 hPc hDc hFc hk1 hz1 hvm ht
          have ht := s1 hF
          subst ht
          exact join12 _ _ _ hP hD hS (lv_sub hl [0, 1, 2] rfl)
    · rw [if_pos c9] at hF
      refine lv_aload_n hx hb dX5_readScript_78 rfl (lv_at hl 2 rfl) ?_
      refine lv_iconst (v := 1) hx hb dX5_readScript_79 (by decide) ?_
      refine lv_iload_n hx hb dX5_readScript_80 rfl (lv_at hl 1 rfl) ?_
      obtain ⟨u28, e29, hF⟩ := ob hF
      have hPc := hP
      have hDc := hD
      have hFc := my_free hD hS hA
      obtain ⟨q8, h8⟩ := wc_at (cy := cy) (ad := ad) (ks := ks) (g := g) (u := (t5.2)) (κ := .rd) hk.1 True.intro
      refine va_callv (va_runV (As := [.int 1, .int (t1.1)]) (rest := []) ⟨hx, hb, hml, hown, hts⟩ (c_X5_error l dC dI cy nb ad ks g hk (t5.2) (1) ((t1.1)) (u28) H.size e29) (cwV 2 hts (gV mw_219 mw_220 mw_221 mw_22 mw_222) rfl rfl rfl (by decide +kernel) ⟨Nat.le_of_ble_eq_true rfl, Nat.le_of_ble_eq_true rfl⟩) (my_preV hPc hK hDc hE hS hFc (va_recv (q := (RX5, TX5, 11)) hK hP (ci := 5) (q0 := q8) rfl h8)) rfl rfl hl.1 rfl (lv_room (Nat.le_of_ble_eq_true rfl)) dX5_readScript_81 ⟨Nat.le_of_ble_eq_true rfl, Nat.le_of_ble_eq_true rfl⟩) hS (fun q _ h => hFc q h) hFc (fun u t H1 locs ht hvm hw hB hz1 hk1 hS => ?_)
      clear h8
      obtain ⟨hP1, hD1⟩ := hB
      rw [ht] at hP1
      have hP := hP1
      have hD := hD1.weaken (fun k q _ h => hFc q.1 h)
      generalize H1 = H at hP hS ⊢
      clear hP1 hD1 hPc hDc hFc hk1 hz1 hvm ht
      refine lv_goto (tgt := 108) hx hb dX5_readScript_84 (by decide) ?_
      have ht := s1 hF
      subst ht
      exact join12 _ _ _ hP hD hS (lv_sub hl [0, 1, 2] rfl)
  clear hF
  have loop30 : ∀ (m31 : Nat) (y3 : Int32) (u4 : RS), C5_readScript_L7 t1 g m31 y3 u4 = some t5 → ∀ (H : Heap) (locs : List Loc) (ls : Array Slot), va_P (dC, dI) vwCl (WC cy ad ks g u4) H → va_D A (WC cy ad ks g u4) → va_S A s.heap H locs → lv_has ls 3 [(2, .int y3), (1, .int (t1.1)), (0, .ref (ad .rd))] → W p l e (headSpec (wsg yX5_readScript cX5_readScript 3 (some (.array .byte))) ({ frames := 10, cells := 1, slots := 16, locals := 500 })).room s m ([.ref (ad .rd)] : List Value).toArray below meth c H locs 0 0 Qn (F0 m 7 ls []) := by
    intro m31
    induction m31 with
    | zero => intro y3 u4 hF; cases hF
    | succ m31 ih =>
      intro y3 u4 hF H locs ls hP hD hS hl
      simp only [C5_readScript_L7] at hF
      refine lv_aload_n hx hb dX5_readScript_7 rfl (lv_at hl 2 rfl) ?_
      obtain ⟨q9, h9⟩ := wc_at (cy := cy) (ad := ad) (ks := ks) (g := g) (u := u4) (κ := .rd) hk.1 True.intro
      refine va_get (D := (dC, dI)) (ci := 5) (v := .int (u4 0 6)) (C := RX5) (T := TX5) (N := 11) hx hb hts inlX5 hown hK hP q9 h9 rfl 2 (by decide) (hts _ mw_148) (fun _ h9 => h9) rfl dX5_readScript_8 ?_
      clear h9
      refine lv_aload_n hx hb dX5_readScript_11 rfl (lv_at hl 2 rfl) ?_
      obtain ⟨q9, h9⟩ := wc_at (cy := cy) (ad := ad) (ks := ks) (g := g) (u := u4) (κ := .rd) hk.1 True.intro
      refine va_get (D := (dC, dI)) (ci := 5) (v := .int (u4 0 5)) (C := RX5) (T := TX5) (N := 11) hx hb hts inlX5 hown hK hP q9 h9 rfl 1 (by decide) (hts _ mw_122) (fun _ h9 => h9) rfl dX5_readScript_12 ?_
      clear h9
      refine lv_icmp_ge (tgt := 70) hx hb dX5_readScript_15 (by decide) (fun c32 => ?_) (fun c32 => ?_)
      · rw [if_pos c32] at hF
        have ht := s1 hF
        subst ht
        exact kx7 _ _ _ hP hD hS (lv_sub hl [0, 1, 2] rfl)
      · rw [if_neg c32] at hF
        refine lv_aload_n hx hb dX5_readScript_18 rfl (lv_at hl 2 rfl) ?_
        obtain ⟨q9, h9⟩ := wc_at (cy := cy) (ad := ad) (ks := ks) (g := g) (u := u4) (κ := .rd) hk.1 True.intro
        refine va_get (D := (dC, dI)) (ci := 5) (v := .ref (ad .tb)) (C := RX5) (T := TX5) (N := 11) hx hb hts inlX5 hown hK hP q9 h9 rfl 0 (by decide) (hts _ mw_72) (fun _ h9 => h9) rfl dX5_readScript_19 ?_
        clear h9
        refine lv_aload_n hx hb dX5_readScript_22 rfl (lv_at hl 2 rfl) ?_
        obtain ⟨q9, h9⟩ := wc_at (cy := cy) (ad := ad) (ks := ks) (g := g) (u := u4) (κ := .rd) hk.1 True.intro
        refine va_get (D := (dC, dI)) (ci := 5) (v := .int (u4 0 6)) (C := RX5) (T := TX5) (N := 11) hx hb hts inlX5 hown hK hP q9 h9 rfl 2 (by decide) (hts _ mw_148) (fun _ h9 => h9) rfl dX5_readScript_23 ?_
        clear h9
        obtain ⟨x33, e34, hF⟩ := ob hF
        obtain ⟨q9, h9⟩ := wc_at (cy := cy) (ad := ad) (ks := ks) (g := g) (u := u4) (κ := .tb) hk.1 True.intro
        refine va_bald hx hb hK hP q9 0 h9 rfl (rd_in e34) dX5_readScript_26 ?_
        refine my_topi (y := x33) (rd_eq e34) ?_
        clear h9
        obtain ⟨x35, e36, hF⟩ := ob hF
        have hPc : va_P (dC, dI) vwCl ([] : va_W) H := fun k q h => by simp at h
        have hDc : va_D A ([] : va_W) := ⟨fun i j p q h => by simp at h, fun k q h => by simp at h⟩
        have hFc := my_free0 hS hA
        refine va_calli (va_runS (As := [.int x33]) (rest := []) ⟨hx, hb, hml, hown, hts⟩ (c_X5_isDigit l dC dI cy nb (x33) (x35) H.size e36) (va_cwS 1 hts (gS mw_236 mw_237 mw_22 mw_238) rfl rfl rfl (by decide +kernel) ⟨Nat.le_of_ble_eq_true rfl, Nat.le_of_ble_eq_true rfl⟩) (my_preS hPc hK hDc hE hS hFc) rfl rfl hl.1 rfl (lv_room (Nat.le_of_ble_eq_true rfl)) dX5_readScript_27 ⟨Nat.le_of_ble_eq_true rfl, Nat.le_of_ble_eq_true rfl⟩) hS (fun q _ h => hFc q h) hFc (fun r u t H1 locs ht hvm hw hB hz1 hk1 hS => ?_)
        obtain ⟨hP1, hD1⟩ := hB
        rw [ht] at hP1
        have hP := my_keep hP hk1
        generalize H1 = H at hP hS ⊢
        clear hP1 hD1 hPc hDc hFc hk1 hz1 hvm ht
        obtain rfl := hw.symm
        refine lv_if_eq (tgt := 70) hx hb dX5_readScript_30 (by decide) (fun c37 => ?_) (fun c37 => ?_)
        · rw [if_pos c37] at hF
          have ht := s1 hF
          subst ht
          exact kx7 _ _ _ hP hD hS (lv_sub hl [0, 1, 2] rfl)
        · rw [if_neg c37] at hF
          refine lv_iload_n hx hb dX5_readScript_33 rfl (lv_at hl 0 rfl) ?_
          obtain ⟨t39, hJ40, hF⟩ := ob hF
          have join41 : ∀ (H : Heap) (locs : List Loc) (ls : Array Slot), va_P (dC, dI) vwCl (WC cy ad ks g u4) H → va_D A (WC cy ad ks g u4) → va_S A s.heap H locs → lv_has ls 3 [(2, .int y3), (1, .int (t1.1)), (0, .ref (ad .rd))] → W p l e (headSpec (wsg yX5_readScript cX5_readScript 3 (some (.array .byte))) ({ frames := 10, cells := 1, slots := 16, locals := 500 })).room s m ([.ref (ad .rd)] : List Value).toArray below meth c H locs 0 0 Qn (F0 m 56 ls [.int t39]) := by
            intro H locs ls hP hD hS hl
            refine lv_istore_n (lv' := [(2, .int t39), (1, .int (t1.1)), (0, .ref (ad .rd))]) hx hb dX5_readScript_56 rfl hl (by decide) rfl (fun ls hl => ?_)
            refine lv_aload_n hx hb dX5_readScript_57 rfl (lv_at hl 2 rfl) ?_
            refine lv_dup hx hb dX5_readScript_58 rfl ?_
            obtain ⟨q9, h9⟩ := wc_at (cy := cy) (ad := ad) (ks := ks) (g := g) (u := u4) (κ := .rd) hk.1 True.intro
            refine va_get (D := (dC, dI)) (ci := 5) (v := .int (u4 0 6)) (C := RX5) (T := TX5) (N := 11) hx hb hts inlX5 hown hK hP q9 h9 rfl 2 (by decide) (hts _ mw_148) (fun _ h9 => h9) rfl dX5_readScript_59 ?_
            clear h9
            refine lv_iconst (v := 1) hx hb dX5_readScript_62 (by decide) ?_
            refine lv_iadd hx hb dX5_readScript_63 ?_
            obtain ⟨q9, h9, ez9⟩ := wc_set (cy := cy) (ad := ad) (ks := ks) (g := g) (u := u4) (κ := .rd) (r := 0) (i := 6) (v := ((u4 0 6) + 1)) hk.1 True.intro (own_rd (by decide)) (sf_rd_2)
            refine va_put (D := (dC, dI)) (ci := 5) (v := .int ((u4 0 6) + 1)) (ty := .int) (C := RX5) (T := TX5) (N := 11) hx hb hts inlX5 tyX5 tyX5_ok nmX5 hown hK hP hD hS q9 h9 rfl 2 (by decide) (hts _ mw_148) (fun _ h9 => h9) rfl (by decide +kernel) rfl rfl (Nat.le_of_ble_eq_true rfl) dX5_readScript_64 (fun H locs hP hD hS => ?_)
            obtain ⟨u42, e43, hF⟩ := ob hF
            have hP : va_P (dC, dI) vwCl (WC cy ad ks g u42) H := by rw [← pt_eq e43, ← ez9]; exact hP
            have hD : va_D A (WC cy ad ks g u42) := by rw [← pt_eq e43, ← ez9]; exact hD
            clear ez9 h9
            refine lv_goto (tgt := 7) hx hb dX5_readScript_67 (by decide) ?_
            exact ih _ _ hF _ _ _ hP hD hS (lv_sub hl [0, 1, 2] rfl)
          clear hF
          have hF := hJ40
          clear hJ40
          refine lv_if_eq (tgt := 55) hx hb dX5_readScript_34 (by decide) (fun c38 => ?_) (fun c38 => ?_)
          · rw [if_pos c38] at hF
            refine lv_iconst (v := 0) hx hb dX5_readScript_55 (by decide) ?_
            have ht := s1 hF
            subst ht
            exact join41 _ _ _ hP hD hS (lv_sub hl [0, 1, 2] rfl)
          · rw [if_neg c38] at hF
            refine lv_aload_n hx hb dX5_readScript_37 rfl (lv_at hl 2 rfl) ?_
            obtain ⟨q9, h9⟩ := wc_at (cy := cy) (ad := ad) (ks := ks) (g := g) (u := u4) (κ := .rd) hk.1 True.intro
            refine va_get (D := (dC, dI)) (ci := 5) (v := .ref (ad .tb)) (C := RX5) (T := TX5) (N := 11) hx hb hts inlX5 hown hK hP q9 h9 rfl 0 (by decide) (hts _ mw_72) (fun _ h9 => h9) rfl dX5_readScript_38 ?_
            clear h9
            refine lv_aload_n hx hb dX5_readScript_41 rfl (lv_at hl 2 rfl) ?_
            obtain ⟨q9, h9⟩ := wc_at (cy := cy) (ad := ad) (ks := ks) (g := g) (u := u4) (κ := .rd) hk.1 True.intro
            refine va_get (D := (dC, dI)) (ci := 5) (v := .int (u4 0 6)) (C := RX5) (T := TX5) (N := 11) hx hb hts inlX5 hown hK hP q9 h9 rfl 2 (by decide) (hts _ mw_148) (fun _ h9 => h9) rfl dX5_readScript_42 ?_
            clear h9
            obtain ⟨x44, e45, hF⟩ := ob hF
            obtain ⟨q9, h9⟩ := wc_at (cy := cy) (ad := ad) (ks := ks) (g := g) (u := u4) (κ := .tb) hk.1 True.intro
            refine va_bald hx hb hK hP q9 0 h9 rfl (rd_in e45) dX5_readScript_45 ?_
            refine my_topi (y := x44) (rd_eq e45) ?_
            clear h9
            refine lv_bipush (v := 49) hx hb dX5_readScript_46 (by decide) ?_
            refine lv_icmp_gt (tgt := 55) hx hb dX5_readScript_48 (by decide) (fun c46 => ?_) (fun c46 => ?_)
            · rw [if_pos c46] at hF
              refine lv_iconst (v := 0) hx hb dX5_readScript_55 (by decide) ?_
              have ht := s1 hF
              subst ht
              exact join41 _ _ _ hP hD hS (lv_sub hl [0, 1, 2] rfl)
            · rw [if_neg c46] at hF
              refine lv_iconst (v := 1) hx hb dX5_readScript_51 (by decide) ?_
              refine lv_goto (tgt := 56) hx hb dX5_readScript_52 (by decide) ?_
              have ht := s1 hF
              subst ht
              exact join41 _ _ _ hP hD hS (lv_sub hl [0, 1, 2] rfl)
  exact loop30 FUEL _ _ hL6 _ _ _ hP hD hS (lv_sub hl [0, 1, 2] rfl)
noncomputable def C5_readStation (g : CG) (u0 : RS) (L : Nat) (a2 : Int32) (a3 : Int32) : Option (CG × RS) := if (u0 (10 + L) 7) < 6 then ((C7_mostPace (a2)).bind fun x2 => (C5_readNumber g u0 (1) (x2)).bind fun t4 => (C5_readScript g (t4.2)).bind fun t6 => (C5_isFine (t6.2.1) (t6.2.2)).bind fun x12 => (if x12 = 0 then (some (t6.2.2)) else ((C3_addStation (t6.2.1) (t6.2.2) L (a2) ((t4.1)) t6.1).bind fun u18 => some u18) : Option (RS)).bind fun t15 => some ((t6.2.1), t15)) else ((C5_error g u0 (4) (a3)).bind fun u20 => some (g, u20))
set_option maxHeartbeats 4000000 in
set_option maxRecDepth 100000 in
theorem c_X5_readStation (l : Launch) (dC : Nat → ClassId) (dI : Nat → Nat → Nat) (cy : Nat → ClassId) (nb : Nat → Nat) (ad : CK → Nat) (ks : List CK) (g : CG) (hk : GA nb ad g ks) (u0 : RS) (L : Nat) (a2 : Int32) (a3 : Int32) (gz : CG) (uz : RS) (sz : Nat) (h_L : has g (.ln L)) (hF : C5_readStation g u0 L a2 a3 = some (gz, uz)) : Met l yX5_readStation (wsg yX5_readStation cX5_readStation 6 none) ({ frames := 11, cells := 1, slots := 16, locals := 600 }) (va_Pc [.ref (ad .rd), .ref (ad (.ln L)), .int a2, .int a3] (fun U => U.heap.size = sz ∧ va_P (dC, dI) vwCl (WC cy ad ks g u0) U.heap ∧ va_K (dC, dI) vwCl (tyL cy) U ∧ va_D (fun _ => True) (WC cy ad ks g u0) ∧ GE nb (va_A (WC cy ad ks g u0) sz) U)) (va_Qv (fun (_ : Unit) => True) (fun _ t => ∃ (ad' : CK → Nat) (ks' : List CK), GA nb ad' gz ks' ∧ AX g ad gz ad' ∧ va_P (dC, dI) vwCl (WC cy ad' ks' gz uz) t.heap ∧ va_D (va_A (WC cy ad ks g u0) sz) (WC cy ad' ks' gz uz)) (va_A (WC cy ad ks g u0) sz)) 1 16 (va_A (WC cy ad ks g u0) sz) := by
  refine Met.ofW (cc := cX5_readStation) (maxL := 6) (ret := none) pn_X5 rfl ?_
  intro p e s m args below meth c s₁ B hml hv
  obtain ⟨rfl, hsz, hP, hK, hD0, hE⟩ := hv
  have hx := B.exec
  have hb := B.bytes
  have hr := B.returns
  have hts0 := atoms_spec (ws := (wsg yX5_readStation cX5_readStation 6 none)) B.pre
  have hts : ∀ w ∈ wsL_law, w.before _ s = true := fun w h => hts0 w (List.mem_cons_of_mem _ h)
  have hown : s.vm.findClass RX5 = some m.cls := by have h9 := findClass_of_methodNamed B.named; exact h9
  have hlocks := B.notSynchronized
  subst hsz
  have hD := hD0.self (sz := s.heap.size)
  generalize hAe : va_A (WC cy ad ks g u0) s.heap.size = A at hD hE ⊢
  have hA : ∀ q : Nat, s.heap.size ≤ q → A q := fun q h => by rw [← hAe]; exact Or.inr h
  have hS : va_S A s.heap s.heap [] := va_S.rf
  have hl := lv_entry ([.ref (ad .rd), .ref (ad (.ln L)), .int a2, .int a3]) (n := 6) (Nat.le_of_ble_eq_true rfl)
  rw [lg_entry_eq]
  generalize (lg_sl ([.ref (ad .rd), .ref (ad (.ln L)), .int a2, .int a3]) ++ List.replicate (6 - (lg_sl ([.ref (ad .rd), .ref (ad (.ln L)), .int a2, .int a3])).length) Slot.unset).toArray = ls at hl ⊢
  have hl : lv_has ls 6 [(0, .ref (ad .rd)), (1, .ref (ad (.ln L))), (2, .int a2), (3, .int a3)] := hl
  generalize hHe : s.heap = H at hP hS ⊢
  have hS : va_S A s.heap H [] := by rw [hHe]; exact hS
  refine my_Q (fun Qn hQ => ?_)
  simp only [C5_readStation] at hF
  refine lv_aload_n hx hb dX5_readStation_0 rfl (lv_at hl 1 rfl) ?_
  obtain ⟨q9, h9⟩ := wc_at (cy := cy) (ad := ad) (ks := ks) (g := g) (u := u0) (κ := (.ln L)) hk.1 h_L
  refine va_get (D := (dC, dI)) (ci := 3) (v := .int (u0 (10 + L) 7)) (C := RX3) (T := TX3) (N := 17) hx hb hts inlX3 hown hK hP q9 h9 rfl 7 (by decide) (hts _ mw_248) (fun _ h9 => h9) rfl dX5_readStation_1 ?_
  clear h9
  refine lv_bipush (v := 6) hx hb dX5_readStation_4 (by decide) ?_
  refine lv_icmp_lt (tgt := 16) hx hb dX5_readStation_6 (by decide) (fun c1 => ?_) (fun c1 => ?_)
  · rw [if_pos c1] at hF
    refine lv_aload_n hx hb dX5_readStation_16 rfl (lv_at hl 0 rfl) ?_
    refine lv_iconst (v := 1) hx hb dX5_readStation_17 (by decide) ?_
    refine lv_iload_n hx hb dX5_readStation_18 rfl (lv_at hl 2 rfl) ?_
    obtain ⟨x2, e3, hF⟩ := ob hF
    have hPc : va_P (dC, dI) vwCl ([] : va_W) H := fun k q h => by simp at h
    have hDc : va_D A ([] : va_W) := ⟨fun i j p q h => by simp at h, fun k q h => by simp at h⟩
    have hFc := my_free0 hS hA
    refine va_calli (va_runSN (As := [.int a2]) (rest := [.int 1, .ref (ad .rd)]) ⟨hx, hb, hml, hown, hts⟩ (c_X7_mostPace l dC dI cy nb (a2) (x2) H.size e3) ⟨va_cnB 1 hts (gI mw_343) rfl rfl rfl (hE.n96) (hts _ mw_2) (by decide +kernel) ⟨Nat.le_of_ble_eq_true rfl, Nat.le_of_ble_eq_true rfl⟩, (hts _ mw_342), trivial⟩ (my_preS hPc hK hDc hE hS hFc) rfl rfl hl.1 rfl (lv_room (Nat.le_of_ble_eq_true rfl)) dX5_readStation_19 ⟨Nat.le_of_ble_eq_true rfl, Nat.le_of_ble_eq_true rfl⟩) hS (fun q _ h => hFc q h) hFc (fun r u t H1 locs ht hvm hw hB hz1 hk1 hS => ?_)
    obtain ⟨hP1, hD1⟩ := hB
    rw [ht] at hP1
    have hP := my_keep hP hk1
    generalize H1 = H at hP hS ⊢
    clear hP1 hD1 hPc hDc hFc hk1 hz1 hvm ht
    obtain rfl := hw.symm
    obtain ⟨t4, e5, hF⟩ := ob hF
    have hPc := hP
    have hDc := hD
    have hFc := my_free hD hS hA
    obtain ⟨q8, h8⟩ := wc_at (cy := cy) (ad := ad) (ks := ks) (g := g) (u := u0) (κ := .rd) hk.1 True.intro
    refine va_calli (va_runV (As := [.int 1, .int x2]) (rest := []) ⟨hx, hb, hml, hown, hts⟩ (c_X5_readNumber l dC dI cy nb ad ks g hk u0 (1) (x2) (t4.1) (t4.2) H.size e5) (cwV 2 hts (gV mw_227 mw_228 mw_229 mw_22 mw_230) rfl rfl rfl (by decide +kernel) ⟨Nat.le_of_ble_eq_true rfl, Nat.le_of_ble_eq_true rfl⟩) (my_preV hPc hK hDc hE hS hFc (va_recv (q := (RX5, TX5, 11)) hK hP (ci := 5) (q0 := q8) rfl h8)) rfl rfl hl.1 rfl (lv_room (Nat.le_of_ble_eq_true rfl)) dX5_readStation_22 ⟨Nat.le_of_ble_eq_true rfl, Nat.le_of_ble_eq_true rfl⟩) hS (fun q _ h => hFc q h) hFc (fun r u t H1 locs ht hvm hw hB hz1 hk1 hS => ?_)
    clear h8
    obtain ⟨hP1, hD1⟩ := hB
    rw [ht] at hP1
    have hP := hP1
    have hD := hD1.weaken (fun k q _ h => hFc q.1 h)
    generalize H1 = H at hP hS ⊢
    clear hP1 hD1 hPc hDc hFc hk1 hz1 hvm ht
    obtain rfl := hw.symm
    refine lv_istore (lv' := [(4, .int (t4.1)), (0, .ref (ad .rd)), (1, .ref (ad (.ln L))), (2, .int a2), (3, .int a3)]) hx hb dX5_readStation_25 hl (by decide) rfl (fun ls hl => ?_)
    refine lv_aload_n hx hb dX5_readStation_27 rfl (lv_at hl 1 rfl) ?_
    obtain ⟨t6, e7, hF⟩ := ob hF
    have hPc := hP
    have hDc := hD
    have hFc := my_free hD hS hA
    obtain ⟨q8, h8⟩ := wc_at (cy := cy) (ad := ad) (ks := ks) (g := g) (u := (t4.2)) (κ := .rd) hk.1 True.intro
    refine va_callr (va_runV (As := []) (rest := []) ⟨hx, hb, hml, hown, hts⟩ (c_X5_readScript l dC dI cy nb ad ks g hk (t4.2) (t6.1) (t6.2.1) (t6.2.2) H.size e7) (cwV 0 hts (gV mw_344 mw_345 mw_346 mw_22 mw_347) rfl rfl rfl (by decide +kernel) ⟨Nat.le_of_ble_eq_true rfl, Nat.le_of_ble_eq_true rfl⟩) (my_preV hPc hK hDc hE hS hFc (va_recv (q := (RX5, TX5, 11)) hK hP (ci := 5) (q0 := q8) rfl h8)) rfl rfl hl.1 rfl (lv_room (Nat.le_of_ble_eq_true rfl)) dX5_readStation_28 ⟨Nat.le_of_ble_eq_true rfl, Nat.le_of_ble_eq_true rfl⟩) hS (fun q _ h => hFc q h) hFc (fun u ra t H1 locs ht hvm hw hB hz1 hk1 hS => ?_)
    clear h8
    obtain ⟨ad8, ks9, hra, hk10, ax11, hP1, hD1⟩ := hB
    rw [ht] at hP1
    have hP := hP1
    have hD := hD1.weaken (fun k q _ h => hFc q.1 h)
    generalize H1 = H at hP hS ⊢
    have hl : lv_has ls 6 [(4, .int (t4.1)), (0, .ref (ad8 .rd)), (1, .ref (ad8 (.ln L))), (2, .int a2), (3, .int a3)] := by rw [(ax11 .rd True.intro).2, (ax11 (.ln L) h_L).2]; exact hl
    clear hP1 hD1 hPc hDc hFc hk1 hz1 hvm ht
    obtain rfl := hra.symm
    refine W.widen (k := 1) (n := 16) (by omega) (by omega) ?_
    refine lv_astore (lv' := [(5, .ref (ad8 (.tx (t6.1).toNatClampNeg))), (4, .int (t4.1)), (0, .ref (ad8 .rd)), (1, .ref (ad8 (.ln L))), (2, .int a2), (3, .int a3)]) hx hb dX5_readStation_31 hl (by decide) rfl (fun ls hl => ?_)
    refine lv_aload_n hx hb dX5_readStation_33 rfl (lv_at hl 2 rfl) ?_
    obtain ⟨x12, e13, hF⟩ := ob hF
    have hPc := hP
    have hDc := hD
    have hFc := my_free hD hS hA
    obtain ⟨q8, h8⟩ := wc_at (cy := cy) (ad := ad8) (ks := ks9) (g := (t6.2.1)) (u := (t6.2.2)) (κ := .rd) hk10.1 True.intro
    refine va_calli (va_runV (As := []) (rest := []) ⟨hx, hb, hml, hown, hts⟩ (c_X5_isFine l dC dI cy nb ad8 ks9 (t6.2.1) hk10 (t6.2.2) (x12) H.size e13) (cwV 0 hts (gV mw_239 mw_240 mw_241 mw_22 mw_242) rfl rfl rfl (by decide +kernel) ⟨Nat.le_of_ble_eq_true rfl, Nat.le_of_ble_eq_true rfl⟩) (my_preV hPc hK hDc hE hS hFc (va_recv (q := (RX5, TX5, 11)) hK hP (ci := 5) (q0 := q8) rfl h8)) rfl rfl hl.1 rfl (lv_room (Nat.le_of_ble_eq_true rfl)) dX5_readStation_34 ⟨Nat.le_of_ble_eq_true rfl, Nat.le_of_ble_eq_true rfl⟩) hS (fun q _ h => hFc q h) hFc (fun r u t H1 locs ht hvm hw hB hz1 hk1 hS => ?_)
    clear h8
    obtain ⟨hP1, hD1⟩ := hB
    rw [ht] at hP1
    have hP := hP1
    have hD := hD1.weaken (fun k q _ h => hFc q.1 h)
    generalize H1 = H at hP hS ⊢
    clear hP1 hD1 hPc hDc hFc hk1 hz1 hvm ht
    obtain rfl := hw.symm
    obtain ⟨t15, hJ16, hF⟩ := ob hF
    have join17 : ∀ (H : Heap) (locs : List Loc) (ls : Array Slot), va_P (dC, dI) vwCl (WC cy ad8 ks9 (t6.2.1) t15) H → va_D A (WC cy ad8 ks9 (t6.2.1) t15) → va_S A s.heap H locs → lv_has ls 6 [(5, .ref (ad8 (.tx (t6.1).toNatClampNeg))), (4, .int (t4.1)), (0, .ref (ad8 .rd)), (1, .ref (ad8 (.ln L))), (2, .int a2), (3, .int a3)] → W p l e (headSpec (wsg yX5_readStation cX5_readStation 6 none) ({ frames := 11, cells := 1, slots := 16, locals := 600 })).room s m ([.ref (ad .rd), .ref (ad (.ln L)), .int a2, .int a3] : List Value).toArray below meth c H locs 1 16 Qn (F0 m 49 ls []) := by
      intro H locs ls hP hD hS hl
      have hZ := s1 hF
      have zgz : (t6.2.1) = gz := (congrArg (fun q => q.1) hZ)
      have zuz : t15 = uz := (congrArg (fun q => q.2) hZ)
      have hP9 : va_P (dC, dI) vwCl (WC cy ad8 ks9 gz uz) H := by rw [← zuz, ← zgz]; exact hP
      have hD9 : va_D A (WC cy ad8 ks9 gz uz) := by rw [← zuz, ← zgz]; exact hD
      have hk9 : GA nb ad8 gz ks9 := by rw [← zgz]; exact hk10
      have ax9 : AX g ad gz ad8 := by rw [← zgz]; exact ax11
      refine W.widen (k := 1) (n := 16) (by omega) (by omega) ?_
      rw [hQ]
      exact W.vret hx hb hr (fun t ht hW => ⟨⟨(), rfl, trivial, ad8, ks9, hk9, ax9, by rw [ht]; exact hP9, hD9⟩, hS.F ht⟩) hS.2.2 dX5_readStation_49
    clear hF
    have hF := hJ16
    clear hJ16
    refine lv_if_eq (tgt := 49) hx hb dX5_readStation_37 (by decide) (fun c14 => ?_) (fun c14 => ?_)
    · rw [if_pos c14] at hF
      have ht := s1 hF
      subst ht
      exact join17 _ _ _ hP hD hS (lv_sub hl [0, 1, 2, 3, 4, 5] rfl)
    · rw [if_neg c14] at hF
      refine lv_aload_n hx hb dX5_readStation_40 rfl (lv_at hl 3 rfl) ?_
      refine lv_iload_n hx hb dX5_readStation_41 rfl (lv_at hl 4 rfl) ?_
      refine lv_iload hx hb dX5_readStation_42 (lv_at hl 1 rfl) ?_
      refine lv_aload hx hb dX5_readStation_44 (lv_at hl 0 rfl) ?_
      obtain ⟨u18, e19, hF⟩ := ob hF
      have hPc := hP
      have hDc := hD
      have hFc := my_free hD hS hA
      obtain ⟨q8, h8⟩ := wc_at (cy := cy) (ad := ad8) (ks := ks9) (g := (t6.2.1)) (u := (t6.2.2)) (κ := (.ln L)) hk10.1 (ax11 (.ln L) h_L).1
      refine va_callv (va_runV (As := [.int a2, .int (t4.1), .ref (ad8 (.tx (t6.1).toNatClampNeg))]) (rest := []) ⟨hx, hb, hml, hown, hts⟩ (c_X3_addStation l dC dI cy nb ad8 ks9 (t6.2.1) hk10 (t6.2.2) L (a2) ((t4.1)) t6.1 (u18) H.size (ax11 (.ln L) h_L).1 e19) (cwV 3 hts (gV mw_360 mw_361 mw_362 mw_17 mw_363) rfl rfl rfl (by decide +kernel) ⟨Nat.le_of_ble_eq_true rfl, Nat.le_of_ble_eq_true rfl⟩) (my_preV hPc hK hDc hE hS hFc (va_recv (q := (RX3, TX3, 17)) hK hP (ci := 3) (q0 := q8) rfl h8)) rfl rfl hl.1 rfl (lv_room (Nat.le_of_ble_eq_true rfl)) dX5_readStation_46 ⟨Nat.le_of_ble_eq_true rfl, Nat.le_of_ble_eq_true rfl⟩) hS (fun q _ h => hFc q h) hFc (fun u t H1 locs ht hvm hw hB hz1 hk1 hS => ?_)
      clear h8
      obtain ⟨hP1, hD1⟩ := hB
      rw [ht] at hP1
      have hP := hP1
      have hD := hD1.weaken (fun k q _ h => hFc q.1 h)
      generalize H1 = H at hP hS ⊢
      clear hP1 hD1 hPc hDc hFc hk1 hz1 hvm ht
      have ht := s1 hF
      subst ht
      exact join17 _ _ _ hP hD hS (lv_sub hl [0, 1, 2, 3, 4, 5] rfl)
  · rw [if_neg c1] at hF
    refine lv_aload_n hx hb dX5_readStation_9 rfl (lv_at hl 0 rfl) ?_
    refine lv_iconst (v := 4) hx hb dX5_readStation_10 (by decide) ?_
    refine lv_iload_n hx hb dX5_readStation_11 rfl (lv_at hl 3 rfl) ?_
    obtain ⟨u20, e21, hF⟩ := ob hF
    have hPc := hP
    have hDc := hD
    have hFc := my_free hD hS hA
    obtain ⟨q8, h8⟩ := wc_at (cy := cy) (ad := ad) (ks := ks) (g := g) (u := u0) (κ := .rd) hk.1 True.intro
    refine va_callv (va_runV (As := [.int 4, .int a3]) (rest := []) ⟨hx, hb, hml, hown, hts⟩ (c_X5_error l dC dI cy nb ad ks g hk u0 (4) (a3) (u20) H.size e21) (cwV 2 hts (gV mw_219 mw_220 mw_221 mw_22 mw_222) rfl rfl rfl (by decide +kernel) ⟨Nat.le_of_ble_eq_true rfl, Nat.le_of_ble_eq_true rfl⟩) (my_preV hPc hK hDc hE hS hFc (va_recv (q := (RX5, TX5, 11)) hK hP (ci := 5) (q0 := q8) rfl h8)) rfl rfl hl.1 rfl (lv_room (Nat.le_of_ble_eq_true rfl)) dX5_readStation_12 ⟨Nat.le_of_ble_eq_true rfl, Nat.le_of_ble_eq_true rfl⟩) hS (fun q _ h => hFc q h) hFc (fun u t H1 locs ht hvm hw hB hz1 hk1 hS => ?_)
    clear h8
    obtain ⟨hP1, hD1⟩ := hB
    rw [ht] at hP1
    have hP := hP1
    have hD := hD1.weaken (fun k q _ h => hFc q.1 h)
    generalize H1 = H at hP hS ⊢
    clear hP1 hD1 hPc hDc hFc hk1 hz1 hvm ht
    have hZ := s1 hF
    have zgz : g = gz := (congrArg (fun q => q.1) hZ)
    have zuz : u20 = uz := (congrArg (fun q => q.2) hZ)
    have hP9 : va_P (dC, dI) vwCl (WC cy ad ks gz uz) H := by rw [← zuz, ← zgz]; exact hP
    have hD9 : va_D A (WC cy ad ks gz uz) := by rw [← zuz, ← zgz]; exact hD
    have hk9 : GA nb ad gz ks := by rw [← zgz]; exact hk
    have ax9 : AX g ad gz ad := by rw [← zgz]; exact ax_refl
    refine W.widen (k := 1) (n := 16) (by omega) (by omega) ?_
    rw [hQ]
    exact W.vret hx hb hr (fun t ht hW => ⟨⟨(), rfl, trivial, ad, ks, hk9, ax9, by rw [ht]; exact hP9, hD9⟩, hS.F ht⟩) hS.2.2 dX5_readStation_15
noncomputable def C5_readStatement (g : CG) (u0 : RS) (L : Nat) : Option (CG × RS) := (C5_skipSpaces g u0).bind fun t1 => (C5_readWord g (t1.2)).bind fun t3 => if (t3.1) = (-1) then ((C5_error g (t3.2) (1) ((t1.1))).bind fun u6 => some (g, u6)) else ((if (t3.1) = 4 then (some (1 : Int32)) else (some (0 : Int32)) : Option (Int32)).bind fun t9 => (if ((t3.2) 0 9) = 0 then (some (1 : Int32)) else (some (0 : Int32)) : Option (Int32)).bind fun t13 => if t9 = t13 then (if (t3.1) = 4 then ((C5_readLine g (t3.2) L).bind fun u18 => some (g, u18)) else (if (t3.1) = 5 then ((C5_readRest g (t3.2) L).bind fun u21 => some (g, u21)) else (if (t3.1) = 6 then ((C5_readLot g (t3.2) L ((t1.1))).bind fun u24 => some (g, u24)) else (if (t3.1) = 7 then ((C5_readCard g (t3.2) L ((t1.1))).bind fun t27 => some ((t27.1), (t27.2))) else ((C5_readStation g (t3.2) L ((t3.1)) ((t1.1))).bind fun t33 => some ((t33.1), (t33.2))))))) else ((C5_error g (t3.2) (1) ((t1.1))).bind fun u39 => some (g, u39)))
set_option maxHeartbeats 4000000 in
set_option maxRecDepth 100000 in
theorem c_X5_readStatement (l : Launch) (dC : Nat → ClassId) (dI : Nat → Nat → Nat) (cy : Nat → ClassId) (nb : Nat → Nat) (ad : CK → Nat) (ks : List CK) (g : CG) (hk : GA nb ad g ks) (u0 : RS) (L : Nat) (gz : CG) (uz : RS) (sz : Nat) (h_L : has g (.ln L)) (hF : C5_readStatement g u0 L = some (gz, uz)) : Met l yX5_readStatement (wsg yX5_readStatement cX5_readStatement 4 none) ({ frames := 13, cells := 1, slots := 16, locals := 800 }) (va_Pc [.ref (ad .rd), .ref (ad (.ln L))] (fun U => U.heap.size = sz ∧ va_P (dC, dI) vwCl (WC cy ad ks g u0) U.heap ∧ va_K (dC, dI) vwCl (tyL cy) U ∧ va_D (fun _ => True) (WC cy ad ks g u0) ∧ GE nb (va_A (WC cy ad ks g u0) sz) U)) (va_Qv (fun (_ : Unit) => True) (fun _ t => ∃ (ad' : CK → Nat) (ks' : List CK), GA nb ad' gz ks' ∧ AX g ad gz ad' ∧ va_P (dC, dI) vwCl (WC cy ad' ks' gz uz) t.heap ∧ va_D (va_A (WC cy ad ks g u0) sz) (WC cy ad' ks' gz uz)) (va_A (WC cy ad ks g u0) sz)) 1 16 (va_A (WC cy ad ks g u0) sz) := by
  refine Met.ofW (cc := cX5_readStatement) (maxL := 4) (ret := none) pn_X5 rfl ?_
  intro p e s m args below meth c s₁ B hml hv
  obtain ⟨rfl, hsz, hP, hK, hD0, hE⟩ := hv
  have hx := B.exec
  have hb := B.bytes
  have hr := B.returns
  have hts0 := atoms_spec (ws := (wsg yX5_readStatement cX5_readStatement 4 none)) B.pre
  have hts : ∀ w ∈ wsL_law, w.before _ s = true := fun w h => hts0 w (List.mem_cons_of_mem _ h)
  have hown : s.vm.findClass RX5 = some m.cls := by have h9 := findClass_of_methodNamed B.named; exact h9
  have hlocks := B.notSynchronized
  subst hsz
  have hD := hD0.self (sz := s.heap.size)
  generalize hAe : va_A (WC cy ad ks g u0) s.heap.size = A at hD hE ⊢
  have hA : ∀ q : Nat, s.heap.size ≤ q → A q := fun q h => by rw [← hAe]; exact Or.inr h
  have hS : va_S A s.heap s.heap [] := va_S.rf
  have hl := lv_entry ([.ref (ad .rd), .ref (ad (.ln L))]) (n := 4) (Nat.le_of_ble_eq_true rfl)
  rw [lg_entry_eq]
  generalize (lg_sl ([.ref (ad .rd), .ref (ad (.ln L))]) ++ List.replicate (4 - (lg_sl ([.ref (ad .rd), .ref (ad (.ln L))])).length) Slot.unset).toArray = ls at hl ⊢
  have hl : lv_has ls 4 [(0, .ref (ad .rd)), (1, .ref (ad (.ln L)))] := hl
  generalize hHe : s.heap = H at hP hS ⊢
  have hS : va_S A s.heap H [] := by rw [hHe]; exact hS
  refine my_Q (fun Qn hQ => ?_)
  simp only [C5_readStatement] at hF
  refine lv_aload_n hx hb dX5_readStatement_0 rfl (lv_at hl 0 rfl) ?_
  obtain ⟨t1, e2, hF⟩ := ob hF
  have hPc := hP
  have hDc := hD
  have hFc := my_free hD hS hA
  obtain ⟨q8, h8⟩ := wc_at (cy := cy) (ad := ad) (ks := ks) (g := g) (u := u0) (κ := .rd) hk.1 True.intro
  refine va_calli (va_runV (As := []) (rest := []) ⟨hx, hb, hml, hown, hts⟩ (c_X5_skipSpaces l dC dI cy nb ad ks g hk u0 (t1.1) (t1.2) H.size e2) (cwV 0 hts (gV mw_155 mw_156 mw_157 mw_22 mw_158) rfl rfl rfl (by decide +kernel) ⟨Nat.le_of_ble_eq_true rfl, Nat.le_of_ble_eq_true rfl⟩) (my_preV hPc hK hDc hE hS hFc (va_recv (q := (RX5, TX5, 11)) hK hP (ci := 5) (q0 := q8) rfl h8)) rfl rfl hl.1 rfl (lv_room (Nat.le_of_ble_eq_true rfl)) dX5_readStatement_1 ⟨Nat.le_of_ble_eq_true rfl, Nat.le_of_ble_eq_true rfl⟩) hS (fun q _ h => hFc q h) hFc (fun r u t H1 locs ht hvm hw hB hz1 hk1 hS => ?_)
  clear h8
  obtain ⟨hP1, hD1⟩ := hB
  rw [ht] at hP1
  have hP := hP1
  have hD := hD1.weaken (fun k q _ h => hFc q.1 h)
  generalize H1 = H at hP hS ⊢
  clear hP1 hD1 hPc hDc hFc hk1 hz1 hvm ht
  obtain rfl := hw.symm
  refine lv_istore_n (lv' := [(2, .int (t1.1)), (0, .ref (ad .rd)), (1, .ref (ad (.ln L)))]) hx hb dX5_readStatement_4 rfl hl (by decide) rfl (fun ls hl => ?_)
  refine lv_aload_n hx hb dX5_readStatement_5 rfl (lv_at hl 1 rfl) ?_
  obtain ⟨t3, e4, hF⟩ := ob hF
  have hPc := hP
  have hDc := hD
  have hFc := my_free hD hS hA
  obtain ⟨q8, h8⟩ := wc_at (cy := cy) (ad := ad) (ks := ks) (g := g) (u := (t1.2)) (κ := .rd) hk.1 True.intro
  refine va_calli (va_runV (As := []) (rest := []) ⟨hx, hb, hml, hown, hts⟩ (c_X5_readWord l dC dI cy nb ad ks g hk (t1.2) (t3.1) (t3.2) H.size e4) (cwV 0 hts (gV mw_159 mw_160 mw_161 mw_22 mw_162) rfl rfl rfl (by decide +kernel) ⟨Nat.le_of_ble_eq_true rfl, Nat.le_of_ble_eq_true rfl⟩) (my_preV hPc hK hDc hE hS hFc (va_recv (q := (RX5, TX5, 11)) hK hP (ci := 5) (q0 := q8) rfl h8)) rfl rfl hl.1 rfl (lv_room (Nat.le_of_ble_eq_true rfl)) dX5_readStatement_6 ⟨Nat.le_of_ble_eq_true rfl, Nat.le_of_ble_eq_true rfl⟩) hS (fun q _ h => hFc q h) hFc (fun r u t H1 locs ht hvm hw hB hz1 hk1 hS => ?_)
  clear h8
  obtain ⟨hP1, hD1⟩ := hB
  rw [ht] at hP1
  have hP := hP1
  have hD := hD1.weaken (fun k q _ h => hFc q.1 h)
  generalize H1 = H at hP hS ⊢
  clear hP1 hD1 hPc hDc hFc hk1 hz1 hvm ht
  obtain rfl := hw.symm
  refine lv_istore_n (lv' := [(3, .int (t3.1)), (2, .int (t1.1)), (0, .ref (ad .rd)), (1, .ref (ad (.ln L)))]) hx hb dX5_readStatement_9 rfl hl (by decide) rfl (fun ls hl => ?_)
  refine lv_iload_n hx hb dX5_readStatement_10 rfl (lv_at hl 0 rfl) ?_
  refine lv_iconst (v := (-1)) hx hb dX5_readStatement_11 (by decide) ?_
  refine lv_icmp_eq (tgt := 40) hx hb dX5_readStatement_12 (by decide) (fun c5 => ?_) (fun c5 => ?_)
  · rw [if_pos c5] at hF
    refine lv_aload_n hx hb dX5_readStatement_40 rfl (lv_at hl 2 rfl) ?_
    refine lv_iconst (v := 1) hx hb dX5_readStatement_41 (by decide) ?_
    refine lv_iload_n hx hb dX5_readStatement_42 rfl (lv_at hl 1 rfl) ?_
    obtain ⟨u6, e7, hF⟩ := ob hF
    have hPc := hP
    have hDc := hD
    have hFc := my_free hD hS hA
    obtain ⟨q8, h8⟩ := wc_at (cy := cy) (ad := ad) (ks := ks) (g := g) (u := (t3.2)) (κ := .rd) hk.1 True.intro
    refine va_callv (va_runV (As := [.int 1, .int (t1.1)]) (rest := []) ⟨hx, hb, hml, hown, hts⟩ (c_X5_error l dC dI cy nb ad ks g hk (t3.2) (1) ((t1.1)) (u6) H.size e7) (cwV 2 hts (gV mw_219 mw_220 mw_221 mw_22 mw_222) rfl rfl rfl (by decide +kernel) ⟨Nat.le_of_ble_eq_true rfl, Nat.le_of_ble_eq_true rfl⟩) (my_preV hPc hK hDc hE hS hFc (va_recv (q := (RX5, TX5, 11)) hK hP (ci := 5) (q0 := q8) rfl h8)) rfl rfl hl.1 rfl (lv_room (Nat.le_of_ble_eq_true rfl)) dX5_readStatement_43 ⟨Nat.le_of_ble_eq_true rfl, Nat.le_of_ble_eq_true rfl⟩) hS (fun q _ h => hFc q h) hFc (fun u t H1 locs ht hvm hw hB hz1 hk1 hS => ?_)
    clear h8
    obtain ⟨hP1, hD1⟩ := hB
    rw [ht] at hP1
    have hP := hP1
    have hD := hD1.weaken (fun k q _ h => hFc q.1 h)
    generalize H1 = H at hP hS ⊢
    clear hP1 hD1 hPc hDc hFc hk1 hz1 hvm ht
    have hZ := s1 hF
    have zgz : g = gz := (congrArg (fun q => q.1) hZ)
    have zuz : u6 = uz := (congrArg (fun q => q.2) hZ)
    have hP9 : va_P (dC, dI) vwCl (WC cy ad ks gz uz) H := by rw [← zuz, ← zgz]; exact hP
    have hD9 : va_D A (WC cy ad ks gz uz) := by rw [← zuz, ← zgz]; exact hD
    have hk9 : GA nb ad gz ks := by rw [← zgz]; exact hk
    have ax9 : AX g ad gz ad := by rw [← zgz]; exact ax_refl
    refine W.widen (k := 1) (n := 16) (by omega) (by omega) ?_
    rw [hQ]
    exact W.vret hx hb hr (fun t ht hW => ⟨⟨(), rfl, trivial, ad, ks, hk9, ax9, by rw [ht]; exact hP9, hD9⟩, hS.F ht⟩) hS.2.2 dX5_readStatement_46
  · rw [if_neg c5] at hF
    refine lv_iload_n hx hb dX5_readStatement_15 rfl (lv_at hl 0 rfl) ?_
    refine lv_iconst (v := 4) hx hb dX5_readStatement_16 (by decide) ?_
    obtain ⟨t9, hJ10, hF⟩ := ob hF
    have join11 : ∀ (H : Heap) (locs : List Loc) (ls : Array Slot), va_P (dC, dI) vwCl (WC cy ad ks g (t3.2)) H → va_D A (WC cy ad ks g (t3.2)) → va_S A s.heap H locs → lv_has ls 4 [(3, .int (t3.1)), (2, .int (t1.1)), (0, .ref (ad .rd)), (1, .ref (ad (.ln L)))] → W p l e (headSpec (wsg yX5_readStatement cX5_readStatement 4 none) ({ frames := 13, cells := 1, slots := 16, locals := 800 })).room s m ([.ref (ad .rd), .ref (ad (.ln L))] : List Value).toArray below meth c H locs 0 0 Qn (F0 m 25 ls [.int t9]) := by
      intro H locs ls hP hD hS hl
      refine lv_aload_n hx hb dX5_readStatement_25 rfl (lv_at hl 2 rfl) ?_
      obtain ⟨q9, h9⟩ := wc_at (cy := cy) (ad := ad) (ks := ks) (g := g) (u := (t3.2)) (κ := .rd) hk.1 True.intro
      refine va_get (D := (dC, dI)) (ci := 5) (v := .int ((t3.2) 0 9)) (C := RX5) (T := TX5) (N := 11) hx hb hts inlX5 hown hK hP q9 h9 rfl 5 (by decide) (hts _ mw_143) (fun _ h9 => h9) rfl dX5_readStatement_26 ?_
      clear h9
      obtain ⟨t13, hJ14, hF⟩ := ob hF
      have join15 : ∀ (H : Heap) (locs : List Loc) (ls : Array Slot), va_P (dC, dI) vwCl (WC cy ad ks g (t3.2)) H → va_D A (WC cy ad ks g (t3.2)) → va_S A s.heap H locs → lv_has ls 4 [(3, .int (t3.1)), (2, .int (t1.1)), (0, .ref (ad .rd)), (1, .ref (ad (.ln L)))] → W p l e (headSpec (wsg yX5_readStatement cX5_readStatement 4 none) ({ frames := 13, cells := 1, slots := 16, locals := 800 })).room s m ([.ref (ad .rd), .ref (ad (.ln L))] : List Value).toArray below meth c H locs 0 0 Qn (F0 m 37 ls [.int t13, .int t9]) := by
        intro H locs ls hP hD hS hl
        refine lv_icmp_eq (tgt := 47) hx hb dX5_readStatement_37 (by decide) (fun c16 => ?_) (fun c16 => ?_)
        · rw [if_pos c16] at hF
          refine lv_iload_n hx hb dX5_readStatement_47 rfl (lv_at hl 0 rfl) ?_
          by_cases c17 : (t3.1) = 4
          · rw [if_pos c17] at hF
            refine my_topi (y := 4) c17 ?_
            refine lv_tableIn (off := 32) (tgt := 80) hx hb dX5_readStatement_48 (by decide) (by decide) (by decide) (by decide) ?_
            refine lv_aload_n hx hb dX5_readStatement_80 rfl (lv_at hl 2 rfl) ?_
            refine lv_aload_n hx hb dX5_readStatement_81 rfl (lv_at hl 3 rfl) ?_
            obtain ⟨u18, e19, hF⟩ := ob hF
            have hPc := hP
            have hDc := hD
            have hFc := my_free hD hS hA
            obtain ⟨q8, h8⟩ := wc_at (cy := cy) (ad := ad) (ks := ks) (g := g) (u := (t3.2)) (κ := .rd) hk.1 True.intro
            refine va_callv (va_runV (As := [.ref (ad (.ln L))]) (rest := []) ⟨hx, hb, hml, hown, hts⟩ (c_X5_readLine l dC dI cy nb ad ks g hk (t3.2) L (u18) H.size h_L e19) (cwV 1 hts (gV mw_223 mw_224 mw_225 mw_22 mw_226) rfl rfl rfl (by decide +kernel) ⟨Nat.le_of_ble_eq_true rfl, Nat.le_of_ble_eq_true rfl⟩) (my_preV hPc hK hDc hE hS hFc (va_recv (q := (RX5, TX5, 11)) hK hP (ci := 5) (q0 := q8) rfl h8)) rfl rfl hl.1 rfl (lv_room (Nat.le_of_ble_eq_true rfl)) dX5_readStatement_82 ⟨Nat.le_of_ble_eq_true rfl, Nat.le_of_ble_eq_true rfl⟩) hS (fun q _ h => hFc q h) hFc (fun u t H1 locs ht hvm hw hB hz1 hk1 hS => ?_)
            clear h8
            obtain ⟨hP1, hD1⟩ := hB
            rw [ht] at hP1
            have hP := hP1
            have hD := hD1.weaken (fun k q _ h => hFc q.1 h)
            generalize H1 = H at hP hS ⊢
            clear hP1 hD1 hPc hDc hFc hk1 hz1 hvm ht
            refine lv_goto (tgt := 121) hx hb dX5_readStatement_85 (by decide) ?_
            have hZ := s1 hF
            have zgz : g = gz := (congrArg (fun q => q.1) hZ)
            have zuz : u18 = uz := (congrArg (fun q => q.2) hZ)
            have hP9 : va_P (dC, dI) vwCl (WC cy ad ks gz uz) H := by rw [← zuz, ← zgz]; exact hP
            have hD9 : va_D A (WC cy ad ks gz uz) := by rw [← zuz, ← zgz]; exact hD
            have hk9 : GA nb ad gz ks := by rw [← zgz]; exact hk
            have ax9 : AX g ad gz ad := by rw [← zgz]; exact ax_refl
            refine W.widen (k := 1) (n := 16) (by omega) (by omega) ?_
            rw [hQ]
            exact W.vret hx hb hr (fun t ht hW => ⟨⟨(), rfl, trivial, ad, ks, hk9, ax9, by rw [ht]; exact hP9, hD9⟩, hS.F ht⟩) hS.2.2 dX5_readStatement_121
          · rw [if_neg c17] at hF
            by_cases c20 : (t3.1) = 5
            · rw [if_pos c20] at hF
              refine my_topi (y := 5) c20 ?_
              refine lv_tableIn (off := 40) (tgt := 88) hx hb dX5_readStatement_48 (by decide) (by decide) (by decide) (by decide) ?_
              refine lv_aload_n hx hb dX5_readStatement_88 rfl (lv_at hl 2 rfl) ?_
              refine lv_aload_n hx hb dX5_readStatement_89 rfl (lv_at hl 3 rfl) ?_
              obtain ⟨u21, e22, hF⟩ := ob hF
              have hPc := hP
              have hDc := hD
              have hFc := my_free hD hS hA
              obtain ⟨q8, h8⟩ := wc_at (cy := cy) (ad := ad) (ks := ks) (g := g) (u := (t3.2)) (κ := .rd) hk.1 True.intro
              refine va_callv (va_runV (As := [.ref (ad (.ln L))]) (rest := []) ⟨hx, hb, hml, hown, hts⟩ (c_X5_readRest l dC dI cy nb ad ks g hk (t3.2) L (u21) H.size h_L e22) (cwV 1 hts (gV mw_244 mw_245 mw_246 mw_22 mw_247) rfl rfl rfl (by decide +kernel) ⟨Nat.le_of_ble_eq_true rfl, Nat.le_of_ble_eq_true rfl⟩) (my_preV hPc hK hDc hE hS hFc (va_recv (q := (RX5, TX5, 11)) hK hP (ci := 5) (q0 := q8) rfl h8)) rfl rfl hl.1 rfl (lv_room (Nat.le_of_ble_eq_true rfl)) dX5_readStatement_90 ⟨Nat.le_of_ble_eq_true rfl, Nat.le_of_ble_eq_true rfl⟩) hS (fun q _ h => hFc q h) hFc (fun u t H1 locs ht hvm hw hB hz1 hk1 hS => ?_)
              clear h8
              obtain ⟨hP1, hD1⟩ := hB
              rw [ht] at hP1
              have hP := hP1
              have hD := hD1.weaken (fun k q _ h => hFc q.1 h)
              generalize H1 = H at hP hS ⊢
              clear hP1 hD1 hPc hDc hFc hk1 hz1 hvm ht
              refine lv_goto (tgt := 121) hx hb dX5_readStatement_93 (by decide) ?_
              have hZ := s1 hF
              have zgz : g = gz := (congrArg (fun q => q.1) hZ)
              have zuz : u21 = uz := (congrArg (fun q => q.2) hZ)
              have hP9 : va_P (dC, dI) vwCl (WC cy ad ks gz uz) H := by rw [← zuz, ← zgz]; exact hP
              have hD9 : va_D A (WC cy ad ks gz uz) := by rw [← zuz, ← zgz]; exact hD
              have hk9 : GA nb ad gz ks := by rw [← zgz]; exact hk
              have ax9 : AX g ad gz ad := by rw [← zgz]; exact ax_refl
              refine W.widen (k := 1) (n := 16) (by omega) (by omega) ?_
              rw [hQ]
              exact W.vret hx hb hr (fun t ht hW => ⟨⟨(), rfl, trivial, ad, ks, hk9, ax9, by rw [ht]; exact hP9, hD9⟩, hS.F ht⟩) hS.2.2 dX5_readStatement_121
            · rw [if_neg c20] at hF
              by_cases c23 : (t3.1) = 6
              · rw [if_pos c23] at hF
                refine my_topi (y := 6) c23 ?_
                refine lv_tableIn (off := 48) (tgt := 96) hx hb dX5_readStatement_48 (by decide) (by decide) (by decide) (by decide) ?_
                refine lv_aload_n hx hb dX5_readStatement_96 rfl (lv_at hl 2 rfl) ?_
                refine lv_aload_n hx hb dX5_readStatement_97 rfl (lv_at hl 3 rfl) ?_
                refine lv_iload_n hx hb dX5_readStatement_98 rfl (lv_at hl 1 rfl) ?_
                obtain ⟨u24, e25, hF⟩ := ob hF
                have hPc := hP
                have hDc := hD
                have hFc := my_free hD hS hA
                obtain ⟨q8, h8⟩ := wc_at (cy := cy) (ad := ad) (ks := ks) (g := g) (u := (t3.2)) (κ := .rd) hk.1 True.intro
                refine va_callv (va_runV (As := [.ref (ad (.ln L)), .int (t1.1)]) (rest := []) ⟨hx, hb, hml, hown, hts⟩ (c_X5_readLot l dC dI cy nb ad ks g hk (t3.2) L ((t1.1)) (u24) H.size h_L e25) (cwV 2 hts (gV mw_252 mw_253 mw_254 mw_22 mw_255) rfl rfl rfl (by decide +kernel) ⟨Nat.le_of_ble_eq_true rfl, Nat.le_of_ble_eq_true rfl⟩) (my_preV hPc hK hDc hE hS hFc (va_recv (q := (RX5, TX5, 11)) hK hP (ci := 5) (q0 := q8) rfl h8)) rfl rfl hl.1 rfl (lv_room (Nat.le_of_ble_eq_true rfl)) dX5_readStatement_99 ⟨Nat.le_of_ble_eq_true rfl, Nat.le_of_ble_eq_true rfl⟩) hS (fun q _ h => hFc q h) hFc (fun u t H1 locs ht hvm hw hB hz1 hk1 hS => ?_)
                clear h8
                obtain ⟨hP1, hD1⟩ := hB
                rw [ht] at hP1
                have hP := hP1
                have hD := hD1.weaken (fun k q _ h => hFc q.1 h)
                generalize H1 = H at hP hS ⊢
                clear hP1 hD1 hPc hDc hFc hk1 hz1 hvm ht
                refine lv_goto (tgt := 121) hx hb dX5_readStatement_102 (by decide) ?_
                have hZ := s1 hF
                have zgz : g = gz := (congrArg (fun q => q.1) hZ)
                have zuz : u24 = uz := (congrArg (fun q => q.2) hZ)
                have hP9 : va_P (dC, dI) vwCl (WC cy ad ks gz uz) H := by rw [← zuz, ← zgz]; exact hP
                have hD9 : va_D A (WC cy ad ks gz uz) := by rw [← zuz, ← zgz]; exact hD
                have hk9 : GA nb ad gz ks := by rw [← zgz]; exact hk
                have ax9 : AX g ad gz ad := by rw [← zgz]; exact ax_refl
                refine W.widen (k := 1) (n := 16) (by omega) (by omega) ?_
                rw [hQ]
                exact W.vret hx hb hr (fun t ht hW => ⟨⟨(), rfl, trivial, ad, ks, hk9, ax9, by rw [ht]; exact hP9, hD9⟩, hS.F ht⟩) hS.2.2 dX5_readStatement_121
              · rw [if_neg c23] at hF
                by_cases c26 : (t3.1) = 7
                · rw [if_pos c26] at hF
                  refine my_topi (y := 7) c26 ?_
                  refine lv_tableIn (off := 57) (tgt := 105) hx hb dX5_readStatement_48 (by decide) (by decide) (by decide) (by decide) ?_
                  refine lv_aload_n hx hb dX5_readStatement_105 rfl (lv_at hl 2 rfl) ?_
                  refine lv_aload_n hx hb dX5_readStatement_106 rfl (lv_at hl 3 rfl) ?_
                  refine lv_iload_n hx hb dX5_readStatement_107 rfl (lv_at hl 1 rfl) ?_
                  obtain ⟨t27, e28, hF⟩ := ob hF
                  have hPc := hP
                  have hDc := hD
                  have hFc := my_free hD hS hA
                  obtain ⟨q8, h8⟩ := wc_at (cy := cy) (ad := ad) (ks := ks) (g := g) (u := (t3.2)) (κ := .rd) hk.1 True.intro
                  refine va_callv (va_runV (As := [.ref (ad (.ln L)), .int (t1.1)]) (rest := []) ⟨hx, hb, hml, hown, hts⟩ (c_X5_readCard l dC dI cy nb ad ks g hk (t3.2) L ((t1.1)) (t27.1) (t27.2) H.size h_L e28) (cwV 2 hts (gV mw_274 mw_275 mw_276 mw_22 mw_277) rfl rfl rfl (by decide +kernel) ⟨Nat.le_of_ble_eq_true rfl, Nat.le_of_ble_eq_true rfl⟩) (my_preV hPc hK hDc hE hS hFc (va_recv (q := (RX5, TX5, 11)) hK hP (ci := 5) (q0 := q8) rfl h8)) rfl rfl hl.1 rfl (lv_room (Nat.le_of_ble_eq_true rfl)) dX5_readStatement_108 ⟨Nat.le_of_ble_eq_true rfl, Nat.le_of_ble_eq_true rfl⟩) hS (fun q _ h => hFc q h) hFc (fun u t H1 locs ht hvm hw hB hz1 hk1 hS => ?_)
                  clear h8
                  obtain ⟨ad29, ks30, hk31, ax32, hP1, hD1⟩ := hB
                  rw [ht] at hP1
                  have hP := hP1
                  have hD := hD1.weaken (fun k q _ h => hFc q.1 h)
                  generalize H1 = H at hP hS ⊢
                  have hl : lv_has ls 4 [(3, .int (t3.1)), (2, .int (t1.1)), (0, .ref (ad29 .rd)), (1, .ref (ad29 (.ln L)))] := by rw [(ax32 .rd True.intro).2, (ax32 (.ln L) h_L).2]; exact hl
                  clear hP1 hD1 hPc hDc hFc hk1 hz1 hvm ht
                  refine W.widen (k := 1) (n := 16) (by omega) (by omega) ?_
                  refine lv_goto (tgt := 121) hx hb dX5_readStatement_111 (by decide) ?_
                  have hZ := s1 hF
                  have zgz : (t27.1) = gz := (congrArg (fun q => q.1) hZ)
                  have zuz : (t27.2) = uz := (congrArg (fun q => q.2) hZ)
                  have hP9 : va_P (dC, dI) vwCl (WC cy ad29 ks30 gz uz) H := by rw [← zuz, ← zgz]; exact hP
                  have hD9 : va_D A (WC cy ad29 ks30 gz uz) := by rw [← zuz, ← zgz]; exact hD
                  have hk9 : GA nb ad29 gz ks30 := by rw [← zgz]; exact hk31
                  have ax9 : AX g ad gz ad29 := by rw [← zgz]; exact ax32
                  refine W.widen (k := 1) (n := 16) (by omega) (by omega) ?_
                  rw [hQ]
                  exact W.vret hx hb hr (fun t ht hW => ⟨⟨(), rfl, trivial, ad29, ks30, hk9, ax9, by rw [ht]; exact hP9, hD9⟩, hS.F ht⟩) hS.2.2 dX5_readStatement_121
                · rw [if_neg c26] at hF
                  refine lv_tableOut (tgt := 114) hx hb dX5_readStatement_48 (sw_out (lo := 4) (hi := 7) (fun k h1 h2 => by rcases (show k = 4 ∨ k = 5 ∨ k = 6 ∨ k = 7 by omega) with rfl | rfl | rfl | rfl <;> intro q <;> first | exact c17 (q.trans (by decide)) | exact c20 (q.trans (by decide)) | exact c23 (q.trans (by decide)) | exact c26 (q.trans (by decide)))) (by decide) ?_
                  refine lv_aload_n hx hb dX5_readStatement_114 rfl (lv_at hl 2 rfl) ?_
                  refine lv_aload_n hx hb dX5_readStatement_115 rfl (lv_at hl 3 rfl) ?_
                  refine lv_iload_n hx hb dX5_readStatement_116 rfl (lv_at hl 0 rfl) ?_
                  refine lv_iload_n hx hb dX5_readStatement_117 rfl (lv_at hl 1 rfl) ?_
                  obtain ⟨t33, e34, hF⟩ := ob hF
                  have hPc := hP
                  have hDc := hD
                  have hFc := my_free hD hS hA
                  obtain ⟨q8, h8⟩ := wc_at (cy := cy) (ad := ad) (ks := ks) (g := g) (u := (t3.2)) (κ := .rd) hk.1 True.intro
                  refine va_callv (va_runV (As := [.ref (ad (.ln L)), .int (t3.1), .int (t1.1)]) (rest := []) ⟨hx, hb, hml, hown, hts⟩ (c_X5_readStation l dC dI cy nb ad ks g hk (t3.2) L ((t3.1)) ((t1.1)) (t33.1) (t33.2) H.size h_L e34) (cwV 3 hts (gV mw_338 mw_339 mw_340 mw_22 mw_341) rfl rfl rfl (by decide +kernel) ⟨Nat.le_of_ble_eq_true rfl, Nat.le_of_ble_eq_true rfl⟩) (my_preV hPc hK hDc hE hS hFc (va_recv (q := (RX5, TX5, 11)) hK hP (ci := 5) (q0 := q8) rfl h8)) rfl rfl hl.1 rfl (lv_room (Nat.le_of_ble_eq_true rfl)) dX5_readStatement_118 ⟨Nat.le_of_ble_eq_true rfl, Nat.le_of_ble_eq_true rfl⟩) hS (fun q _ h => hFc q h) hFc (fun u t H1 locs ht hvm hw hB hz1 hk1 hS => ?_)
                  clear h8
                  obtain ⟨ad35, ks36, hk37, ax38, hP1, hD1⟩ := hB
                  rw [ht] at hP1
                  have hP := hP1
                  have hD := hD1.weaken (fun k q _ h => hFc q.1 h)
                  generalize H1 = H at hP hS ⊢
                  have hl : lv_has ls 4 [(3, .int (t3.1)), (2, .int (t1.1)), (0, .ref (ad35 .rd)), (1, .ref (ad35 (.ln L)))] := by rw [(ax38 .rd True.intro).2, (ax38 (.ln L) h_L).2]; exact hl
                  clear hP1 hD1 hPc hDc hFc hk1 hz1 hvm ht
                  refine W.widen (k := 1) (n := 16) (by omega) (by omega) ?_
                  have hZ := s1 hF
                  have zgz : (t33.1) = gz := (congrArg (fun q => q.1) hZ)
                  have zuz : (t33.2) = uz := (congrArg (fun q => q.2) hZ)
                  have hP9 : va_P (dC, dI) vwCl (WC cy ad35 ks36 gz uz) H := by rw [← zuz, ← zgz]; exact hP
                  have hD9 : va_D A (WC cy ad35 ks36 gz uz) := by rw [← zuz, ← zgz]; exact hD
                  have hk9 : GA nb ad35 gz ks36 := by rw [← zgz]; exact hk37
                  have ax9 : AX g ad gz ad35 := by rw [← zgz]; exact ax38
                  refine W.widen (k := 1) (n := 16) (by omega) (by omega) ?_
                  rw [hQ]
                  exact W.vret hx hb hr (fun t ht hW => ⟨⟨(), rfl, trivial, ad35, ks36, hk9, ax9, by rw [ht]; exact hP9, hD9⟩, hS.F ht⟩) hS.2.2 dX5_readStatement_121
        · rw [if_neg c16] at hF
          refine lv_aload_n hx hb dX5_readStatement_40 rfl (lv_at hl 2 rfl) ?_
          refine lv_iconst (v := 1) hx hb dX5_readStatement_41 (by decide) ?_
          refine lv_iload_n hx hb dX5_readStatement_42 rfl (lv_at hl 1 rfl) ?_
          obtain ⟨u39, e40, hF⟩ := ob hF
          have hPc := hP
          have hDc := hD
          have hFc := my_free hD hS hA
          obtain ⟨q8, h8⟩ := wc_at (cy := cy) (ad := ad) (ks := ks) (g := g) (u := (t3.2)) (κ := .rd) hk.1 True.intro
          refine va_callv (va_runV (As := [.int 1, .int (t1.1)]) (rest := []) ⟨hx, hb, hml, hown, hts⟩ (c_X5_error l dC dI cy nb ad ks g hk (t3.2) (1) ((t1.1)) (u39) H.size e40) (cwV 2 hts (gV mw_219 mw_220 mw_221 mw_22 mw_222) rfl rfl rfl (by decide +kernel) ⟨Nat.le_of_ble_eq_true rfl, Nat.le_of_ble_eq_true rfl⟩) (my_preV hPc hK hDc hE hS hFc (va_recv (q := (RX5, TX5, 11)) hK hP (ci := 5) (q0 := q8) rfl h8)) rfl rfl hl.1 rfl (lv_room (Nat.le_of_ble_eq_true rfl)) dX5_readStatement_43 ⟨Nat.le_of_ble_eq_true rfl, Nat.le_of_ble_eq_true rfl⟩) hS (fun q _ h => hFc q h) hFc (fun u t H1 locs ht hvm hw hB hz1 hk1 hS => ?_)
          clear h8
          obtain ⟨hP1, hD1⟩ := hB
          rw [ht] at hP1
          have hP := hP1
          have hD := hD1.weaken (fun k q _ h => hFc q.1 h)
          generalize H1 = H at hP hS ⊢
          clear hP1 hD1 hPc hDc hFc hk1 hz1 hvm ht
          have hZ := s1 hF
          have zgz : g = gz := (congrArg (fun q => q.1) hZ)
          have zuz : u39 = uz := (congrArg (fun q => q.2) hZ)
          have hP9 : va_P (dC, dI) vwCl (WC cy ad ks gz uz) H := by rw [← zuz, ← zgz]; exact hP
          have hD9 : va_D A (WC cy ad ks gz uz) := by rw [← zuz, ← zgz]; exact hD
          have hk9 : GA nb ad gz ks := by rw [← zgz]; exact hk
          have ax9 : AX g ad gz ad := by rw [← zgz]; exact ax_refl
          refine W.widen (k := 1) (n := 16) (by omega) (by omega) ?_
          rw [hQ]
          exact W.vret hx hb hr (fun t ht hW => ⟨⟨(), rfl, trivial, ad, ks, hk9, ax9, by rw [ht]; exact hP9, hD9⟩, hS.F ht⟩) hS.2.2 dX5_readStatement_46
      clear hF
      have hF := hJ14
      clear hJ14
      refine lv_if_ne (tgt := 36) hx hb dX5_readStatement_29 (by decide) (fun c12 => ?_) (fun c12 => ?_)
      · rw [if_neg c12] at hF
        refine lv_iconst (v := 0) hx hb dX5_readStatement_36 (by decide) ?_
        have ht := s1 hF
        subst ht
        exact join15 _ _ _ hP hD hS (lv_sub hl [0, 1, 2, 3] rfl)
      · rw [if_pos c12] at hF
        refine lv_iconst (v := 1) hx hb dX5_readStatement_32 (by decide) ?_
        refine lv_goto (tgt := 37) hx hb dX5_readStatement_33 (by decide) ?_
        have ht := s1 hF
        subst ht
        exact join15 _ _ _ hP hD hS (lv_sub hl [0, 1, 2, 3] rfl)
    clear hF
    have hF := hJ10
    clear hJ10
    refine lv_icmp_ne (tgt := 24) hx hb dX5_readStatement_17 (by decide) (fun c8 => ?_) (fun c8 => ?_)
    · rw [if_neg c8] at hF
      refine lv_iconst (v := 0) hx hb dX5_readStatement_24 (by decide) ?_
      have ht := s1 hF
      subst ht
      exact join11 _ _ _ hP hD hS (lv_sub hl [0, 1, 2, 3] rfl)
    · rw [if_pos c8] at hF
      refine lv_iconst (v := 1) hx hb dX5_readStatement_20 (by decide) ?_
      refine lv_goto (tgt := 25) hx hb dX5_readStatement_21 (by decide) ?_
      have ht := s1 hF
      subst ht
      exact join11 _ _ _ hP hD hS (lv_sub hl [0, 1, 2, 3] rfl)
noncomputable def C5_readSemicolon (g : CG) (u0 : RS)  : Option (Int32 × RS) := (C5_skipSpaces g u0).bind fun t1 => (C5_isFine g (t1.2)).bind fun x3 => if x3 = 0 then (some ((0 : Int32), (t1.2))) else (if ((t1.2) 0 6) < ((t1.2) 0 5) then ((rd (t1.2) 3 600 ((t1.2) 0 6)).bind fun x7 => if x7 = 59 then ((pt (t1.2) 0 6 (((t1.2) 0 6) + 1)).bind fun u10 => some ((1 : Int32), u10)) else ((C5_error g (t1.2) (1) (((t1.2) 0 6))).bind fun u12 => some ((0 : Int32), u12))) else (some ((0 : Int32), (t1.2))))
set_option maxHeartbeats 4000000 in
set_option maxRecDepth 100000 in
theorem c_X5_readSemicolon (l : Launch) (dC : Nat → ClassId) (dI : Nat → Nat → Nat) (cy : Nat → ClassId) (nb : Nat → Nat) (ad : CK → Nat) (ks : List CK) (g : CG) (hk : GA nb ad g ks) (u0 : RS)  (ro : Int32) (uz : RS) (sz : Nat) (hF : C5_readSemicolon g u0  = some (ro, uz)) : Met l yX5_readSemicolon (wsg yX5_readSemicolon cX5_readSemicolon 1 (some .boolean)) ({ frames := 8, cells := 0, slots := 0, locals := 300 }) (va_Pc [.ref (ad .rd)] (fun U => U.heap.size = sz ∧ va_P (dC, dI) vwCl (WC cy ad ks g u0) U.heap ∧ va_K (dC, dI) vwCl (tyL cy) U ∧ va_D (fun _ => True) (WC cy ad ks g u0) ∧ GE nb (va_A (WC cy ad ks g u0) sz) U)) (va_Qi (fun (r : Int32) (_ : Unit) => r = ro) (fun _ t => va_P (dC, dI) vwCl (WC cy ad ks g uz) t.heap ∧ va_D (va_A (WC cy ad ks g u0) sz) (WC cy ad ks g uz)) (va_A (WC cy ad ks g u0) sz)) 0 0 (va_A (WC cy ad ks g u0) sz) := by
  refine Met.ofW (cc := cX5_readSemicolon) (maxL := 1) (ret := (some .boolean)) pn_X5 rfl ?_
  intro p e s m args below meth c s₁ B hml hv
  obtain ⟨rfl, hsz, hP, hK, hD0, hE⟩ := hv
  have hx := B.exec
  have hb := B.bytes
  have hr := B.returns
  have hts0 := atoms_spec (ws := (wsg yX5_readSemicolon cX5_readSemicolon 1 (some .boolean))) B.pre
  have hts : ∀ w ∈ wsL_law, w.before _ s = true := fun w h => hts0 w (List.mem_cons_of_mem _ h)
  have hown : s.vm.findClass RX5 = some m.cls := by have h9 := findClass_of_methodNamed B.named; exact h9
  have hlocks := B.notSynchronized
  subst hsz
  have hD := hD0.self (sz := s.heap.size)
  generalize hAe : va_A (WC cy ad ks g u0) s.heap.size = A at hD hE ⊢
  have hA : ∀ q : Nat, s.heap.size ≤ q → A q := fun q h => by rw [← hAe]; exact Or.inr h
  have hS : va_S A s.heap s.heap [] := va_S.rf
  have hl := lv_entry ([.ref (ad .rd)]) (n := 1) (Nat.le_of_ble_eq_true rfl)
  rw [lg_entry_eq]
  generalize (lg_sl ([.ref (ad .rd)]) ++ List.replicate (1 - (lg_sl ([.ref (ad .rd)])).length) Slot.unset).toArray = ls at hl ⊢
  have hl : lv_has ls 1 [(0, .ref (ad .rd))] := hl
  generalize hHe : s.heap = H at hP hS ⊢
  have hS : va_S A s.heap H [] := by rw [hHe]; exact hS
  refine my_Q (fun Qn hQ => ?_)
  simp only [C5_readSemicolon] at hF
  refine lv_aload_n hx hb dX5_readSemicolon_0 rfl (lv_at hl 0 rfl) ?_
  obtain ⟨t1, e2, hF⟩ := ob hF
  have hPc := hP
  have hDc := hD
  have hFc := my_free hD hS hA
  obtain ⟨q8, h8⟩ := wc_at (cy := cy) (ad := ad) (ks := ks) (g := g) (u := u0) (κ := .rd) hk.1 True.intro
  refine va_calli (va_runV (As := []) (rest := []) ⟨hx, hb, hml, hown, hts⟩ (c_X5_skipSpaces l dC dI cy nb ad ks g hk u0 (t1.1) (t1.2) H.size e2) (cwV 0 hts (gV mw_155 mw_156 mw_157 mw_22 mw_158) rfl rfl rfl (by decide +kernel) ⟨Nat.le_of_ble_eq_true rfl, Nat.le_of_ble_eq_true rfl⟩) (my_preV hPc hK hDc hE hS hFc (va_recv (q := (RX5, TX5, 11)) hK hP (ci := 5) (q0 := q8) rfl h8)) rfl rfl hl.1 rfl (lv_room (Nat.le_of_ble_eq_true rfl)) dX5_readSemicolon_1 ⟨Nat.le_of_ble_eq_true rfl, Nat.le_of_ble_eq_true rfl⟩) hS (fun q _ h => hFc q h) hFc (fun r u t H1 locs ht hvm hw hB hz1 hk1 hS => ?_)
  clear h8
  obtain ⟨hP1, hD1⟩ := hB
  rw [ht] at hP1
  have hP := hP1
  have hD := hD1.weaken (fun k q _ h => hFc q.1 h)
  generalize H1 = H at hP hS ⊢
  clear hP1 hD1 hPc hDc hFc hk1 hz1 hvm ht
  obtain rfl := hw.symm
  refine lv_pop hx hb dX5_readSemicolon_4 rfl ?_
  refine lv_aload_n hx hb dX5_readSemicolon_5 rfl (lv_at hl 0 rfl) ?_
  obtain ⟨x3, e4, hF⟩ := ob hF
  have hPc := hP
  have hDc := hD
  have hFc := my_free hD hS hA
  obtain ⟨q8, h8⟩ := wc_at (cy := cy) (ad := ad) (ks := ks) (g := g) (u := (t1.2)) (κ := .rd) hk.1 True.intro
  refine va_calli (va_runV (As := []) (rest := []) ⟨hx, hb, hml, hown, hts⟩ (c_X5_isFine l dC dI cy nb ad ks g hk (t1.2) (x3) H.size e4) (cwV 0 hts (gV mw_239 mw_240 mw_241 mw_22 mw_242) rfl rfl rfl (by decide +kernel) ⟨Nat.le_of_ble_eq_true rfl, Nat.le_of_ble_eq_true rfl⟩) (my_preV hPc hK hDc hE hS hFc (va_recv (q := (RX5, TX5, 11)) hK hP (ci := 5) (q0 := q8) rfl h8)) rfl rfl hl.1 rfl (lv_room (Nat.le_of_ble_eq_true rfl)) dX5_readSemicolon_6 ⟨Nat.le_of_ble_eq_true rfl, Nat.le_of_ble_eq_true rfl⟩) hS (fun q _ h => hFc q h) hFc (fun r u t H1 locs ht hvm hw hB hz1 hk1 hS => ?_)
  clear h8
  obtain ⟨hP1, hD1⟩ := hB
  rw [ht] at hP1
  have hP := hP1
  have hD := hD1.weaken (fun k q _ h => hFc q.1 h)
  generalize H1 = H at hP hS ⊢
  clear hP1 hD1 hPc hDc hFc hk1 hz1 hvm ht
  obtain rfl := hw.symm
  refine lv_if_eq (tgt := 23) hx hb dX5_readSemicolon_9 (by decide) (fun c5 => ?_) (fun c5 => ?_)
  · rw [if_pos c5] at hF
    refine lv_iconst (v := 0) hx hb dX5_readSemicolon_23 (by decide) ?_
    have hZ := s1 hF
    have zro : (0 : Int32) = ro := (congrArg (fun q => q.1) hZ)
    have zuz : (t1.2) = uz := (congrArg (fun q => q.2) hZ)
    have hP9 : va_P (dC, dI) vwCl (WC cy ad ks g uz) H := by rw [← zuz]; exact hP
    have hD9 : va_D A (WC cy ad ks g uz) := by rw [← zuz]; exact hD
    rw [hQ]
    exact W.zret (v := (0 : Int32)) hx hb hr (by rfl) (fun t ht hW => ⟨⟨(0 : Int32), (), rfl, zro, by rw [ht]; exact hP9, hD9⟩, hS.F ht⟩) hS.2.2 dX5_readSemicolon_24
  · rw [if_neg c5] at hF
    refine lv_aload_n hx hb dX5_readSemicolon_12 rfl (lv_at hl 0 rfl) ?_
    obtain ⟨q9, h9⟩ := wc_at (cy := cy) (ad := ad) (ks := ks) (g := g) (u := (t1.2)) (κ := .rd) hk.1 True.intro
    refine va_get (D := (dC, dI)) (ci := 5) (v := .int ((t1.2) 0 6)) (C := RX5) (T := TX5) (N := 11) hx hb hts inlX5 hown hK hP q9 h9 rfl 2 (by decide) (hts _ mw_148) (fun _ h9 => h9) rfl dX5_readSemicolon_13 ?_
    clear h9
    refine lv_aload_n hx hb dX5_readSemicolon_16 rfl (lv_at hl 0 rfl) ?_
    obtain ⟨q9, h9⟩ := wc_at (cy := cy) (ad := ad) (ks := ks) (g := g) (u := (t1.2)) (κ := .rd) hk.1 True.intro
    refine va_get (D := (dC, dI)) (ci := 5) (v := .int ((t1.2) 0 5)) (C := RX5) (T := TX5) (N := 11) hx hb hts inlX5 hown hK hP q9 h9 rfl 1 (by decide) (hts _ mw_122) (fun _ h9 => h9) rfl dX5_readSemicolon_17 ?_
    clear h9
    refine lv_icmp_lt (tgt := 25) hx hb dX5_readSemicolon_20 (by decide) (fun c6 => ?_) (fun c6 => ?_)
    · rw [if_pos c6] at hF
      refine lv_aload_n hx hb dX5_readSemicolon_25 rfl (lv_at hl 0 rfl) ?_
      obtain ⟨q9, h9⟩ := wc_at (cy := cy) (ad := ad) (ks := ks) (g := g) (u := (t1.2)) (κ := .rd) hk.1 True.intro
      refine va_get (D := (dC, dI)) (ci := 5) (v := .ref (ad .tb)) (C := RX5) (T := TX5) (N := 11) hx hb hts inlX5 hown hK hP q9 h9 rfl 0 (by decide) (hts _ mw_72) (fun _ h9 => h9) rfl dX5_readSemicolon_26 ?_
      clear h9
      refine lv_aload_n hx hb dX5_readSemicolon_29 rfl (lv_at hl 0 rfl) ?_
      obtain ⟨q9, h9⟩ := wc_at (cy := cy) (ad := ad) (ks := ks) (g := g) (u := (t1.2)) (κ := .rd) hk.1 True.intro
      refine va_get (D := (dC, dI)) (ci := 5) (v := .int ((t1.2) 0 6)) (C := RX5) (T := TX5) (N := 11) hx hb hts inlX5 hown hK hP q9 h9 rfl 2 (by decide) (hts _ mw_148) (fun _ h9 => h9) rfl dX5_readSemicolon_30 ?_
      clear h9
      obtain ⟨x7, e8, hF⟩ := ob hF
      obtain ⟨q9, h9⟩ := wc_at (cy := cy) (ad := ad) (ks := ks) (g := g) (u := (t1.2)) (κ := .tb) hk.1 True.intro
      refine va_bald hx hb hK hP q9 0 h9 rfl (rd_in e8) dX5_readSemicolon_33 ?_
      refine my_topi (y := x7) (rd_eq e8) ?_
      clear h9
      refine lv_bipush (v := 59) hx hb dX5_readSemicolon_34 (by decide) ?_
      refine lv_icmp_eq (tgt := 50) hx hb dX5_readSemicolon_36 (by decide) (fun c9 => ?_) (fun c9 => ?_)
      · rw [if_pos c9] at hF
        refine lv_aload_n hx hb dX5_readSemicolon_50 rfl (lv_at hl 0 rfl) ?_
        refine lv_dup hx hb dX5_readSemicolon_51 rfl ?_
        obtain ⟨q9, h9⟩ := wc_at (cy := cy) (ad := ad) (ks := ks) (g := g) (u := (t1.2)) (κ := .rd) hk.1 True.intro
        refine va_get (D := (dC, dI)) (ci := 5) (v := .int ((t1.2) 0 6)) (C := RX5) (T := TX5) (N := 11) hx hb hts inlX5 hown hK hP q9 h9 rfl 2 (by decide) (hts _ mw_148) (fun _ h9 => h9) rfl dX5_readSemicolon_52 ?_
        clear h9
        refine lv_iconst (v := 1) hx hb dX5_readSemicolon_55 (by decide) ?_
        refine lv_iadd hx hb dX5_readSemicolon_56 ?_
        obtain ⟨q9, h9, ez9⟩ := wc_set (cy := cy) (ad := ad) (ks := ks) (g := g) (u := (t1.2)) (κ := .rd) (r := 0) (i := 6) (v := (((t1.2) 0 6) + 1)) hk.1 True.intro (own_rd (by decide)) (sf_rd_2)
        refine va_put (D := (dC, dI)) (ci := 5) (v := .int (((t1.2) 0 6) + 1)) (ty := .int) (C := RX5) (T := TX5) (N := 11) hx hb hts inlX5 tyX5 tyX5_ok nmX5 hown hK hP hD hS q9 h9 rfl 2 (by decide) (hts _ mw_148) (fun _ h9 => h9) rfl (by decide +kernel) rfl rfl (Nat.le_of_ble_eq_true rfl) dX5_readSemicolon_57 (fun H locs hP hD hS => ?_)
        obtain ⟨u10, e11, hF⟩ := ob hF
        have hP : va_P (dC, dI) vwCl (WC cy ad ks g u10) H := by rw [← pt_eq e11, ← ez9]; exact hP
        have hD : va_D A (WC cy ad ks g u10) := by rw [← pt_eq e11, ← ez9]; exact hD
        clear ez9 h9
        refine lv_iconst (v := 1) hx hb dX5_readSemicolon_60 (by decide) ?_
        have hZ := s1 hF
        have zro : (1 : Int32) = ro := (congrArg (fun q => q.1) hZ)
        have zuz : u10 = uz := (congrArg (fun q => q.2) hZ)
        have hP9 : va_P (dC, dI) vwCl (WC cy ad ks g uz) H := by rw [← zuz]; exact hP
        have hD9 : va_D A (WC cy ad ks g uz) := by rw [← zuz]; exact hD
        rw [hQ]
        exact W.zret (v := (1 : Int32)) hx hb hr (by rfl) (fun t ht hW => ⟨⟨(1 : Int32), (), rfl, zro, by rw [ht]; exact hP9, hD9⟩, hS.F ht⟩) hS.2.2 dX5_readSemicolon_61
      · rw [if_neg c9] at hF
        refine lv_aload_n hx hb dX5_readSemicolon_39 rfl (lv_at hl 0 rfl) ?_
        refine lv_iconst (v := 1) hx hb dX5_readSemicolon_40 (by decide) ?_
        refine lv_aload_n hx hb dX5_readSemicolon_41 rfl (lv_at hl 0 rfl) ?_
        obtain ⟨q9, h9⟩ := wc_at (cy := cy) (ad := ad) (ks := ks) (g := g) (u := (t1.2)) (κ := .rd) hk.1 True.intro
        refine va_get (D := (dC, dI)) (ci := 5) (v := .int ((t1.2) 0 6)) (C := RX5) (T := TX5) (N := 11) hx hb hts inlX5 hown hK hP q9 h9 rfl 2 (by decide) (hts _ mw_148) (fun _ h9 => h9) rfl dX5_readSemicolon_42 ?_
        clear h9
        obtain ⟨u12, e13, hF⟩ := ob hF
        have hPc := hP
        have hDc := hD
        have hFc := my_free hD hS hA
        obtain ⟨q8, h8⟩ := wc_at (cy := cy) (ad := ad) (ks := ks) (g := g) (u := (t1.2)) (κ := .rd) hk.1 True.intro
        refine va_callv (va_runV (As := [.int 1, .int ((t1.2) 0 6)]) (rest := []) ⟨hx, hb, hml, hown, hts⟩ (c_X5_error l dC dI cy nb ad ks g hk (t1.2) (1) (((t1.2) 0 6)) (u12) H.size e13) (cwV 2 hts (gV mw_219 mw_220 mw_221 mw_22 mw_222) rfl rfl rfl (by decide +kernel) ⟨Nat.le_of_ble_eq_true rfl, Nat.le_of_ble_eq_true rfl⟩) (my_preV hPc hK hDc hE hS hFc (va_recv (q := (RX5, TX5, 11)) hK hP (ci := 5) (q0 := q8) rfl h8)) rfl rfl hl.1 rfl (lv_room (Nat.le_of_ble_eq_true rfl)) dX5_readSemicolon_45 ⟨Nat.le_of_ble_eq_true rfl, Nat.le_of_ble_eq_true rfl⟩) hS (fun q _ h => hFc q h) hFc (fun u t H1 locs ht hvm hw hB hz1 hk1 hS => ?_)
        clear h8
        obtain ⟨hP1, hD1⟩ := hB
        rw [ht] at hP1
        have hP := hP1
        have hD := hD1.weaken (fun k q _ h => hFc q.1 h)
        generalize H1 = H at hP hS ⊢
        clear hP1 hD1 hPc hDc hFc hk1 hz1 hvm ht
        refine lv_iconst (v := 0) hx hb dX5_readSemicolon_48 (by decide) ?_
        have hZ := s1 hF
        have zro : (0 : Int32) = ro := (congrArg (fun q => q.1) hZ)
        have zuz : u12 = uz := (congrArg (fun q => q.2) hZ)
        have hP9 : va_P (dC, dI) vwCl (WC cy ad ks g uz) H := by rw [← zuz]; exact hP
        have hD9 : va_D A (WC cy ad ks g uz) := by rw [← zuz]; exact hD
        rw [hQ]
        exact W.zret (v := (0 : Int32)) hx hb hr (by rfl) (fun t ht hW => ⟨⟨(0 : Int32), (), rfl, zro, by rw [ht]; exact hP9, hD9⟩, hS.F ht⟩) hS.2.2 dX5_readSemicolon_49
    · rw [if_neg c6] at hF
      refine lv_iconst (v := 0) hx hb dX5_readSemicolon_23 (by decide) ?_
      have hZ := s1 hF
      have zro : (0 : Int32) = ro := (congrArg (fun q => q.1) hZ)
      have zuz : (t1.2) = uz := (congrArg (fun q => q.2) hZ)
      have hP9 : va_P (dC, dI) vwCl (WC cy ad ks g uz) H := by rw [← zuz]; exact hP
      have hD9 : va_D A (WC cy ad ks g uz) := by rw [← zuz]; exact hD
      rw [hQ]
      exact W.zret (v := (0 : Int32)) hx hb hr (by rfl) (fun t ht hW => ⟨⟨(0 : Int32), (), rfl, zro, by rw [ht]; exact hP9, hD9⟩, hS.F ht⟩) hS.2.2 dX5_readSemicolon_24
noncomputable def C5_readDescription_L6 (L : Nat) : Nat → Int32 → CG → RS → Option (Int32 × CG × RS)
  | 0, _, _, _ => none
  | m17 + 1, y3, g5, u4 => if y3 = 0 then (some ((y3, g5, u4))) else (if 600 < (u4 0 9) then (some ((y3, g5, u4))) else ((C5_readStatement g5 u4 L).bind fun t20 => (C5_readSemicolon (t20.1) (t20.2)).bind fun t26 => if (t26.1) = 0 then (C5_readDescription_L6 L m17 ((t26.1)) (t20.1) (t26.2)) else ((pt (t26.2) 0 9 (((t26.2) 0 9) + 1)).bind fun u29 => C5_readDescription_L6 L m17 ((t26.1)) (t20.1) u29)))
noncomputable def C5_readDescription (g : CG) (u0 : RS) (L : Nat) : Option (CG × RS) := (C5_start g u0).bind fun u1 => (C5_readDescription_L6 L 602 (1 : Int32) g u1).bind fun t10 => (pt (t10.2.2) 0 5 (0)).bind fun u14 => some ((t10.2.1), u14)
set_option maxHeartbeats 4000000 in
set_option maxRecDepth 100000 in
theorem c_X5_readDescription (l : Launch) (dC : Nat → ClassId) (dI : Nat → Nat → Nat) (cy : Nat → ClassId) (nb : Nat → Nat) (ad : CK → Nat) (ks : List CK) (g : CG) (hk : GA nb ad g ks) (u0 : RS) (L : Nat) (gz : CG) (uz : RS) (sz : Nat) (h_L : has g (.ln L)) (hF : C5_readDescription g u0 L = some (gz, uz)) : Met l yX5_readDescription (wsg yX5_readDescription cX5_readDescription 3 none) ({ frames := 14, cells := 602, slots := 9632, locals := 900 }) (va_Pc [.ref (ad .rd), .ref (ad (.ln L))] (fun U => U.heap.size = sz ∧ va_P (dC, dI) vwCl (WC cy ad ks g u0) U.heap ∧ va_K (dC, dI) vwCl (tyL cy) U ∧ va_D (fun _ => True) (WC cy ad ks g u0) ∧ GE nb (va_A (WC cy ad ks g u0) sz) U)) (va_Qv (fun (_ : Unit) => True) (fun _ t => ∃ (ad' : CK → Nat) (ks' : List CK), GA nb ad' gz ks' ∧ AX g ad gz ad' ∧ va_P (dC, dI) vwCl (WC cy ad' ks' gz uz) t.heap ∧ va_D (va_A (WC cy ad ks g u0) sz) (WC cy ad' ks' gz uz)) (va_A (WC cy ad ks g u0) sz)) 602 9632 (va_A (WC cy ad ks g u0) sz) := by
  refine Met.ofW (cc := cX5_readDescription) (maxL := 3) (ret := none) pn_X5 rfl ?_
  intro p e s m args below meth c s₁ B hml hv
  obtain ⟨rfl, hsz, hP, hK, hD0, hE⟩ := hv
  have hx := B.exec
  have hb := B.bytes
  have hr := B.returns
  have hts0 := atoms_spec (ws := (wsg yX5_readDescription cX5_readDescription 3 none)) B.pre
  have hts : ∀ w ∈ wsL_law, w.before _ s = true := fun w h => hts0 w (List.mem_cons_of_mem _ h)
  have hown : s.vm.findClass RX5 = some m.cls := by have h9 := findClass_of_methodNamed B.named; exact h9
  have hlocks := B.notSynchronized
  subst hsz
  have hD := hD0.self (sz := s.heap.size)
  generalize hAe : va_A (WC cy ad ks g u0) s.heap.size = A at hD hE ⊢
  have hA : ∀ q : Nat, s.heap.size ≤ q → A q := fun q h => by rw [← hAe]; exact Or.inr h
  have hS : va_S A s.heap s.heap [] := va_S.rf
  have hl := lv_entry ([.ref (ad .rd), .ref (ad (.ln L))]) (n := 3) (Nat.le_of_ble_eq_true rfl)
  rw [lg_entry_eq]
  generalize (lg_sl ([.ref (ad .rd), .ref (ad (.ln L))]) ++ List.replicate (3 - (lg_sl ([.ref (ad .rd), .ref (ad (.ln L))])).length) Slot.unset).toArray = ls at hl ⊢
  have hl : lv_has ls 3 [(0, .ref (ad .rd)), (1, .ref (ad (.ln L)))] := hl
  generalize hHe : s.heap = H at hP hS ⊢
  have hS : va_S A s.heap H [] := by rw [hHe]; exact hS
  refine my_Q (fun Qn hQ => ?_)
  simp only [C5_readDescription] at hF
  refine lv_aload_n hx hb dX5_readDescription_0 rfl (lv_at hl 0 rfl) ?_
  obtain ⟨u1, e2, hF⟩ := ob hF
  have hPc := hP
  have hDc := hD
  have hFc := my_free hD hS hA
  obtain ⟨q8, h8⟩ := wc_at (cy := cy) (ad := ad) (ks := ks) (g := g) (u := u0) (κ := .rd) hk.1 True.intro
  refine va_callv (va_runV (As := []) (rest := []) ⟨hx, hb, hml, hown, hts⟩ (c_X5_start l dC dI cy nb ad ks g hk u0 (u1) H.size e2) (cwV 0 hts (gV mw_144 mw_145 mw_146 mw_22 mw_147) rfl rfl rfl (by decide +kernel) ⟨Nat.le_of_ble_eq_true rfl, Nat.le_of_ble_eq_true rfl⟩) (my_preV hPc hK hDc hE hS hFc (va_recv (q := (RX5, TX5, 11)) hK hP (ci := 5) (q0 := q8) rfl h8)) rfl rfl hl.1 rfl (lv_room (Nat.le_of_ble_eq_true rfl)) dX5_readDescription_1 ⟨Nat.le_of_ble_eq_true rfl, Nat.le_of_ble_eq_true rfl⟩) hS (fun q _ h => hFc q h) hFc (fun u t H1 locs ht hvm hw hB hz1 hk1 hS => ?_)
  clear h8
  obtain ⟨hP1, hD1⟩ := hB
  rw [ht] at hP1
  have hP := hP1
  have hD := hD1.weaken (fun k q _ h => hFc q.1 h)
  generalize H1 = H at hP hS ⊢
  clear hP1 hD1 hPc hDc hFc hk1 hz1 hvm ht
  refine lv_iconst (v := 1) hx hb dX5_readDescription_4 (by decide) ?_
  refine lv_istore_n (lv' := [(2, .int 1), (0, .ref (ad .rd)), (1, .ref (ad (.ln L)))]) hx hb dX5_readDescription_5 rfl hl (by decide) rfl (fun ls hl => ?_)
  obtain ⟨t10, hL11, hF⟩ := ob hF
  have kx12 : ∀ (adx : CK → Nat) (ksx : List CK), GA nb adx (t10.2.1) ksx → AX g ad (t10.2.1) adx → (∀ (H : Heap) (locs : List Loc) (ls : Array Slot), va_P (dC, dI) vwCl (WC cy adx ksx (t10.2.1) (t10.2.2)) H → va_D A (WC cy adx ksx (t10.2.1) (t10.2.2)) → va_S A s.heap H locs → lv_has ls 3 [(2, .int (t10.1)), (0, .ref (adx .rd)), (1, .ref (adx (.ln L)))] → W p l e (headSpec (wsg yX5_readDescription cX5_readDescription 3 none) ({ frames := 14, cells := 602, slots := 9632, locals := 900 })).room s m ([.ref (ad .rd), .ref (ad (.ln L))] : List Value).toArray below meth c H locs 602 9632 Qn (F0 m 47 ls [])) := by
    intro adx ksx hkx axx H locs ls hP hD hS hl
    refine lv_aload_n hx hb dX5_readDescription_47 rfl (lv_at hl 1 rfl) ?_
    refine lv_iconst (v := 0) hx hb dX5_readDescription_48 (by decide) ?_
    obtain ⟨q9, h9, ez9⟩ := wc_set (cy := cy) (ad := adx) (ks := ksx) (g := (t10.2.1)) (u := (t10.2.2)) (κ := .rd) (r := 0) (i := 5) (v := (0)) hkx.1 True.intro (own_rd (by decide)) (sf_rd_1)
    refine va_put (D := (dC, dI)) (ci := 5) (v := .int 0) (ty := .int) (C := RX5) (T := TX5) (N := 11) hx hb hts inlX5 tyX5 tyX5_ok nmX5 hown hK hP hD hS q9 h9 rfl 1 (by decide) (hts _ mw_122) (fun _ h9 => h9) rfl (by decide +kernel) rfl rfl (Nat.le_of_ble_eq_true rfl) dX5_readDescription_49 (fun H locs hP hD hS => ?_)
    obtain ⟨u14, e15, hF⟩ := ob hF
    have hP : va_P (dC, dI) vwCl (WC cy adx ksx (t10.2.1) u14) H := by rw [← pt_eq e15, ← ez9]; exact hP
    have hD : va_D A (WC cy adx ksx (t10.2.1) u14) := by rw [← pt_eq e15, ← ez9]; exact hD
    clear ez9 h9
    have hZ := s1 hF
    have zgz : (t10.2.1) = gz := (congrArg (fun q => q.1) hZ)
    have zuz : u14 = uz := (congrArg (fun q => q.2) hZ)
    have hP9 : va_P (dC, dI) vwCl (WC cy adx ksx gz uz) H := by rw [← zuz, ← zgz]; exact hP
    have hD9 : va_D A (WC cy adx ksx gz uz) := by rw [← zuz, ← zgz]; exact hD
    have hk9 : GA nb adx gz ksx := by rw [← zgz]; exact hkx
    have ax9 : AX g ad gz adx := by rw [← zgz]; exact axx
    refine W.widen (k := 602) (n := 9632) (by omega) (by omega) ?_
    rw [hQ]
    exact W.vret hx hb hr (fun t ht hW => ⟨⟨(), rfl, trivial, adx, ksx, hk9, ax9, by rw [ht]; exact hP9, hD9⟩, hS.F ht⟩) hS.2.2 dX5_readDescription_52
  clear hF
  have loop16 : ∀ (m17 : Nat) (y3 : Int32) (g5 : CG) (u4 : RS), C5_readDescription_L6 L m17 y3 g5 u4 = some t10 → m17 ≤ 602 → ∀ (ad6 : CK → Nat) (ks7 : List CK), GA nb ad6 g5 ks7 → AX g ad g5 ad6 → (∀ (H : Heap) (locs : List Loc) (ls : Array Slot), va_P (dC, dI) vwCl (WC cy ad6 ks7 g5 u4) H → va_D A (WC cy ad6 ks7 g5 u4) → va_S A s.heap H locs → lv_has ls 3 [(2, .int y3), (0, .ref (ad6 .rd)), (1, .ref (ad6 (.ln L)))] → W p l e (headSpec (wsg yX5_readDescription cX5_readDescription 3 none) ({ frames := 14, cells := 602, slots := 9632, locals := 900 })).room s m ([.ref (ad .rd), .ref (ad (.ln L))] : List Value).toArray below meth c H locs (602 - m17) (16 * (602 - m17)) Qn (F0 m 6 ls [])) := by
    intro m17
    induction m17 with
    | zero => intro y3 g5 u4 hF; cases hF
    | succ m17 ih =>
      intro y3 g5 u4 hF hm9 ad6 ks7 hk8 ax9 H locs ls hP hD hS hl
      refine W.widen (k := 602 - (m17 + 1)) (n := 16 * (602 - (m17 + 1))) (by omega) (by omega) ?_
      simp only [C5_readDescription_L6] at hF
      refine lv_iload_n hx hb dX5_readDescription_6 rfl (lv_at hl 0 rfl) ?_
      refine lv_if_eq (tgt := 47) hx hb dX5_readDescription_7 (by decide) (fun c18 => ?_) (fun c18 => ?_)
      · rw [if_pos c18] at hF
        have ht := s1 hF
        subst ht
        refine W.widen (k := 602) (n := 9632) (by omega) (by omega) ?_
        exact kx12 ad6 ks7 hk8 ax9 _ _ _ hP hD hS (lv_sub hl [0, 1, 2] rfl)
      · rw [if_neg c18] at hF
        refine lv_aload_n hx hb dX5_readDescription_10 rfl (lv_at hl 1 rfl) ?_
        obtain ⟨q9, h9⟩ := wc_at (cy := cy) (ad := ad6) (ks := ks7) (g := g5) (u := u4) (κ := .rd) hk8.1 True.intro
        refine va_get (D := (dC, dI)) (ci := 5) (v := .int (u4 0 9)) (C := RX5) (T := TX5) (N := 11) hx hb hts inlX5 hown hK hP q9 h9 rfl 5 (by decide) (hts _ mw_143) (fun _ h9 => h9) rfl dX5_readDescription_11 ?_
        clear h9
        refine lv_sipush (v := 600) hx hb dX5_readDescription_14 (by decide) ?_
        refine lv_icmp_gt (tgt := 47) hx hb dX5_readDescription_17 (by decide) (fun c19 => ?_) (fun c19 => ?_)
        · rw [if_pos c19] at hF
          have ht := s1 hF
          subst ht
          refine W.widen (k := 602) (n := 9632) (by omega) (by omega) ?_
          exact kx12 ad6 ks7 hk8 ax9 _ _ _ hP hD hS (lv_sub hl [0, 1, 2] rfl)
        · rw [if_neg c19] at hF
          refine lv_aload_n hx hb dX5_readDescription_20 rfl (lv_at hl 1 rfl) ?_
          refine lv_aload_n hx hb dX5_readDescription_21 rfl (lv_at hl 2 rfl) ?_
          obtain ⟨t20, e21, hF⟩ := ob hF
          have hPc := hP
          have hDc := hD
          have hFc := my_free hD hS hA
          obtain ⟨q8, h8⟩ := wc_at (cy := cy) (ad := ad6) (ks := ks7) (g := g5) (u := u4) (κ := .rd) hk8.1 True.intro
          refine va_callv (va_runV (As := [.ref (ad6 (.ln L))]) (rest := []) ⟨hx, hb, hml, hown, hts⟩ (c_X5_readStatement l dC dI cy nb ad6 ks7 g5 hk8 u4 L (t20.1) (t20.2) H.size (ax9 (.ln L) h_L).1 e21) (cwV 1 hts (gV mw_151 mw_152 mw_153 mw_22 mw_154) rfl rfl rfl (by decide +kernel) ⟨Nat.le_of_ble_eq_true rfl, Nat.le_of_ble_eq_true rfl⟩) (my_preV hPc hK hDc hE hS hFc (va_recv (q := (RX5, TX5, 11)) hK hP (ci := 5) (q0 := q8) rfl h8)) rfl rfl hl.1 rfl (lv_room (Nat.le_of_ble_eq_true rfl)) dX5_readDescription_22 ⟨show (602 - (m17 + 1)) + 1 ≤ 602 by omega, show (16 * (602 - (m17 + 1))) + 16 ≤ 9632 by omega⟩) hS (fun q _ h => hFc q h) hFc (fun u t H1 locs ht hvm hw hB hz1 hk1 hS => ?_)
          clear h8
          obtain ⟨ad22, ks23, hk24, ax25, hP1, hD1⟩ := hB
          rw [ht] at hP1
          have hP := hP1
          have hD := hD1.weaken (fun k q _ h => hFc q.1 h)
          generalize H1 = H at hP hS ⊢
          have hl : lv_has ls 3 [(2, .int y3), (0, .ref (ad22 .rd)), (1, .ref (ad22 (.ln L)))] := by rw [(ax25 .rd True.intro).2, (ax25 (.ln L) (ax9 (.ln L) h_L).1).2]; exact hl
          clear hP1 hD1 hPc hDc hFc hk1 hz1 hvm ht
          refine lv_aload_n hx hb dX5_readDescription_25 rfl (lv_at hl 1 rfl) ?_
          obtain ⟨t26, e27, hF⟩ := ob hF
          have hPc := hP
          have hDc := hD
          have hFc := my_free hD hS hA
          obtain ⟨q8, h8⟩ := wc_at (cy := cy) (ad := ad22) (ks := ks23) (g := (t20.1)) (u := (t20.2)) (κ := .rd) hk24.1 True.intro
          refine va_calli (va_runV (As := []) (rest := []) ⟨hx, hb, hml, hown, hts⟩ (c_X5_readSemicolon l dC dI cy nb ad22 ks23 (t20.1) hk24 (t20.2) (t26.1) (t26.2) H.size e27) (cwV 0 hts (gV mw_382 mw_383 mw_384 mw_22 mw_385) rfl rfl rfl (by decide +kernel) ⟨Nat.le_of_ble_eq_true rfl, Nat.le_of_ble_eq_true rfl⟩) (my_preV hPc hK hDc hE hS hFc (va_recv (q := (RX5, TX5, 11)) hK hP (ci := 5) (q0 := q8) rfl h8)) rfl rfl hl.1 rfl (lv_room (Nat.le_of_ble_eq_true rfl)) dX5_readDescription_26 ⟨show ((602 - (m17 + 1)) + 1) + 0 ≤ 602 by omega, show ((16 * (602 - (m17 + 1))) + 16) + 0 ≤ 9632 by omega⟩) hS (fun q _ h => hFc q h) hFc (fun r u t H1 locs ht hvm hw hB hz1 hk1 hS => ?_)
          clear h8
          obtain ⟨hP1, hD1⟩ := hB
          rw [ht] at hP1
          have hP := hP1
          have hD := hD1.weaken (fun k q _ h => hFc q.1 h)
          generalize H1 = H at hP hS ⊢
          clear hP1 hD1 hPc hDc hFc hk1 hz1 hvm ht
          obtain rfl := hw.symm
          refine lv_istore_n (lv' := [(2, .int (t26.1)), (0, .ref (ad22 .rd)), (1, .ref (ad22 (.ln L)))]) hx hb dX5_readDescription_29 rfl hl (by decide) rfl (fun ls hl => ?_)
          refine lv_iload_n hx hb dX5_readDescription_30 rfl (lv_at hl 0 rfl) ?_
          refine lv_if_eq (tgt := 6) hx hb dX5_readDescription_31 (by decide) (fun c28 => ?_) (fun c28 => ?_)
          · rw [if_pos c28] at hF
            refine W.widen (k := 602 - m17) (n := 16 * (602 - m17)) (by omega) (by omega) ?_
            exact ih _ _ _ hF (by omega) ad22 ks23 hk24 (ax_trans ax9 ax25) _ _ _ hP hD hS (lv_sub hl [0, 1, 2] rfl)
          · rw [if_neg c28] at hF
            refine lv_aload_n hx hb dX5_readDescription_34 rfl (lv_at hl 1 rfl) ?_
            refine lv_dup hx hb dX5_readDescription_35 rfl ?_
            obtain ⟨q9, h9⟩ := wc_at (cy := cy) (ad := ad22) (ks := ks23) (g := (t20.1)) (u := (t26.2)) (κ := .rd) hk24.1 True.intro
            refine va_get (D := (dC, dI)) (ci := 5) (v := .int ((t26.2) 0 9)) (C := RX5) (T := TX5) (N := 11) hx hb hts inlX5 hown hK hP q9 h9 rfl 5 (by decide) (hts _ mw_143) (fun _ h9 => h9) rfl dX5_readDescription_36 ?_
            clear h9
            refine lv_iconst (v := 1) hx hb dX5_readDescription_39 (by decide) ?_
            refine lv_iadd hx hb dX5_readDescription_40 ?_
            obtain ⟨q9, h9, ez9⟩ := wc_set (cy := cy) (ad := ad22) (ks := ks23) (g := (t20.1)) (u := (t26.2)) (κ := .rd) (r := 0) (i := 9) (v := (((t26.2) 0 9) + 1)) hk24.1 True.intro (own_rd (by decide)) (sf_rd_5)
            refine va_put (D := (dC, dI)) (ci := 5) (v := .int (((t26.2) 0 9) + 1)) (ty := .int) (C := RX5) (T := TX5) (N := 11) hx hb hts inlX5 tyX5 tyX5_ok nmX5 hown hK hP hD hS q9 h9 rfl 5 (by decide) (hts _ mw_143) (fun _ h9 => h9) rfl (by decide +kernel) rfl rfl (Nat.le_of_ble_eq_true rfl) dX5_readDescription_41 (fun H locs hP hD hS => ?_)
            obtain ⟨u29, e30, hF⟩ := ob hF
            have hP : va_P (dC, dI) vwCl (WC cy ad22 ks23 (t20.1) u29) H := by rw [← pt_eq e30, ← ez9]; exact hP
            have hD : va_D A (WC cy ad22 ks23 (t20.1) u29) := by rw [← pt_eq e30, ← ez9]; exact hD
            clear ez9 h9
            refine lv_goto (tgt := 6) hx hb dX5_readDescription_44 (by decide) ?_
            refine W.widen (k := 602 - m17) (n := 16 * (602 - m17)) (by omega) (by omega) ?_
            exact ih _ _ _ hF (by omega) ad22 ks23 hk24 (ax_trans ax9 ax25) _ _ _ hP hD hS (lv_sub hl [0, 1, 2] rfl)
  refine W.widen (k := 602 - 602) (n := 16 * (602 - 602)) (by omega) (by omega) ?_
  exact loop16 602 _ _ _ hL11 (Nat.le_refl _) ad ks hk ax_refl _ _ _ hP hD hS (lv_sub hl [0, 1, 2] rfl)
noncomputable def C5_readOrder (g : CG) (u0 : RS) (a1 : Int32) : Option (RS) := (C5_start g u0).bind fun u1 => (C5_readText g u1).bind fun u3 => (if (u3 0 5) ≤ (u3 0 6) then (some u3) else ((C5_error g u3 (1) ((u3 0 6))).bind fun u17 => some u17) : Option (RS)).bind fun t6 => (if a1 < 30 then (some t6) else ((C5_error g t6 (4) ((t6 0 5))).bind fun u15 => some u15) : Option (RS)).bind fun t10 => (pt t10 0 5 (0)).bind fun u13 => some u13
set_option maxHeartbeats 4000000 in
set_option maxRecDepth 100000 in
theorem c_X5_readOrder (l : Launch) (dC : Nat → ClassId) (dI : Nat → Nat → Nat) (cy : Nat → ClassId) (nb : Nat → Nat) (ad : CK → Nat) (ks : List CK) (g : CG) (hk : GA nb ad g ks) (u0 : RS) (a1 : Int32) (uz : RS) (sz : Nat) (hF : C5_readOrder g u0 a1 = some uz) : Met l yX5_readOrder (wsg yX5_readOrder cX5_readOrder 2 none) ({ frames := 10, cells := 0, slots := 0, locals := 500 }) (va_Pc [.ref (ad .rd), .int a1] (fun U => U.heap.size = sz ∧ va_P (dC, dI) vwCl (WC cy ad ks g u0) U.heap ∧ va_K (dC, dI) vwCl (tyL cy) U ∧ va_D (fun _ => True) (WC cy ad ks g u0) ∧ GE nb (va_A (WC cy ad ks g u0) sz) U)) (va_Qv (fun (_ : Unit) => True) (fun _ t => va_P (dC, dI) vwCl (WC cy ad ks g uz) t.heap ∧ va_D (va_A (WC cy ad ks g u0) sz) (WC cy ad ks g uz)) (va_A (WC cy ad ks g u0) sz)) 0 0 (va_A (WC cy ad ks g u0) sz) := by
  refine Met.ofW (cc := cX5_readOrder) (maxL := 2) (ret := none) pn_X5 rfl ?_
  intro p e s m args below meth c s₁ B hml hv
  obtain ⟨rfl, hsz, hP, hK, hD0, hE⟩ := hv
  have hx := B.exec
  have hb := B.bytes
  have hr := B.returns
  have hts0 := atoms_spec (ws := (wsg yX5_readOrder cX5_readOrder 2 none)) B.pre
  have hts : ∀ w ∈ wsL_law, w.before _ s = true := fun w h => hts0 w (List.mem_cons_of_mem _ h)
  have hown : s.vm.findClass RX5 = some m.cls := by have h9 := findClass_of_methodNamed B.named; exact h9
  have hlocks := B.notSynchronized
  subst hsz
  have hD := hD0.self (sz := s.heap.size)
  generalize hAe : va_A (WC cy ad ks g u0) s.heap.size = A at hD hE ⊢
  have hA : ∀ q : Nat, s.heap.size ≤ q → A q := fun q h => by rw [← hAe]; exact Or.inr h
  have hS : va_S A s.heap s.heap [] := va_S.rf
  have hl := lv_entry ([.ref (ad .rd), .int a1]) (n := 2) (Nat.le_of_ble_eq_true rfl)
  rw [lg_entry_eq]
  generalize (lg_sl ([.ref (ad .rd), .int a1]) ++ List.replicate (2 - (lg_sl ([.ref (ad .rd), .int a1])).length) Slot.unset).toArray = ls at hl ⊢
  have hl : lv_has ls 2 [(0, .ref (ad .rd)), (1, .int a1)] := hl
  generalize hHe : s.heap = H at hP hS ⊢
  have hS : va_S A s.heap H [] := by rw [hHe]; exact hS
  refine my_Q (fun Qn hQ => ?_)
  simp only [C5_readOrder] at hF
  refine lv_aload_n hx hb dX5_readOrder_0 rfl (lv_at hl 0 rfl) ?_
  obtain ⟨u1, e2, hF⟩ := ob hF
  have hPc := hP
  have hDc := hD
  have hFc := my_free hD hS hA
  obtain ⟨q8, h8⟩ := wc_at (cy := cy) (ad := ad) (ks := ks) (g := g) (u := u0) (κ := .rd) hk.1 True.intro
  refine va_callv (va_runV (As := []) (rest := []) ⟨hx, hb, hml, hown, hts⟩ (c_X5_start l dC dI cy nb ad ks g hk u0 (u1) H.size e2) (cwV 0 hts (gV mw_144 mw_145 mw_146 mw_22 mw_147) rfl rfl rfl (by decide +kernel) ⟨Nat.le_of_ble_eq_true rfl, Nat.le_of_ble_eq_true rfl⟩) (my_preV hPc hK hDc hE hS hFc (va_recv (q := (RX5, TX5, 11)) hK hP (ci := 5) (q0 := q8) rfl h8)) rfl rfl hl.1 rfl (lv_room (Nat.le_of_ble_eq_true rfl)) dX5_readOrder_1 ⟨Nat.le_of_ble_eq_true rfl, Nat.le_of_ble_eq_true rfl⟩) hS (fun q _ h => hFc q h) hFc (fun u t H1 locs ht hvm hw hB hz1 hk1 hS => ?_)
  clear h8
  obtain ⟨hP1, hD1⟩ := hB
  rw [ht] at hP1
  have hP := hP1
  have hD := hD1.weaken (fun k q _ h => hFc q.1 h)
  generalize H1 = H at hP hS ⊢
  clear hP1 hD1 hPc hDc hFc hk1 hz1 hvm ht
  refine lv_aload_n hx hb dX5_readOrder_4 rfl (lv_at hl 0 rfl) ?_
  obtain ⟨u3, e4, hF⟩ := ob hF
  have hPc := hP
  have hDc := hD
  have hFc := my_free hD hS hA
  obtain ⟨q8, h8⟩ := wc_at (cy := cy) (ad := ad) (ks := ks) (g := g) (u := u1) (κ := .rd) hk.1 True.intro
  refine va_callv (va_runV (As := []) (rest := []) ⟨hx, hb, hml, hown, hts⟩ (c_X5_readText l dC dI cy nb ad ks g hk u1 (u3) H.size e4) (cwV 0 hts (gV mw_279 mw_280 mw_281 mw_22 mw_282) rfl rfl rfl (by decide +kernel) ⟨Nat.le_of_ble_eq_true rfl, Nat.le_of_ble_eq_true rfl⟩) (my_preV hPc hK hDc hE hS hFc (va_recv (q := (RX5, TX5, 11)) hK hP (ci := 5) (q0 := q8) rfl h8)) rfl rfl hl.1 rfl (lv_room (Nat.le_of_ble_eq_true rfl)) dX5_readOrder_5 ⟨Nat.le_of_ble_eq_true rfl, Nat.le_of_ble_eq_true rfl⟩) hS (fun q _ h => hFc q h) hFc (fun u t H1 locs ht hvm hw hB hz1 hk1 hS => ?_)
  clear h8
  obtain ⟨hP1, hD1⟩ := hB
  rw [ht] at hP1
  have hP := hP1
  have hD := hD1.weaken (fun k q _ h => hFc q.1 h)
  generalize H1 = H at hP hS ⊢
  clear hP1 hD1 hPc hDc hFc hk1 hz1 hvm ht
  refine lv_aload_n hx hb dX5_readOrder_8 rfl (lv_at hl 0 rfl) ?_
  obtain ⟨q9, h9⟩ := wc_at (cy := cy) (ad := ad) (ks := ks) (g := g) (u := u3) (κ := .rd) hk.1 True.intro
  refine va_get (D := (dC, dI)) (ci := 5) (v := .int (u3 0 6)) (C := RX5) (T := TX5) (N := 11) hx hb hts inlX5 hown hK hP q9 h9 rfl 2 (by decide) (hts _ mw_148) (fun _ h9 => h9) rfl dX5_readOrder_9 ?_
  clear h9
  refine lv_aload_n hx hb dX5_readOrder_12 rfl (lv_at hl 0 rfl) ?_
  obtain ⟨q9, h9⟩ := wc_at (cy := cy) (ad := ad) (ks := ks) (g := g) (u := u3) (κ := .rd) hk.1 True.intro
  refine va_get (D := (dC, dI)) (ci := 5) (v := .int (u3 0 5)) (C := RX5) (T := TX5) (N := 11) hx hb hts inlX5 hown hK hP q9 h9 rfl 1 (by decide) (hts _ mw_122) (fun _ h9 => h9) rfl dX5_readOrder_13 ?_
  clear h9
  obtain ⟨t6, hJ7, hF⟩ := ob hF
  have join8 : ∀ (H : Heap) (locs : List Loc) (ls : Array Slot), va_P (dC, dI) vwCl (WC cy ad ks g t6) H → va_D A (WC cy ad ks g t6) → va_S A s.heap H locs → lv_has ls 2 [(0, .ref (ad .rd)), (1, .int a1)] → W p l e (headSpec (wsg yX5_readOrder cX5_readOrder 2 none) ({ frames := 10, cells := 0, slots := 0, locals := 500 })).room s m ([.ref (ad .rd), .int a1] : List Value).toArray below meth c H locs 0 0 Qn (F0 m 28 ls []) := by
    intro H locs ls hP hD hS hl
    refine lv_iload_n hx hb dX5_readOrder_28 rfl (lv_at hl 1 rfl) ?_
    refine lv_bipush (v := 30) hx hb dX5_readOrder_29 (by decide) ?_
    obtain ⟨t10, hJ11, hF⟩ := ob hF
    have join12 : ∀ (H : Heap) (locs : List Loc) (ls : Array Slot), va_P (dC, dI) vwCl (WC cy ad ks g t10) H → va_D A (WC cy ad ks g t10) → va_S A s.heap H locs → lv_has ls 2 [(0, .ref (ad .rd)), (1, .int a1)] → W p l e (headSpec (wsg yX5_readOrder cX5_readOrder 2 none) ({ frames := 10, cells := 0, slots := 0, locals := 500 })).room s m ([.ref (ad .rd), .int a1] : List Value).toArray below meth c H locs 0 0 Qn (F0 m 43 ls []) := by
      intro H locs ls hP hD hS hl
      refine lv_aload_n hx hb dX5_readOrder_43 rfl (lv_at hl 0 rfl) ?_
      refine lv_iconst (v := 0) hx hb dX5_readOrder_44 (by decide) ?_
      obtain ⟨q9, h9, ez9⟩ := wc_set (cy := cy) (ad := ad) (ks := ks) (g := g) (u := t10) (κ := .rd) (r := 0) (i := 5) (v := (0)) hk.1 True.intro (own_rd (by decide)) (sf_rd_1)
      refine va_put (D := (dC, dI)) (ci := 5) (v := .int 0) (ty := .int) (C := RX5) (T := TX5) (N := 11) hx hb hts inlX5 tyX5 tyX5_ok nmX5 hown hK hP hD hS q9 h9 rfl 1 (by decide) (hts _ mw_122) (fun _ h9 => h9) rfl (by decide +kernel) rfl rfl (Nat.le_of_ble_eq_true rfl) dX5_readOrder_45 (fun H locs hP hD hS => ?_)
      obtain ⟨u13, e14, hF⟩ := ob hF
      have hP : va_P (dC, dI) vwCl (WC cy ad ks g u13) H := by rw [← pt_eq e14, ← ez9]; exact hP
      have hD : va_D A (WC cy ad ks g u13) := by rw [← pt_eq e14, ← ez9]; exact hD
      clear ez9 h9
      have hZ := s1 hF
      have zuz : u13 = uz := hZ
      have hP9 : va_P (dC, dI) vwCl (WC cy ad ks g uz) H := by rw [← zuz]; exact hP
      have hD9 : va_D A (WC cy ad ks g uz) := by rw [← zuz]; exact hD
      rw [hQ]
      exact W.vret hx hb hr (fun t ht hW => ⟨⟨(), rfl, trivial, by rw [ht]; exact hP9, hD9⟩, hS.F ht⟩) hS.2.2 dX5_readOrder_48
    clear hF
    have hF := hJ11
    clear hJ11
    refine lv_icmp_lt (tgt := 43) hx hb dX5_readOrder_31 (by decide) (fun c9 => ?_) (fun c9 => ?_)
    · rw [if_pos c9] at hF
      have ht := s1 hF
      subst ht
      exact join12 _ _ _ hP hD hS (lv_sub hl [0, 1] rfl)
    · rw [if_neg c9] at hF
      refine lv_aload_n hx hb dX5_readOrder_34 rfl (lv_at hl 0 rfl) ?_
      refine lv_iconst (v := 4) hx hb dX5_readOrder_35 (by decide) ?_
      refine lv_aload_n hx hb dX5_readOrder_36 rfl (lv_at hl 0 rfl) ?_
      obtain ⟨q9, h9⟩ := wc_at (cy := cy) (ad := ad) (ks := ks) (g := g) (u := t6) (κ := .rd) hk.1 True.intro
      refine va_get (D := (dC, dI)) (ci := 5) (v := .int (t6 0 5)) (C := RX5) (T := TX5) (N := 11) hx hb hts inlX5 hown hK hP q9 h9 rfl 1 (by decide) (hts _ mw_122) (fun _ h9 => h9) rfl dX5_readOrder_37 ?_
      clear h9
      obtain ⟨u15, e16, hF⟩ := ob hF
      have hPc := hP
      have hDc := hD
      have hFc := my_free hD hS hA
      obtain ⟨q8, h8⟩ := wc_at (cy := cy) (ad := ad) (ks := ks) (g := g) (u := t6) (κ := .rd) hk.1 True.intro
      refine va_callv (va_runV (As := [.int 4, .int (t6 0 5)]) (rest := []) ⟨hx, hb, hml, hown, hts⟩ (c_X5_error l dC dI cy nb ad ks g hk t6 (4) ((t6 0 5)) (u15) H.size e16) (cwV 2 hts (gV mw_219 mw_220 mw_221 mw_22 mw_222) rfl rfl rfl (by decide +kernel) ⟨Nat.le_of_ble_eq_true rfl, Nat.le_of_ble_eq_true rfl⟩) (my_preV hPc hK hDc hE hS hFc (va_recv (q := (RX5, TX5, 11)) hK hP (ci := 5) (q0 := q8) rfl h8)) rfl rfl hl.1 rfl (lv_room (Nat.le_of_ble_eq_true rfl)) dX5_readOrder_40 ⟨Nat.le_of_ble_eq_true rfl, Nat.le_of_ble_eq_true rfl⟩) hS (fun q _ h => hFc q h) hFc (fun u t H1 locs ht hvm hw hB hz1 hk1 hS => ?_)
      clear h8
      obtain ⟨hP1, hD1⟩ := hB
      rw [ht] at hP1
      have hP := hP1
      have hD := hD1.weaken (fun k q _ h => hFc q.1 h)
      generalize H1 = H at hP hS ⊢
      clear hP1 hD1 hPc hDc hFc hk1 hz1 hvm ht
      have ht := s1 hF
      subst ht
      exact join12 _ _ _ hP hD hS (lv_sub hl [0, 1] rfl)
  clear hF
  have hF := hJ7
  clear hJ7
  refine lv_icmp_ge (tgt := 28) hx hb dX5_readOrder_16 (by decide) (fun c5 => ?_) (fun c5 => ?_)
  · rw [if_pos c5] at hF
    have ht := s1 hF
    subst ht
    exact join8 _ _ _ hP hD hS (lv_sub hl [0, 1] rfl)
  · rw [if_neg c5] at hF
    refine lv_aload_n hx hb dX5_readOrder_19 rfl (lv_at hl 0 rfl) ?_
    refine lv_iconst (v := 1) hx hb dX5_readOrder_20 (by decide) ?_
    refine lv_aload_n hx hb dX5_readOrder_21 rfl (lv_at hl 0 rfl) ?_
    obtain ⟨q9, h9⟩ := wc_at (cy := cy) (ad := ad) (ks := ks) (g := g) (u := u3) (κ := .rd) hk.1 True.intro
    refine va_get (D := (dC, dI)) (ci := 5) (v := .int (u3 0 6)) (C := RX5) (T := TX5) (N := 11) hx hb hts inlX5 hown hK hP q9 h9 rfl 2 (by decide) (hts _ mw_148) (fun _ h9 => h9) rfl dX5_readOrder_22 ?_
    clear h9
    obtain ⟨u17, e18, hF⟩ := ob hF
    have hPc := hP
    have hDc := hD
    have hFc := my_free hD hS hA
    obtain ⟨q8, h8⟩ := wc_at (cy := cy) (ad := ad) (ks := ks) (g := g) (u := u3) (κ := .rd) hk.1 True.intro
    refine va_callv (va_runV (As := [.int 1, .int (u3 0 6)]) (rest := []) ⟨hx, hb, hml, hown, hts⟩ (c_X5_error l dC dI cy nb ad ks g hk u3 (1) ((u3 0 6)) (u17) H.size e18) (cwV 2 hts (gV mw_219 mw_220 mw_221 mw_22 mw_222) rfl rfl rfl (by decide +kernel) ⟨Nat.le_of_ble_eq_true rfl, Nat.le_of_ble_eq_true rfl⟩) (my_preV hPc hK hDc hE hS hFc (va_recv (q := (RX5, TX5, 11)) hK hP (ci := 5) (q0 := q8) rfl h8)) rfl rfl hl.1 rfl (lv_room (Nat.le_of_ble_eq_true rfl)) dX5_readOrder_25 ⟨Nat.le_of_ble_eq_true rfl, Nat.le_of_ble_eq_true rfl⟩) hS (fun q _ h => hFc q h) hFc (fun u t H1 locs ht hvm hw hB hz1 hk1 hS => ?_)
    clear h8
    obtain ⟨hP1, hD1⟩ := hB
    rw [ht] at hP1
    have hP := hP1
    have hD := hD1.weaken (fun k q _ h => hFc q.1 h)
    generalize H1 = H at hP hS ⊢
    clear hP1 hD1 hPc hDc hFc hk1 hz1 hvm ht
    have ht := s1 hF
    subst ht
    exact join8 _ _ _ hP hD hS (lv_sub hl [0, 1] rfl)
noncomputable def C7_copyOfLine (g : CG) (u0 : RS)  : Option (RS) := (C3_copyFrom g u0 1 0).bind fun u1 => some u1
set_option maxHeartbeats 4000000 in
set_option maxRecDepth 100000 in
theorem c_X7_copyOfLine (l : Launch) (dC : Nat → ClassId) (dI : Nat → Nat → Nat) (cy : Nat → ClassId) (nb : Nat → Nat) (ad : CK → Nat) (ks : List CK) (g : CG) (hk : GA nb ad g ks) (u0 : RS)  (uz : RS) (sz : Nat) (hF : C7_copyOfLine g u0  = some uz) : Met l yX7_copyOfLine (wsg yX7_copyOfLine cX7_copyOfLine 1 (some (.object "CardLine$Line"))) ({ frames := 9, cells := 0, slots := 0, locals := 400 }) (va_Pc [.ref (ad .cl)] (fun U => U.heap.size = sz ∧ va_P (dC, dI) vwCl (WC cy ad ks g u0) U.heap ∧ va_K (dC, dI) vwCl (tyL cy) U ∧ va_D (fun _ => True) (WC cy ad ks g u0) ∧ GE nb (va_A (WC cy ad ks g u0) sz) U)) (va_Qr (fun (_ : Unit) => True) (fun _ ra t => ra = ad (.ln 1) ∧ va_P (dC, dI) vwCl (WC cy ad ks g uz) t.heap ∧ va_D (va_A (WC cy ad ks g u0) sz) (WC cy ad ks g uz)) (va_A (WC cy ad ks g u0) sz)) 0 0 (va_A (WC cy ad ks g u0) sz) := by
  refine Met.ofW (cc := cX7_copyOfLine) (maxL := 1) (ret := (some (.object "CardLine$Line"))) pn_X7 rfl ?_
  intro p e s m args below meth c s₁ B hml hv
  obtain ⟨rfl, hsz, hP, hK, hD0, hE⟩ := hv
  have hx := B.exec
  have hb := B.bytes
  have hr := B.returns
  have hts0 := atoms_spec (ws := (wsg yX7_copyOfLine cX7_copyOfLine 1 (some (.object "CardLine$Line")))) B.pre
  have hts : ∀ w ∈ wsL_law, w.before _ s = true := fun w h => hts0 w (List.mem_cons_of_mem _ h)
  have hown : s.vm.findClass RX7 = some m.cls := by have h9 := findClass_of_methodNamed B.named; exact h9
  have hlocks := B.notSynchronized
  subst hsz
  have hD := hD0.self (sz := s.heap.size)
  generalize hAe : va_A (WC cy ad ks g u0) s.heap.size = A at hD hE ⊢
  have hA : ∀ q : Nat, s.heap.size ≤ q → A q := fun q h => by rw [← hAe]; exact Or.inr h
  have hS : va_S A s.heap s.heap [] := va_S.rf
  have hl := lv_entry ([.ref (ad .cl)]) (n := 1) (Nat.le_of_ble_eq_true rfl)
  rw [lg_entry_eq]
  generalize (lg_sl ([.ref (ad .cl)]) ++ List.replicate (1 - (lg_sl ([.ref (ad .cl)])).length) Slot.unset).toArray = ls at hl ⊢
  have hl : lv_has ls 1 [(0, .ref (ad .cl))] := hl
  generalize hHe : s.heap = H at hP hS ⊢
  have hS : va_S A s.heap H [] := by rw [hHe]; exact hS
  refine my_Q (fun Qn hQ => ?_)
  simp only [C7_copyOfLine] at hF
  refine lv_aload_n hx hb dX7_copyOfLine_0 rfl (lv_at hl 0 rfl) ?_
  obtain ⟨q9, h9⟩ := wc_at (cy := cy) (ad := ad) (ks := ks) (g := g) (u := u0) (κ := .cl) hk.1 True.intro
  refine va_get (D := (dC, dI)) (ci := 7) (v := .ref (ad (.ln 1))) (C := RX7) (T := TX7) (N := 12) hx hb hts inlX7 hown hK hP q9 h9 rfl 1 (by decide) (hts _ mw_19) (fun _ h9 => h9) rfl dX7_copyOfLine_1 ?_
  clear h9
  refine lv_aload_n hx hb dX7_copyOfLine_4 rfl (lv_at hl 0 rfl) ?_
  obtain ⟨q9, h9⟩ := wc_at (cy := cy) (ad := ad) (ks := ks) (g := g) (u := u0) (κ := .cl) hk.1 True.intro
  refine va_get (D := (dC, dI)) (ci := 7) (v := .ref (ad (.ln 0))) (C := RX7) (T := TX7) (N := 12) hx hb hts inlX7 hown hK hP q9 h9 rfl 0 (by decide) (hts _ mw_18) (fun _ h9 => h9) rfl dX7_copyOfLine_5 ?_
  clear h9
  obtain ⟨u1, e2, hF⟩ := ob hF
  have hPc := hP
  have hDc := hD
  have hFc := my_free hD hS hA
  obtain ⟨q8, h8⟩ := wc_at (cy := cy) (ad := ad) (ks := ks) (g := g) (u := u0) (κ := (.ln 1)) hk.1 (Or.inl (by decide))
  refine va_callv (va_runV (As := [.ref (ad (.ln 0))]) (rest := []) ⟨hx, hb, hml, hown, hts⟩ (c_X3_copyFrom l dC dI cy nb ad ks g hk u0 1 0 (u1) H.size (Or.inl (by decide)) (Or.inl (by decide)) e2) (cwV 1 hts (gV mw_392 mw_393 mw_394 mw_17 mw_395) rfl rfl rfl (by decide +kernel) ⟨Nat.le_of_ble_eq_true rfl, Nat.le_of_ble_eq_true rfl⟩) (my_preV hPc hK hDc hE hS hFc (va_recv (q := (RX3, TX3, 17)) hK hP (ci := 3) (q0 := q8) rfl h8)) rfl rfl hl.1 rfl (lv_room (Nat.le_of_ble_eq_true rfl)) dX7_copyOfLine_8 ⟨Nat.le_of_ble_eq_true rfl, Nat.le_of_ble_eq_true rfl⟩) hS (fun q _ h => hFc q h) hFc (fun u t H1 locs ht hvm hw hB hz1 hk1 hS => ?_)
  clear h8
  obtain ⟨hP1, hD1⟩ := hB
  rw [ht] at hP1
  have hP := hP1
  have hD := hD1.weaken (fun k q _ h => hFc q.1 h)
  generalize H1 = H at hP hS ⊢
  clear hP1 hD1 hPc hDc hFc hk1 hz1 hvm ht
  refine lv_aload_n hx hb dX7_copyOfLine_11 rfl (lv_at hl 0 rfl) ?_
  obtain ⟨q9, h9⟩ := wc_at (cy := cy) (ad := ad) (ks := ks) (g := g) (u := u1) (κ := .cl) hk.1 True.intro
  refine va_get (D := (dC, dI)) (ci := 7) (v := .ref (ad (.ln 1))) (C := RX7) (T := TX7) (N := 12) hx hb hts inlX7 hown hK hP q9 h9 rfl 1 (by decide) (hts _ mw_19) (fun _ h9 => h9) rfl dX7_copyOfLine_12 ?_
  clear h9
  have hZ := s1 hF
  have zuz : u1 = uz := hZ
  have hP9 : va_P (dC, dI) vwCl (WC cy ad ks g uz) H := by rw [← zuz]; exact hP
  have hD9 : va_D A (WC cy ad ks g uz) := by rw [← zuz]; exact hD
  rw [hQ]
  exact W.aret (v := .ref (ad (.ln 1))) hx hb hr (by first | exact Or.inl ⟨_, rfl⟩ | exact Or.inr ⟨_, rfl⟩) (Or.inr ⟨_, rfl⟩) (fun t ht hW => ⟨⟨(), (ad (.ln 1)), rfl, trivial, rfl, by rw [ht]; exact hP9, hD9⟩, hS.F ht⟩) hS.2.2 dX7_copyOfLine_15
noncomputable def C7_ticksUntil_e0_L3 (L : Nat) (a3 : Int32) (a4 : Int32) (g : CG) : Nat → Int32 → RS → Option (Sum (Int32 × RS) (Int32 × RS))
  | 0, _, _ => none
  | m9 + 1, y1, u2 => if a4 < y1 then (some (.inr (y1, u2))) else ((C3_hasHappened_e0 g u2 L (a3)).bind fun x11 => if x11 = 0 then (if y1 = a4 then (some (.inl ((-1 : Int32), u2))) else ((C3_tick g u2 L).bind fun t15 => if (t15.1) = 0 then (some (.inl ((-1 : Int32), (t15.2)))) else (C7_ticksUntil_e0_L3 L a3 a4 g m9 ((y1 + 1)) (t15.2)))) else (some (.inl (y1, u2))))
noncomputable def C7_ticksUntil_e0 (g : CG) (u0 : RS) (L : Nat) (a3 : Int32) (a4 : Int32) : Option (Int32 × RS) := (C7_ticksUntil_e0_L3 L a3 a4 g FUEL (0 : Int32) u0).bind fun t3 => match t3 with | .inl r => some r | .inr t7 => some ((-1 : Int32), (t7.2))
set_option maxHeartbeats 4000000 in
set_option maxRecDepth 100000 in
theorem c_X7_ticksUntil_e0 (l : Launch) (dC : Nat → ClassId) (dI : Nat → Nat → Nat) (cy : Nat → ClassId) (nb : Nat → Nat) (ad : CK → Nat) (ks : List CK) (g : CG) (hk : GA nb ad g ks) (u0 : RS) (L : Nat) (a3 : Int32) (a4 : Int32) (ro : Int32) (uz : RS) (sz : Nat) (h_L : has g (.ln L)) (hF : C7_ticksUntil_e0 g u0 L a3 a4 = some (ro, uz)) : Met l yX7_ticksUntil (wsg yX7_ticksUntil cX7_ticksUntil 5 (some .int)) ({ frames := 12, cells := 0, slots := 0, locals := 700 }) (va_Pc [.ref (ad (.ln L)), .ref (nb (40 + 0)), .int a3, .int a4] (fun U => U.heap.size = sz ∧ va_P (dC, dI) vwCl (WC cy ad ks g u0) U.heap ∧ va_K (dC, dI) vwCl (tyL cy) U ∧ va_D (fun _ => True) (WC cy ad ks g u0) ∧ GE nb (va_A (WC cy ad ks g u0) sz) U)) (va_Qi (fun (r : Int32) (_ : Unit) => r = ro) (fun _ t => va_P (dC, dI) vwCl (WC cy ad ks g uz) t.heap ∧ va_D (va_A (WC cy ad ks g u0) sz) (WC cy ad ks g uz)) (va_A (WC cy ad ks g u0) sz)) 0 0 (va_A (WC cy ad ks g u0) sz) := by
  refine Met.ofW (cc := cX7_ticksUntil) (maxL := 5) (ret := (some .int)) pn_X7 rfl ?_
  intro p e s m args below meth c s₁ B hml hv
  obtain ⟨rfl, hsz, hP, hK, hD0, hE⟩ := hv
  have hx := B.exec
  have hb := B.bytes
  have hr := B.returns
  have hts0 := atoms_spec (ws := (wsg yX7_ticksUntil cX7_ticksUntil 5 (some .int))) B.pre
  have hts : ∀ w ∈ wsL_law, w.before _ s = true := fun w h => hts0 w (List.mem_cons_of_mem _ h)
  have hown : s.vm.findClass RX7 = some m.cls := by have h9 := findClass_of_methodNamed B.named; exact h9
  have hlocks := B.notSynchronized
  subst hsz
  have hD := hD0.self (sz := s.heap.size)
  generalize hAe : va_A (WC cy ad ks g u0) s.heap.size = A at hD hE ⊢
  have hA : ∀ q : Nat, s.heap.size ≤ q → A q := fun q h => by rw [← hAe]; exact Or.inr h
  have hS : va_S A s.heap s.heap [] := va_S.rf
  have hl := lv_entry ([.ref (ad (.ln L)), .ref (nb (40 + 0)), .int a3, .int a4]) (n := 5) (Nat.le_of_ble_eq_true rfl)
  rw [lg_entry_eq]
  generalize (lg_sl ([.ref (ad (.ln L)), .ref (nb (40 + 0)), .int a3, .int a4]) ++ List.replicate (5 - (lg_sl ([.ref (ad (.ln L)), .ref (nb (40 + 0)), .int a3, .int a4])).length) Slot.unset).toArray = ls at hl ⊢
  have hl : lv_has ls 5 [(0, .ref (ad (.ln L))), (1, .ref (nb (40 + 0))), (2, .int a3), (3, .int a4)] := hl
  generalize hHe : s.heap = H at hP hS ⊢
  have hS : va_S A s.heap H [] := by rw [hHe]; exact hS
  refine my_Q (fun Qn hQ => ?_)
  simp only [C7_ticksUntil_e0] at hF
  refine lv_iconst (v := 0) hx hb dX7_ticksUntil_0 (by decide) ?_
  refine lv_istore (lv' := [(4, .int 0), (0, .ref (ad (.ln L))), (1, .ref (nb (40 + 0))), (2, .int a3), (3, .int a4)]) hx hb dX7_ticksUntil_1 hl (by decide) rfl (fun ls hl => ?_)
  obtain ⟨t3, hL4, hF⟩ := ob hF
  have kx5 : ∀ (t7 : Int32 × RS), t3 = .inr t7 → ∀ (H : Heap) (locs : List Loc) (ls : Array Slot), va_P (dC, dI) vwCl (WC cy ad ks g (t7.2)) H → va_D A (WC cy ad ks g (t7.2)) → va_S A s.heap H locs → lv_has ls 5 [(4, .int (t7.1)), (0, .ref (ad (.ln L))), (1, .ref (nb (40 + 0))), (2, .int a3), (3, .int a4)] → W p l e (headSpec (wsg yX7_ticksUntil cX7_ticksUntil 5 (some .int)) ({ frames := 12, cells := 0, slots := 0, locals := 700 })).room s m ([.ref (ad (.ln L)), .ref (nb (40 + 0)), .int a3, .int a4] : List Value).toArray below meth c H locs 0 0 Qn (F0 m 42 ls []) := by
    intro t7 he H locs ls hP hD hS hl
    subst he
    refine lv_iconst (v := (-1)) hx hb dX7_ticksUntil_42 (by decide) ?_
    have hZ := s1 hF
    have zro : (-1 : Int32) = ro := (congrArg (fun q => q.1) hZ)
    have zuz : (t7.2) = uz := (congrArg (fun q => q.2) hZ)
    have hP9 : va_P (dC, dI) vwCl (WC cy ad ks g uz) H := by rw [← zuz]; exact hP
    have hD9 : va_D A (WC cy ad ks g uz) := by rw [← zuz]; exact hD
    rw [hQ]
    exact W.iret (v := (-1 : Int32)) hx hb hr (fun t ht hW => ⟨⟨(-1 : Int32), (), rfl, zro, by rw [ht]; exact hP9, hD9⟩, hS.F ht⟩) hS.2.2 dX7_ticksUntil_43
  have kr6 : ∀ r : Int32 × RS, t3 = .inl r → some r = some (ro, uz) := by
    intro r he
    subst he
    exact hF
  clear hF
  have loop8 : ∀ (m9 : Nat) (y1 : Int32) (u2 : RS), C7_ticksUntil_e0_L3 L a3 a4 g m9 y1 u2 = some t3 → ∀ (H : Heap) (locs : List Loc) (ls : Array Slot), va_P (dC, dI) vwCl (WC cy ad ks g u2) H → va_D A (WC cy ad ks g u2) → va_S A s.heap H locs → lv_has ls 5 [(4, .int y1), (0, .ref (ad (.ln L))), (1, .ref (nb (40 + 0))), (2, .int a3), (3, .int a4)] → W p l e (headSpec (wsg yX7_ticksUntil cX7_ticksUntil 5 (some .int)) ({ frames := 12, cells := 0, slots := 0, locals := 700 })).room s m ([.ref (ad (.ln L)), .ref (nb (40 + 0)), .int a3, .int a4] : List Value).toArray below meth c H locs 0 0 Qn (F0 m 3 ls []) := by
    intro m9
    induction m9 with
    | zero => intro y1 u2 hF; cases hF
    | succ m9 ih =>
      intro y1 u2 hF H locs ls hP hD hS hl
      simp only [C7_ticksUntil_e0_L3] at hF
      refine lv_iload hx hb dX7_ticksUntil_3 (lv_at hl 0 rfl) ?_
      refine lv_iload_n hx hb dX7_ticksUntil_5 rfl (lv_at hl 4 rfl) ?_
      refine lv_icmp_gt (tgt := 42) hx hb dX7_ticksUntil_6 (by decide) (fun c10 => ?_) (fun c10 => ?_)
      · rw [if_pos c10] at hF
        exact kx5 _ (s1 hF).symm _ _ _ hP hD hS (lv_sub hl [0, 1, 2, 3, 4] rfl)
      · rw [if_neg c10] at hF
        refine lv_aload_n hx hb dX7_ticksUntil_9 rfl (lv_at hl 1 rfl) ?_
        refine lv_aload_n hx hb dX7_ticksUntil_10 rfl (lv_at hl 2 rfl) ?_
        refine lv_iload_n hx hb dX7_ticksUntil_11 rfl (lv_at hl 3 rfl) ?_
        obtain ⟨x11, e12, hF⟩ := ob hF
        have hPc := hP
        have hDc := hD
        have hFc := my_free hD hS hA
        obtain ⟨q8, h8⟩ := wc_at (cy := cy) (ad := ad) (ks := ks) (g := g) (u := u2) (κ := (.ln L)) hk.1 h_L
        refine va_calli (va_runV (As := [.ref (nb (40 + 0)), .int a3]) (rest := []) ⟨hx, hb, hml, hown, hts⟩ (c_X3_hasHappened_e0 l dC dI cy nb ad ks g hk u2 L (a3) (x11) H.size h_L e12) (cwV 2 hts (gV mw_1305 mw_1306 mw_1307 mw_17 mw_1308) rfl rfl rfl (by decide +kernel) ⟨Nat.le_of_ble_eq_true rfl, Nat.le_of_ble_eq_true rfl⟩) (my_preV hPc hK hDc hE hS hFc (va_recv (q := (RX3, TX3, 17)) hK hP (ci := 3) (q0 := q8) rfl h8)) rfl rfl hl.1 rfl (lv_room (Nat.le_of_ble_eq_true rfl)) dX7_ticksUntil_12 ⟨Nat.le_of_ble_eq_true rfl, Nat.le_of_ble_eq_true rfl⟩) hS (fun q _ h => hFc q h) hFc (fun r u t H1 locs ht hvm hw hB hz1 hk1 hS => ?_)
        clear h8
        obtain ⟨hP1, hD1⟩ := hB
        rw [ht] at hP1
        have hP := hP1
        have hD := hD1.weaken (fun k q _ h => hFc q.1 h)
        generalize H1 = H at hP hS ⊢
        clear hP1 hD1 hPc hDc hFc hk1 hz1 hvm ht
        obtain rfl := hw.symm
        refine lv_if_eq (tgt := 21) hx hb dX7_ticksUntil_15 (by decide) (fun c13 => ?_) (fun c13 => ?_)
        · rw [if_pos c13] at hF
          refine lv_iload hx hb dX7_ticksUntil_21 (lv_at hl 0 rfl) ?_
          refine lv_iload_n hx hb dX7_ticksUntil_23 rfl (lv_at hl 4 rfl) ?_
          refine lv_icmp_eq (tgt := 34) hx hb dX7_ticksUntil_24 (by decide) (fun c14 => ?_) (fun c14 => ?_)
          · rw [if_pos c14] at hF
            refine lv_iconst (v := (-1)) hx hb dX7_ticksUntil_34 (by decide) ?_
            have hF := kr6 _ (s1 hF).symm
            have hZ := s1 hF
            have zro : (-1 : Int32) = ro := (congrArg (fun q => q.1) hZ)
            have zuz : u2 = uz := (congrArg (fun q => q.2) hZ)
            have hP9 : va_P (dC, dI) vwCl (WC cy ad ks g uz) H := by rw [← zuz]; exact hP
            have hD9 : va_D A (WC cy ad ks g uz) := by rw [← zuz]; exact hD
            rw [hQ]
            exact W.iret (v := (-1 : Int32)) hx hb hr (fun t ht hW => ⟨⟨(-1 : Int32), (), rfl, zro, by rw [ht]; exact hP9, hD9⟩, hS.F ht⟩) hS.2.2 dX7_ticksUntil_35
          · rw [if_neg c14] at hF
            refine lv_aload_n hx hb dX7_ticksUntil_27 rfl (lv_at hl 1 rfl) ?_
            obtain ⟨t15, e16, hF⟩ := ob hF
            have hPc := hP
            have hDc := hD
            have hFc := my_free hD hS hA
            obtain ⟨q8, h8⟩ := wc_at (cy := cy) (ad := ad) (ks := ks) (g := g) (u := u2) (κ := (.ln L)) hk.1 h_L
            refine va_calli (va_runV (As := []) (rest := []) ⟨hx, hb, hml, hown, hts⟩ (c_X3_tick l dC dI cy nb ad ks g hk u2 L (t15.1) (t15.2) H.size h_L e16) (cwV 0 hts (gV mw_1137 mw_1138 mw_1139 mw_17 mw_1140) rfl rfl rfl (by decide +kernel) ⟨Nat.le_of_ble_eq_true rfl, Nat.le_of_ble_eq_true rfl⟩) (my_preV hPc hK hDc hE hS hFc (va_recv (q := (RX3, TX3, 17)) hK hP (ci := 3) (q0 := q8) rfl h8)) rfl rfl hl.1 rfl (lv_room (Nat.le_of_ble_eq_true rfl)) dX7_ticksUntil_28 ⟨Nat.le_of_ble_eq_true rfl, Nat.le_of_ble_eq_true rfl⟩) hS (fun q _ h => hFc q h) hFc (fun r u t H1 locs ht hvm hw hB hz1 hk1 hS => ?_)
            clear h8
            obtain ⟨hP1, hD1⟩ := hB
            rw [ht] at hP1
            have hP := hP1
            have hD := hD1.weaken (fun k q _ h => hFc q.1 h)
            generalize H1 = H at hP hS ⊢
            clear hP1 hD1 hPc hDc hFc hk1 hz1 hvm ht
            obtain rfl := hw.symm
            refine lv_if_ne (tgt := 36) hx hb dX7_ticksUntil_31 (by decide) (fun c17 => ?_) (fun c17 => ?_)
            · rw [if_neg c17] at hF
              refine lv_iinc (v := (y1 + 1)) (lv' := [(4, .int (y1 + 1)), (0, .ref (ad (.ln L))), (1, .ref (nb (40 + 0))), (2, .int a3), (3, .int a4)]) hx hb dX7_ticksUntil_36 hl (k := 0) rfl (by rfl) (by decide) rfl (fun ls hl => ?_)
              refine lv_goto (tgt := 3) hx hb dX7_ticksUntil_39 (by decide) ?_
              exact ih _ _ hF _ _ _ hP hD hS (lv_sub hl [0, 1, 2, 3, 4] rfl)
            · rw [if_pos c17] at hF
              refine lv_iconst (v := (-1)) hx hb dX7_ticksUntil_34 (by decide) ?_
              have hF := kr6 _ (s1 hF).symm
              have hZ := s1 hF
              have zro : (-1 : Int32) = ro := (congrArg (fun q => q.1) hZ)
              have zuz : (t15.2) = uz := (congrArg (fun q => q.2) hZ)
              have hP9 : va_P (dC, dI) vwCl (WC cy ad ks g uz) H := by rw [← zuz]; exact hP
              have hD9 : va_D A (WC cy ad ks g uz) := by rw [← zuz]; exact hD
              rw [hQ]
              exact W.iret (v := (-1 : Int32)) hx hb hr (fun t ht hW => ⟨⟨(-1 : Int32), (), rfl, zro, by rw [ht]; exact hP9, hD9⟩, hS.F ht⟩) hS.2.2 dX7_ticksUntil_35
        · rw [if_neg c13] at hF
          refine lv_iload hx hb dX7_ticksUntil_18 (lv_at hl 0 rfl) ?_
          have hF := kr6 _ (s1 hF).symm
          have hZ := s1 hF
          have zro : y1 = ro := (congrArg (fun q => q.1) hZ)
          have zuz : u2 = uz := (congrArg (fun q => q.2) hZ)
          have hP9 : va_P (dC, dI) vwCl (WC cy ad ks g uz) H := by rw [← zuz]; exact hP
          have hD9 : va_D A (WC cy ad ks g uz) := by rw [← zuz]; exact hD
          rw [hQ]
          exact W.iret (v := y1) hx hb hr (fun t ht hW => ⟨⟨y1, (), rfl, zro, by rw [ht]; exact hP9, hD9⟩, hS.F ht⟩) hS.2.2 dX7_ticksUntil_20
  exact loop8 FUEL _ _ hL4 _ _ _ hP hD hS (lv_sub hl [0, 1, 2, 3, 4] rfl)
noncomputable def C7_ticksUntil_e1_L3 (L : Nat) (a3 : Int32) (a4 : Int32) (g : CG) : Nat → Int32 → RS → Option (Sum (Int32 × RS) (Int32 × RS))
  | 0, _, _ => none
  | m9 + 1, y1, u2 => if a4 < y1 then (some (.inr (y1, u2))) else ((C3_hasHappened_e1 g u2 L (a3)).bind fun x11 => if x11 = 0 then (if y1 = a4 then (some (.inl ((-1 : Int32), u2))) else ((C3_tick g u2 L).bind fun t15 => if (t15.1) = 0 then (some (.inl ((-1 : Int32), (t15.2)))) else (C7_ticksUntil_e1_L3 L a3 a4 g m9 ((y1 + 1)) (t15.2)))) else (some (.inl (y1, u2))))
noncomputable def C7_ticksUntil_e1 (g : CG) (u0 : RS) (L : Nat) (a3 : Int32) (a4 : Int32) : Option (Int32 × RS) := (C7_ticksUntil_e1_L3 L a3 a4 g FUEL (0 : Int32) u0).bind fun t3 => match t3 with | .inl r => some r | .inr t7 => some ((-1 : Int32), (t7.2))
set_option maxHeartbeats 4000000 in
set_option maxRecDepth 100000 in
theorem c_X7_ticksUntil_e1 (l : Launch) (dC : Nat → ClassId) (dI : Nat → Nat → Nat) (cy : Nat → ClassId) (nb : Nat → Nat) (ad : CK → Nat) (ks : List CK) (g : CG) (hk : GA nb ad g ks) (u0 : RS) (L : Nat) (a3 : Int32) (a4 : Int32) (ro : Int32) (uz : RS) (sz : Nat) (h_L : has g (.ln L)) (hF : C7_ticksUntil_e1 g u0 L a3 a4 = some (ro, uz)) : Met l yX7_ticksUntil (wsg yX7_ticksUntil cX7_ticksUntil 5 (some .int)) ({ frames := 12, cells := 0, slots := 0, locals := 700 }) (va_Pc [.ref (ad (.ln L)), .ref (nb (40 + 1)), .int a3, .int a4] (fun U => U.heap.size = sz ∧ va_P (dC, dI) vwCl (WC cy ad ks g u0) U.heap ∧ va_K (dC, dI) vwCl (tyL cy) U ∧ va_D (fun _ => True) (WC cy ad ks g u0) ∧ GE nb (va_A (WC cy ad ks g u0) sz) U)) (va_Qi (fun (r : Int32) (_ : Unit) => r = ro) (fun _ t => va_P (dC, dI) vwCl (WC cy ad ks g uz) t.heap ∧ va_D (va_A (WC cy ad ks g u0) sz) (WC cy ad ks g uz)) (va_A (WC cy ad ks g u0) sz)) 0 0 (va_A (WC cy ad ks g u0) sz) := by
  refine Met.ofW (cc := cX7_ticksUntil) (maxL := 5) (ret := (some .int)) pn_X7 rfl ?_
  intro p e s m args below meth c s₁ B hml hv
  obtain ⟨rfl, hsz, hP, hK, hD0, hE⟩ := hv
  have hx := B.exec
  have hb := B.bytes
  have hr := B.returns
  have hts0 := atoms_spec (ws := (wsg yX7_ticksUntil cX7_ticksUntil 5 (some .int))) B.pre
  have hts : ∀ w ∈ wsL_law, w.before _ s = true := fun w h => hts0 w (List.mem_cons_of_mem _ h)
  have hown : s.vm.findClass RX7 = some m.cls := by have h9 := findClass_of_methodNamed B.named; exact h9
  have hlocks := B.notSynchronized
  subst hsz
  have hD := hD0.self (sz := s.heap.size)
  generalize hAe : va_A (WC cy ad ks g u0) s.heap.size = A at hD hE ⊢
  have hA : ∀ q : Nat, s.heap.size ≤ q → A q := fun q h => by rw [← hAe]; exact Or.inr h
  have hS : va_S A s.heap s.heap [] := va_S.rf
  have hl := lv_entry ([.ref (ad (.ln L)), .ref (nb (40 + 1)), .int a3, .int a4]) (n := 5) (Nat.le_of_ble_eq_true rfl)
  rw [lg_entry_eq]
  generalize (lg_sl ([.ref (ad (.ln L)), .ref (nb (40 + 1)), .int a3, .int a4]) ++ List.replicate (5 - (lg_sl ([.ref (ad (.ln L)), .ref (nb (40 + 1)), .int a3, .int a4])).length) Slot.unset).toArray = ls at hl ⊢
  have hl : lv_has ls 5 [(0, .ref (ad (.ln L))), (1, .ref (nb (40 + 1))), (2, .int a3), (3, .int a4)] := hl
  generalize hHe : s.heap = H at hP hS ⊢
  have hS : va_S A s.heap H [] := by rw [hHe]; exact hS
  refine my_Q (fun Qn hQ => ?_)
  simp only [C7_ticksUntil_e1] at hF
  refine lv_iconst (v := 0) hx hb dX7_ticksUntil_0 (by decide) ?_
  refine lv_istore (lv' := [(4, .int 0), (0, .ref (ad (.ln L))), (1, .ref (nb (40 + 1))), (2, .int a3), (3, .int a4)]) hx hb dX7_ticksUntil_1 hl (by decide) rfl (fun ls hl => ?_)
  obtain ⟨t3, hL4, hF⟩ := ob hF
  have kx5 : ∀ (t7 : Int32 × RS), t3 = .inr t7 → ∀ (H : Heap) (locs : List Loc) (ls : Array Slot), va_P (dC, dI) vwCl (WC cy ad ks g (t7.2)) H → va_D A (WC cy ad ks g (t7.2)) → va_S A s.heap H locs → lv_has ls 5 [(4, .int (t7.1)), (0, .ref (ad (.ln L))), (1, .ref (nb (40 + 1))), (2, .int a3), (3, .int a4)] → W p l e (headSpec (wsg yX7_ticksUntil cX7_ticksUntil 5 (some .int)) ({ frames := 12, cells := 0, slots := 0, locals := 700 })).room s m ([.ref (ad (.ln L)), .ref (nb (40 + 1)), .int a3, .int a4] : List Value).toArray below meth c H locs 0 0 Qn (F0 m 42 ls []) := by
    intro t7 he H locs ls hP hD hS hl
    subst he
    refine lv_iconst (v := (-1)) hx hb dX7_ticksUntil_42 (by decide) ?_
    have hZ := s1 hF
    have zro : (-1 : Int32) = ro := (congrArg (fun q => q.1) hZ)
    have zuz : (t7.2) = uz := (congrArg (fun q => q.2) hZ)
    have hP9 : va_P (dC, dI) vwCl (WC cy ad ks g uz) H := by rw [← zuz]; exact hP
    have hD9 : va_D A (WC cy ad ks g uz) := by rw [← zuz]; exact hD
    rw [hQ]
    exact W.iret (v := (-1 : Int32)) hx hb hr (fun t ht hW => ⟨⟨(-1 : Int32), (), rfl, zro, by rw [ht]; exact hP9, hD9⟩, hS.F ht⟩) hS.2.2 dX7_ticksUntil_43
  have kr6 : ∀ r : Int32 × RS, t3 = .inl r → some r = some (ro, uz) := by
    intro r he
    subst he
    exact hF
  clear hF
  have loop8 : ∀ (m9 : Nat) (y1 : Int32) (u2 : RS), C7_ticksUntil_e1_L3 L a3 a4 g m9 y1 u2 = some t3 → ∀ (H : Heap) (locs : List Loc) (ls : Array Slot), va_P (dC, dI) vwCl (WC cy ad ks g u2) H → va_D A (WC cy ad ks g u2) → va_S A s.heap H locs → lv_has ls 5 [(4, .int y1), (0, .ref (ad (.ln L))), (1, .ref (nb (40 + 1))), (2, .int a3), (3, .int a4)] → W p l e (headSpec (wsg yX7_ticksUntil cX7_ticksUntil 5 (some .int)) ({ frames := 12, cells := 0, slots := 0, locals := 700 })).room s m ([.ref (ad (.ln L)), .ref (nb (40 + 1)), .int a3, .int a4] : List Value).toArray below meth c H locs 0 0 Qn (F0 m 3 ls []) := by
    intro m9
    induction m9 with
    | zero => intro y1 u2 hF; cases hF
    | succ m9 ih =>
      intro y1 u2 hF H locs ls hP hD hS hl
      simp only [C7_ticksUntil_e1_L3] at hF
      refine lv_iload hx hb dX7_ticksUntil_3 (lv_at hl 0 rfl) ?_
      refine lv_iload_n hx hb dX7_ticksUntil_5 rfl (lv_at hl 4 rfl) ?_
      refine lv_icmp_gt (tgt := 42) hx hb dX7_ticksUntil_6 (by decide) (fun c10 => ?_) (fun c10 => ?_)
      · rw [if_pos c10] at hF
        exact kx5 _ (s1 hF).symm _ _ _ hP hD hS (lv_sub hl [0, 1, 2, 3, 4] rfl)
      · rw [if_neg c10] at hF
        refine lv_aload_n hx hb dX7_ticksUntil_9 rfl (lv_at hl 1 rfl) ?_
        refine lv_aload_n hx hb dX7_ticksUntil_10 rfl (lv_at hl 2 rfl) ?_
        refine lv_iload_n hx hb dX7_ticksUntil_11 rfl (lv_at hl 3 rfl) ?_
        obtain ⟨x11, e12, hF⟩ := ob hF
        have hPc := hP
        have hDc := hD
        have hFc := my_free hD hS hA
        obtain ⟨q8, h8⟩ := wc_at (cy := cy) (ad := ad) (ks := ks) (g := g) (u := u2) (κ := (.ln L)) hk.1 h_L
        refine va_calli (va_runV (As := [.ref (nb (40 + 1)), .int a3]) (rest := []) ⟨hx, hb, hml, hown, hts⟩ (c_X3_hasHappened_e1 l dC dI cy nb ad ks g hk u2 L (a3) (x11) H.size h_L e12) (cwV 2 hts (gV mw_1305 mw_1306 mw_1307 mw_17 mw_1308) rfl rfl rfl (by decide +kernel) ⟨Nat.le_of_ble_eq_true rfl, Nat.le_of_ble_eq_true rfl⟩) (my_preV hPc hK hDc hE hS hFc (va_recv (q := (RX3, TX3, 17)) hK hP (ci := 3) (q0 := q8) rfl h8)) rfl rfl hl.1 rfl (lv_room (Nat.le_of_ble_eq_true rfl)) dX7_ticksUntil_12 ⟨Nat.le_of_ble_eq_true rfl, Nat.le_of_ble_eq_true rfl⟩) hS (fun q _ h => hFc q h) hFc (fun r u t H1 locs ht hvm hw hB hz1 hk1 hS => ?_)
        clear h8
        obtain ⟨hP1, hD1⟩ := hB
        rw [ht] at hP1
        have hP := hP1
        have hD := hD1.weaken (fun k q _ h => hFc q.1 h)
        generalize H1 = H at hP hS ⊢
        clear hP1 hD1 hPc hDc hFc hk1 hz1 hvm ht
        obtain rfl := hw.symm
        refine lv_if_eq (tgt := 21) hx hb dX7_ticksUntil_15 (by decide) (fun c13 => ?_) (fun c13 => ?_)
        · rw [if_pos c13] at hF
          refine lv_iload hx hb dX7_ticksUntil_21 (lv_at hl 0 rfl) ?_
          refine lv_iload_n hx hb dX7_ticksUntil_23 rfl (lv_at hl 4 rfl) ?_
          refine lv_icmp_eq (tgt := 34) hx hb dX7_ticksUntil_24 (by decide) (fun c14 => ?_) (fun c14 => ?_)
          · rw [if_pos c14] at hF
            refine lv_iconst (v := (-1)) hx hb dX7_ticksUntil_34 (by decide) ?_
            have hF := kr6 _ (s1 hF).symm
            have hZ := s1 hF
            have zro : (-1 : Int32) = ro := (congrArg (fun q => q.1) hZ)
            have zuz : u2 = uz := (congrArg (fun q => q.2) hZ)
            have hP9 : va_P (dC, dI) vwCl (WC cy ad ks g uz) H := by rw [← zuz]; exact hP
            have hD9 : va_D A (WC cy ad ks g uz) := by rw [← zuz]; exact hD
            rw [hQ]
            exact W.iret (v := (-1 : Int32)) hx hb hr (fun t ht hW => ⟨⟨(-1 : Int32), (), rfl, zro, by rw [ht]; exact hP9, hD9⟩, hS.F ht⟩) hS.2.2 dX7_ticksUntil_35
          · rw [if_neg c14] at hF
            refine lv_aload_n hx hb dX7_ticksUntil_27 rfl (lv_at hl 1 rfl) ?_
            obtain ⟨t15, e16, hF⟩ := ob hF
            have hPc := hP
            have hDc := hD
            have hFc := my_free hD hS hA
            obtain ⟨q8, h8⟩ := wc_at (cy := cy) (ad := ad) (ks := ks) (g := g) (u := u2) (κ := (.ln L)) hk.1 h_L
            refine va_calli (va_runV (As := []) (rest := []) ⟨hx, hb, hml, hown, hts⟩ (c_X3_tick l dC dI cy nb ad ks g hk u2 L (t15.1) (t15.2) H.size h_L e16) (cwV 0 hts (gV mw_1137 mw_1138 mw_1139 mw_17 mw_1140) rfl rfl rfl (by decide +kernel) ⟨Nat.le_of_ble_eq_true rfl, Nat.le_of_ble_eq_true rfl⟩) (my_preV hPc hK hDc hE hS hFc (va_recv (q := (RX3, TX3, 17)) hK hP (ci := 3) (q0 := q8) rfl h8)) rfl rfl hl.1 rfl (lv_room (Nat.le_of_ble_eq_true rfl)) dX7_ticksUntil_28 ⟨Nat.le_of_ble_eq_true rfl, Nat.le_of_ble_eq_true rfl⟩) hS (fun q _ h => hFc q h) hFc (fun r u t H1 locs ht hvm hw hB hz1 hk1 hS => ?_)
            clear h8
            obtain ⟨hP1, hD1⟩ := hB
            rw [ht] at hP1
            have hP := hP1
            have hD := hD1.weaken (fun k q _ h => hFc q.1 h)
            generalize H1 = H at hP hS ⊢
            clear hP1 hD1 hPc hDc hFc hk1 hz1 hvm ht
            obtain rfl := hw.symm
            refine lv_if_ne (tgt := 36) hx hb dX7_ticksUntil_31 (by decide) (fun c17 => ?_) (fun c17 => ?_)
            · rw [if_neg c17] at hF
              refine lv_iinc (v := (y1 + 1)) (lv' := [(4, .int (y1 + 1)), (0, .ref (ad (.ln L))), (1, .ref (nb (40 + 1))), (2, .int a3), (3, .int a4)]) hx hb dX7_ticksUntil_36 hl (k := 0) rfl (by rfl) (by decide) rfl (fun ls hl => ?_)
              refine lv_goto (tgt := 3) hx hb dX7_ticksUntil_39 (by decide) ?_
              exact ih _ _ hF _ _ _ hP hD hS (lv_sub hl [0, 1, 2, 3, 4] rfl)
            · rw [if_pos c17] at hF
              refine lv_iconst (v := (-1)) hx hb dX7_ticksUntil_34 (by decide) ?_
              have hF := kr6 _ (s1 hF).symm
              have hZ := s1 hF
              have zro : (-1 : Int32) = ro := (congrArg (fun q => q.1) hZ)
              have zuz : (t15.2) = uz := (congrArg (fun q => q.2) hZ)
              have hP9 : va_P (dC, dI) vwCl (WC cy ad ks g uz) H := by rw [← zuz]; exact hP
              have hD9 : va_D A (WC cy ad ks g uz) := by rw [← zuz]; exact hD
              rw [hQ]
              exact W.iret (v := (-1 : Int32)) hx hb hr (fun t ht hW => ⟨⟨(-1 : Int32), (), rfl, zro, by rw [ht]; exact hP9, hD9⟩, hS.F ht⟩) hS.2.2 dX7_ticksUntil_35
        · rw [if_neg c13] at hF
          refine lv_iload hx hb dX7_ticksUntil_18 (lv_at hl 0 rfl) ?_
          have hF := kr6 _ (s1 hF).symm
          have hZ := s1 hF
          have zro : y1 = ro := (congrArg (fun q => q.1) hZ)
          have zuz : u2 = uz := (congrArg (fun q => q.2) hZ)
          have hP9 : va_P (dC, dI) vwCl (WC cy ad ks g uz) H := by rw [← zuz]; exact hP
          have hD9 : va_D A (WC cy ad ks g uz) := by rw [← zuz]; exact hD
          rw [hQ]
          exact W.iret (v := y1) hx hb hr (fun t ht hW => ⟨⟨y1, (), rfl, zro, by rw [ht]; exact hP9, hD9⟩, hS.F ht⟩) hS.2.2 dX7_ticksUntil_20
  exact loop8 FUEL _ _ hL4 _ _ _ hP hD hS (lv_sub hl [0, 1, 2, 3, 4] rfl)
noncomputable def C7_ticksUntil_e2_L3 (L : Nat) (a3 : Int32) (a4 : Int32) (g : CG) : Nat → Int32 → RS → Option (Sum (Int32 × RS) (Int32 × RS))
  | 0, _, _ => none
  | m9 + 1, y1, u2 => if a4 < y1 then (some (.inr (y1, u2))) else ((C3_hasHappened_e2 g u2 L (a3)).bind fun x11 => if x11 = 0 then (if y1 = a4 then (some (.inl ((-1 : Int32), u2))) else ((C3_tick g u2 L).bind fun t15 => if (t15.1) = 0 then (some (.inl ((-1 : Int32), (t15.2)))) else (C7_ticksUntil_e2_L3 L a3 a4 g m9 ((y1 + 1)) (t15.2)))) else (some (.inl (y1, u2))))
noncomputable def C7_ticksUntil_e2 (g : CG) (u0 : RS) (L : Nat) (a3 : Int32) (a4 : Int32) : Option (Int32 × RS) := (C7_ticksUntil_e2_L3 L a3 a4 g FUEL (0 : Int32) u0).bind fun t3 => match t3 with | .inl r => some r | .inr t7 => some ((-1 : Int32), (t7.2))
set_option maxHeartbeats 4000000 in
set_option maxRecDepth 100000 in
theorem c_X7_ticksUntil_e2 (l : Launch) (dC : Nat → ClassId) (dI : Nat → Nat → Nat) (cy : Nat → ClassId) (nb : Nat → Nat) (ad : CK → Nat) (ks : List CK) (g : CG) (hk : GA nb ad g ks) (u0 : RS) (L : Nat) (a3 : Int32) (a4 : Int32) (ro : Int32) (uz : RS) (sz : Nat) (h_L : has g (.ln L)) (hF : C7_ticksUntil_e2 g u0 L a3 a4 = some (ro, uz)) : Met l yX7_ticksUntil (wsg yX7_ticksUntil cX7_ticksUntil 5 (some .int)) ({ frames := 12, cells := 0, slots := 0, locals := 700 }) (va_Pc [.ref (ad (.ln L)), .ref (nb (40 + 2)), .int a3, .int a4] (fun U => U.heap.size = sz ∧ va_P (dC, dI) vwCl (WC cy ad ks g u0) U.heap ∧ va_K (dC, dI) vwCl (tyL cy) U ∧ va_D (fun _ => True) (WC cy ad ks g u0) ∧ GE nb (va_A (WC cy ad ks g u0) sz) U)) (va_Qi (fun (r : Int32) (_ : Unit) => r = ro) (fun _ t => va_P (dC, dI) vwCl (WC cy ad ks g uz) t.heap ∧ va_D (va_A (WC cy ad ks g u0) sz) (WC cy ad ks g uz)) (va_A (WC cy ad ks g u0) sz)) 0 0 (va_A (WC cy ad ks g u0) sz) := by
  refine Met.ofW (cc := cX7_ticksUntil) (maxL := 5) (ret := (some .int)) pn_X7 rfl ?_
  intro p e s m args below meth c s₁ B hml hv
  obtain ⟨rfl, hsz, hP, hK, hD0, hE⟩ := hv
  have hx := B.exec
  have hb := B.bytes
  have hr := B.returns
  have hts0 := atoms_spec (ws := (wsg yX7_ticksUntil cX7_ticksUntil 5 (some .int))) B.pre
  have hts : ∀ w ∈ wsL_law, w.before _ s = true := fun w h => hts0 w (List.mem_cons_of_mem _ h)
  have hown : s.vm.findClass RX7 = some m.cls := by have h9 := findClass_of_methodNamed B.named; exact h9
  have hlocks := B.notSynchronized
  subst hsz
  have hD := hD0.self (sz := s.heap.size)
  generalize hAe : va_A (WC cy ad ks g u0) s.heap.size = A at hD hE ⊢
  have hA : ∀ q : Nat, s.heap.size ≤ q → A q := fun q h => by rw [← hAe]; exact Or.inr h
  have hS : va_S A s.heap s.heap [] := va_S.rf
  have hl := lv_entry ([.ref (ad (.ln L)), .ref (nb (40 + 2)), .int a3, .int a4]) (n := 5) (Nat.le_of_ble_eq_true rfl)
  rw [lg_entry_eq]
  generalize (lg_sl ([.ref (ad (.ln L)), .ref (nb (40 + 2)), .int a3, .int a4]) ++ List.replicate (5 - (lg_sl ([.ref (ad (.ln L)), .ref (nb (40 + 2)), .int a3, .int a4])).length) Slot.unset).toArray = ls at hl ⊢
  have hl : lv_has ls 5 [(0, .ref (ad (.ln L))), (1, .ref (nb (40 + 2))), (2, .int a3), (3, .int a4)] := hl
  generalize hHe : s.heap = H at hP hS ⊢
  have hS : va_S A s.heap H [] := by rw [hHe]; exact hS
  refine my_Q (fun Qn hQ => ?_)
  simp only [C7_ticksUntil_e2] at hF
  refine lv_iconst (v := 0) hx hb dX7_ticksUntil_0 (by decide) ?_
  refine lv_istore (lv' := [(4, .int 0), (0, .ref (ad (.ln L))), (1, .ref (nb (40 + 2))), (2, .int a3), (3, .int a4)]) hx hb dX7_ticksUntil_1 hl (by decide) rfl (fun ls hl => ?_)
  obtain ⟨t3, hL4, hF⟩ := ob hF
  have kx5 : ∀ (t7 : Int32 × RS), t3 = .inr t7 → ∀ (H : Heap) (locs : List Loc) (ls : Array Slot), va_P (dC, dI) vwCl (WC cy ad ks g (t7.2)) H → va_D A (WC cy ad ks g (t7.2)) → va_S A s.heap H locs → lv_has ls 5 [(4, .int (t7.1)), (0, .ref (ad (.ln L))), (1, .ref (nb (40 + 2))), (2, .int a3), (3, .int a4)] → W p l e (headSpec (wsg yX7_ticksUntil cX7_ticksUntil 5 (some .int)) ({ frames := 12, cells := 0, slots := 0, locals := 700 })).room s m ([.ref (ad (.ln L)), .ref (nb (40 + 2)), .int a3, .int a4] : List Value).toArray below meth c H locs 0 0 Qn (F0 m 42 ls []) := by
    intro t7 he H locs ls hP hD hS hl
    subst he
    refine lv_iconst (v := (-1)) hx hb dX7_ticksUntil_42 (by decide) ?_
    have hZ := s1 hF
    have zro : (-1 : Int32) = ro := (congrArg (fun q => q.1) hZ)
    have zuz : (t7.2) = uz := (congrArg (fun q => q.2) hZ)
    have hP9 : va_P (dC, dI) vwCl (WC cy ad ks g uz) H := by rw [← zuz]; exact hP
    have hD9 : va_D A (WC cy ad ks g uz) := by rw [← zuz]; exact hD
    rw [hQ]
    exact W.iret (v := (-1 : Int32)) hx hb hr (fun t ht hW => ⟨⟨(-1 : Int32), (), rfl, zro, by rw [ht]; exact hP9, hD9⟩, hS.F ht⟩) hS.2.2 dX7_ticksUntil_43
  have kr6 : ∀ r : Int32 × RS, t3 = .inl r → some r = some (ro, uz) := by
    intro r he
    subst he
    exact hF
  clear hF
  have loop8 : ∀ (m9 : Nat) (y1 : Int32) (u2 : RS), C7_ticksUntil_e2_L3 L a3 a4 g m9 y1 u2 = some t3 → ∀ (H : Heap) (locs : List Loc) (ls : Array Slot), va_P (dC, dI) vwCl (WC cy ad ks g u2) H → va_D A (WC cy ad ks g u2) → va_S A s.heap H locs → lv_has ls 5 [(4, .int y1), (0, .ref (ad (.ln L))), (1, .ref (nb (40 + 2))), (2, .int a3), (3, .int a4)] → W p l e (headSpec (wsg yX7_ticksUntil cX7_ticksUntil 5 (some .int)) ({ frames := 12, cells := 0, slots := 0, locals := 700 })).room s m ([.ref (ad (.ln L)), .ref (nb (40 + 2)), .int a3, .int a4] : List Value).toArray below meth c H locs 0 0 Qn (F0 m 3 ls []) := by
    intro m9
    induction m9 with
    | zero => intro y1 u2 hF; cases hF
    | succ m9 ih =>
      intro y1 u2 hF H locs ls hP hD hS hl
      simp only [C7_ticksUntil_e2_L3] at hF
      refine lv_iload hx hb dX7_ticksUntil_3 (lv_at hl 0 rfl) ?_
      refine lv_iload_n hx hb dX7_ticksUntil_5 rfl (lv_at hl 4 rfl) ?_
      refine lv_icmp_gt (tgt := 42) hx hb dX7_ticksUntil_6 (by decide) (fun c10 => ?_) (fun c10 => ?_)
      · rw [if_pos c10] at hF
        exact kx5 _ (s1 hF).symm _ _ _ hP hD hS (lv_sub hl [0, 1, 2, 3, 4] rfl)
      · rw [if_neg c10] at hF
        refine lv_aload_n hx hb dX7_ticksUntil_9 rfl (lv_at hl 1 rfl) ?_
        refine lv_aload_n hx hb dX7_ticksUntil_10 rfl (lv_at hl 2 rfl) ?_
        refine lv_iload_n hx hb dX7_ticksUntil_11 rfl (lv_at hl 3 rfl) ?_
        obtain ⟨x11, e12, hF⟩ := ob hF
        have hPc := hP
        have hDc := hD
        have hFc := my_free hD hS hA
        obtain ⟨q8, h8⟩ := wc_at (cy := cy) (ad := ad) (ks := ks) (g := g) (u := u2) (κ := (.ln L)) hk.1 h_L
        refine va_calli (va_runV (As := [.ref (nb (40 + 2)), .int a3]) (rest := []) ⟨hx, hb, hml, hown, hts⟩ (c_X3_hasHappened_e2 l dC dI cy nb ad ks g hk u2 L (a3) (x11) H.size h_L e12) (cwV 2 hts (gV mw_1305 mw_1306 mw_1307 mw_17 mw_1308) rfl rfl rfl (by decide +kernel) ⟨Nat.le_of_ble_eq_true rfl, Nat.le_of_ble_eq_true rfl⟩) (my_preV hPc hK hDc hE hS hFc (va_recv (q := (RX3, TX3, 17)) hK hP (ci := 3) (q0 := q8) rfl h8)) rfl rfl hl.1 rfl (lv_room (Nat.le_of_ble_eq_true rfl)) dX7_ticksUntil_12 ⟨Nat.le_of_ble_eq_true rfl, Nat.le_of_ble_eq_true rfl⟩) hS (fun q _ h => hFc q h) hFc (fun r u t H1 locs ht hvm hw hB hz1 hk1 hS => ?_)
        clear h8
        obtain ⟨hP1, hD1⟩ := hB
        rw [ht] at hP1
        have hP := hP1
        have hD := hD1.weaken (fun k q _ h => hFc q.1 h)
        generalize H1 = H at hP hS ⊢
        clear hP1 hD1 hPc hDc hFc hk1 hz1 hvm ht
        obtain rfl := hw.symm
        refine lv_if_eq (tgt := 21) hx hb dX7_ticksUntil_15 (by decide) (fun c13 => ?_) (fun c13 => ?_)
        · rw [if_pos c13] at hF
          refine lv_iload hx hb dX7_ticksUntil_21 (lv_at hl 0 rfl) ?_
          refine lv_iload_n hx hb dX7_ticksUntil_23 rfl (lv_at hl 4 rfl) ?_
          refine lv_icmp_eq (tgt := 34) hx hb dX7_ticksUntil_24 (by decide) (fun c14 => ?_) (fun c14 => ?_)
          · rw [if_pos c14] at hF
            refine lv_iconst (v := (-1)) hx hb dX7_ticksUntil_34 (by decide) ?_
            have hF := kr6 _ (s1 hF).symm
            have hZ := s1 hF
            have zro : (-1 : Int32) = ro := (congrArg (fun q => q.1) hZ)
            have zuz : u2 = uz := (congrArg (fun q => q.2) hZ)
            have hP9 : va_P (dC, dI) vwCl (WC cy ad ks g uz) H := by rw [← zuz]; exact hP
            have hD9 : va_D A (WC cy ad ks g uz) := by rw [← zuz]; exact hD
            rw [hQ]
            exact W.iret (v := (-1 : Int32)) hx hb hr (fun t ht hW => ⟨⟨(-1 : Int32), (), rfl, zro, by rw [ht]; exact hP9, hD9⟩, hS.F ht⟩) hS.2.2 dX7_ticksUntil_35
          · rw [if_neg c14] at hF
            refine lv_aload_n hx hb dX7_ticksUntil_27 rfl (lv_at hl 1 rfl) ?_
            obtain ⟨t15, e16, hF⟩ := ob hF
            have hPc := hP
            have hDc := hD
            have hFc := my_free hD hS hA
            obtain ⟨q8, h8⟩ := wc_at (cy := cy) (ad := ad) (ks := ks) (g := g) (u := u2) (κ := (.ln L)) hk.1 h_L
            refine va_calli (va_runV (As := []) (rest := []) ⟨hx, hb, hml, hown, hts⟩ (c_X3_tick l dC dI cy nb ad ks g hk u2 L (t15.1) (t15.2) H.size h_L e16) (cwV 0 hts (gV mw_1137 mw_1138 mw_1139 mw_17 mw_1140) rfl rfl rfl (by decide +kernel) ⟨Nat.le_of_ble_eq_true rfl, Nat.le_of_ble_eq_true rfl⟩) (my_preV hPc hK hDc hE hS hFc (va_recv (q := (RX3, TX3, 17)) hK hP (ci := 3) (q0 := q8) rfl h8)) rfl rfl hl.1 rfl (lv_room (Nat.le_of_ble_eq_true rfl)) dX7_ticksUntil_28 ⟨Nat.le_of_ble_eq_true rfl, Nat.le_of_ble_eq_true rfl⟩) hS (fun q _ h => hFc q h) hFc (fun r u t H1 locs ht hvm hw hB hz1 hk1 hS => ?_)
            clear h8
            obtain ⟨hP1, hD1⟩ := hB
            rw [ht] at hP1
            have hP := hP1
            have hD := hD1.weaken (fun k q _ h => hFc q.1 h)
            generalize H1 = H at hP hS ⊢
            clear hP1 hD1 hPc hDc hFc hk1 hz1 hvm ht
            obtain rfl := hw.symm
            refine lv_if_ne (tgt := 36) hx hb dX7_ticksUntil_31 (by decide) (fun c17 => ?_) (fun c17 => ?_)
            · rw [if_neg c17] at hF
              refine lv_iinc (v := (y1 + 1)) (lv' := [(4, .int (y1 + 1)), (0, .ref (ad (.ln L))), (1, .ref (nb (40 + 2))), (2, .int a3), (3, .int a4)]) hx hb dX7_ticksUntil_36 hl (k := 0) rfl (by rfl) (by decide) rfl (fun ls hl => ?_)
              refine lv_goto (tgt := 3) hx hb dX7_ticksUntil_39 (by decide) ?_
              exact ih _ _ hF _ _ _ hP hD hS (lv_sub hl [0, 1, 2, 3, 4] rfl)
            · rw [if_pos c17] at hF
              refine lv_iconst (v := (-1)) hx hb dX7_ticksUntil_34 (by decide) ?_
              have hF := kr6 _ (s1 hF).symm
              have hZ := s1 hF
              have zro : (-1 : Int32) = ro := (congrArg (fun q => q.1) hZ)
              have zuz : (t15.2) = uz := (congrArg (fun q => q.2) hZ)
              have hP9 : va_P (dC, dI) vwCl (WC cy ad ks g uz) H := by rw [← zuz]; exact hP
              have hD9 : va_D A (WC cy ad ks g uz) := by rw [← zuz]; exact hD
              rw [hQ]
              exact W.iret (v := (-1 : Int32)) hx hb hr (fun t ht hW => ⟨⟨(-1 : Int32), (), rfl, zro, by rw [ht]; exact hP9, hD9⟩, hS.F ht⟩) hS.2.2 dX7_ticksUntil_35
        · rw [if_neg c13] at hF
          refine lv_iload hx hb dX7_ticksUntil_18 (lv_at hl 0 rfl) ?_
          have hF := kr6 _ (s1 hF).symm
          have hZ := s1 hF
          have zro : y1 = ro := (congrArg (fun q => q.1) hZ)
          have zuz : u2 = uz := (congrArg (fun q => q.2) hZ)
          have hP9 : va_P (dC, dI) vwCl (WC cy ad ks g uz) H := by rw [← zuz]; exact hP
          have hD9 : va_D A (WC cy ad ks g uz) := by rw [← zuz]; exact hD
          rw [hQ]
          exact W.iret (v := y1) hx hb hr (fun t ht hW => ⟨⟨y1, (), rfl, zro, by rw [ht]; exact hP9, hD9⟩, hS.F ht⟩) hS.2.2 dX7_ticksUntil_20
  exact loop8 FUEL _ _ hL4 _ _ _ hP hD hS (lv_sub hl [0, 1, 2, 3, 4] rfl)
noncomputable def C7_ticksUntil_e3_L3 (L : Nat) (a3 : Int32) (a4 : Int32) (g : CG) : Nat → Int32 → RS → Option (Sum (Int32 × RS) (Int32 × RS))
  | 0, _, _ => none
  | m9 + 1, y1, u2 => if a4 < y1 then (some (.inr (y1, u2))) else ((C3_hasHappened_e3 g u2 L (a3)).bind fun x11 => if x11 = 0 then (if y1 = a4 then (some (.inl ((-1 : Int32), u2))) else ((C3_tick g u2 L).bind fun t15 => if (t15.1) = 0 then (some (.inl ((-1 : Int32), (t15.2)))) else (C7_ticksUntil_e3_L3 L a3 a4 g m9 ((y1 + 1)) (t15.2)))) else (some (.inl (y1, u2))))
noncomputable def C7_ticksUntil_e3 (g : CG) (u0 : RS) (L : Nat) (a3 : Int32) (a4 : Int32) : Option (Int32 × RS) := (C7_ticksUntil_e3_L3 L a3 a4 g FUEL (0 : Int32) u0).bind fun t3 => match t3 with | .inl r => some r | .inr t7 => some ((-1 : Int32), (t7.2))
set_option maxHeartbeats 4000000 in
set_option maxRecDepth 100000 in
theorem c_X7_ticksUntil_e3 (l : Launch) (dC : Nat → ClassId) (dI : Nat → Nat → Nat) (cy : Nat → ClassId) (nb : Nat → Nat) (ad : CK → Nat) (ks : List CK) (g : CG) (hk : GA nb ad g ks) (u0 : RS) (L : Nat) (a3 : Int32) (a4 : Int32) (ro : Int32) (uz : RS) (sz : Nat) (h_L : has g (.ln L)) (hF : C7_ticksUntil_e3 g u0 L a3 a4 = some (ro, uz)) : Met l yX7_ticksUntil (wsg yX7_ticksUntil cX7_ticksUntil 5 (some .int)) ({ frames := 12, cells := 0, slots := 0, locals := 700 }) (va_Pc [.ref (ad (.ln L)), .ref (nb (40 + 3)), .int a3, .int a4] (fun U => U.heap.size = sz ∧ va_P (dC, dI) vwCl (WC cy ad ks g u0) U.heap ∧ va_K (dC, dI) vwCl (tyL cy) U ∧ va_D (fun _ => True) (WC cy ad ks g u0) ∧ GE nb (va_A (WC cy ad ks g u0) sz) U)) (va_Qi (fun (r : Int32) (_ : Unit) => r = ro) (fun _ t => va_P (dC, dI) vwCl (WC cy ad ks g uz) t.heap ∧ va_D (va_A (WC cy ad ks g u0) sz) (WC cy ad ks g uz)) (va_A (WC cy ad ks g u0) sz)) 0 0 (va_A (WC cy ad ks g u0) sz) := by
  refine Met.ofW (cc := cX7_ticksUntil) (maxL := 5) (ret := (some .int)) pn_X7 rfl ?_
  intro p e s m args below meth c s₁ B hml hv
  obtain ⟨rfl, hsz, hP, hK, hD0, hE⟩ := hv
  have hx := B.exec
  have hb := B.bytes
  have hr := B.returns
  have hts0 := atoms_spec (ws := (wsg yX7_ticksUntil cX7_ticksUntil 5 (some .int))) B.pre
  have hts : ∀ w ∈ wsL_law, w.before _ s = true := fun w h => hts0 w (List.mem_cons_of_mem _ h)
  have hown : s.vm.findClass RX7 = some m.cls := by have h9 := findClass_of_methodNamed B.named; exact h9
  have hlocks := B.notSynchronized
  subst hsz
  have hD := hD0.self (sz := s.heap.size)
  generalize hAe : va_A (WC cy ad ks g u0) s.heap.size = A at hD hE ⊢
  have hA : ∀ q : Nat, s.heap.size ≤ q → A q := fun q h => by rw [← hAe]; exact Or.inr h
  have hS : va_S A s.heap s.heap [] := va_S.rf
  have hl := lv_entry ([.ref (ad (.ln L)), .ref (nb (40 + 3)), .int a3, .int a4]) (n := 5) (Nat.le_of_ble_eq_true rfl)
  rw [lg_entry_eq]
  generalize (lg_sl ([.ref (ad (.ln L)), .ref (nb (40 + 3)), .int a3, .int a4]) ++ List.replicate (5 - (lg_sl ([.ref (ad (.ln L)), .ref (nb (40 + 3)), .int a3, .int a4])).length) Slot.unset).toArray = ls at hl ⊢
  have hl : lv_has ls 5 [(0, .ref (ad (.ln L))), (1, .ref (nb (40 + 3))), (2, .int a3), (3, .int a4)] := hl
  generalize hHe : s.heap = H at hP hS ⊢
  have hS : va_S A s.heap H [] := by rw [hHe]; exact hS
  refine my_Q (fun Qn hQ => ?_)
  simp only [C7_ticksUntil_e3] at hF
  refine lv_iconst (v := 0) hx hb dX7_ticksUntil_0 (by decide) ?_
  refine lv_istore (lv' := [(4, .int 0), (0, .ref (ad (.ln L))), (1, .ref (nb (40 + 3))), (2, .int a3), (3, .int a4)]) hx hb dX7_ticksUntil_1 hl (by decide) rfl (fun ls hl => ?_)
  obtain ⟨t3, hL4, hF⟩ := ob hF
  have kx5 : ∀ (t7 : Int32 × RS), t3 = .inr t7 → ∀ (H : Heap) (locs : List Loc) (ls : Array Slot), va_P (dC, dI) vwCl (WC cy ad ks g (t7.2)) H → va_D A (WC cy ad ks g (t7.2)) → va_S A s.heap H locs → lv_has ls 5 [(4, .int (t7.1)), (0, .ref (ad (.ln L))), (1, .ref (nb (40 + 3))), (2, .int a3), (3, .int a4)] → W p l e (headSpec (wsg yX7_ticksUntil cX7_ticksUntil 5 (some .int)) ({ frames := 12, cells := 0, slots := 0, locals := 700 })).room s m ([.ref (ad (.ln L)), .ref (nb (40 + 3)), .int a3, .int a4] : List Value).toArray below meth c H locs 0 0 Qn (F0 m 42 ls []) := by
    intro t7 he H locs ls hP hD hS hl
    subst he
    refine lv_iconst (v := (-1)) hx hb dX7_ticksUntil_42 (by decide) ?_
    have hZ := s1 hF
    have zro : (-1 : Int32) = ro := (congrArg (fun q => q.1) hZ)
    have zuz : (t7.2) = uz := (congrArg (fun q => q.2) hZ)
    have hP9 : va_P (dC, dI) vwCl (WC cy ad ks g uz) H := by rw [← zuz]; exact hP
    have hD9 : va_D A (WC cy ad ks g uz) := by rw [← zuz]; exact hD
    rw [hQ]
    exact W.iret (v := (-1 : Int32)) hx hb hr (fun t ht hW => ⟨⟨(-1 : Int32), (), rfl, zro, by rw [ht]; exact hP9, hD9⟩, hS.F ht⟩) hS.2.2 dX7_ticksUntil_43
  have kr6 : ∀ r : Int32 × RS, t3 = .inl r → some r = some (ro, uz) := by
    intro r he
    subst he
    exact hF
  clear hF
  have loop8 : ∀ (m9 : Nat) (y1 : Int32) (u2 : RS), C7_ticksUntil_e3_L3 L a3 a4 g m9 y1 u2 = some t3 → ∀ (H : Heap) (locs : List Loc) (ls : Array Slot), va_P (dC, dI) vwCl (WC cy ad ks g u2) H → va_D A (WC cy ad ks g u2) → va_S A s.heap H locs → lv_has ls 5 [(4, .int y1), (0, .ref (ad (.ln L))), (1, .ref (nb (40 + 3))), (2, .int a3), (3, .int a4)] → W p l e (headSpec (wsg yX7_ticksUntil cX7_ticksUntil 5 (some .int)) ({ frames := 12, cells := 0, slots := 0, locals := 700 })).room s m ([.ref (ad (.ln L)), .ref (nb (40 + 3)), .int a3, .int a4] : List Value).toArray below meth c H locs 0 0 Qn (F0 m 3 ls []) := by
    intro m9
    induction m9 with
    | zero => intro y1 u2 hF; cases hF
    | succ m9 ih =>
      intro y1 u2 hF H locs ls hP hD hS hl
      simp only [C7_ticksUntil_e3_L3] at hF
      refine lv_iload hx hb dX7_ticksUntil_3 (lv_at hl 0 rfl) ?_
      refine lv_iload_n hx hb dX7_ticksUntil_5 rfl (lv_at hl 4 rfl) ?_
      refine lv_icmp_gt (tgt := 42) hx hb dX7_ticksUntil_6 (by decide) (fun c10 => ?_) (fun c10 => ?_)
      · rw [if_pos c10] at hF
        exact kx5 _ (s1 hF).symm _ _ _ hP hD hS (lv_sub hl [0, 1, 2, 3, 4] rfl)
      · rw [if_neg c10] at hF
        refine lv_aload_n hx hb dX7_ticksUntil_9 rfl (lv_at hl 1 rfl) ?_
        refine lv_aload_n hx hb dX7_ticksUntil_10 rfl (lv_at hl 2 rfl) ?_
        refine lv_iload_n hx hb dX7_ticksUntil_11 rfl (lv_at hl 3 rfl) ?_
        obtain ⟨x11, e12, hF⟩ := ob hF
        have hPc := hP
        have hDc := hD
        have hFc := my_free hD hS hA
        obtain ⟨q8, h8⟩ := wc_at (cy := cy) (ad := ad) (ks := ks) (g := g) (u := u2) (κ := (.ln L)) hk.1 h_L
        refine va_calli (va_runV (As := [.ref (nb (40 + 3)), .int a3]) (rest := []) ⟨hx, hb, hml, hown, hts⟩ (c_X3_hasHappened_e3 l dC dI cy nb ad ks g hk u2 L (a3) (x11) H.size h_L e12) (cwV 2 hts (gV mw_1305 mw_1306 mw_1307 mw_17 mw_1308) rfl rfl rfl (by decide +kernel) ⟨Nat.le_of_ble_eq_true rfl, Nat.le_of_ble_eq_true rfl⟩) (my_preV hPc hK hDc hE hS hFc (va_recv (q := (RX3, TX3, 17)) hK hP (ci := 3) (q0 := q8) rfl h8)) rfl rfl hl.1 rfl (lv_room (Nat.le_of_ble_eq_true rfl)) dX7_ticksUntil_12 ⟨Nat.le_of_ble_eq_true rfl, Nat.le_of_ble_eq_true rfl⟩) hS (fun q _ h => hFc q h) hFc (fun r u t H1 locs ht hvm hw hB hz1 hk1 hS => ?_)
        clear h8
        obtain ⟨hP1, hD1⟩ := hB
        rw [ht] at hP1
        have hP := hP1
        have hD := hD1.weaken (fun k q _ h => hFc q.1 h)
        generalize H1 = H at hP hS ⊢
        clear hP1 hD1 hPc hDc hFc hk1 hz1 hvm ht
        obtain rfl := hw.symm
        refine lv_if_eq (tgt := 21) hx hb dX7_ticksUntil_15 (by decide) (fun c13 => ?_) (fun c13 => ?_)
        · rw [if_pos c13] at hF
          refine lv_iload hx hb dX7_ticksUntil_21 (lv_at hl 0 rfl) ?_
          refine lv_iload_n hx hb dX7_ticksUntil_23 rfl (lv_at hl 4 rfl) ?_
          refine lv_icmp_eq (tgt := 34) hx hb dX7_ticksUntil_24 (by decide) (fun c14 => ?_) (fun c14 => ?_)
          · rw [if_pos c14] at hF
            refine lv_iconst (v := (-1)) hx hb dX7_ticksUntil_34 (by decide) ?_
            have hF := kr6 _ (s1 hF).symm
            have hZ := s1 hF
            have zro : (-1 : Int32) = ro := (congrArg (fun q => q.1) hZ)
            have zuz : u2 = uz := (congrArg (fun q => q.2) hZ)
            have hP9 : va_P (dC, dI) vwCl (WC cy ad ks g uz) H := by rw [← zuz]; exact hP
            have hD9 : va_D A (WC cy ad ks g uz) := by rw [← zuz]; exact hD
            rw [hQ]
            exact W.iret (v := (-1 : Int32)) hx hb hr (fun t ht hW => ⟨⟨(-1 : Int32), (), rfl, zro, by rw [ht]; exact hP9, hD9⟩, hS.F ht⟩) hS.2.2 dX7_ticksUntil_35
          · rw [if_neg c14] at hF
            refine lv_aload_n hx hb dX7_ticksUntil_27 rfl (lv_at hl 1 rfl) ?_
            obtain ⟨t15, e16, hF⟩ := ob hF
            have hPc := hP
            have hDc := hD
            have hFc := my_free hD hS hA
            obtain ⟨q8, h8⟩ := wc_at (cy := cy) (ad := ad) (ks := ks) (g := g) (u := u2) (κ := (.ln L)) hk.1 h_L
            refine va_calli (va_runV (As := []) (rest := []) ⟨hx, hb, hml, hown, hts⟩ (c_X3_tick l dC dI cy nb ad ks g hk u2 L (t15.1) (t15.2) H.size h_L e16) (cwV 0 hts (gV mw_1137 mw_1138 mw_1139 mw_17 mw_1140) rfl rfl rfl (by decide +kernel) ⟨Nat.le_of_ble_eq_true rfl, Nat.le_of_ble_eq_true rfl⟩) (my_preV hPc hK hDc hE hS hFc (va_recv (q := (RX3, TX3, 17)) hK hP (ci := 3) (q0 := q8) rfl h8)) rfl rfl hl.1 rfl (lv_room (Nat.le_of_ble_eq_true rfl)) dX7_ticksUntil_28 ⟨Nat.le_of_ble_eq_true rfl, Nat.le_of_ble_eq_true rfl⟩) hS (fun q _ h => hFc q h) hFc (fun r u t H1 locs ht hvm hw hB hz1 hk1 hS => ?_)
            clear h8
            obtain ⟨hP1, hD1⟩ := hB
            rw [ht] at hP1
            have hP := hP1
            have hD := hD1.weaken (fun k q _ h => hFc q.1 h)
            generalize H1 = H at hP hS ⊢
            clear hP1 hD1 hPc hDc hFc hk1 hz1 hvm ht
            obtain rfl := hw.symm
            refine lv_if_ne (tgt := 36) hx hb dX7_ticksUntil_31 (by decide) (fun c17 => ?_) (fun c17 => ?_)
            · rw [if_neg c17] at hF
              refine lv_iinc (v := (y1 + 1)) (lv' := [(4, .int (y1 + 1)), (0, .ref (ad (.ln L))), (1, .ref (nb (40 + 3))), (2, .int a3), (3, .int a4)]) hx hb dX7_ticksUntil_36 hl (k := 0) rfl (by rfl) (by decide) rfl (fun ls hl => ?_)
              refine lv_goto (tgt := 3) hx hb dX7_ticksUntil_39 (by decide) ?_
              exact ih _ _ hF _ _ _ hP hD hS (lv_sub hl [0, 1, 2, 3, 4] rfl)
            · rw [if_pos c17] at hF
              refine lv_iconst (v := (-1)) hx hb dX7_ticksUntil_34 (by decide) ?_
              have hF := kr6 _ (s1 hF).symm
              have hZ := s1 hF
              have zro : (-1 : Int32) = ro := (congrArg (fun q => q.1) hZ)
              have zuz : (t15.2) = uz := (congrArg (fun q => q.2) hZ)
              have hP9 : va_P (dC, dI) vwCl (WC cy ad ks g uz) H := by rw [← zuz]; exact hP
              have hD9 : va_D A (WC cy ad ks g uz) := by rw [← zuz]; exact hD
              rw [hQ]
              exact W.iret (v := (-1 : Int32)) hx hb hr (fun t ht hW => ⟨⟨(-1 : Int32), (), rfl, zro, by rw [ht]; exact hP9, hD9⟩, hS.F ht⟩) hS.2.2 dX7_ticksUntil_35
        · rw [if_neg c13] at hF
          refine lv_iload hx hb dX7_ticksUntil_18 (lv_at hl 0 rfl) ?_
          have hF := kr6 _ (s1 hF).symm
          have hZ := s1 hF
          have zro : y1 = ro := (congrArg (fun q => q.1) hZ)
          have zuz : u2 = uz := (congrArg (fun q => q.2) hZ)
          have hP9 : va_P (dC, dI) vwCl (WC cy ad ks g uz) H := by rw [← zuz]; exact hP
          have hD9 : va_D A (WC cy ad ks g uz) := by rw [← zuz]; exact hD
          rw [hQ]
          exact W.iret (v := y1) hx hb hr (fun t ht hW => ⟨⟨y1, (), rfl, zro, by rw [ht]; exact hP9, hD9⟩, hS.F ht⟩) hS.2.2 dX7_ticksUntil_20
  exact loop8 FUEL _ _ hL4 _ _ _ hP hD hS (lv_sub hl [0, 1, 2, 3, 4] rfl)
noncomputable def C7_ticksUntil_e4_L3 (L : Nat) (a3 : Int32) (a4 : Int32) (g : CG) : Nat → Int32 → RS → Option (Sum (Int32 × RS) (Int32 × RS))
  | 0, _, _ => none
  | m9 + 1, y1, u2 => if a4 < y1 then (some (.inr (y1, u2))) else ((C3_hasHappened_e4 g u2 L (a3)).bind fun x11 => if x11 = 0 then (if y1 = a4 then (some (.inl ((-1 : Int32), u2))) else ((C3_tick g u2 L).bind fun t15 => if (t15.1) = 0 then (some (.inl ((-1 : Int32), (t15.2)))) else (C7_ticksUntil_e4_L3 L a3 a4 g m9 ((y1 + 1)) (t15.2)))) else (some (.inl (y1, u2))))
noncomputable def C7_ticksUntil_e4 (g : CG) (u0 : RS) (L : Nat) (a3 : Int32) (a4 : Int32) : Option (Int32 × RS) := (C7_ticksUntil_e4_L3 L a3 a4 g FUEL (0 : Int32) u0).bind fun t3 => match t3 with | .inl r => some r | .inr t7 => some ((-1 : Int32), (t7.2))
set_option maxHeartbeats 4000000 in
set_option maxRecDepth 100000 in
theorem c_X7_ticksUntil_e4 (l : Launch) (dC : Nat → ClassId) (dI : Nat → Nat → Nat) (cy : Nat → ClassId) (nb : Nat → Nat) (ad : CK → Nat) (ks : List CK) (g : CG) (hk : GA nb ad g ks) (u0 : RS) (L : Nat) (a3 : Int32) (a4 : Int32) (ro : Int32) (uz : RS) (sz : Nat) (h_L : has g (.ln L)) (hF : C7_ticksUntil_e4 g u0 L a3 a4 = some (ro, uz)) : Met l yX7_ticksUntil (wsg yX7_ticksUntil cX7_ticksUntil 5 (some .int)) ({ frames := 12, cells := 0, slots := 0, locals := 700 }) (va_Pc [.ref (ad (.ln L)), .ref (nb (40 + 4)), .int a3, .int a4] (fun U => U.heap.size = sz ∧ va_P (dC, dI) vwCl (WC cy ad ks g u0) U.heap ∧ va_K (dC, dI) vwCl (tyL cy) U ∧ va_D (fun _ => True) (WC cy ad ks g u0) ∧ GE nb (va_A (WC cy ad ks g u0) sz) U)) (va_Qi (fun (r : Int32) (_ : Unit) => r = ro) (fun _ t => va_P (dC, dI) vwCl (WC cy ad ks g uz) t.heap ∧ va_D (va_A (WC cy ad ks g u0) sz) (WC cy ad ks g uz)) (va_A (WC cy ad ks g u0) sz)) 0 0 (va_A (WC cy ad ks g u0) sz) := by
  refine Met.ofW (cc := cX7_ticksUntil) (maxL := 5) (ret := (some .int)) pn_X7 rfl ?_
  intro p e s m args below meth c s₁ B hml hv
  obtain ⟨rfl, hsz, hP, hK, hD0, hE⟩ := hv
  have hx := B.exec
  have hb := B.bytes
  have hr := B.returns
  have hts0 := atoms_spec (ws := (wsg yX7_ticksUntil cX7_ticksUntil 5 (some .int))) B.pre
  have hts : ∀ w ∈ wsL_law, w.before _ s = true := fun w h => hts0 w (List.mem_cons_of_mem _ h)
  have hown : s.vm.findClass RX7 = some m.cls := by have h9 := findClass_of_methodNamed B.named; exact h9
  have hlocks := B.notSynchronized
  subst hsz
  have hD := hD0.self (sz := s.heap.size)
  generalize hAe : va_A (WC cy ad ks g u0) s.heap.size = A at hD hE ⊢
  have hA : ∀ q : Nat, s.heap.size ≤ q → A q := fun q h => by rw [← hAe]; exact Or.inr h
  have hS : va_S A s.heap s.heap [] := va_S.rf
  have hl := lv_entry ([.ref (ad (.ln L)), .ref (nb (40 + 4)), .int a3, .int a4]) (n := 5) (Nat.le_of_ble_eq_true rfl)
  rw [lg_entry_eq]
  generalize (lg_sl ([.ref (ad (.ln L)), .ref (nb (40 + 4)), .int a3, .int a4]) ++ List.replicate (5 - (lg_sl ([.ref (ad (.ln L)), .ref (nb (40 + 4)), .int a3, .int a4])).length) Slot.unset).toArray = ls at hl ⊢
  have hl : lv_has ls 5 [(0, .ref (ad (.ln L))), (1, .ref (nb (40 + 4))), (2, .int a3), (3, .int a4)] := hl
  generalize hHe : s.heap = H at hP hS ⊢
  have hS : va_S A s.heap H [] := by rw [hHe]; exact hS
  refine my_Q (fun Qn hQ => ?_)
  simp only [C7_ticksUntil_e4] at hF
  refine lv_iconst (v := 0) hx hb dX7_ticksUntil_0 (by decide) ?_
  refine lv_istore (lv' := [(4, .int 0), (0, .ref (ad (.ln L))), (1, .ref (nb (40 + 4))), (2, .int a3), (3, .int a4)]) hx hb dX7_ticksUntil_1 hl (by decide) rfl (fun ls hl => ?_)
  obtain ⟨t3, hL4, hF⟩ := ob hF
  have kx5 : ∀ (t7 : Int32 × RS), t3 = .inr t7 → ∀ (H : Heap) (locs : List Loc) (ls : Array Slot), va_P (dC, dI) vwCl (WC cy ad ks g (t7.2)) H → va_D A (WC cy ad ks g (t7.2)) → va_S A s.heap H locs → lv_has ls 5 [(4, .int (t7.1)), (0, .ref (ad (.ln L))), (1, .ref (nb (40 + 4))), (2, .int a3), (3, .int a4)] → W p l e (headSpec (wsg yX7_ticksUntil cX7_ticksUntil 5 (some .int)) ({ frames := 12, cells := 0, slots := 0, locals := 700 })).room s m ([.ref (ad (.ln L)), .ref (nb (40 + 4)), .int a3, .int a4] : List Value).toArray below meth c H locs 0 0 Qn (F0 m 42 ls []) := by
    intro t7 he H locs ls hP hD hS hl
    subst he
    refine lv_iconst (v := (-1)) hx hb dX7_ticksUntil_42 (by decide) ?_
    have hZ := s1 hF
    have zro : (-1 : Int32) = ro := (congrArg (fun q => q.1) hZ)
    have zuz : (t7.2) = uz := (congrArg (fun q => q.2) hZ)
    have hP9 : va_P (dC, dI) vwCl (WC cy ad ks g uz) H := by rw [← zuz]; exact hP
    have hD9 : va_D A (WC cy ad ks g uz) := by rw [← zuz]; exact hD
    rw [hQ]
    exact W.iret (v := (-1 : Int32)) hx hb hr (fun t ht hW => ⟨⟨(-1 : Int32), (), rfl, zro, by rw [ht]; exact hP9, hD9⟩, hS.F ht⟩) hS.2.2 dX7_ticksUntil_43
  have kr6 : ∀ r : Int32 × RS, t3 = .inl r → some r = some (ro, uz) := by
    intro r he
    subst he
    exact hF
  clear hF
  have loop8 : ∀ (m9 : Nat) (y1 : Int32) (u2 : RS), C7_ticksUntil_e4_L3 L a3 a4 g m9 y1 u2 = some t3 → ∀ (H : Heap) (locs : List Loc) (ls : Array Slot), va_P (dC, dI) vwCl (WC cy ad ks g u2) H → va_D A (WC cy ad ks g u2) → va_S A s.heap H locs → lv_has ls 5 [(4, .int y1), (0, .ref (ad (.ln L))), (1, .ref (nb (40 + 4))), (2, .int a3), (3, .int a4)] → W p l e (headSpec (wsg yX7_ticksUntil cX7_ticksUntil 5 (some .int)) ({ frames := 12, cells := 0, slots := 0, locals := 700 })).room s m ([.ref (ad (.ln L)), .ref (nb (40 + 4)), .int a3, .int a4] : List Value).toArray below meth c H locs 0 0 Qn (F0 m 3 ls []) := by
    intro m9
    induction m9 with
    | zero => intro y1 u2 hF; cases hF
    | succ m9 ih =>
      intro y1 u2 hF H locs ls hP hD hS hl
      simp only [C7_ticksUntil_e4_L3] at hF
      refine lv_iload hx hb dX7_ticksUntil_3 (lv_at hl 0 rfl) ?_
      refine lv_iload_n hx hb dX7_ticksUntil_5 rfl (lv_at hl 4 rfl) ?_
      refine lv_icmp_gt (tgt := 42) hx hb dX7_ticksUntil_6 (by decide) (fun c10 => ?_) (fun c10 => ?_)
      · rw [if_pos c10] at hF
        exact kx5 _ (s1 hF).symm _ _ _ hP hD hS (lv_sub hl [0, 1, 2, 3, 4] rfl)
      · rw [if_neg c10] at hF
        refine lv_aload_n hx hb dX7_ticksUntil_9 rfl (lv_at hl 1 rfl) ?_
        refine lv_aload_n hx hb dX7_ticksUntil_10 rfl (lv_at hl 2 rfl) ?_
        refine lv_iload_n hx hb dX7_ticksUntil_11 rfl (lv_at hl 3 rfl) ?_
        obtain ⟨x11, e12, hF⟩ := ob hF
        have hPc := hP
        have hDc := hD
        have hFc := my_free hD hS hA
        obtain ⟨q8, h8⟩ := wc_at (cy := cy) (ad := ad) (ks := ks) (g := g) (u := u2) (κ := (.ln L)) hk.1 h_L
        refine va_calli (va_runV (As := [.ref (nb (40 + 4)), .int a3]) (rest := []) ⟨hx, hb, hml, hown, hts⟩ (c_X3_hasHappened_e4 l dC dI cy nb ad ks g hk u2 L (a3) (x11) H.size h_L e12) (cwV 2 hts (gV mw_1305 mw_1306 mw_1307 mw_17 mw_1308) rfl rfl rfl (by decide +kernel) ⟨Nat.le_of_ble_eq_true rfl, Nat.le_of_ble_eq_true rfl⟩) (my_preV hPc hK hDc hE hS hFc (va_recv (q := (RX3, TX3, 17)) hK hP (ci := 3) (q0 := q8) rfl h8)) rfl rfl hl.1 rfl (lv_room (Nat.le_of_ble_eq_true rfl)) dX7_ticksUntil_12 ⟨Nat.le_of_ble_eq_true rfl, Nat.le_of_ble_eq_true rfl⟩) hS (fun q _ h => hFc q h) hFc (fun r u t H1 locs ht hvm hw hB hz1 hk1 hS => ?_)
        clear h8
        obtain ⟨hP1, hD1⟩ := hB
        rw [ht] at hP1
        have hP := hP1
        have hD := hD1.weaken (fun k q _ h => hFc q.1 h)
        generalize H1 = H at hP hS ⊢
        clear hP1 hD1 hPc hDc hFc hk1 hz1 hvm ht
        obtain rfl := hw.symm
        refine lv_if_eq (tgt := 21) hx hb dX7_ticksUntil_15 (by decide) (fun c13 => ?_) (fun c13 => ?_)
        · rw [if_pos c13] at hF
          refine lv_iload hx hb dX7_ticksUntil_21 (lv_at hl 0 rfl) ?_
          refine lv_iload_n hx hb dX7_ticksUntil_23 rfl (lv_at hl 4 rfl) ?_
          refine lv_icmp_eq (tgt := 34) hx hb dX7_ticksUntil_24 (by decide) (fun c14 => ?_) (fun c14 => ?_)
          · rw [if_pos c14] at hF
            refine lv_iconst (v := (-1)) hx hb dX7_ticksUntil_34 (by decide) ?_
            have hF := kr6 _ (s1 hF).symm
            have hZ := s1 hF
            have zro : (-1 : Int32) = ro := (congrArg (fun q => q.1) hZ)
            have zuz : u2 = uz := (congrArg (fun q => q.2) hZ)
            have hP9 : va_P (dC, dI) vwCl (WC cy ad ks g uz) H := by rw [← zuz]; exact hP
            have hD9 : va_D A (WC cy ad ks g uz) := by rw [← zuz]; exact hD
            rw [hQ]
            exact W.iret (v := (-1 : Int32)) hx hb hr (fun t ht hW => ⟨⟨(-1 : Int32), (), rfl, zro, by rw [ht]; exact hP9, hD9⟩, hS.F ht⟩) hS.2.2 dX7_ticksUntil_35
          · rw [if_neg c14] at hF
            refine lv_aload_n hx hb dX7_ticksUntil_27 rfl (lv_at hl 1 rfl) ?_
            obtain ⟨t15, e16, hF⟩ := ob hF
            have hPc := hP
            have hDc := hD
            have hFc := my_free hD hS hA
            obtain ⟨q8, h8⟩ := wc_at (cy := cy) (ad := ad) (ks := ks) (g := g) (u := u2) (κ := (.ln L)) hk.1 h_L
            refine va_calli (va_runV (As := []) (rest := []) ⟨hx, hb, hml, hown, hts⟩ (c_X3_tick l dC dI cy nb ad ks g hk u2 L (t15.1) (t15.2) H.size h_L e16) (cwV 0 hts (gV mw_1137 mw_1138 mw_1139 mw_17 mw_1140) rfl rfl rfl (by decide +kernel) ⟨Nat.le_of_ble_eq_true rfl, Nat.le_of_ble_eq_true rfl⟩) (my_preV hPc hK hDc hE hS hFc (va_recv (q := (RX3, TX3, 17)) hK hP (ci := 3) (q0 := q8) rfl h8)) rfl rfl hl.1 rfl (lv_room (Nat.le_of_ble_eq_true rfl)) dX7_ticksUntil_28 ⟨Nat.le_of_ble_eq_true rfl, Nat.le_of_ble_eq_true rfl⟩) hS (fun q _ h => hFc q h) hFc (fun r u t H1 locs ht hvm hw hB hz1 hk1 hS => ?_)
            clear h8
            obtain ⟨hP1, hD1⟩ := hB
            rw [ht] at hP1
            have hP := hP1
            have hD := hD1.weaken (fun k q _ h => hFc q.1 h)
            generalize H1 = H at hP hS ⊢
            clear hP1 hD1 hPc hDc hFc hk1 hz1 hvm ht
            obtain rfl := hw.symm
            refine lv_if_ne (tgt := 36) hx hb dX7_ticksUntil_31 (by decide) (fun c17 => ?_) (fun c17 => ?_)
            · rw [if_neg c17] at hF
              refine lv_iinc (v := (y1 + 1)) (lv' := [(4, .int (y1 + 1)), (0, .ref (ad (.ln L))), (1, .ref (nb (40 + 4))), (2, .int a3), (3, .int a4)]) hx hb dX7_ticksUntil_36 hl (k := 0) rfl (by rfl) (by decide) rfl (fun ls hl => ?_)
              refine lv_goto (tgt := 3) hx hb dX7_ticksUntil_39 (by decide) ?_
              exact ih _ _ hF _ _ _ hP hD hS (lv_sub hl [0, 1, 2, 3, 4] rfl)
            · rw [if_pos c17] at hF
              refine lv_iconst (v := (-1)) hx hb dX7_ticksUntil_34 (by decide) ?_
              have hF := kr6 _ (s1 hF).symm
              have hZ := s1 hF
              have zro : (-1 : Int32) = ro := (congrArg (fun q => q.1) hZ)
              have zuz : (t15.2) = uz := (congrArg (fun q => q.2) hZ)
              have hP9 : va_P (dC, dI) vwCl (WC cy ad ks g uz) H := by rw [← zuz]; exact hP
              have hD9 : va_D A (WC cy ad ks g uz) := by rw [← zuz]; exact hD
              rw [hQ]
              exact W.iret (v := (-1 : Int32)) hx hb hr (fun t ht hW => ⟨⟨(-1 : Int32), (), rfl, zro, by rw [ht]; exact hP9, hD9⟩, hS.F ht⟩) hS.2.2 dX7_ticksUntil_35
        · rw [if_neg c13] at hF
          refine lv_iload hx hb dX7_ticksUntil_18 (lv_at hl 0 rfl) ?_
          have hF := kr6 _ (s1 hF).symm
          have hZ := s1 hF
          have zro : y1 = ro := (congrArg (fun q => q.1) hZ)
          have zuz : u2 = uz := (congrArg (fun q => q.2) hZ)
          have hP9 : va_P (dC, dI) vwCl (WC cy ad ks g uz) H := by rw [← zuz]; exact hP
          have hD9 : va_D A (WC cy ad ks g uz) := by rw [← zuz]; exact hD
          rw [hQ]
          exact W.iret (v := y1) hx hb hr (fun t ht hW => ⟨⟨y1, (), rfl, zro, by rw [ht]; exact hP9, hD9⟩, hS.F ht⟩) hS.2.2 dX7_ticksUntil_20
  exact loop8 FUEL _ _ hL4 _ _ _ hP hD hS (lv_sub hl [0, 1, 2, 3, 4] rfl)
noncomputable def C7_allIn (g : CG) (u0 : RS)  : Option (Int32 × RS) := (C7_copyOfLine g u0).bind fun t1 => (C7_ticksUntil_e2 g t1 1 (-1) (2000)).bind fun t3 => some ((t3.1), (t3.2))
set_option maxHeartbeats 4000000 in
set_option maxRecDepth 100000 in
theorem c_X7_allIn (l : Launch) (dC : Nat → ClassId) (dI : Nat → Nat → Nat) (cy : Nat → ClassId) (nb : Nat → Nat) (ad : CK → Nat) (ks : List CK) (g : CG) (hk : GA nb ad g ks) (u0 : RS)  (ro : Int32) (uz : RS) (sz : Nat) (hF : C7_allIn g u0  = some (ro, uz)) : Met l yX7_allIn (wsg yX7_allIn cX7_allIn 1 (some .int)) ({ frames := 13, cells := 0, slots := 0, locals := 800 }) (va_Pc [.ref (ad .cl)] (fun U => U.heap.size = sz ∧ va_P (dC, dI) vwCl (WC cy ad ks g u0) U.heap ∧ va_K (dC, dI) vwCl (tyL cy) U ∧ va_D (fun _ => True) (WC cy ad ks g u0) ∧ GE nb (va_A (WC cy ad ks g u0) sz) U)) (va_Qi (fun (r : Int32) (_ : Unit) => r = ro) (fun _ t => va_P (dC, dI) vwCl (WC cy ad ks g uz) t.heap ∧ va_D (va_A (WC cy ad ks g u0) sz) (WC cy ad ks g uz)) (va_A (WC cy ad ks g u0) sz)) 0 0 (va_A (WC cy ad ks g u0) sz) := by
  refine Met.ofW (cc := cX7_allIn) (maxL := 1) (ret := (some .int)) pn_X7 rfl ?_
  intro p e s m args below meth c s₁ B hml hv
  obtain ⟨rfl, hsz, hP, hK, hD0, hE⟩ := hv
  have hx := B.exec
  have hb := B.bytes
  have hr := B.returns
  have hts0 := atoms_spec (ws := (wsg yX7_allIn cX7_allIn 1 (some .int))) B.pre
  have hts : ∀ w ∈ wsL_law, w.before _ s = true := fun w h => hts0 w (List.mem_cons_of_mem _ h)
  have hown : s.vm.findClass RX7 = some m.cls := by have h9 := findClass_of_methodNamed B.named; exact h9
  have hlocks := B.notSynchronized
  subst hsz
  have hD := hD0.self (sz := s.heap.size)
  generalize hAe : va_A (WC cy ad ks g u0) s.heap.size = A at hD hE ⊢
  have hA : ∀ q : Nat, s.heap.size ≤ q → A q := fun q h => by rw [← hAe]; exact Or.inr h
  have hS : va_S A s.heap s.heap [] := va_S.rf
  have hl := lv_entry ([.ref (ad .cl)]) (n := 1) (Nat.le_of_ble_eq_true rfl)
  rw [lg_entry_eq]
  generalize (lg_sl ([.ref (ad .cl)]) ++ List.replicate (1 - (lg_sl ([.ref (ad .cl)])).length) Slot.unset).toArray = ls at hl ⊢
  have hl : lv_has ls 1 [(0, .ref (ad .cl))] := hl
  generalize hHe : s.heap = H at hP hS ⊢
  have hS : va_S A s.heap H [] := by rw [hHe]; exact hS
  refine my_Q (fun Qn hQ => ?_)
  simp only [C7_allIn] at hF
  refine lv_aload_n hx hb dX7_allIn_0 rfl (lv_at hl 0 rfl) ?_
  obtain ⟨t1, e2, hF⟩ := ob hF
  have hPc := hP
  have hDc := hD
  have hFc := my_free hD hS hA
  obtain ⟨q8, h8⟩ := wc_at (cy := cy) (ad := ad) (ks := ks) (g := g) (u := u0) (κ := .cl) hk.1 True.intro
  refine va_callr (va_runV (As := []) (rest := []) ⟨hx, hb, hml, hown, hts⟩ (c_X7_copyOfLine l dC dI cy nb ad ks g hk u0 (t1) H.size e2) (cwV 0 hts (gV mw_1298 mw_1299 mw_1300 mw_2 mw_1301) rfl rfl rfl (by decide +kernel) ⟨Nat.le_of_ble_eq_true rfl, Nat.le_of_ble_eq_true rfl⟩) (my_preV hPc hK hDc hE hS hFc (va_recv (q := (RX7, TX7, 12)) hK hP (ci := 7) (q0 := q8) rfl h8)) rfl rfl hl.1 rfl (lv_room (Nat.le_of_ble_eq_true rfl)) dX7_allIn_1 ⟨Nat.le_of_ble_eq_true rfl, Nat.le_of_ble_eq_true rfl⟩) hS (fun q _ h => hFc q h) hFc (fun u ra t H1 locs ht hvm hw hB hz1 hk1 hS => ?_)
  clear h8
  obtain ⟨hra, hP1, hD1⟩ := hB
  rw [ht] at hP1
  have hP := hP1
  have hD := hD1.weaken (fun k q _ h => hFc q.1 h)
  generalize H1 = H at hP hS ⊢
  clear hP1 hD1 hPc hDc hFc hk1 hz1 hvm ht
  obtain rfl := hra.symm
  refine va_gets (C := RX2) (n := "ALL_FINISHED") (d := "LCardLine$Event;") (ref := "CardLine$Event") (v := .ref (nb (40 + 2))) hx hb (hE.evk 2 rfl).1 hS hown (hts _ mw_1358) (fun _ h9 => h9) dX7_allIn_4 ?_
  refine lv_iconst (v := (-1)) hx hb dX7_allIn_7 (by decide) ?_
  refine lv_sipush (v := 2000) hx hb dX7_allIn_8 (by decide) ?_
  obtain ⟨t3, e4, hF⟩ := ob hF
  have hPc := hP
  have hDc := hD
  have hFc := my_free hD hS hA
  refine va_calli (va_runS (As := [.ref (ad (.ln 1)), .ref (nb (40 + 2)), .int (-1), .int 2000]) (rest := []) ⟨hx, hb, hml, hown, hts⟩ (c_X7_ticksUntil_e2 l dC dI cy nb ad ks g hk t1 1 (-1) (2000) (t3.1) (t3.2) H.size (Or.inl (by decide)) e4) (va_cwS 4 hts (gS mw_1302 mw_1303 mw_2 mw_1304) rfl rfl rfl (by decide +kernel) ⟨Nat.le_of_ble_eq_true rfl, Nat.le_of_ble_eq_true rfl⟩) (my_preS hPc hK hDc hE hS hFc) rfl rfl hl.1 rfl (lv_room (Nat.le_of_ble_eq_true rfl)) dX7_allIn_11 ⟨Nat.le_of_ble_eq_true rfl, Nat.le_of_ble_eq_true rfl⟩) hS (fun q _ h => hFc q h) hFc (fun r u t H1 locs ht hvm hw hB hz1 hk1 hS => ?_)
  obtain ⟨hP1, hD1⟩ := hB
  rw [ht] at hP1
  have hP := hP1
  have hD := hD1.weaken (fun k q _ h => hFc q.1 h)
  generalize H1 = H at hP hS ⊢
  clear hP1 hD1 hPc hDc hFc hk1 hz1 hvm ht
  obtain rfl := hw.symm
  have hZ := s1 hF
  have zro : (t3.1) = ro := (congrArg (fun q => q.1) hZ)
  have zuz : (t3.2) = uz := (congrArg (fun q => q.2) hZ)
  have hP9 : va_P (dC, dI) vwCl (WC cy ad ks g uz) H := by rw [← zuz]; exact hP
  have hD9 : va_D A (WC cy ad ks g uz) := by rw [← zuz]; exact hD
  rw [hQ]
  exact W.iret (v := (t3.1)) hx hb hr (fun t ht hW => ⟨⟨(t3.1), (), rfl, zro, by rw [ht]; exact hP9, hD9⟩, hS.F ht⟩) hS.2.2 dX7_allIn_14
noncomputable def C7_append (g : CG) (u0 : RS) (a1 : Int64) : Option (Int32 × RS) := (C5_add g u0 (a1)).bind fun t1 => (if (t1.1) = 0 then (some (-2 : Int32)) else (some ((t1.2) 0 5)) : Option (Int32)).bind fun t4 => some (t4, (t1.2))
set_option maxHeartbeats 4000000 in
set_option maxRecDepth 100000 in
theorem c_X7_append (l : Launch) (dC : Nat → ClassId) (dI : Nat → Nat → Nat) (cy : Nat → ClassId) (nb : Nat → Nat) (ad : CK → Nat) (ks : List CK) (g : CG) (hk : GA nb ad g ks) (u0 : RS) (a1 : Int64) (ro : Int32) (uz : RS) (sz : Nat) (hF : C7_append g u0 a1 = some (ro, uz)) : Met l yX7_append (wsg yX7_append cX7_append 3 (some .int)) ({ frames := 8, cells := 0, slots := 0, locals := 300 }) (va_Pc [.ref (ad .cl), .long a1] (fun U => U.heap.size = sz ∧ va_P (dC, dI) vwCl (WC cy ad ks g u0) U.heap ∧ va_K (dC, dI) vwCl (tyL cy) U ∧ va_D (fun _ => True) (WC cy ad ks g u0) ∧ GE nb (va_A (WC cy ad ks g u0) sz) U)) (va_Qi (fun (r : Int32) (_ : Unit) => r = ro) (fun _ t => va_P (dC, dI) vwCl (WC cy ad ks g uz) t.heap ∧ va_D (va_A (WC cy ad ks g u0) sz) (WC cy ad ks g uz)) (va_A (WC cy ad ks g u0) sz)) 0 0 (va_A (WC cy ad ks g u0) sz) := by
  refine Met.ofW (cc := cX7_append) (maxL := 3) (ret := (some .int)) pn_X7 rfl ?_
  intro p e s m args below meth c s₁ B hml hv
  obtain ⟨rfl, hsz, hP, hK, hD0, hE⟩ := hv
  have hx := B.exec
  have hb := B.bytes
  have hr := B.returns
  have hts0 := atoms_spec (ws := (wsg yX7_append cX7_append 3 (some .int))) B.pre
  have hts : ∀ w ∈ wsL_law, w.before _ s = true := fun w h => hts0 w (List.mem_cons_of_mem _ h)
  have hown : s.vm.findClass RX7 = some m.cls := by have h9 := findClass_of_methodNamed B.named; exact h9
  have hlocks := B.notSynchronized
  subst hsz
  have hD := hD0.self (sz := s.heap.size)
  generalize hAe : va_A (WC cy ad ks g u0) s.heap.size = A at hD hE ⊢
  have hA : ∀ q : Nat, s.heap.size ≤ q → A q := fun q h => by rw [← hAe]; exact Or.inr h
  have hS : va_S A s.heap s.heap [] := va_S.rf
  have hl := lv_entry ([.ref (ad .cl), .long a1]) (n := 3) (Nat.le_of_ble_eq_true rfl)
  rw [lg_entry_eq]
  generalize (lg_sl ([.ref (ad .cl), .long a1]) ++ List.replicate (3 - (lg_sl ([.ref (ad .cl), .long a1])).length) Slot.unset).toArray = ls at hl ⊢
  have hl : lv_has ls 3 [(0, .ref (ad .cl)), (1, .long a1)] := hl
  generalize hHe : s.heap = H at hP hS ⊢
  have hS : va_S A s.heap H [] := by rw [hHe]; exact hS
  refine my_Q (fun Qn hQ => ?_)
  simp only [C7_append] at hF
  refine lv_aload_n hx hb dX7_append_0 rfl (lv_at hl 0 rfl) ?_
  obtain ⟨q9, h9⟩ := wc_at (cy := cy) (ad := ad) (ks := ks) (g := g) (u := u0) (κ := .cl) hk.1 True.intro
  refine va_get (D := (dC, dI)) (ci := 7) (v := .ref (ad .rd)) (C := RX7) (T := TX7) (N := 12) hx hb hts inlX7 hown hK hP q9 h9 rfl 2 (by decide) (hts _ mw_23) (fun _ h9 => h9) rfl dX7_append_1 ?_
  clear h9
  refine lv_lload_n hx hb dX7_append_4 rfl (lv_at hl 1 rfl) ?_
  obtain ⟨t1, e2, hF⟩ := ob hF
  have hPc := hP
  have hDc := hD
  have hFc := my_free hD hS hA
  obtain ⟨q8, h8⟩ := wc_at (cy := cy) (ad := ad) (ks := ks) (g := g) (u := u0) (κ := .rd) hk.1 True.intro
  refine va_calli (va_runV (As := [.long a1]) (rest := []) ⟨hx, hb, hml, hown, hts⟩ (c_X5_add l dC dI cy nb ad ks g hk u0 (a1) (t1.1) (t1.2) H.size e2) (cwV 1 hts (gV mw_118 mw_119 mw_120 mw_22 mw_121) rfl rfl rfl (by decide +kernel) ⟨Nat.le_of_ble_eq_true rfl, Nat.le_of_ble_eq_true rfl⟩) (my_preV hPc hK hDc hE hS hFc (va_recv (q := (RX5, TX5, 11)) hK hP (ci := 5) (q0 := q8) rfl h8)) rfl rfl hl.1 rfl (lv_room (Nat.le_of_ble_eq_true rfl)) dX7_append_5 ⟨Nat.le_of_ble_eq_true rfl, Nat.le_of_ble_eq_true rfl⟩) hS (fun q _ h => hFc q h) hFc (fun r u t H1 locs ht hvm hw hB hz1 hk1 hS => ?_)
  clear h8
  obtain ⟨hP1, hD1⟩ := hB
  rw [ht] at hP1
  have hP := hP1
  have hD := hD1.weaken (fun k q _ h => hFc q.1 h)
  generalize H1 = H at hP hS ⊢
  clear hP1 hD1 hPc hDc hFc hk1 hz1 hvm ht
  obtain rfl := hw.symm
  obtain ⟨t4, hJ5, hF⟩ := ob hF
  have join6 : ∀ (H : Heap) (locs : List Loc) (ls : Array Slot), va_P (dC, dI) vwCl (WC cy ad ks g (t1.2)) H → va_D A (WC cy ad ks g (t1.2)) → va_S A s.heap H locs → lv_has ls 3 [(0, .ref (ad .cl)), (1, .long a1)] → W p l e (headSpec (wsg yX7_append cX7_append 3 (some .int)) ({ frames := 8, cells := 0, slots := 0, locals := 300 })).room s m ([.ref (ad .cl), .long a1] : List Value).toArray below meth c H locs 0 0 Qn (F0 m 23 ls [.int t4]) := by
    intro H locs ls hP hD hS hl
    have hZ := s1 hF
    have zro : t4 = ro := (congrArg (fun q => q.1) hZ)
    have zuz : (t1.2) = uz := (congrArg (fun q => q.2) hZ)
    have hP9 : va_P (dC, dI) vwCl (WC cy ad ks g uz) H := by rw [← zuz]; exact hP
    have hD9 : va_D A (WC cy ad ks g uz) := by rw [← zuz]; exact hD
    rw [hQ]
    exact W.iret (v := t4) hx hb hr (fun t ht hW => ⟨⟨t4, (), rfl, zro, by rw [ht]; exact hP9, hD9⟩, hS.F ht⟩) hS.2.2 dX7_append_23
  clear hF
  have hF := hJ5
  clear hJ5
  refine lv_if_eq (tgt := 21) hx hb dX7_append_8 (by decide) (fun c3 => ?_) (fun c3 => ?_)
  · rw [if_pos c3] at hF
    refine lv_bipush (v := (-2)) hx hb dX7_append_21 (by decide) ?_
    have ht := s1 hF
    subst ht
    exact join6 _ _ _ hP hD hS (lv_sub hl [0, 1] rfl)
  · rw [if_neg c3] at hF
    refine lv_aload_n hx hb dX7_append_11 rfl (lv_at hl 0 rfl) ?_
    obtain ⟨q9, h9⟩ := wc_at (cy := cy) (ad := ad) (ks := ks) (g := g) (u := (t1.2)) (κ := .cl) hk.1 True.intro
    refine va_get (D := (dC, dI)) (ci := 7) (v := .ref (ad .rd)) (C := RX7) (T := TX7) (N := 12) hx hb hts inlX7 hown hK hP q9 h9 rfl 2 (by decide) (hts _ mw_23) (fun _ h9 => h9) rfl dX7_append_12 ?_
    clear h9
    obtain ⟨q9, h9⟩ := wc_at (cy := cy) (ad := ad) (ks := ks) (g := g) (u := (t1.2)) (κ := .rd) hk.1 True.intro
    refine va_get (D := (dC, dI)) (ci := 5) (v := .int ((t1.2) 0 5)) (C := RX5) (T := TX5) (N := 11) hx hb hts inlX5 hown hK hP q9 h9 rfl 1 (by decide) (hts _ mw_117) (fun _ h9 => h9) rfl dX7_append_15 ?_
    clear h9
    refine lv_goto (tgt := 23) hx hb dX7_append_18 (by decide) ?_
    have ht := s1 hF
    subst ht
    exact join6 _ _ _ hP hD hS (lv_sub hl [0, 1] rfl)
noncomputable def C7_needLot (g : CG) (u0 : RS) (a1 : Int32) : Option (Sum Int32 (Unit)) := if a1 < 0 then (some (.inl (1 : Int32))) else (if a1 < (u0 (10 + 0) 8) then (some (.inr ())) else (some (.inl (1 : Int32))))
set_option maxHeartbeats 4000000 in
set_option maxRecDepth 100000 in
theorem c_X7_needLot (l : Launch) (dC : Nat → ClassId) (dI : Nat → Nat → Nat) (cy : Nat → ClassId) (nb : Nat → Nat) (ad : CK → Nat) (ks : List CK) (g : CG) (hk : GA nb ad g ks) (u0 : RS) (a1 : Int32)  (sz : Nat) (hF : C7_needLot g u0 a1 = some (.inr ())) : Met l yX7_needLot (wsg yX7_needLot cX7_needLot 2 none) ({ frames := 7, cells := 0, slots := 0, locals := 200 }) (va_Pc [.ref (ad .cl), .int a1] (fun U => U.heap.size = sz ∧ va_P (dC, dI) vwCl (WC cy ad ks g u0) U.heap ∧ va_K (dC, dI) vwCl (tyL cy) U ∧ va_D (fun _ => True) (WC cy ad ks g u0) ∧ GE nb (va_A (WC cy ad ks g u0) sz) U)) (va_Qv (fun (_ : Unit) => True) (fun _ t => va_P (dC, dI) vwCl (WC cy ad ks g u0) t.heap ∧ va_D (va_A (WC cy ad ks g u0) sz) (WC cy ad ks g u0)) (va_A (WC cy ad ks g u0) sz)) 0 0 (va_A (WC cy ad ks g u0) sz) := by
  refine Met.ofW (cc := cX7_needLot) (maxL := 2) (ret := none) pn_X7 rfl ?_
  intro p e s m args below meth c s₁ B hml hv
  obtain ⟨rfl, hsz, hP, hK, hD0, hE⟩ := hv
  have hx := B.exec
  have hb := B.bytes
  have hr := B.returns
  have hts0 := atoms_spec (ws := (wsg yX7_needLot cX7_needLot 2 none)) B.pre
  have hts : ∀ w ∈ wsL_law, w.before _ s = true := fun w h => hts0 w (List.mem_cons_of_mem _ h)
  have hown : s.vm.findClass RX7 = some m.cls := by have h9 := findClass_of_methodNamed B.named; exact h9
  have hlocks := B.notSynchronized
  subst hsz
  have hD := hD0.self (sz := s.heap.size)
  generalize hAe : va_A (WC cy ad ks g u0) s.heap.size = A at hD hE ⊢
  have hA : ∀ q : Nat, s.heap.size ≤ q → A q := fun q h => by rw [← hAe]; exact Or.inr h
  have hS : va_S A s.heap s.heap [] := va_S.rf
  have hl := lv_entry ([.ref (ad .cl), .int a1]) (n := 2) (Nat.le_of_ble_eq_true rfl)
  rw [lg_entry_eq]
  generalize (lg_sl ([.ref (ad .cl), .int a1]) ++ List.replicate (2 - (lg_sl ([.ref (ad .cl), .int a1])).length) Slot.unset).toArray = ls at hl ⊢
  have hl : lv_has ls 2 [(0, .ref (ad .cl)), (1, .int a1)] := hl
  generalize hHe : s.heap = H at hP hS ⊢
  have hS : va_S A s.heap H [] := by rw [hHe]; exact hS
  refine my_Q (fun Qn hQ => ?_)
  simp only [C7_needLot] at hF
  refine lv_iload_n hx hb dX7_needLot_0 rfl (lv_at hl 1 rfl) ?_
  refine lv_if_lt (tgt := 15) hx hb dX7_needLot_1 (by decide) (fun c1 => ?_) (fun c1 => ?_)
  · rw [if_pos c1] at hF
    cases hF
  · rw [if_neg c1] at hF
    refine lv_iload_n hx hb dX7_needLot_4 rfl (lv_at hl 1 rfl) ?_
    refine lv_aload_n hx hb dX7_needLot_5 rfl (lv_at hl 0 rfl) ?_
    obtain ⟨q9, h9⟩ := wc_at (cy := cy) (ad := ad) (ks := ks) (g := g) (u := u0) (κ := .cl) hk.1 True.intro
    refine va_get (D := (dC, dI)) (ci := 7) (v := .ref (ad (.ln 0))) (C := RX7) (T := TX7) (N := 12) hx hb hts inlX7 hown hK hP q9 h9 rfl 0 (by decide) (hts _ mw_18) (fun _ h9 => h9) rfl dX7_needLot_6 ?_
    clear h9
    obtain ⟨q9, h9⟩ := wc_at (cy := cy) (ad := ad) (ks := ks) (g := g) (u := u0) (κ := (.ln 0)) hk.1 (Or.inl (by decide))
    refine va_get (D := (dC, dI)) (ci := 3) (v := .int (u0 (10 + 0) 8)) (C := RX3) (T := TX3) (N := 17) hx hb hts inlX3 hown hK hP q9 h9 rfl 8 (by decide) (hts _ mw_571) (fun _ h9 => h9) rfl dX7_needLot_9 ?_
    clear h9
    refine lv_icmp_lt (tgt := 25) hx hb dX7_needLot_12 (by decide) (fun c2 => ?_) (fun c2 => ?_)
    · rw [if_pos c2] at hF
      have hZ := s3 hF
      have hP9 : va_P (dC, dI) vwCl (WC cy ad ks g u0) H := by exact hP
      have hD9 : va_D A (WC cy ad ks g u0) := by exact hD
      rw [hQ]
      exact W.vret hx hb hr (fun t ht hW => ⟨⟨(), rfl, trivial, by rw [ht]; exact hP9, hD9⟩, hS.F ht⟩) hS.2.2 dX7_needLot_25
    · rw [if_neg c2] at hF
      cases hF
