noncomputable def H_L_rushed_L10 (x5 : Nat) (a1 : Nat) : Nat → Int32 → MH (Int32)
  | 0, _ => m0
  | m26 + 1, y31 => mb (mg fun n E => fO n E (x5) 13) fun _ => mb (H_Jx35411_hasNext_aae02 (x5)) fun x35 => if x35 = 0 then (mr y31) else (mb (mg fun n E => fO n E (x5) 13) fun _ => mb (H_Jx35411_next_0502b (x5)) fun x43 => mb (mg fun n E => fO n E (x43) 8) fun _ => mb (rI (x43) 8 8) fun x52 => mb (if x52 = 0 then (mr (0 : Int32)) else (mr (1 : Int32)) : MH (Int32)) fun t55 => H_L_rushed_L10 x5 a1 m26 ((y31 + t55)))
noncomputable def H_L_rushed (a1 : Nat) : MH Int32 := mb (rR (a1) 9 10) fun x1 => mb (mg fun n E => fO n E (x1) 14) fun _ => mb (H_Jx4a65c_iterator_32c93 (x1)) fun x5 => mb (H_L_rushed_L10 x5 a1 FUEL ((0 : Int32))) fun t13 => mr t13
set_option maxHeartbeats 4000000 in
set_option maxRecDepth 100000 in
theorem h_L_rushed (l : Launch) (dC : Nat → ClassId) (dI : Nat → Nat → Nat) (cy : Nat → ClassId) (nb : Nat → Nat) (ad0 : Nat → Nat) (n0 s0 : Nat) (E0 : HE) (hC : clo n0 E0) (a1 Aa1 : Nat) (ha1 : rf nb ad0 n0 a1 Aa1) (sz : Nat) (ro : Int32) (nz sz9 : Nat) (Ez : HE) (hF : (H_L_rushed a1).1 (n0, s0, E0) = some (ro, nz, sz9, Ez)) : Met l yL_rushed (wsg yL_rushed cL_rushed 4 (some .int)) ({ frames := 10, cells := nz - n0, slots := sz9 - s0, locals := 500 }) (va_Pc [.ref Aa1] (fun U => U.heap.size = sz ∧ va_P (dC, dI) vwCl (CH cy nb ad0 n0 E0) U.heap ∧ va_K (dC, dI) vwCl (tyL cy) U ∧ va_D (fun _ => True) (CH cy nb ad0 n0 E0) ∧ GL nb (va_A (CH cy nb ad0 n0 E0) sz) U)) (va_Qi (fun (r : Int32) (_ : Unit) => r = ro) (fun _ t => ∃ ad2 : Nat → Nat, axh n0 ad0 nz ad2 ∧ va_P (dC, dI) vwCl (CH cy nb ad2 nz Ez) t.heap ∧ va_D (va_A (CH cy nb ad0 n0 E0) sz) (CH cy nb ad2 nz Ez)) (va_A (CH cy nb ad0 n0 E0) sz)) (nz - n0) (sz9 - s0) (va_A (CH cy nb ad0 n0 E0) sz) := by
  refine Met.ofW (cc := cL_rushed) (maxL := 4) (ret := (some .int)) (by decide) rfl ?_
  intro p e s m args below meth c s₁ B hml hv
  obtain ⟨rfl, hsz, hP, hK, hD0, hE⟩ := hv
  have hx := B.exec
  have hb := B.bytes
  have hr := B.returns
  have hts0 := atoms_spec (ws := (wsg yL_rushed cL_rushed 4 (some .int))) B.pre
  have hts : ∀ w ∈ wsL_law, w.before _ s = true := fun w h => hts0 w (List.mem_cons_of_mem _ h)
  have hown : s.vm.findClass RL = some m.cls := by have h9 := findClass_of_methodNamed B.named; exact h9
  subst hsz
  have hD := hD0.self (sz := s.heap.size)
  generalize hAe : va_A (CH cy nb ad0 n0 E0) s.heap.size = A at hD hE ⊢
  have hA : ∀ q : Nat, s.heap.size ≤ q → A q := fun q h => by rw [← hAe]; exact Or.inr h
  have hS : va_S A s.heap s.heap [] := va_S.rf
  have hl := lv_entry ([.ref Aa1]) (n := 4) (Nat.le_of_ble_eq_true rfl)
  rw [lg_entry_eq]
  generalize (lg_sl ([.ref Aa1]) ++ List.replicate (4 - (lg_sl ([.ref Aa1])).length) Slot.unset).toArray = ls at hl ⊢
  have hl : lv_has ls 4 [(0, .ref Aa1)] := hl
  generalize hHe : s.heap = H at hP hS ⊢
  have hS : va_S A s.heap H [] := by rw [hHe]; exact hS
  refine my_Q (fun Qn hQ => ?_)
  simp only [H_L_rushed] at hF
  have hX : axh n0 ad0 n0 ad0 := axh_refl
  have hN : n0 ≤ n0 := Nat.le_refl _
  have hT : s0 ≤ s0 := Nat.le_refl _
  refine W.widen (k := n0 - n0) (n := s0 - s0) (by omega) (by omega) ?_
  refine lv_iconst (v := 0) hx hb dL_rushed_0 (by decide) ?_
  refine lv_istore_n (lv' := [(1, .int 0), (0, .ref Aa1)]) hx hb dL_rushed_1 rfl hl (by decide) rfl (fun ls hl => ?_)
  refine lv_aload_n hx hb dL_rushed_2 rfl (lv_at hl 1 rfl) ?_
  obtain ⟨x1, e2, hF⟩ := mg_o hF
  obtain ⟨hr3, fs9, h9, g9⟩ := rdR hP hC ha1 e2
  refine va_get (D := (dC, dI)) (ci := 9) (v := .ref (AD nb ad0 x1)) (C := RX9) (T := TX9) (N := 14) hx hb hts inlX9 hown hK h9 0 rfl rfl 10 (by decide) (hts _ mw_13) (fun _ h9 => h9) g9 dL_rushed_3 ?_
  clear h9 g9
  obtain ⟨fs9, e4, hF⟩ := mg_o hF
  obtain ⟨x5, n7, s8, E9, e6, hF⟩ := mb_o hF
  have hm := mle e6
  have hM1 := mle1 hF
  have hM2 := mle2 hF
  have hm1 := hm.1
  have hm2 := hm.2.1
  have hFc := my_free hD hS hA
  refine va_callr (va_runV (C := RJx4a65c) (As := []) (rest := []) ⟨hx, hb, hml, hown, hts⟩ (h_Jx4a65c_iterator_32c93 l dC dI cy nb ad0 n0 s0 E0 hC (x1) (AD nb ad0 x1) hr3 H.size x5 n7 s8 E9 e6) (cwV 0 hts (gV mw_1423 mw_177 mw_178 mw_12 mw_179) rfl rfl rfl (by decide +kernel) ⟨Nat.le_of_ble_eq_true rfl, Nat.le_of_ble_eq_true rfl⟩) (hl_preV hP hK hD hE hS hFc (va_recv hK (rdO_ hP hC hr3 e4) (ci := 14) (q0 := 0) rfl rfl)) rfl rfl hl.1 rfl (lv_room (Nat.le_of_ble_eq_true rfl)) dL_rushed_6 ⟨show n0 - n0 + (n7 - n0) ≤ nz - n0 by omega, show s0 - s0 + (s8 - s0) ≤ sz9 - s0 by omega⟩) hS (fun q _ h => hFc q h) hFc (fun u ra t H1 locs ht hvm hw hB hz1 hk1 hS => ?_)
  obtain ⟨ad10, hax, hr11, hP1, hD1⟩ := hB
  rw [ht] at hP1
  have hP := hP1
  have hD := hD1.weaken (fun k q _ h => hFc q.1 h)
  generalize H1 = H at hP hS ⊢
  have ha1 := ha1.mv hC.1 hax
  have hX := hX.trans hax
  have hC := hm.2.2 hC
  have hN : n0 ≤ n7 := Nat.le_trans hN hm1
  have hT : s0 ≤ s8 := Nat.le_trans hT hm2
  refine W.widen (k := n7 - n0) (n := s8 - s0) (by omega) (by omega) ?_
  clear hP1 hD1 hFc hk1 hz1 hvm ht hax hm hm1 hm2 hM1 hM2
  refine my_top (y := .ref (AD nb ad10 x5)) (congrArg Value.ref hr11.2.symm) ?_
  have hr11 := rf_self hr11
  refine lv_astore_n (lv' := [(2, .ref (AD nb ad10 x5)), (1, .int 0), (0, .ref Aa1)]) hx hb dL_rushed_9 rfl hl (by decide) rfl (fun ls hl => ?_)
  obtain ⟨t13, n15, s16, E17, hL14, hF⟩ := mb_o hF
  have hm := mle hL14
  have kx19 : ∀ (ad18 : Nat → Nat) (H : Heap) (locs : List Loc) (ls : Array Slot), axh n0 ad0 n15 ad18 → rf nb ad18 n15 (x5) ((AD nb ad10 x5)) → rf nb ad18 n15 (a1) (Aa1) → va_P (dC, dI) vwCl (CH cy nb ad18 n15 E17) H → va_D A (CH cy nb ad18 n15 E17) → va_S A s.heap H locs → lv_has ls 4 [(1, .int t13), (2, .ref (AD nb ad10 x5)), (0, .ref Aa1)] → W p l e (headSpec (wsg yL_rushed cL_rushed 4 (some .int)) ({ frames := 10, cells := nz - n0, slots := sz9 - s0, locals := 500 })).room s m ([.ref Aa1] : List Value).toArray below meth c H locs (n15 - n0) (s16 - s0) Qn (F0 m 47 ls []) := by
    intro ad18 H locs ls hX hr21 hr22 hP hD hS hl
    have hC := hm.2.2 hC
    have hN : n0 ≤ n15 := Nat.le_trans hN hm.1
    have hT : s0 ≤ s16 := Nat.le_trans hT hm.2.1
    clear hm
    refine lv_iload_n hx hb dL_rushed_47 rfl (lv_at hl 0 rfl) ?_
    obtain ⟨ht9, hn9, hs9, hE9⟩ := mr_o hF
    subst hn9 hs9 hE9
    have hX9 := hX
    rw [hQ]
    exact W.iret (v := t13) hx hb hr (fun t ht hW => ⟨⟨t13, (), rfl, ht9, _, hX, by rw [ht]; exact hP, hD⟩, hS.F ht⟩) hS.2.2 dL_rushed_48
  have hK23 := mle1 hF
  have hK24 := mle2 hF
  clear hF hm
  have loop25 : ∀ (m26 : Nat) (y31 : Int32) (n28 s29 : Nat) (E30 : HE), (H_L_rushed_L10 x5 a1 m26 y31).1 (n28, s29, E30) = some (t13, n15, s16, E17) → clo n28 E30 → n0 ≤ n28 → s0 ≤ s29 → ∀ (ad27 : Nat → Nat) (H : Heap) (locs : List Loc) (ls : Array Slot), axh n0 ad0 n28 ad27 → rf nb ad27 n28 (x5) ((AD nb ad10 x5)) → rf nb ad27 n28 (a1) (Aa1) → va_P (dC, dI) vwCl (CH cy nb ad27 n28 E30) H → va_D A (CH cy nb ad27 n28 E30) → va_S A s.heap H locs → lv_has ls 4 [(1, .int y31), (2, .ref (AD nb ad10 x5)), (0, .ref Aa1)] → W p l e (headSpec (wsg yL_rushed cL_rushed 4 (some .int)) ({ frames := 10, cells := nz - n0, slots := sz9 - s0, locals := 500 })).room s m ([.ref Aa1] : List Value).toArray below meth c H locs (n28 - n0) (s29 - s0) Qn (F0 m 10 ls []) := by
    intro m26
    induction m26 with
    | zero => intro y31 n28 s29 E30 hF; exact (m0_o hF).elim
    | succ m26 ih =>
      intro y31 n28 s29 E30 hF hC hN hT ad27 H locs ls hX hr32 hr33 hP hD hS hl
      simp only [H_L_rushed_L10] at hF
      refine lv_aload_n hx hb dL_rushed_10 rfl (lv_at hl 1 rfl) ?_
      obtain ⟨fs9, e34, hF⟩ := mg_o hF
      obtain ⟨x35, n37, s38, E39, e36, hF⟩ := mb_o hF
      have hm := mle e36
      have hM1 := mle1 hF
      have hM2 := mle2 hF
      have hm1 := hm.1
      have hm2 := hm.2.1
      have hFc := my_free hD hS hA
      refine va_callFi (va_runF (C := RJx35411) (As := []) (rest := []) (hK.1 13 _ rfl).2 ⟨hx, hb, hml, hown, hts⟩ (h_Jx35411_hasNext_aae02 l dC dI cy nb ad27 n28 s29 E30 hC (x5) (AD nb ad10 x5) hr32 H.size x35 n37 s38 E39 e36) (va_cwF 0 hts (gF mw_1424 mw_193 mw_194 mw_182 mw_195) rfl rfl rfl hE.fw1 (by decide +kernel) ⟨Nat.le_of_ble_eq_true rfl, Nat.le_of_ble_eq_true rfl⟩) (hl_preV hP hK hD hE hS hFc (va_recv hK (rdO_ hP hC hr32 e34) (ci := 13) (q0 := 0) rfl rfl)) rfl rfl hl.1 rfl (lv_room (Nat.le_of_ble_eq_true rfl)) dL_rushed_11 ⟨show n28 - n0 + (n37 - n28) ≤ nz - n0 by omega, show s29 - s0 + (s38 - s29) ≤ sz9 - s0 by omega⟩) hS (fun q _ h => hFc q h) hFc (fun r9 u t H1 locs ht hvm hw hB hz1 hk1 hS => ?_)
      obtain ⟨ad40, hax, hP1, hD1⟩ := hB
      rw [ht] at hP1
      have hP := hP1
      have hD := hD1.weaken (fun k q _ h => hFc q.1 h)
      generalize H1 = H at hP hS ⊢
      have hr32 := hr32.mv hC.1 hax
      have hr33 := hr33.mv hC.1 hax
      have hX := hX.trans hax
      have hC := hm.2.2 hC
      have hN : n0 ≤ n37 := Nat.le_trans hN hm1
      have hT : s0 ≤ s38 := Nat.le_trans hT hm2
      refine W.widen (k := n37 - n0) (n := s38 - s0) (by omega) (by omega) ?_
      clear hP1 hD1 hFc hk1 hz1 hvm ht hax hm hm1 hm2 hM1 hM2
      obtain rfl := hw.symm
      refine lv_if_eq (tgt := 47) hx hb dL_rushed_16 (by decide) (fun c41 => ?_) (fun c41 => ?_)
      · skip
        rw [if_pos c41] at hF
        obtain ⟨ht9, hn9, hs9, hE9⟩ := mr_o hF
        subst hn9 hs9 hE9
        subst ht9
        have hl := lv_sub (l' := [(1, .int y31), (2, .ref (AD nb ad10 x5)), (0, .ref Aa1)]) hl [0, 1, 2] rfl
        exact kx19 _ _ _ _ hX hr32 hr33 hP hD hS hl
      · skip
        rw [if_neg c41] at hF
        refine lv_aload_n hx hb dL_rushed_19 rfl (lv_at hl 1 rfl) ?_
        obtain ⟨fs9, e42, hF⟩ := mg_o hF
        obtain ⟨x43, n45, s46, E47, e44, hF⟩ := mb_o hF
        have hm := mle e44
        have hM1 := mle1 hF
        have hM2 := mle2 hF
        have hm1 := hm.1
        have hm2 := hm.2.1
        have hFc := my_free hD hS hA
        refine va_callFr (va_runF (C := RJx35411) (As := []) (rest := []) (hK.1 13 _ rfl).2 ⟨hx, hb, hml, hown, hts⟩ (h_Jx35411_next_0502b l dC dI cy nb ad40 n37 s38 E39 hC (x5) (AD nb ad10 x5) hr32 H.size x43 n45 s46 E47 e44) (va_cwF 0 hts (gF mw_1425 mw_198 mw_199 mw_182 mw_200) rfl rfl rfl hE.fw2 (by decide +kernel) ⟨Nat.le_of_ble_eq_true rfl, Nat.le_of_ble_eq_true rfl⟩) (hl_preV hP hK hD hE hS hFc (va_recv hK (rdO_ hP hC hr32 e42) (ci := 13) (q0 := 0) rfl rfl)) rfl rfl hl.1 rfl (lv_room (Nat.le_of_ble_eq_true rfl)) dL_rushed_20 ⟨show n37 - n0 + (n45 - n37) ≤ nz - n0 by omega, show s38 - s0 + (s46 - s38) ≤ sz9 - s0 by omega⟩) hS (fun q _ h => hFc q h) hFc (fun u ra t H1 locs ht hvm hw hB hz1 hk1 hS => ?_)
        obtain ⟨ad48, hax, hr49, hP1, hD1⟩ := hB
        rw [ht] at hP1
        have hP := hP1
        have hD := hD1.weaken (fun k q _ h => hFc q.1 h)
        generalize H1 = H at hP hS ⊢
        have hr32 := hr32.mv hC.1 hax
        have hr33 := hr33.mv hC.1 hax
        have hX := hX.trans hax
        have hC := hm.2.2 hC
        have hN : n0 ≤ n45 := Nat.le_trans hN hm1
        have hT : s0 ≤ s46 := Nat.le_trans hT hm2
        refine W.widen (k := n45 - n0) (n := s46 - s0) (by omega) (by omega) ?_
        clear hP1 hD1 hFc hk1 hz1 hvm ht hax hm hm1 hm2 hM1 hM2
        refine my_top (y := .ref (AD nb ad48 x43)) (congrArg Value.ref hr49.2.symm) ?_
        have hr49 := rf_self hr49
        obtain ⟨fs9, e51, hF⟩ := mg_o hF
        refine va_castS hx hb hown (hts _ mw_153) (hK.1 8 _ rfl).2 (va_recv hK (rdO_ hP hC hr49 e51) (ci := 8) (q0 := 0) rfl rfl) dL_rushed_25 ?_
        refine lv_astore_n (lv' := [(3, .ref (AD nb ad48 x43)), (1, .int y31), (2, .ref (AD nb ad10 x5)), (0, .ref Aa1)]) hx hb dL_rushed_28 rfl hl (by decide) rfl (fun ls hl => ?_)
        refine lv_iload_n hx hb dL_rushed_29 rfl (lv_at hl 1 rfl) ?_
        refine lv_aload_n hx hb dL_rushed_30 rfl (lv_at hl 0 rfl) ?_
        obtain ⟨x52, e53, hF⟩ := mg_o hF
        obtain ⟨fs9, h9, g9⟩ := rdI hP hC hr49 e53
        refine va_get (D := (dC, dI)) (ci := 8) (v := .int x52) (C := RX8) (T := TX8) (N := 9) hx hb hts inlX8 hown hK h9 0 rfl rfl 8 (by decide) (hts _ mw_1247) (fun _ h9 => h9) g9 dL_rushed_31 ?_
        clear h9 g9
        obtain ⟨t55, n58, s59, E60, hJ56, hF⟩ := mb_o hF
        have hm := mle hJ56
        have join61 : ∀ (ad57 : Nat → Nat) (H : Heap) (locs : List Loc) (ls : Array Slot), axh n0 ad0 n58 ad57 → rf nb ad57 n58 (x43) ((AD nb ad48 x43)) → rf nb ad57 n58 (x5) ((AD nb ad10 x5)) → rf nb ad57 n58 (a1) (Aa1) → va_P (dC, dI) vwCl (CH cy nb ad57 n58 E60) H → va_D A (CH cy nb ad57 n58 E60) → va_S A s.heap H locs → lv_has ls 4 [(3, .ref (AD nb ad48 x43)), (1, .int y31), (2, .ref (AD nb ad10 x5)), (0, .ref Aa1)] → W p l e (headSpec (wsg yL_rushed cL_rushed 4 (some .int)) ({ frames := 10, cells := nz - n0, slots := sz9 - s0, locals := 500 })).room s m ([.ref Aa1] : List Value).toArray below meth c H locs (n58 - n0) (s59 - s0) Qn (F0 m 42 ls [.int t55, .int y31]) := by
          intro ad57 H locs ls hX hr62 hr63 hr64 hP hD hS hl
          have hC := hm.2.2 hC
          have hN : n0 ≤ n58 := Nat.le_trans hN hm.1
          have hT : s0 ≤ s59 := Nat.le_trans hT hm.2.1
          clear hm
          refine lv_iadd hx hb dL_rushed_42 ?_
          refine lv_istore_n (lv' := [(1, .int (y31 + t55)), (3, .ref (AD nb ad48 x43)), (2, .ref (AD nb ad10 x5)), (0, .ref Aa1)]) hx hb dL_rushed_43 rfl hl (by decide) rfl (fun ls hl => ?_)
          refine lv_goto (tgt := 10) hx hb dL_rushed_44 (by decide) ?_
          have hl := lv_sub (l' := [(1, .int (y31 + t55)), (2, .ref (AD nb ad10 x5)), (0, .ref Aa1)]) hl [0, 2, 3] rfl
          exact ih _ _ _ _ hF hC hN hT _ _ _ _ hX hr63 hr64 hP hD hS hl
        have hK65 := mle1 hF
        have hK66 := mle2 hF
        clear hF hm
        have hF := hJ56
        clear hJ56
        refine lv_if_eq (tgt := 41) hx hb dL_rushed_34 (by decide) (fun c54 => ?_) (fun c54 => ?_)
        · skip
          rw [if_pos c54] at hF
          refine lv_iconst (v := 0) hx hb dL_rushed_41 (by decide) ?_
          obtain ⟨ht9, hn9, hs9, hE9⟩ := mr_o hF
          subst ht9 hn9 hs9 hE9
          have hl := lv_sub (l' := [(3, .ref (AD nb ad48 x43)), (1, .int y31), (2, .ref (AD nb ad10 x5)), (0, .ref Aa1)]) hl [0, 1, 2, 3] rfl
          exact join61 _ _ _ _ hX hr49 hr32 hr33 hP hD hS hl
        · skip
          rw [if_neg c54] at hF
          refine lv_iconst (v := 1) hx hb dL_rushed_37 (by decide) ?_
          refine lv_goto (tgt := 42) hx hb dL_rushed_38 (by decide) ?_
          obtain ⟨ht9, hn9, hs9, hE9⟩ := mr_o hF
          subst ht9 hn9 hs9 hE9
          have hl := lv_sub (l' := [(3, .ref (AD nb ad48 x43)), (1, .int y31), (2, .ref (AD nb ad10 x5)), (0, .ref Aa1)]) hl [0, 1, 2, 3] rfl
          exact join61 _ _ _ _ hX hr49 hr32 hr33 hP hD hS hl
  have hl := lv_sub (l' := [(1, .int 0), (2, .ref (AD nb ad10 x5)), (0, .ref Aa1)]) hl [1, 0, 2] rfl
  exact loop25 FUEL _ _ _ _ hL14 hC hN hT _ _ _ _ hX hr11 ha1 hP hD hS hl
noncomputable def H_L_at (a1 : Nat) (a2 : Int32) : MH Int32 := mb (rL (a1) 1) fun x1 => mb (if x1 ≤ 1 then (mr ((7919 * a2) &&& 2147483647)) else (mb (rL (a1) 1) fun x14 => mb (mp (rm a2 (x14 - 1))) fun x16 => mb (rA (a1) 1 ((x16 + 1))) fun x18 => mr (x18 &&& 2147483647)) : MH (Int32)) fun t4 => mr t4
set_option maxHeartbeats 4000000 in
set_option maxRecDepth 100000 in
theorem h_L_at (l : Launch) (dC : Nat → ClassId) (dI : Nat → Nat → Nat) (cy : Nat → ClassId) (nb : Nat → Nat) (ad0 : Nat → Nat) (n0 s0 : Nat) (E0 : HE) (hC : clo n0 E0) (a1 Aa1 : Nat) (ha1 : rf nb ad0 n0 a1 Aa1) (a2 : Int32) (sz : Nat) (ro : Int32) (nz sz9 : Nat) (Ez : HE) (hF : (H_L_at a1 a2).1 (n0, s0, E0) = some (ro, nz, sz9, Ez)) : Met l yL_at (wsg yL_at cL_at 2 (some .int)) ({ frames := 8, cells := nz - n0, slots := sz9 - s0, locals := 300 }) (va_Pc [.ref Aa1, .int a2] (fun U => U.heap.size = sz ∧ va_P (dC, dI) vwCl (CH cy nb ad0 n0 E0) U.heap ∧ va_K (dC, dI) vwCl (tyL cy) U ∧ va_D (fun _ => True) (CH cy nb ad0 n0 E0) ∧ GL nb (va_A (CH cy nb ad0 n0 E0) sz) U)) (va_Qi (fun (r : Int32) (_ : Unit) => r = ro) (fun _ t => ∃ ad2 : Nat → Nat, axh n0 ad0 nz ad2 ∧ va_P (dC, dI) vwCl (CH cy nb ad2 nz Ez) t.heap ∧ va_D (va_A (CH cy nb ad0 n0 E0) sz) (CH cy nb ad2 nz Ez)) (va_A (CH cy nb ad0 n0 E0) sz)) (nz - n0) (sz9 - s0) (va_A (CH cy nb ad0 n0 E0) sz) := by
  refine Met.ofW (cc := cL_at) (maxL := 2) (ret := (some .int)) (by decide) rfl ?_
  intro p e s m args below meth c s₁ B hml hv
  obtain ⟨rfl, hsz, hP, hK, hD0, hE⟩ := hv
  have hx := B.exec
  have hb := B.bytes
  have hr := B.returns
  have hts0 := atoms_spec (ws := (wsg yL_at cL_at 2 (some .int))) B.pre
  have hts : ∀ w ∈ wsL_law, w.before _ s = true := fun w h => hts0 w (List.mem_cons_of_mem _ h)
  have hown : s.vm.findClass RL = some m.cls := by have h9 := findClass_of_methodNamed B.named; exact h9
  subst hsz
  have hD := hD0.self (sz := s.heap.size)
  generalize hAe : va_A (CH cy nb ad0 n0 E0) s.heap.size = A at hD hE ⊢
  have hA : ∀ q : Nat, s.heap.size ≤ q → A q := fun q h => by rw [← hAe]; exact Or.inr h
  have hS : va_S A s.heap s.heap [] := va_S.rf
  have hl := lv_entry ([.ref Aa1, .int a2]) (n := 2) (Nat.le_of_ble_eq_true rfl)
  rw [lg_entry_eq]
  generalize (lg_sl ([.ref Aa1, .int a2]) ++ List.replicate (2 - (lg_sl ([.ref Aa1, .int a2])).length) Slot.unset).toArray = ls at hl ⊢
  have hl : lv_has ls 2 [(0, .ref Aa1), (1, .int a2)] := hl
  generalize hHe : s.heap = H at hP hS ⊢
  have hS : va_S A s.heap H [] := by rw [hHe]; exact hS
  refine my_Q (fun Qn hQ => ?_)
  simp only [H_L_at] at hF
  have hX : axh n0 ad0 n0 ad0 := axh_refl
  have hN : n0 ≤ n0 := Nat.le_refl _
  have hT : s0 ≤ s0 := Nat.le_refl _
  refine W.widen (k := n0 - n0) (n := s0 - s0) (by omega) (by omega) ?_
  refine lv_aload_n hx hb dL_at_0 rfl (lv_at hl 0 rfl) ?_
  obtain ⟨x1, e2, hF⟩ := mg_o hF
  obtain ⟨m9, f9, h9, g9⟩ := rdL hP hC ha1 e2
  refine va_alen hx hb hK h9 0 1 rfl (ty := .int) rfl g9 dL_at_1 ?_
  clear h9 g9
  refine lv_iconst (v := 1) hx hb dL_at_2 (by decide) ?_
  obtain ⟨t4, n7, s8, E9, hJ5, hF⟩ := mb_o hF
  have hm := mle hJ5
  have join10 : ∀ (ad6 : Nat → Nat) (H : Heap) (locs : List Loc) (ls : Array Slot), axh n0 ad0 n7 ad6 → rf nb ad6 n7 (a1) (Aa1) → va_P (dC, dI) vwCl (CH cy nb ad6 n7 E9) H → va_D A (CH cy nb ad6 n7 E9) → va_S A s.heap H locs → lv_has ls 2 [(0, .ref Aa1), (1, .int a2)] → W p l e (headSpec (wsg yL_at cL_at 2 (some .int)) ({ frames := 8, cells := nz - n0, slots := sz9 - s0, locals := 300 })).room s m ([.ref Aa1, .int a2] : List Value).toArray below meth c H locs (n7 - n0) (s8 - s0) Qn (F0 m 30 ls [.int t4]) := by
    intro ad6 H locs ls hX hr11 hP hD hS hl
    have hC := hm.2.2 hC
    have hN : n0 ≤ n7 := Nat.le_trans hN hm.1
    have hT : s0 ≤ s8 := Nat.le_trans hT hm.2.1
    clear hm
    obtain ⟨ht9, hn9, hs9, hE9⟩ := mr_o hF
    subst hn9 hs9 hE9
    have hX9 := hX
    rw [hQ]
    exact W.iret (v := t4) hx hb hr (fun t ht hW => ⟨⟨t4, (), rfl, ht9, _, hX, by rw [ht]; exact hP, hD⟩, hS.F ht⟩) hS.2.2 dL_at_30
  have hK12 := mle1 hF
  have hK13 := mle2 hF
  clear hF hm
  have hF := hJ5
  clear hJ5
  refine lv_icmp_le (tgt := 22) hx hb dL_at_3 (by decide) (fun c3 => ?_) (fun c3 => ?_)
  · skip
    rw [if_pos c3] at hF
    refine lv_sipush (v := 7919) hx hb dL_at_22 (by decide) ?_
    refine lv_iload_n hx hb dL_at_25 rfl (lv_at hl 1 rfl) ?_
    refine lv_imul hx hb dL_at_26 ?_
    refine lv_ldc (v := 2147483647) hx hb hown (hts _ mw_617) dL_at_27 ?_
    refine lv_iand hx hb dL_at_29 ?_
    obtain ⟨ht9, hn9, hs9, hE9⟩ := mr_o hF
    subst ht9 hn9 hs9 hE9
    have hl := lv_sub (l' := [(0, .ref Aa1), (1, .int a2)]) hl [0, 1] rfl
    exact join10 _ _ _ _ hX ha1 hP hD hS hl
  · skip
    rw [if_neg c3] at hF
    refine lv_aload_n hx hb dL_at_6 rfl (lv_at hl 0 rfl) ?_
    refine lv_iload_n hx hb dL_at_7 rfl (lv_at hl 1 rfl) ?_
    refine lv_aload_n hx hb dL_at_8 rfl (lv_at hl 0 rfl) ?_
    obtain ⟨x14, e15, hF⟩ := mg_o hF
    obtain ⟨m9, f9, h9, g9⟩ := rdL hP hC ha1 e15
    refine va_alen hx hb hK h9 0 1 rfl (ty := .int) rfl g9 dL_at_9 ?_
    clear h9 g9
    refine lv_iconst (v := 1) hx hb dL_at_10 (by decide) ?_
    refine lv_isub hx hb dL_at_11 ?_
    obtain ⟨x16, e17, hF⟩ := mp_o hF
    refine lv_irem hx hb dL_at_12 (rm_ne e17) ?_
    refine my_topi (y := x16) (rm_eq e17) ?_
    refine lv_iconst (v := 1) hx hb dL_at_13 (by decide) ?_
    refine lv_iadd hx hb dL_at_14 ?_
    obtain ⟨x18, e19, hF⟩ := mg_o hF
    obtain ⟨m9, f9, h9, i9, g9⟩ := rdA hP hC ha1 e19
    refine va_iald hx hb hK h9 0 1 rfl rfl i9 dL_at_15 ?_
    refine my_topi (y := x18) g9 ?_
    clear h9 i9 g9
    refine lv_ldc (v := 2147483647) hx hb hown (hts _ mw_617) dL_at_16 ?_
    refine lv_iand hx hb dL_at_18 ?_
    refine lv_goto (tgt := 30) hx hb dL_at_19 (by decide) ?_
    obtain ⟨ht9, hn9, hs9, hE9⟩ := mr_o hF
    subst ht9 hn9 hs9 hE9
    have hl := lv_sub (l' := [(0, .ref Aa1), (1, .int a2)]) hl [0, 1] rfl
    exact join10 _ _ _ _ hX ha1 hP hD hS hl
noncomputable def H_L_textOf_L335 (t153 : Nat) (t141 : Nat) (t130 : Int32) (x123 : Int32) (x102 : Int32) (x98 : Int32) (x92 : Int32) (y87 : Int32) (x19 : Int32) (x13 : Int32) (x4 : Nat) (a1 : Nat) (a2 : Int32) (a3 : Nat) : Nat → Int32 → MH (Int32)
  | 0, _ => m0
  | m249 + 1, y254 => if (2 + x123) ≤ y254 then (mr y254) else (mb (mg fun n E => fO n E (a3) 1) fun _ => mb (H_J4_append_15ec4 (a3) (t153)) fun x262 => H_L_textOf_L335 t153 t141 t130 x123 x102 x98 x92 y87 x19 x13 x4 a1 a2 a3 m249 ((y254 + 1)))
noncomputable def H_L_textOf_L26 (x19 : Int32) (x13 : Int32) (x4 : Nat) (a1 : Nat) (a2 : Int32) (a3 : Nat) : Nat → Int32 → MH (Int32)
  | 0, _ => m0
  | m82 + 1, y87 => if (1 + x19) ≤ y87 then (mr y87) else (mb (H_L_at (a1) (((a2 + 1) + y87))) fun x92 => mb (mp (rm x92 26)) fun x98 => mb (mp (dv x92 32)) fun x100 => mb (mp (rm x100 26)) fun x102 => mb (mp (dv x92 1024)) fun x104 => mb (mp (rm x104 3)) fun x106 => mb (if x106 ≤ 0 then (mb (mp (dv x92 4096)) fun x121 => mb (mp (rm x121 2)) fun x123 => mb (mp (dv x92 8192)) fun x125 => mb (mp (rm x125 4)) fun x127 => mb (if x127 = 0 then (if y87 = 0 then (mr (1 : Int32)) else (mr (0 : Int32))) else (mr (0 : Int32)) : MH (Int32)) fun t130 => mb (if t130 = 0 then (mb (mn 4 (.inr (1, [.null, .int 0, .int 0, .int 0])) nok_J4) fun x327 => mb (H_J4_init_da8c8 (x327)) fun _ => mb (mg fun n E => fO n E (x327) 1) fun _ => mb (H_J4_append_cf468 (x327) ((((97 + x98).toUInt32 % 65536).toInt32))) fun x337 => mb (mg fun n E => fO n E (x337) 1) fun _ => mb (H_J4_append_15ec4 (x337) (1001002)) fun x346 => mb (mp (dv x92 32768)) fun x354 => mb (mp (rm x354 2)) fun x356 => mb (if x356 = 0 then (mb (H_J11_valueOf_f0083 ((((97 + x102).toUInt32 % 65536).toInt32))) fun x391 => mr x391) else (mr 1001002) : MH (Nat)) fun t359 => mb (mg fun n E => fO n E (x346) 1) fun _ => mb (H_J4_append_533cd (x346) (t359)) fun x372 => mb (mg fun n E => fO n E (x372) 1) fun _ => mb (H_J4_toString_0e30d (x372)) fun x381 => mr x381) else (mb (mn 4 (.inr (1, [.null, .int 0, .int 0, .int 0])) nok_J4) fun x402 => mb (H_J4_init_da8c8 (x402)) fun _ => mb (mg fun n E => fO n E (x402) 1) fun _ => mb (H_J4_append_15ec4 (x402) (1001004)) fun x412 => mb (mg fun n E => fO n E (x412) 1) fun _ => mb (H_J4_append_cf468 (x412) ((((97 + x98).toUInt32 % 65536).toInt32))) fun x421 => mb (mg fun n E => fO n E (x421) 1) fun _ => mb (H_J4_append_15ec4 (x421) (1001006)) fun x430 => mb (mg fun n E => fO n E (x430) 1) fun _ => mb (H_J4_toString_0e30d (x430)) fun x439 => mr x439) : MH (Nat)) fun t141 => mb (if t130 = 0 then (mr t141) else (mb (mn 4 (.inr (1, [.null, .int 0, .int 0, .int 0])) nok_J4) fun x277 => mb (H_J4_init_da8c8 (x277)) fun _ => mb (mg fun n E => fO n E (x277) 1) fun _ => mb (H_J4_append_15ec4 (x277) (1001002)) fun x287 => mb (mg fun n E => fO n E (x287) 1) fun _ => mb (H_J4_append_cf468 (x287) ((((97 + x98).toUInt32 % 65536).toInt32))) fun x296 => mb (mg fun n E => fO n E (x296) 1) fun _ => mb (H_J4_append_cf468 (x296) ((((97 + x98).toUInt32 % 65536).toInt32))) fun x305 => mb (mg fun n E => fO n E (x305) 1) fun _ => mb (H_J4_toString_0e30d (x305)) fun x314 => mr x314) : MH (Nat)) fun t153 => mb (mg fun n E => fO n E (a3) 1) fun _ => mb (H_J4_length_8abf5 (a3)) fun x166 => mb (mg fun n E => sOk n E (t153)) fun _ => mb (H_J0_length_8abf5 (t153)) fun x173 => if (x166 + ((2 + x123) * x173)) ≤ 16 then (mb (mg fun n E => fO n E (x4) 1) fun _ => mb (H_J4_append_bf812 (x4) ((2 + x123))) fun x181 => mb (mp (rm y87 2)) fun x189 => mb (if x189 = 0 then (mr 1001008) else (mr 1001010) : MH (Nat)) fun t192 => mb (mg fun n E => fO n E (x181) 1) fun _ => mb (H_J4_append_15ec4 (x181) (t192)) fun x207 => mb (mg fun n E => fO n E (x207) 1) fun _ => mb (H_J4_append_15ec4 (x207) (t141)) fun x216 => mb (mg fun n E => fO n E (x216) 1) fun _ => mb (H_J4_append_15ec4 (x216) (1001006)) fun x225 => mb (H_L_textOf_L335 t153 t141 t130 x123 x102 x98 x92 y87 x19 x13 x4 a1 a2 a3 FUEL ((0 : Int32))) fun t233 => mr ()) else (mr ())) else (mb (mg fun n E => fO n E (a3) 1) fun _ => mb (H_J4_length_8abf5 (a3)) fun x451 => if x451 = 16 then (mr ()) else (mb (mg fun n E => fO n E (a3) 1) fun _ => mb (H_J4_append_cf468 (a3) ((((97 + x98).toUInt32 % 65536).toInt32))) fun x459 => mb (mp (rm y87 2)) fun x467 => mb (if x467 = 0 then (mr 1001000) else (mr 1001002) : MH (Nat)) fun t470 => mb (mg fun n E => fO n E (x4) 1) fun _ => mb (H_J4_append_15ec4 (x4) (t470)) fun x482 => mb (mg fun n E => fO n E (x482) 1) fun _ => mb (H_J4_append_cf468 (x482) ((((97 + x98).toUInt32 % 65536).toInt32))) fun x491 => mr ())) : MH (Unit)) fun t109 => H_L_textOf_L26 x19 x13 x4 a1 a2 a3 m82 ((y87 + 1)))
noncomputable def H_L_textOf (a1 : Nat) (a2 : Int32) (a3 : Nat) : MH Nat := mb (mn 4 (.inr (1, [.null, .int 0, .int 0, .int 0])) nok_J4) fun x4 => mb (H_J4_init_da8c8 (x4)) fun _ => mb (H_L_at (a1) (a2)) fun x13 => mb (mp (rm x13 4)) fun x19 => mb (H_L_textOf_L26 x19 x13 x4 a1 a2 a3 FUEL ((0 : Int32))) fun t21 => mb (mg fun n E => fO n E (a3) 1) fun _ => mb (H_J4_length_8abf5 (a3)) fun x33 => mb (if x33 = 0 then (mb (mg fun n E => fO n E (a3) 1) fun _ => mb (H_J4_append_cf468 (a3) (113)) fun x62 => mb (mg fun n E => fO n E (x4) 1) fun _ => mb (H_J4_append_cf468 (x4) (113)) fun x71 => mr ()) else (mr ()) : MH (Unit)) fun t40 => mb (mg fun n E => fO n E (x4) 1) fun _ => mb (H_J4_toString_0e30d (x4)) fun x51 => mr x51
set_option maxHeartbeats 4000000 in
set_option maxRecDepth 100000 in
theorem h_L_textOf (l : Launch) (dC : Nat → ClassId) (dI : Nat → Nat → Nat) (cy : Nat → ClassId) (nb : Nat → Nat) (ad0 : Nat → Nat) (n0 s0 : Nat) (E0 : HE) (hC : clo n0 E0) (a1 Aa1 : Nat) (ha1 : rf nb ad0 n0 a1 Aa1) (a2 : Int32) (a3 Aa3 : Nat) (ha3 : rf nb ad0 n0 a3 Aa3) (sz : Nat) (ro : Nat) (nz sz9 : Nat) (Ez : HE) (hF : (H_L_textOf a1 a2 a3).1 (n0, s0, E0) = some (ro, nz, sz9, Ez)) : Met l yL_textOf (wsg yL_textOf cL_textOf 15 (some (.object "java/lang/String"))) ({ frames := 14, cells := nz - n0, slots := sz9 - s0, locals := 900 }) (va_Pc [.ref Aa1, .int a2, .ref Aa3] (fun U => U.heap.size = sz ∧ va_P (dC, dI) vwCl (CH cy nb ad0 n0 E0) U.heap ∧ va_K (dC, dI) vwCl (tyL cy) U ∧ va_D (fun _ => True) (CH cy nb ad0 n0 E0) ∧ GL nb (va_A (CH cy nb ad0 n0 E0) sz) U)) (va_Qr (fun (_ : Unit) => True) (fun _ ra t => ∃ ad2 : Nat → Nat, axh n0 ad0 nz ad2 ∧ rf nb ad2 nz ro ra ∧ va_P (dC, dI) vwCl (CH cy nb ad2 nz Ez) t.heap ∧ va_D (va_A (CH cy nb ad0 n0 E0) sz) (CH cy nb ad2 nz Ez)) (va_A (CH cy nb ad0 n0 E0) sz)) (nz - n0) (sz9 - s0) (va_A (CH cy nb ad0 n0 E0) sz) := by
  refine Met.ofW (cc := cL_textOf) (maxL := 15) (ret := (some (.object "java/lang/String"))) (by decide) rfl ?_
  intro p e s m args below meth c s₁ B hml hv
  obtain ⟨rfl, hsz, hP, hK, hD0, hE⟩ := hv
  have hx := B.exec
  have hb := B.bytes
  have hr := B.returns
  have hts0 := atoms_spec (ws := (wsg yL_textOf cL_textOf 15 (some (.object "java/lang/String")))) B.pre
  have hts : ∀ w ∈ wsL_law, w.before _ s = true := fun w h => hts0 w (List.mem_cons_of_mem _ h)
  have hown : s.vm.findClass RL = some m.cls := by have h9 := findClass_of_methodNamed B.named; exact h9
  subst hsz
  have hD := hD0.self (sz := s.heap.size)
  generalize hAe : va_A (CH cy nb ad0 n0 E0) s.heap.size = A at hD hE ⊢
  have hA : ∀ q : Nat, s.heap.size ≤ q → A q := fun q h => by rw [← hAe]; exact Or.inr h
  have hS : va_S A s.heap s.heap [] := va_S.rf
  have hl := lv_entry ([.ref Aa1, .int a2, .ref Aa3]) (n := 15) (Nat.le_of_ble_eq_true rfl)
  rw [lg_entry_eq]
  generalize (lg_sl ([.ref Aa1, .int a2, .ref Aa3]) ++ List.replicate (15 - (lg_sl ([.ref Aa1, .int a2, .ref Aa3])).length) Slot.unset).toArray = ls at hl ⊢
  have hl : lv_has ls 15 [(0, .ref Aa1), (1, .int a2), (2, .ref Aa3)] := hl
  generalize hHe : s.heap = H at hP hS ⊢
  have hS : va_S A s.heap H [] := by rw [hHe]; exact hS
  refine my_Q (fun Qn hQ => ?_)
  simp only [H_L_textOf] at hF
  have hX : axh n0 ad0 n0 ad0 := axh_refl
  have hN : n0 ≤ n0 := Nat.le_refl _
  have hT : s0 ≤ s0 := Nat.le_refl _
  refine W.widen (k := n0 - n0) (n := s0 - s0) (by omega) (by omega) ?_
  obtain ⟨x4, n1, s2, E3, hq, hF⟩ := mn_o hF
  have hM1 := mle1 hF
  have hM2 := mle2 hF
  have hq9 := hq.2.1
  have hq8 := hq.2.2.1
  refine va_new (ci := 1) (fs := [.null, .int 0, .int 0, .int 0]) (C := RJ4) (T := TJ4) (N := 4) hx hb hts inlJ4 tyJ4 tyJ4_ok hown (hts _ mw_6) (hts _ mw_7) (hts _ mw_8) hK hP hD hS hA rfl (fun j hj => by match j, hj with | 0, _ => rfl | 1, _ => rfl | 2, _ => rfl | 3, _ => rfl | (n+4), h => omega) (show n0 - n0 + 1 ≤ nz - n0 by omega) (show s0 - s0 + 4 ≤ sz9 - s0 by omega) dL_textOf_0 (fun q5 H hP hD hS => ?_)
  obtain ⟨ad6, hax, hr7, hC9, hw9⟩ := new_w (cy := cy) (nb := nb) (ad := ad0) (e := .inr (1, [.null, .int 0, .int 0, .int 0])) nok_J4 (fun _ => rfl) hC q5 hq
  rw [hw9] at hP hD
  have ha1 := ha1.mv hC.1 hax
  have ha3 := ha3.mv hC.1 hax
  have hX := hX.trans hax
  have hC := hC9
  obtain ⟨-, hq1, hq2, -, -⟩ := hq
  have hN : n0 ≤ n1 := by omega
  have hT : s0 ≤ s2 := by omega
  refine W.widen (k := n1 - n0) (n := s2 - s0) (by omega) (by omega) ?_
  clear hM1 hM2 hax hC9 hw9 hq1 hq2 hq8 hq9
  refine lv_dup hx hb dL_textOf_3 rfl ?_
  obtain ⟨⟨⟩, n9, s10, E11, e8, hF⟩ := mb_o hF
  have hm := mle e8
  have hM1 := mle1 hF
  have hM2 := mle2 hF
  have hm1 := hm.1
  have hm2 := hm.2.1
  have hFc := my_free hD hS hA
  refine va_callv (va_runI (As := []) (rest := [.ref q5]) ⟨hx, hb, hml, hown, hts⟩ (h_J4_init_da8c8 l dC dI cy nb ad6 n1 s2 E3 hC (x4) q5 hr7 H.size n9 s10 E11 e8) (cwI 0 hts (gI mw_583) rfl rfl rfl (hts _ mw_8) (hts _ mw_581) (hts _ mw_582) rfl (by decide +kernel) ⟨Nat.le_of_ble_eq_true rfl, Nat.le_of_ble_eq_true rfl⟩) (hl_preS hP hK hD hE hS hFc) rfl rfl hl.1 rfl (lv_room (Nat.le_of_ble_eq_true rfl)) dL_textOf_4 ⟨show n1 - n0 + (n9 - n1) ≤ nz - n0 by omega, show s2 - s0 + (s10 - s2) ≤ sz9 - s0 by omega⟩) hS (fun q _ h => hFc q h) hFc (fun u t H1 locs ht hvm hw hB hz1 hk1 hS => ?_)
  obtain ⟨ad12, hax, hP1, hD1⟩ := hB
  rw [ht] at hP1
  have hP := hP1
  have hD := hD1.weaken (fun k q _ h => hFc q.1 h)
  generalize H1 = H at hP hS ⊢
  have ha1 := ha1.mv hC.1 hax
  have ha3 := ha3.mv hC.1 hax
  have hr7 := hr7.mv hC.1 hax
  have hX := hX.trans hax
  have hC := hm.2.2 hC
  have hN : n0 ≤ n9 := Nat.le_trans hN hm1
  have hT : s0 ≤ s10 := Nat.le_trans hT hm2
  refine W.widen (k := n9 - n0) (n := s10 - s0) (by omega) (by omega) ?_
  clear hP1 hD1 hFc hk1 hz1 hvm ht hax hm hm1 hm2 hM1 hM2
  refine lv_astore_n (lv' := [(3, .ref q5), (0, .ref Aa1), (1, .int a2), (2, .ref Aa3)]) hx hb dL_textOf_7 rfl hl (by decide) rfl (fun ls hl => ?_)
  refine lv_aload_n hx hb dL_textOf_8 rfl (lv_at hl 1 rfl) ?_
  refine lv_iload_n hx hb dL_textOf_9 rfl (lv_at hl 2 rfl) ?_
  obtain ⟨x13, n15, s16, E17, e14, hF⟩ := mb_o hF
  have hm := mle e14
  have hM1 := mle1 hF
  have hM2 := mle2 hF
  have hm1 := hm.1
  have hm2 := hm.2.1
  have hFc := my_free hD hS hA
  refine va_calli (va_runS (As := [.ref Aa1, .int a2]) (rest := []) ⟨hx, hb, hml, hown, hts⟩ (h_L_at l dC dI cy nb ad12 n9 s10 E11 hC (a1) Aa1 ha1 (a2) H.size x13 n15 s16 E17 e14) (va_cwS 2 hts (gS mw_614 mw_615 mw_129 mw_616) rfl rfl rfl (by decide +kernel) ⟨Nat.le_of_ble_eq_true rfl, Nat.le_of_ble_eq_true rfl⟩) (hl_preS hP hK hD hE hS hFc) rfl rfl hl.1 rfl (lv_room (Nat.le_of_ble_eq_true rfl)) dL_textOf_10 ⟨show n9 - n0 + (n15 - n9) ≤ nz - n0 by omega, show s10 - s0 + (s16 - s10) ≤ sz9 - s0 by omega⟩) hS (fun q _ h => hFc q h) hFc (fun r9 u t H1 locs ht hvm hw hB hz1 hk1 hS => ?_)
  obtain ⟨ad18, hax, hP1, hD1⟩ := hB
  rw [ht] at hP1
  have hP := hP1
  have hD := hD1.weaken (fun k q _ h => hFc q.1 h)
  generalize H1 = H at hP hS ⊢
  have hr7 := hr7.mv hC.1 hax
  have ha1 := ha1.mv hC.1 hax
  have ha3 := ha3.mv hC.1 hax
  have hX := hX.trans hax
  have hC := hm.2.2 hC
  have hN : n0 ≤ n15 := Nat.le_trans hN hm1
  have hT : s0 ≤ s16 := Nat.le_trans hT hm2
  refine W.widen (k := n15 - n0) (n := s16 - s0) (by omega) (by omega) ?_
  clear hP1 hD1 hFc hk1 hz1 hvm ht hax hm hm1 hm2 hM1 hM2
  obtain rfl := hw.symm
  refine lv_istore (lv' := [(4, .int x13), (3, .ref q5), (0, .ref Aa1), (1, .int a2), (2, .ref Aa3)]) hx hb dL_textOf_13 hl (by decide) rfl (fun ls hl => ?_)
  refine lv_iconst (v := 1) hx hb dL_textOf_15 (by decide) ?_
  refine lv_iload hx hb dL_textOf_16 (lv_at hl 0 rfl) ?_
  refine lv_iconst (v := 4) hx hb dL_textOf_18 (by decide) ?_
  obtain ⟨x19, e20, hF⟩ := mp_o hF
  refine lv_irem hx hb dL_textOf_19 (rm_ne e20) ?_
  refine my_topi (y := x19) (rm_eq e20) ?_
  refine lv_iadd hx hb dL_textOf_20 ?_
  refine lv_istore (lv' := [(5, .int (1 + x19)), (4, .int x13), (3, .ref q5), (0, .ref Aa1), (1, .int a2), (2, .ref Aa3)]) hx hb dL_textOf_21 hl (by decide) rfl (fun ls hl => ?_)
  refine lv_iconst (v := 0) hx hb dL_textOf_23 (by decide) ?_
  refine lv_istore (lv' := [(6, .int 0), (5, .int (1 + x19)), (4, .int x13), (3, .ref q5), (0, .ref Aa1), (1, .int a2), (2, .ref Aa3)]) hx hb dL_textOf_24 hl (by decide) rfl (fun ls hl => ?_)
  obtain ⟨t21, n23, s24, E25, hL22, hF⟩ := mb_o hF
  have hm := mle hL22
  have kx27 : ∀ (ad26 : Nat → Nat) (H : Heap) (locs : List Loc) (ls : Array Slot), axh n0 ad0 n23 ad26 → rf nb ad26 n23 (x4) (q5) → rf nb ad26 n23 (a1) (Aa1) → rf nb ad26 n23 (a3) (Aa3) → va_P (dC, dI) vwCl (CH cy nb ad26 n23 E25) H → va_D A (CH cy nb ad26 n23 E25) → va_S A s.heap H locs → lv_has ls 15 [(6, .int t21), (5, .int (1 + x19)), (4, .int x13), (3, .ref q5), (0, .ref Aa1), (1, .int a2), (2, .ref Aa3)] → W p l e (headSpec (wsg yL_textOf cL_textOf 15 (some (.object "java/lang/String"))) ({ frames := 14, cells := nz - n0, slots := sz9 - s0, locals := 900 })).room s m ([.ref Aa1, .int a2, .ref Aa3] : List Value).toArray below meth c H locs (n23 - n0) (s24 - s0) Qn (F0 m 361 ls []) := by
    intro ad26 H locs ls hX hr29 hr30 hr31 hP hD hS hl
    have hC := hm.2.2 hC
    have hN : n0 ≤ n23 := Nat.le_trans hN hm.1
    have hT : s0 ≤ s24 := Nat.le_trans hT hm.2.1
    clear hm
    refine lv_aload_n hx hb dL_textOf_361 rfl (lv_at hl 6 rfl) ?_
    obtain ⟨fs9, e32, hF⟩ := mg_o hF
    obtain ⟨x33, n35, s36, E37, e34, hF⟩ := mb_o hF
    have hm := mle e34
    have hM1 := mle1 hF
    have hM2 := mle2 hF
    have hm1 := hm.1
    have hm2 := hm.2.1
    have hFc := my_free hD hS hA
    refine va_calli (va_runV (C := RJ4) (As := []) (rest := []) ⟨hx, hb, hml, hown, hts⟩ (h_J4_length_8abf5 l dC dI cy nb ad26 n23 s24 E25 hC (a3) Aa3 hr31 H.size x33 n35 s36 E37 e34) (cwV 0 hts (gV mw_1042 mw_803 mw_1043 mw_8 mw_804) rfl rfl rfl (by decide +kernel) ⟨Nat.le_of_ble_eq_true rfl, Nat.le_of_ble_eq_true rfl⟩) (hl_preV hP hK hD hE hS hFc (va_recv hK (rdO_ hP hC hr31 e32) (ci := 1) (q0 := 0) rfl rfl)) rfl rfl hl.1 rfl (lv_room (Nat.le_of_ble_eq_true rfl)) dL_textOf_362 ⟨show n23 - n0 + (n35 - n23) ≤ nz - n0 by omega, show s24 - s0 + (s36 - s24) ≤ sz9 - s0 by omega⟩) hS (fun q _ h => hFc q h) hFc (fun r9 u t H1 locs ht hvm hw hB hz1 hk1 hS => ?_)
    obtain ⟨ad38, hax, hP1, hD1⟩ := hB
    rw [ht] at hP1
    have hP := hP1
    have hD := hD1.weaken (fun k q _ h => hFc q.1 h)
    generalize H1 = H at hP hS ⊢
    have hr29 := hr29.mv hC.1 hax
    have hr30 := hr30.mv hC.1 hax
    have hr31 := hr31.mv hC.1 hax
    have hX := hX.trans hax
    have hC := hm.2.2 hC
    have hN : n0 ≤ n35 := Nat.le_trans hN hm1
    have hT : s0 ≤ s36 := Nat.le_trans hT hm2
    refine W.widen (k := n35 - n0) (n := s36 - s0) (by omega) (by omega) ?_
    clear hP1 hD1 hFc hk1 hz1 hvm ht hax hm hm1 hm2 hM1 hM2
    obtain rfl := hw.symm
    obtain ⟨t40, n43, s44, E45, hJ41, hF⟩ := mb_o hF
    have hm := mle hJ41
    have join46 : ∀ (ad42 : Nat → Nat) (H : Heap) (locs : List Loc) (ls : Array Slot), axh n0 ad0 n43 ad42 → rf nb ad42 n43 (x4) (q5) → rf nb ad42 n43 (a1) (Aa1) → rf nb ad42 n43 (a3) (Aa3) → va_P (dC, dI) vwCl (CH cy nb ad42 n43 E45) H → va_D A (CH cy nb ad42 n43 E45) → va_S A s.heap H locs → lv_has ls 15 [(6, .int t21), (5, .int (1 + x19)), (4, .int x13), (3, .ref q5), (0, .ref Aa1), (1, .int a2), (2, .ref Aa3)] → W p l e (headSpec (wsg yL_textOf cL_textOf 15 (some (.object "java/lang/String"))) ({ frames := 14, cells := nz - n0, slots := sz9 - s0, locals := 900 })).room s m ([.ref Aa1, .int a2, .ref Aa3] : List Value).toArray below meth c H locs (n43 - n0) (s44 - s0) Qn (F0 m 382 ls []) := by
      intro ad42 H locs ls hX hr47 hr48 hr49 hP hD hS hl
      have hC := hm.2.2 hC
      have hN : n0 ≤ n43 := Nat.le_trans hN hm.1
      have hT : s0 ≤ s44 := Nat.le_trans hT hm.2.1
      clear hm
      refine lv_aload_n hx hb dL_textOf_382 rfl (lv_at hl 3 rfl) ?_
      obtain ⟨fs9, e50, hF⟩ := mg_o hF
      obtain ⟨x51, n53, s54, E55, e52, hF⟩ := mb_o hF
      have hm := mle e52
      have hM1 := mle1 hF
      have hM2 := mle2 hF
      have hm1 := hm.1
      have hm2 := hm.2.1
      have hFc := my_free hD hS hA
      refine va_callr (va_runV (C := RJ4) (As := []) (rest := []) ⟨hx, hb, hml, hown, hts⟩ (h_J4_toString_0e30d l dC dI cy nb ad42 n43 s44 E45 hC (x4) q5 hr47 H.size x51 n53 s54 E55 e52) (cwV 0 hts (gV mw_780 mw_781 mw_782 mw_8 mw_783) rfl rfl rfl (by decide +kernel) ⟨Nat.le_of_ble_eq_true rfl, Nat.le_of_ble_eq_true rfl⟩) (hl_preV hP hK hD hE hS hFc (va_recv hK (rdO_ hP hC hr47 e50) (ci := 1) (q0 := 0) rfl rfl)) rfl rfl hl.1 rfl (lv_room (Nat.le_of_ble_eq_true rfl)) dL_textOf_383 ⟨show n43 - n0 + (n53 - n43) ≤ nz - n0 by omega, show s44 - s0 + (s54 - s44) ≤ sz9 - s0 by omega⟩) hS (fun q _ h => hFc q h) hFc (fun u ra t H1 locs ht hvm hw hB hz1 hk1 hS => ?_)
      obtain ⟨ad56, hax, hr57, hP1, hD1⟩ := hB
      rw [ht] at hP1
      have hP := hP1
      have hD := hD1.weaken (fun k q _ h => hFc q.1 h)
      generalize H1 = H at hP hS ⊢
      have hr47 := hr47.mv hC.1 hax
      have hr48 := hr48.mv hC.1 hax
      have hr49 := hr49.mv hC.1 hax
      have hX := hX.trans hax
      have hC := hm.2.2 hC
      have hN : n0 ≤ n53 := Nat.le_trans hN hm1
      have hT : s0 ≤ s54 := Nat.le_trans hT hm2
      refine W.widen (k := n53 - n0) (n := s54 - s0) (by omega) (by omega) ?_
      clear hP1 hD1 hFc hk1 hz1 hvm ht hax hm hm1 hm2 hM1 hM2
      refine my_top (y := .ref (AD nb ad56 x51)) (congrArg Value.ref hr57.2.symm) ?_
      have hr57 := rf_self hr57
      obtain ⟨ht9, hn9, hs9, hE9⟩ := mr_o hF
      subst hn9 hs9 hE9
      have hX9 := hX
      rw [hQ]
      exact W.aret (v := .ref (AD nb ad56 x51)) hx hb hr (by first | exact Or.inl ⟨_, rfl⟩ | exact Or.inr ⟨_, rfl⟩) (Or.inr ⟨_, rfl⟩) (fun t ht hW => ⟨⟨(), (AD nb ad56 x51), rfl, trivial, _, hX, (by rw [← ht9]; exact hr57), by rw [ht]; exact hP, hD⟩, hS.F ht⟩) hS.2.2 dL_textOf_386
    have hK59 := mle1 hF
    have hK60 := mle2 hF
    clear hF hm
    have hF := hJ41
    clear hJ41
    refine lv_if_ne (tgt := 382) hx hb dL_textOf_365 (by decide) (fun c39 => ?_) (fun c39 => ?_)
    · skip
      rw [if_neg c39] at hF
      obtain ⟨ht9, hn9, hs9, hE9⟩ := mr_o hF
      subst ht9 hn9 hs9 hE9
      have hl := lv_sub (l' := [(6, .int t21), (5, .int (1 + x19)), (4, .int x13), (3, .ref q5), (0, .ref Aa1), (1, .int a2), (2, .ref Aa3)]) hl [0, 1, 2, 3, 4, 5, 6] rfl
      exact join46 _ _ _ _ hX hr29 hr30 hr31 hP hD hS hl
    · skip
      rw [if_pos c39] at hF
      refine lv_aload_n hx hb dL_textOf_368 rfl (lv_at hl 6 rfl) ?_
      refine lv_bipush (v := 113) hx hb dL_textOf_369 (by decide) ?_
      obtain ⟨fs9, e61, hF⟩ := mg_o hF
      obtain ⟨x62, n64, s65, E66, e63, hF⟩ := mb_o hF
      have hm := mle e63
      have hM1 := mle1 hF
      have hM2 := mle2 hF
      have hm1 := hm.1
      have hm2 := hm.2.1
      have hFc := my_free hD hS hA
      refine va_callr (va_runV (C := RJ4) (As := [.int 113]) (rest := []) ⟨hx, hb, hml, hown, hts⟩ (h_J4_append_cf468 l dC dI cy nb ad38 n35 s36 E37 hC (a3) Aa3 hr31 (113) H.size x62 n64 s65 E66 e63) (cwV 1 hts (gV mw_759 mw_760 mw_761 mw_8 mw_762) rfl rfl rfl (by decide +kernel) ⟨Nat.le_of_ble_eq_true rfl, Nat.le_of_ble_eq_true rfl⟩) (hl_preV hP hK hD hE hS hFc (va_recv hK (rdO_ hP hC hr31 e61) (ci := 1) (q0 := 0) rfl rfl)) rfl rfl hl.1 rfl (lv_room (Nat.le_of_ble_eq_true rfl)) dL_textOf_371 ⟨show n35 - n0 + (n64 - n35) ≤ nz - n0 by omega, show s36 - s0 + (s65 - s36) ≤ sz9 - s0 by omega⟩) hS (fun q _ h => hFc q h) hFc (fun u ra t H1 locs ht hvm hw hB hz1 hk1 hS => ?_)
      obtain ⟨ad67, hax, hr68, hP1, hD1⟩ := hB
      rw [ht] at hP1
      have hP := hP1
      have hD := hD1.weaken (fun k q _ h => hFc q.1 h)
      generalize H1 = H at hP hS ⊢
      have hr29 := hr29.mv hC.1 hax
      have hr30 := hr30.mv hC.1 hax
      have hr31 := hr31.mv hC.1 hax
      have hX := hX.trans hax
      have hC := hm.2.2 hC
      have hN : n0 ≤ n64 := Nat.le_trans hN hm1
      have hT : s0 ≤ s65 := Nat.le_trans hT hm2
      refine W.widen (k := n64 - n0) (n := s65 - s0) (by omega) (by omega) ?_
      clear hP1 hD1 hFc hk1 hz1 hvm ht hax hm hm1 hm2 hM1 hM2
      refine my_top (y := .ref (AD nb ad67 x62)) (congrArg Value.ref hr68.2.symm) ?_
      have hr68 := rf_self hr68
      refine lv_pop hx hb dL_textOf_374 rfl ?_
      refine lv_aload_n hx hb dL_textOf_375 rfl (lv_at hl 3 rfl) ?_
      refine lv_bipush (v := 113) hx hb dL_textOf_376 (by decide) ?_
      obtain ⟨fs9, e70, hF⟩ := mg_o hF
      obtain ⟨x71, n73, s74, E75, e72, hF⟩ := mb_o hF
      have hm := mle e72
      have hM1 := mle1 hF
      have hM2 := mle2 hF
      have hm1 := hm.1
      have hm2 := hm.2.1
      have hFc := my_free hD hS hA
      refine va_callr (va_runV (C := RJ4) (As := [.int 113]) (rest := []) ⟨hx, hb, hml, hown, hts⟩ (h_J4_append_cf468 l dC dI cy nb ad67 n64 s65 E66 hC (x4) q5 hr29 (113) H.size x71 n73 s74 E75 e72) (cwV 1 hts (gV mw_759 mw_760 mw_761 mw_8 mw_762) rfl rfl rfl (by decide +kernel) ⟨Nat.le_of_ble_eq_true rfl, Nat.le_of_ble_eq_true rfl⟩) (hl_preV hP hK hD hE hS hFc (va_recv hK (rdO_ hP hC hr29 e70) (ci := 1) (q0 := 0) rfl rfl)) rfl rfl hl.1 rfl (lv_room (Nat.le_of_ble_eq_true rfl)) dL_textOf_378 ⟨show n64 - n0 + (n73 - n64) ≤ nz - n0 by omega, show s65 - s0 + (s74 - s65) ≤ sz9 - s0 by omega⟩) hS (fun q _ h => hFc q h) hFc (fun u ra t H1 locs ht hvm hw hB hz1 hk1 hS => ?_)
      obtain ⟨ad76, hax, hr77, hP1, hD1⟩ := hB
      rw [ht] at hP1
      have hP := hP1
      have hD := hD1.weaken (fun k q _ h => hFc q.1 h)
      generalize H1 = H at hP hS ⊢
      have hr29 := hr29.mv hC.1 hax
      have hr30 := hr30.mv hC.1 hax
      have hr31 := hr31.mv hC.1 hax
      have hX := hX.trans hax
      have hC := hm.2.2 hC
      have hN : n0 ≤ n73 := Nat.le_trans hN hm1
      have hT : s0 ≤ s74 := Nat.le_trans hT hm2
      refine W.widen (k := n73 - n0) (n := s74 - s0) (by omega) (by omega) ?_
      clear hP1 hD1 hFc hk1 hz1 hvm ht hax hm hm1 hm2 hM1 hM2
      refine my_top (y := .ref (AD nb ad76 x71)) (congrArg Value.ref hr77.2.symm) ?_
      have hr77 := rf_self hr77
      refine lv_pop hx hb dL_textOf_381 rfl ?_
      obtain ⟨ht9, hn9, hs9, hE9⟩ := mr_o hF
      subst ht9 hn9 hs9 hE9
      have hl := lv_sub (l' := [(6, .int t21), (5, .int (1 + x19)), (4, .int x13), (3, .ref q5), (0, .ref Aa1), (1, .int a2), (2, .ref Aa3)]) hl [0, 1, 2, 3, 4, 5, 6] rfl
      exact join46 _ _ _ _ hX hr29 hr30 hr31 hP hD hS hl
  have hK79 := mle1 hF
  have hK80 := mle2 hF
  clear hF hm
  have loop81 : ∀ (m82 : Nat) (y87 : Int32) (n84 s85 : Nat) (E86 : HE), (H_L_textOf_L26 x19 x13 x4 a1 a2 a3 m82 y87).1 (n84, s85, E86) = some (t21, n23, s24, E25) → clo n84 E86 → n0 ≤ n84 → s0 ≤ s85 → ∀ (ad83 : Nat → Nat) (H : Heap) (locs : List Loc) (ls : Array Slot), axh n0 ad0 n84 ad83 → rf nb ad83 n84 (x4) (q5) → rf nb ad83 n84 (a1) (Aa1) → rf nb ad83 n84 (a3) (Aa3) → va_P (dC, dI) vwCl (CH cy nb ad83 n84 E86) H → va_D A (CH cy nb ad83 n84 E86) → va_S A s.heap H locs → lv_has ls 15 [(6, .int y87), (5, .int (1 + x19)), (4, .int x13), (3, .ref q5), (0, .ref Aa1), (1, .int a2), (2, .ref Aa3)] → W p l e (headSpec (wsg yL_textOf cL_textOf 15 (some (.object "java/lang/String"))) ({ frames := 14, cells := nz - n0, slots := sz9 - s0, locals := 900 })).room s m ([.ref Aa1, .int a2, .ref Aa3] : List Value).toArray below meth c H locs (n84 - n0) (s85 - s0) Qn (F0 m 26 ls []) := by
    intro m82
    induction m82 with
    | zero => intro y87 n84 s85 E86 hF; exact (m0_o hF).elim
    | succ m82 ih =>
      intro y87 n84 s85 E86 hF hC hN hT ad83 H locs ls hX hr88 hr89 hr90 hP hD hS hl
      simp only [H_L_textOf_L26] at hF
      refine lv_iload hx hb dL_textOf_26 (lv_at hl 0 rfl) ?_
      refine lv_iload hx hb dL_textOf_28 (lv_at hl 1 rfl) ?_
      refine lv_icmp_ge (tgt := 361) hx hb dL_textOf_30 (by decide) (fun c91 => ?_) (fun c91 => ?_)
      · skip
        rw [if_pos c91] at hF
        obtain ⟨ht9, hn9, hs9, hE9⟩ := mr_o hF
        subst hn9 hs9 hE9
        subst ht9
        have hl := lv_sub (l' := [(6, .int y87), (5, .int (1 + x19)), (4, .int x13), (3, .ref q5), (0, .ref Aa1), (1, .int a2), (2, .ref Aa3)]) hl [0, 1, 2, 3, 4, 5, 6] rfl
        exact kx27 _ _ _ _ hX hr88 hr89 hr90 hP hD hS hl
      · skip
        rw [if_neg c91] at hF
        refine lv_aload_n hx hb dL_textOf_33 rfl (lv_at hl 4 rfl) ?_
        refine lv_iload_n hx hb dL_textOf_34 rfl (lv_at hl 5 rfl) ?_
        refine lv_iconst (v := 1) hx hb dL_textOf_35 (by decide) ?_
        refine lv_iadd hx hb dL_textOf_36 ?_
        refine lv_iload hx hb dL_textOf_37 (lv_at hl 0 rfl) ?_
        refine lv_iadd hx hb dL_textOf_39 ?_
        obtain ⟨x92, n94, s95, E96, e93, hF⟩ := mb_o hF
        have hm := mle e93
        have hM1 := mle1 hF
        have hM2 := mle2 hF
        have hm1 := hm.1
        have hm2 := hm.2.1
        have hFc := my_free hD hS hA
        refine va_calli (va_runS (As := [.ref Aa1, .int ((a2 + 1) + y87)]) (rest := []) ⟨hx, hb, hml, hown, hts⟩ (h_L_at l dC dI cy nb ad83 n84 s85 E86 hC (a1) Aa1 hr89 (((a2 + 1) + y87)) H.size x92 n94 s95 E96 e93) (va_cwS 2 hts (gS mw_614 mw_615 mw_129 mw_616) rfl rfl rfl (by decide +kernel) ⟨Nat.le_of_ble_eq_true rfl, Nat.le_of_ble_eq_true rfl⟩) (hl_preS hP hK hD hE hS hFc) rfl rfl hl.1 rfl (lv_room (Nat.le_of_ble_eq_true rfl)) dL_textOf_40 ⟨show n84 - n0 + (n94 - n84) ≤ nz - n0 by omega, show s85 - s0 + (s95 - s85) ≤ sz9 - s0 by omega⟩) hS (fun q _ h => hFc q h) hFc (fun r9 u t H1 locs ht hvm hw hB hz1 hk1 hS => ?_)
        obtain ⟨ad97, hax, hP1, hD1⟩ := hB
        rw [ht] at hP1
        have hP := hP1
        have hD := hD1.weaken (fun k q _ h => hFc q.1 h)
        generalize H1 = H at hP hS ⊢
        have hr88 := hr88.mv hC.1 hax
        have hr89 := hr89.mv hC.1 hax
        have hr90 := hr90.mv hC.1 hax
        have hX := hX.trans hax
        have hC := hm.2.2 hC
        have hN : n0 ≤ n94 := Nat.le_trans hN hm1
        have hT : s0 ≤ s95 := Nat.le_trans hT hm2
        refine W.widen (k := n94 - n0) (n := s95 - s0) (by omega) (by omega) ?_
        clear hP1 hD1 hFc hk1 hz1 hvm ht hax hm hm1 hm2 hM1 hM2
        obtain rfl := hw.symm
        refine lv_istore (lv' := [(7, .int x92), (6, .int y87), (5, .int (1 + x19)), (4, .int x13), (3, .ref q5), (0, .ref Aa1), (1, .int a2), (2, .ref Aa3)]) hx hb dL_textOf_43 hl (by decide) rfl (fun ls hl => ?_)
        refine lv_bipush (v := 97) hx hb dL_textOf_45 (by decide) ?_
        refine lv_iload hx hb dL_textOf_47 (lv_at hl 0 rfl) ?_
        refine lv_bipush (v := 26) hx hb dL_textOf_49 (by decide) ?_
        obtain ⟨x98, e99, hF⟩ := mp_o hF
        refine lv_irem hx hb dL_textOf_51 (rm_ne e99) ?_
        refine my_topi (y := x98) (rm_eq e99) ?_
        refine lv_iadd hx hb dL_textOf_52 ?_
        refine lv_i2c (v := ((97 + x98).toUInt32 % 65536).toInt32) hx hb dL_textOf_53 rfl ?_
        refine lv_istore (lv' := [(8, .int (((97 + x98).toUInt32 % 65536).toInt32)), (7, .int x92), (6, .int y87), (5, .int (1 + x19)), (4, .int x13), (3, .ref q5), (0, .ref Aa1), (1, .int a2), (2, .ref Aa3)]) hx hb dL_textOf_54 hl (by decide) rfl (fun ls hl => ?_)
        refine lv_bipush (v := 97) hx hb dL_textOf_56 (by decide) ?_
        refine lv_iload hx hb dL_textOf_58 (lv_at hl 1 rfl) ?_
        refine lv_bipush (v := 32) hx hb dL_textOf_60 (by decide) ?_
        obtain ⟨x100, e101, hF⟩ := mp_o hF
        refine lv_idiv hx hb dL_textOf_62 (dv_ne e101) ?_
        refine my_topi (y := x100) (dv_eq e101) ?_
        refine lv_bipush (v := 26) hx hb dL_textOf_63 (by decide) ?_
        obtain ⟨x102, e103, hF⟩ := mp_o hF
        refine lv_irem hx hb dL_textOf_65 (rm_ne e103) ?_
        refine my_topi (y := x102) (rm_eq e103) ?_
        refine lv_iadd hx hb dL_textOf_66 ?_
        refine lv_i2c (v := ((97 + x102).toUInt32 % 65536).toInt32) hx hb dL_textOf_67 rfl ?_
        refine lv_istore (lv' := [(9, .int (((97 + x102).toUInt32 % 65536).toInt32)), (8, .int (((97 + x98).toUInt32 % 65536).toInt32)), (7, .int x92), (6, .int y87), (5, .int (1 + x19)), (4, .int x13), (3, .ref q5), (0, .ref Aa1), (1, .int a2), (2, .ref Aa3)]) hx hb dL_textOf_68 hl (by decide) rfl (fun ls hl => ?_)
        refine lv_iload hx hb dL_textOf_70 (lv_at hl 2 rfl) ?_
        refine lv_sipush (v := 1024) hx hb dL_textOf_72 (by decide) ?_
        obtain ⟨x104, e105, hF⟩ := mp_o hF
        refine lv_idiv hx hb dL_textOf_75 (dv_ne e105) ?_
        refine my_topi (y := x104) (dv_eq e105) ?_
        refine lv_iconst (v := 3) hx hb dL_textOf_76 (by decide) ?_
        obtain ⟨x106, e107, hF⟩ := mp_o hF
        refine lv_irem hx hb dL_textOf_77 (rm_ne e107) ?_
        refine my_topi (y := x106) (rm_eq e107) ?_
        obtain ⟨t109, n112, s113, E114, hJ110, hF⟩ := mb_o hF
        have hm := mle hJ110
        have join115 : ∀ (ad111 : Nat → Nat) (H : Heap) (locs : List Loc) (ls : Array Slot), axh n0 ad0 n112 ad111 → rf nb ad111 n112 (x4) (q5) → rf nb ad111 n112 (a1) (Aa1) → rf nb ad111 n112 (a3) (Aa3) → va_P (dC, dI) vwCl (CH cy nb ad111 n112 E114) H → va_D A (CH cy nb ad111 n112 E114) → va_S A s.heap H locs → lv_has ls 15 [(9, .int (((97 + x102).toUInt32 % 65536).toInt32)), (8, .int (((97 + x98).toUInt32 % 65536).toInt32)), (7, .int x92), (6, .int y87), (5, .int (1 + x19)), (4, .int x13), (3, .ref q5), (0, .ref Aa1), (1, .int a2), (2, .ref Aa3)] → W p l e (headSpec (wsg yL_textOf cL_textOf 15 (some (.object "java/lang/String"))) ({ frames := 14, cells := nz - n0, slots := sz9 - s0, locals := 900 })).room s m ([.ref Aa1, .int a2, .ref Aa3] : List Value).toArray below meth c H locs (n112 - n0) (s113 - s0) Qn (F0 m 355 ls []) := by
          intro ad111 H locs ls hX hr116 hr117 hr118 hP hD hS hl
          have hC := hm.2.2 hC
          have hN : n0 ≤ n112 := Nat.le_trans hN hm.1
          have hT : s0 ≤ s113 := Nat.le_trans hT hm.2.1
          clear hm
          refine lv_iinc (v := (y87 + 1)) (lv' := [(6, .int (y87 + 1)), (9, .int (((97 + x102).toUInt32 % 65536).toInt32)), (8, .int (((97 + x98).toUInt32 % 65536).toInt32)), (7, .int x92), (5, .int (1 + x19)), (4, .int x13), (3, .ref q5), (0, .ref Aa1), (1, .int a2), (2, .ref Aa3)]) hx hb dL_textOf_355 hl (k := 3) rfl (by rfl) (by decide) rfl (fun ls hl => ?_)
          refine lv_goto (tgt := 26) hx hb dL_textOf_358 (by decide) ?_
          have hl := lv_sub (l' := [(6, .int (y87 + 1)), (5, .int (1 + x19)), (4, .int x13), (3, .ref q5), (0, .ref Aa1), (1, .int a2), (2, .ref Aa3)]) hl [0, 4, 5, 6, 7, 8, 9] rfl
          exact ih _ _ _ _ hF hC hN hT _ _ _ _ hX hr116 hr117 hr118 hP hD hS hl
        have hK119 := mle1 hF
        have hK120 := mle2 hF
        clear hF hm
        have hF := hJ110
        clear hJ110
        refine lv_if_le (tgt := 127) hx hb dL_textOf_78 (by decide) (fun c108 => ?_) (fun c108 => ?_)
        · skip
          rw [if_pos c108] at hF
          refine lv_iconst (v := 2) hx hb dL_textOf_127 (by decide) ?_
          refine lv_iload hx hb dL_textOf_128 (lv_at hl 2 rfl) ?_
          refine lv_sipush (v := 4096) hx hb dL_textOf_130 (by decide) ?_
          obtain ⟨x121, e122, hF⟩ := mp_o hF
          refine lv_idiv hx hb dL_textOf_133 (dv_ne e122) ?_
          refine my_topi (y := x121) (dv_eq e122) ?_
          refine lv_iconst (v := 2) hx hb dL_textOf_134 (by decide) ?_
          obtain ⟨x123, e124, hF⟩ := mp_o hF
          refine lv_irem hx hb dL_textOf_135 (rm_ne e124) ?_
          refine my_topi (y := x123) (rm_eq e124) ?_
          refine lv_iadd hx hb dL_textOf_136 ?_
          refine lv_istore (lv' := [(10, .int (2 + x123)), (9, .int (((97 + x102).toUInt32 % 65536).toInt32)), (8, .int (((97 + x98).toUInt32 % 65536).toInt32)), (7, .int x92), (6, .int y87), (5, .int (1 + x19)), (4, .int x13), (3, .ref q5), (0, .ref Aa1), (1, .int a2), (2, .ref Aa3)]) hx hb dL_textOf_137 hl (by decide) rfl (fun ls hl => ?_)
          refine lv_iload hx hb dL_textOf_139 (lv_at hl 3 rfl) ?_
          refine lv_sipush (v := 8192) hx hb dL_textOf_141 (by decide) ?_
          obtain ⟨x125, e126, hF⟩ := mp_o hF
          refine lv_idiv hx hb dL_textOf_144 (dv_ne e126) ?_
          refine my_topi (y := x125) (dv_eq e126) ?_
          refine lv_iconst (v := 4) hx hb dL_textOf_145 (by decide) ?_
          obtain ⟨x127, e128, hF⟩ := mp_o hF
          refine lv_irem hx hb dL_textOf_146 (rm_ne e128) ?_
          refine my_topi (y := x127) (rm_eq e128) ?_
          obtain ⟨t130, n133, s134, E135, hJ131, hF⟩ := mb_o hF
          have hm := mle hJ131
          have join136 : ∀ (ad132 : Nat → Nat) (H : Heap) (locs : List Loc) (ls : Array Slot), axh n0 ad0 n133 ad132 → rf nb ad132 n133 (x4) (q5) → rf nb ad132 n133 (a1) (Aa1) → rf nb ad132 n133 (a3) (Aa3) → va_P (dC, dI) vwCl (CH cy nb ad132 n133 E135) H → va_D A (CH cy nb ad132 n133 E135) → va_S A s.heap H locs → lv_has ls 15 [(10, .int (2 + x123)), (9, .int (((97 + x102).toUInt32 % 65536).toInt32)), (8, .int (((97 + x98).toUInt32 % 65536).toInt32)), (7, .int x92), (6, .int y87), (5, .int (1 + x19)), (4, .int x13), (3, .ref q5), (0, .ref Aa1), (1, .int a2), (2, .ref Aa3)] → W p l e (headSpec (wsg yL_textOf cL_textOf 15 (some (.object "java/lang/String"))) ({ frames := 14, cells := nz - n0, slots := sz9 - s0, locals := 900 })).room s m ([.ref Aa1, .int a2, .ref Aa3] : List Value).toArray below meth c H locs (n133 - n0) (s134 - s0) Qn (F0 m 160 ls [.int t130]) := by
            intro ad132 H locs ls hX hr137 hr138 hr139 hP hD hS hl
            have hC := hm.2.2 hC
            have hN : n0 ≤ n133 := Nat.le_trans hN hm.1
            have hT : s0 ≤ s134 := Nat.le_trans hT hm.2.1
            clear hm
            refine lv_istore (lv' := [(11, .int t130), (10, .int (2 + x123)), (9, .int (((97 + x102).toUInt32 % 65536).toInt32)), (8, .int (((97 + x98).toUInt32 % 65536).toInt32)), (7, .int x92), (6, .int y87), (5, .int (1 + x19)), (4, .int x13), (3, .ref q5), (0, .ref Aa1), (1, .int a2), (2, .ref Aa3)]) hx hb dL_textOf_160 hl (by decide) rfl (fun ls hl => ?_)
            refine lv_iload hx hb dL_textOf_162 (lv_at hl 0 rfl) ?_
            obtain ⟨t141, n144, s145, E146, hJ142, hF⟩ := mb_o hF
            have hm := mle hJ142
            have join147 : ∀ (ad143 : Nat → Nat) (H : Heap) (locs : List Loc) (ls : Array Slot), axh n0 ad0 n144 ad143 → rf nb ad143 n144 (x4) (q5) → rf nb ad143 n144 (a1) (Aa1) → rf nb ad143 n144 (a3) (Aa3) → rf nb ad143 n144 (t141) ((AD nb ad143 t141)) → va_P (dC, dI) vwCl (CH cy nb ad143 n144 E146) H → va_D A (CH cy nb ad143 n144 E146) → va_S A s.heap H locs → lv_has ls 15 [(11, .int t130), (10, .int (2 + x123)), (9, .int (((97 + x102).toUInt32 % 65536).toInt32)), (8, .int (((97 + x98).toUInt32 % 65536).toInt32)), (7, .int x92), (6, .int y87), (5, .int (1 + x19)), (4, .int x13), (3, .ref q5), (0, .ref Aa1), (1, .int a2), (2, .ref Aa3)] → W p l e (headSpec (wsg yL_textOf cL_textOf 15 (some (.object "java/lang/String"))) ({ frames := 14, cells := nz - n0, slots := sz9 - s0, locals := 900 })).room s m ([.ref Aa1, .int a2, .ref Aa3] : List Value).toArray below meth c H locs (n144 - n0) (s145 - s0) Qn (F0 m 238 ls [.ref (AD nb ad143 t141)]) := by
              intro ad143 H locs ls hX hr148 hr149 hr150 hr151 hP hD hS hl
              have hC := hm.2.2 hC
              have hN : n0 ≤ n144 := Nat.le_trans hN hm.1
              have hT : s0 ≤ s145 := Nat.le_trans hT hm.2.1
              clear hm
              refine lv_astore (lv' := [(12, .ref (AD nb ad143 t141)), (11, .int t130), (10, .int (2 + x123)), (9, .int (((97 + x102).toUInt32 % 65536).toInt32)), (8, .int (((97 + x98).toUInt32 % 65536).toInt32)), (7, .int x92), (6, .int y87), (5, .int (1 + x19)), (4, .int x13), (3, .ref q5), (0, .ref Aa1), (1, .int a2), (2, .ref Aa3)]) hx hb dL_textOf_238 hl (by decide) rfl (fun ls hl => ?_)
              refine lv_iload hx hb dL_textOf_240 (lv_at hl 1 rfl) ?_
              obtain ⟨t153, n156, s157, E158, hJ154, hF⟩ := mb_o hF
              have hm := mle hJ154
              have join159 : ∀ (ad155 : Nat → Nat) (H : Heap) (locs : List Loc) (ls : Array Slot), axh n0 ad0 n156 ad155 → rf nb ad155 n156 (t141) ((AD nb ad143 t141)) → rf nb ad155 n156 (x4) (q5) → rf nb ad155 n156 (a1) (Aa1) → rf nb ad155 n156 (a3) (Aa3) → rf nb ad155 n156 (t153) ((AD nb ad155 t153)) → va_P (dC, dI) vwCl (CH cy nb ad155 n156 E158) H → va_D A (CH cy nb ad155 n156 E158) → va_S A s.heap H locs → lv_has ls 15 [(12, .ref (AD nb ad143 t141)), (11, .int t130), (10, .int (2 + x123)), (9, .int (((97 + x102).toUInt32 % 65536).toInt32)), (8, .int (((97 + x98).toUInt32 % 65536).toInt32)), (7, .int x92), (6, .int y87), (5, .int (1 + x19)), (4, .int x13), (3, .ref q5), (0, .ref Aa1), (1, .int a2), (2, .ref Aa3)] → W p l e (headSpec (wsg yL_textOf cL_textOf 15 (some (.object "java/lang/String"))) ({ frames := 14, cells := nz - n0, slots := sz9 - s0, locals := 900 })).room s m ([.ref Aa1, .int a2, .ref Aa3] : List Value).toArray below meth c H locs (n156 - n0) (s157 - s0) Qn (F0 m 275 ls [.ref (AD nb ad155 t153)]) := by
                intro ad155 H locs ls hX hr160 hr161 hr162 hr163 hr164 hP hD hS hl
                have hC := hm.2.2 hC
                have hN : n0 ≤ n156 := Nat.le_trans hN hm.1
                have hT : s0 ≤ s157 := Nat.le_trans hT hm.2.1
                clear hm
                refine lv_astore (lv' := [(13, .ref (AD nb ad155 t153)), (12, .ref (AD nb ad143 t141)), (11, .int t130), (10, .int (2 + x123)), (9, .int (((97 + x102).toUInt32 % 65536).toInt32)), (8, .int (((97 + x98).toUInt32 % 65536).toInt32)), (7, .int x92), (6, .int y87), (5, .int (1 + x19)), (4, .int x13), (3, .ref q5), (0, .ref Aa1), (1, .int a2), (2, .ref Aa3)]) hx hb dL_textOf_275 hl (by decide) rfl (fun ls hl => ?_)
                refine lv_aload_n hx hb dL_textOf_277 rfl (lv_at hl 13 rfl) ?_
                obtain ⟨fs9, e165, hF⟩ := mg_o hF
                obtain ⟨x166, n168, s169, E170, e167, hF⟩ := mb_o hF
                have hm := mle e167
                have hM1 := mle1 hF
                have hM2 := mle2 hF
                have hm1 := hm.1
                have hm2 := hm.2.1
                have hFc := my_free hD hS hA
                refine va_calli (va_runV (C := RJ4) (As := []) (rest := []) ⟨hx, hb, hml, hown, hts⟩ (h_J4_length_8abf5 l dC dI cy nb ad155 n156 s157 E158 hC (a3) Aa3 hr163 H.size x166 n168 s169 E170 e167) (cwV 0 hts (gV mw_1042 mw_803 mw_1043 mw_8 mw_804) rfl rfl rfl (by decide +kernel) ⟨Nat.le_of_ble_eq_true rfl, Nat.le_of_ble_eq_true rfl⟩) (hl_preV hP hK hD hE hS hFc (va_recv hK (rdO_ hP hC hr163 e165) (ci := 1) (q0 := 0) rfl rfl)) rfl rfl hl.1 rfl (lv_room (Nat.le_of_ble_eq_true rfl)) dL_textOf_278 ⟨show n156 - n0 + (n168 - n156) ≤ nz - n0 by omega, show s157 - s0 + (s169 - s157) ≤ sz9 - s0 by omega⟩) hS (fun q _ h => hFc q h) hFc (fun r9 u t H1 locs ht hvm hw hB hz1 hk1 hS => ?_)
                obtain ⟨ad171, hax, hP1, hD1⟩ := hB
                rw [ht] at hP1
                have hP := hP1
                have hD := hD1.weaken (fun k q _ h => hFc q.1 h)
                generalize H1 = H at hP hS ⊢
                have hr164 := hr164.mv hC.1 hax
                have hr160 := hr160.mv hC.1 hax
                have hr161 := hr161.mv hC.1 hax
                have hr162 := hr162.mv hC.1 hax
                have hr163 := hr163.mv hC.1 hax
                have hX := hX.trans hax
                have hC := hm.2.2 hC
                have hN : n0 ≤ n168 := Nat.le_trans hN hm1
                have hT : s0 ≤ s169 := Nat.le_trans hT hm2
                refine W.widen (k := n168 - n0) (n := s169 - s0) (by omega) (by omega) ?_
                clear hP1 hD1 hFc hk1 hz1 hvm ht hax hm hm1 hm2 hM1 hM2
                obtain rfl := hw.symm
                refine lv_iload hx hb dL_textOf_281 (lv_at hl 3 rfl) ?_
                refine lv_aload hx hb dL_textOf_283 (lv_at hl 0 rfl) ?_
                obtain ⟨_, e172, hF⟩ := mg_o hF
                obtain ⟨x173, n175, s176, E177, e174, hF⟩ := mb_o hF
                have hm := mle e174
                have hM1 := mle1 hF
                have hM2 := mle2 hF
                have hm1 := hm.1
                have hm2 := hm.2.1
                have hFc := my_free hD hS hA
                refine va_calli (va_runV (C := RJ0) (As := []) (rest := [.int (2 + x123), .int x166]) ⟨hx, hb, hml, hown, hts⟩ (h_J0_length_8abf5 l dC dI cy nb ad171 n168 s169 E170 hC (t153) (AD nb ad155 t153) hr164 H.size x173 n175 s176 E177 e174) (cwV 0 hts (gV mw_274 mw_275 mw_276 mw_277 mw_278) rfl rfl rfl (by decide +kernel) ⟨Nat.le_of_ble_eq_true rfl, Nat.le_of_ble_eq_true rfl⟩) (hl_preV hP hK hD hE hS hFc (hs_srecv hK hP hC hE hS hr164 e172)) rfl rfl hl.1 rfl (lv_room (Nat.le_of_ble_eq_true rfl)) dL_textOf_285 ⟨show n168 - n0 + (n175 - n168) ≤ nz - n0 by omega, show s169 - s0 + (s176 - s169) ≤ sz9 - s0 by omega⟩) hS (fun q _ h => hFc q h) hFc (fun r9 u t H1 locs ht hvm hw hB hz1 hk1 hS => ?_)
                obtain ⟨ad178, hax, hP1, hD1⟩ := hB
                rw [ht] at hP1
                have hP := hP1
                have hD := hD1.weaken (fun k q _ h => hFc q.1 h)
                generalize H1 = H at hP hS ⊢
                have hr164 := hr164.mv hC.1 hax
                have hr160 := hr160.mv hC.1 hax
                have hr161 := hr161.mv hC.1 hax
                have hr162 := hr162.mv hC.1 hax
                have hr163 := hr163.mv hC.1 hax
                have hX := hX.trans hax
                have hC := hm.2.2 hC
                have hN : n0 ≤ n175 := Nat.le_trans hN hm1
                have hT : s0 ≤ s176 := Nat.le_trans hT hm2
                refine W.widen (k := n175 - n0) (n := s176 - s0) (by omega) (by omega) ?_
                clear hP1 hD1 hFc hk1 hz1 hvm ht hax hm hm1 hm2 hM1 hM2
                obtain rfl := hw.symm
                refine lv_imul hx hb dL_textOf_288 ?_
                refine lv_iadd hx hb dL_textOf_289 ?_
                refine lv_bipush (v := 16) hx hb dL_textOf_290 (by decide) ?_
                refine lv_icmp_le (tgt := 298) hx hb dL_textOf_292 (by decide) (fun c179 => ?_) (fun c179 => ?_)
                · skip
                  rw [if_pos c179] at hF
                  refine lv_aload_n hx hb dL_textOf_298 rfl (lv_at hl 10 rfl) ?_
                  refine lv_iload hx hb dL_textOf_299 (lv_at hl 3 rfl) ?_
                  obtain ⟨fs9, e180, hF⟩ := mg_o hF
                  obtain ⟨x181, n183, s184, E185, e182, hF⟩ := mb_o hF
                  have hm := mle e182
                  have hM1 := mle1 hF
                  have hM2 := mle2 hF
                  have hm1 := hm.1
                  have hm2 := hm.2.1
                  have hFc := my_free hD hS hA
                  refine va_callr (va_runV (C := RJ4) (As := [.int (2 + x123)]) (rest := []) ⟨hx, hb, hml, hown, hts⟩ (h_J4_append_bf812 l dC dI cy nb ad178 n175 s176 E177 hC (x4) q5 hr161 ((2 + x123)) H.size x181 n183 s184 E185 e182) (cwV 1 hts (gV mw_735 mw_736 mw_737 mw_8 mw_738) rfl rfl rfl (by decide +kernel) ⟨Nat.le_of_ble_eq_true rfl, Nat.le_of_ble_eq_true rfl⟩) (hl_preV hP hK hD hE hS hFc (va_recv hK (rdO_ hP hC hr161 e180) (ci := 1) (q0 := 0) rfl rfl)) rfl rfl hl.1 rfl (lv_room (Nat.le_of_ble_eq_true rfl)) dL_textOf_301 ⟨show n175 - n0 + (n183 - n175) ≤ nz - n0 by omega, show s176 - s0 + (s184 - s176) ≤ sz9 - s0 by omega⟩) hS (fun q _ h => hFc q h) hFc (fun u ra t H1 locs ht hvm hw hB hz1 hk1 hS => ?_)
                  obtain ⟨ad186, hax, hr187, hP1, hD1⟩ := hB
                  rw [ht] at hP1
                  have hP := hP1
                  have hD := hD1.weaken (fun k q _ h => hFc q.1 h)
                  generalize H1 = H at hP hS ⊢
                  have hr164 := hr164.mv hC.1 hax
                  have hr160 := hr160.mv hC.1 hax
                  have hr161 := hr161.mv hC.1 hax
                  have hr162 := hr162.mv hC.1 hax
                  have hr163 := hr163.mv hC.1 hax
                  have hX := hX.trans hax
                  have hC := hm.2.2 hC
                  have hN : n0 ≤ n183 := Nat.le_trans hN hm1
                  have hT : s0 ≤ s184 := Nat.le_trans hT hm2
                  refine W.widen (k := n183 - n0) (n := s184 - s0) (by omega) (by omega) ?_
                  clear hP1 hD1 hFc hk1 hz1 hvm ht hax hm hm1 hm2 hM1 hM2
                  refine my_top (y := .ref (AD nb ad186 x181)) (congrArg Value.ref hr187.2.symm) ?_
                  have hr187 := rf_self hr187
                  refine lv_iload hx hb dL_textOf_304 (lv_at hl 7 rfl) ?_
                  refine lv_iconst (v := 2) hx hb dL_textOf_306 (by decide) ?_
                  obtain ⟨x189, e190, hF⟩ := mp_o hF
                  refine lv_irem hx hb dL_textOf_307 (rm_ne e190) ?_
                  refine my_topi (y := x189) (rm_eq e190) ?_
                  obtain ⟨t192, n195, s196, E197, hJ193, hF⟩ := mb_o hF
                  have hm := mle hJ193
                  have join198 : ∀ (ad194 : Nat → Nat) (H : Heap) (locs : List Loc) (ls : Array Slot), axh n0 ad0 n195 ad194 → rf nb ad194 n195 (t153) ((AD nb ad155 t153)) → rf nb ad194 n195 (t141) ((AD nb ad143 t141)) → rf nb ad194 n195 (x4) (q5) → rf nb ad194 n195 (a1) (Aa1) → rf nb ad194 n195 (a3) (Aa3) → rf nb ad194 n195 (t192) ((AD nb ad194 t192)) → rf nb ad194 n195 (x181) ((AD nb ad186 x181)) → va_P (dC, dI) vwCl (CH cy nb ad194 n195 E197) H → va_D A (CH cy nb ad194 n195 E197) → va_S A s.heap H locs → lv_has ls 15 [(13, .ref (AD nb ad155 t153)), (12, .ref (AD nb ad143 t141)), (11, .int t130), (10, .int (2 + x123)), (9, .int (((97 + x102).toUInt32 % 65536).toInt32)), (8, .int (((97 + x98).toUInt32 % 65536).toInt32)), (7, .int x92), (6, .int y87), (5, .int (1 + x19)), (4, .int x13), (3, .ref q5), (0, .ref Aa1), (1, .int a2), (2, .ref Aa3)] → W p l e (headSpec (wsg yL_textOf cL_textOf 15 (some (.object "java/lang/String"))) ({ frames := 14, cells := nz - n0, slots := sz9 - s0, locals := 900 })).room s m ([.ref Aa1, .int a2, .ref Aa3] : List Value).toArray below meth c H locs (n195 - n0) (s196 - s0) Qn (F0 m 318 ls [.ref (AD nb ad194 t192), .ref (AD nb ad186 x181)]) := by
                    intro ad194 H locs ls hX hr199 hr200 hr201 hr202 hr203 hr204 hr205 hP hD hS hl
                    have hC := hm.2.2 hC
                    have hN : n0 ≤ n195 := Nat.le_trans hN hm.1
                    have hT : s0 ≤ s196 := Nat.le_trans hT hm.2.1
                    clear hm
                    obtain ⟨fs9, e206, hF⟩ := mg_o hF
                    obtain ⟨x207, n209, s210, E211, e208, hF⟩ := mb_o hF
                    have hm := mle e208
                    have hM1 := mle1 hF
                    have hM2 := mle2 hF
                    have hm1 := hm.1
                    have hm2 := hm.2.1
                    have hFc := my_free hD hS hA
                    refine va_callr (va_runV (C := RJ4) (As := [.ref (AD nb ad194 t192)]) (rest := []) ⟨hx, hb, hml, hown, hts⟩ (h_J4_append_15ec4 l dC dI cy nb ad194 n195 s196 E197 hC (x181) (AD nb ad186 x181) hr205 (t192) (AD nb ad194 t192) hr204 H.size x207 n209 s210 E211 e208) (cwV 1 hts (gV mw_618 mw_619 mw_620 mw_8 mw_621) rfl rfl rfl (by decide +kernel) ⟨Nat.le_of_ble_eq_true rfl, Nat.le_of_ble_eq_true rfl⟩) (hl_preV hP hK hD hE hS hFc (va_recv hK (rdO_ hP hC hr205 e206) (ci := 1) (q0 := 0) rfl rfl)) rfl rfl hl.1 rfl (lv_room (Nat.le_of_ble_eq_true rfl)) dL_textOf_318 ⟨show n195 - n0 + (n209 - n195) ≤ nz - n0 by omega, show s196 - s0 + (s210 - s196) ≤ sz9 - s0 by omega⟩) hS (fun q _ h => hFc q h) hFc (fun u ra t H1 locs ht hvm hw hB hz1 hk1 hS => ?_)
                    obtain ⟨ad212, hax, hr213, hP1, hD1⟩ := hB
                    rw [ht] at hP1
                    have hP := hP1
                    have hD := hD1.weaken (fun k q _ h => hFc q.1 h)
                    generalize H1 = H at hP hS ⊢
                    have hr199 := hr199.mv hC.1 hax
                    have hr200 := hr200.mv hC.1 hax
                    have hr201 := hr201.mv hC.1 hax
                    have hr202 := hr202.mv hC.1 hax
                    have hr203 := hr203.mv hC.1 hax
                    have hX := hX.trans hax
                    have hC := hm.2.2 hC
                    have hN : n0 ≤ n209 := Nat.le_trans hN hm1
                    have hT : s0 ≤ s210 := Nat.le_trans hT hm2
                    refine W.widen (k := n209 - n0) (n := s210 - s0) (by omega) (by omega) ?_
                    clear hP1 hD1 hFc hk1 hz1 hvm ht hax hm hm1 hm2 hM1 hM2
                    refine my_top (y := .ref (AD nb ad212 x207)) (congrArg Value.ref hr213.2.symm) ?_
                    have hr213 := rf_self hr213
                    refine lv_aload hx hb dL_textOf_321 (lv_at hl 1 rfl) ?_
                    obtain ⟨fs9, e215, hF⟩ := mg_o hF
                    obtain ⟨x216, n218, s219, E220, e217, hF⟩ := mb_o hF
                    have hm := mle e217
                    have hM1 := mle1 hF
                    have hM2 := mle2 hF
                    have hm1 := hm.1
                    have hm2 := hm.2.1
                    have hFc := my_free hD hS hA
                    refine va_callr (va_runV (C := RJ4) (As := [.ref (AD nb ad143 t141)]) (rest := []) ⟨hx, hb, hml, hown, hts⟩ (h_J4_append_15ec4 l dC dI cy nb ad212 n209 s210 E211 hC (x207) (AD nb ad212 x207) hr213 (t141) (AD nb ad143 t141) hr200 H.size x216 n218 s219 E220 e217) (cwV 1 hts (gV mw_618 mw_619 mw_620 mw_8 mw_621) rfl rfl rfl (by decide +kernel) ⟨Nat.le_of_ble_eq_true rfl, Nat.le_of_ble_eq_true rfl⟩) (hl_preV hP hK hD hE hS hFc (va_recv hK (rdO_ hP hC hr213 e215) (ci := 1) (q0 := 0) rfl rfl)) rfl rfl hl.1 rfl (lv_room (Nat.le_of_ble_eq_true rfl)) dL_textOf_323 ⟨show n209 - n0 + (n218 - n209) ≤ nz - n0 by omega, show s210 - s0 + (s219 - s210) ≤ sz9 - s0 by omega⟩) hS (fun q _ h => hFc q h) hFc (fun u ra t H1 locs ht hvm hw hB hz1 hk1 hS => ?_)
                    obtain ⟨ad221, hax, hr222, hP1, hD1⟩ := hB
                    rw [ht] at hP1
                    have hP := hP1
                    have hD := hD1.weaken (fun k q _ h => hFc q.1 h)
                    generalize H1 = H at hP hS ⊢
                    have hr199 := hr199.mv hC.1 hax
                    have hr200 := hr200.mv hC.1 hax
                    have hr201 := hr201.mv hC.1 hax
                    have hr202 := hr202.mv hC.1 hax
                    have hr203 := hr203.mv hC.1 hax
                    have hX := hX.trans hax
                    have hC := hm.2.2 hC
                    have hN : n0 ≤ n218 := Nat.le_trans hN hm1
                    have hT : s0 ≤ s219 := Nat.le_trans hT hm2
                    refine W.widen (k := n218 - n0) (n := s219 - s0) (by omega) (by omega) ?_
                    clear hP1 hD1 hFc hk1 hz1 hvm ht hax hm hm1 hm2 hM1 hM2
                    refine my_top (y := .ref (AD nb ad221 x216)) (congrArg Value.ref hr222.2.symm) ?_
                    have hr222 := rf_self hr222
                    refine va_ldcS hx hb hown (hE.xr 3 rfl) dL_textOf_326 ?_
                    obtain ⟨fs9, e224, hF⟩ := mg_o hF
                    obtain ⟨x225, n227, s228, E229, e226, hF⟩ := mb_o hF
                    have hm := mle e226
                    have hM1 := mle1 hF
                    have hM2 := mle2 hF
                    have hm1 := hm.1
                    have hm2 := hm.2.1
                    have hFc := my_free hD hS hA
                    refine va_callr (va_runV (C := RJ4) (As := [.ref (nb 1006)]) (rest := []) ⟨hx, hb, hml, hown, hts⟩ (h_J4_append_15ec4 l dC dI cy nb ad221 n218 s219 E220 hC (x216) (AD nb ad221 x216) hr222 (1001006) (nb 1006) rf_c H.size x225 n227 s228 E229 e226) (cwV 1 hts (gV mw_618 mw_619 mw_620 mw_8 mw_621) rfl rfl rfl (by decide +kernel) ⟨Nat.le_of_ble_eq_true rfl, Nat.le_of_ble_eq_true rfl⟩) (hl_preV hP hK hD hE hS hFc (va_recv hK (rdO_ hP hC hr222 e224) (ci := 1) (q0 := 0) rfl rfl)) rfl rfl hl.1 rfl (lv_room (Nat.le_of_ble_eq_true rfl)) dL_textOf_328 ⟨show n218 - n0 + (n227 - n218) ≤ nz - n0 by omega, show s219 - s0 + (s228 - s219) ≤ sz9 - s0 by omega⟩) hS (fun q _ h => hFc q h) hFc (fun u ra t H1 locs ht hvm hw hB hz1 hk1 hS => ?_)
                    obtain ⟨ad230, hax, hr231, hP1, hD1⟩ := hB
                    rw [ht] at hP1
                    have hP := hP1
                    have hD := hD1.weaken (fun k q _ h => hFc q.1 h)
                    generalize H1 = H at hP hS ⊢
                    have hr199 := hr199.mv hC.1 hax
                    have hr200 := hr200.mv hC.1 hax
                    have hr201 := hr201.mv hC.1 hax
                    have hr202 := hr202.mv hC.1 hax
                    have hr203 := hr203.mv hC.1 hax
                    have hX := hX.trans hax
                    have hC := hm.2.2 hC
                    have hN : n0 ≤ n227 := Nat.le_trans hN hm1
                    have hT : s0 ≤ s228 := Nat.le_trans hT hm2
                    refine W.widen (k := n227 - n0) (n := s228 - s0) (by omega) (by omega) ?_
                    clear hP1 hD1 hFc hk1 hz1 hvm ht hax hm hm1 hm2 hM1 hM2
                    refine my_top (y := .ref (AD nb ad230 x225)) (congrArg Value.ref hr231.2.symm) ?_
                    have hr231 := rf_self hr231
                    refine lv_pop hx hb dL_textOf_331 rfl ?_
                    refine lv_iconst (v := 0) hx hb dL_textOf_332 (by decide) ?_
                    refine lv_istore (lv' := [(14, .int 0), (13, .ref (AD nb ad155 t153)), (12, .ref (AD nb ad143 t141)), (11, .int t130), (10, .int (2 + x123)), (9, .int (((97 + x102).toUInt32 % 65536).toInt32)), (8, .int (((97 + x98).toUInt32 % 65536).toInt32)), (7, .int x92), (6, .int y87), (5, .int (1 + x19)), (4, .int x13), (3, .ref q5), (0, .ref Aa1), (1, .int a2), (2, .ref Aa3)]) hx hb dL_textOf_333 hl (by decide) rfl (fun ls hl => ?_)
                    obtain ⟨t233, n235, s236, E237, hL234, hF⟩ := mb_o hF
                    have hm := mle hL234
                    have kx239 : ∀ (ad238 : Nat → Nat) (H : Heap) (locs : List Loc) (ls : Array Slot), axh n0 ad0 n235 ad238 → rf nb ad238 n235 (t153) ((AD nb ad155 t153)) → rf nb ad238 n235 (t141) ((AD nb ad143 t141)) → rf nb ad238 n235 (x4) (q5) → rf nb ad238 n235 (a1) (Aa1) → rf nb ad238 n235 (a3) (Aa3) → va_P (dC, dI) vwCl (CH cy nb ad238 n235 E237) H → va_D A (CH cy nb ad238 n235 E237) → va_S A s.heap H locs → lv_has ls 15 [(14, .int t233), (13, .ref (AD nb ad155 t153)), (12, .ref (AD nb ad143 t141)), (11, .int t130), (10, .int (2 + x123)), (9, .int (((97 + x102).toUInt32 % 65536).toInt32)), (8, .int (((97 + x98).toUInt32 % 65536).toInt32)), (7, .int x92), (6, .int y87), (5, .int (1 + x19)), (4, .int x13), (3, .ref q5), (0, .ref Aa1), (1, .int a2), (2, .ref Aa3)] → W p l e (headSpec (wsg yL_textOf cL_textOf 15 (some (.object "java/lang/String"))) ({ frames := 14, cells := nz - n0, slots := sz9 - s0, locals := 900 })).room s m ([.ref Aa1, .int a2, .ref Aa3] : List Value).toArray below meth c H locs (n235 - n0) (s236 - s0) Qn (F0 m 355 ls []) := by
                      intro ad238 H locs ls hX hr241 hr242 hr243 hr244 hr245 hP hD hS hl
                      have hC := hm.2.2 hC
                      have hN : n0 ≤ n235 := Nat.le_trans hN hm.1
                      have hT : s0 ≤ s236 := Nat.le_trans hT hm.2.1
                      clear hm
                      obtain ⟨ht9, hn9, hs9, hE9⟩ := mr_o hF
                      subst ht9 hn9 hs9 hE9
                      have hl := lv_sub (l' := [(9, .int (((97 + x102).toUInt32 % 65536).toInt32)), (8, .int (((97 + x98).toUInt32 % 65536).toInt32)), (7, .int x92), (6, .int y87), (5, .int (1 + x19)), (4, .int x13), (3, .ref q5), (0, .ref Aa1), (1, .int a2), (2, .ref Aa3)]) hl [5, 6, 7, 8, 9, 10, 11, 12, 13, 14] rfl
                      exact join115 _ _ _ _ hX hr243 hr244 hr245 hP hD hS hl
                    have hK246 := mle1 hF
                    have hK247 := mle2 hF
                    clear hF hm
                    have loop248 : ∀ (m249 : Nat) (y254 : Int32) (n251 s252 : Nat) (E253 : HE), (H_L_textOf_L335 t153 t141 t130 x123 x102 x98 x92 y87 x19 x13 x4 a1 a2 a3 m249 y254).1 (n251, s252, E253) = some (t233, n235, s236, E237) → clo n251 E253 → n0 ≤ n251 → s0 ≤ s252 → ∀ (ad250 : Nat → Nat) (H : Heap) (locs : List Loc) (ls : Array Slot), axh n0 ad0 n251 ad250 → rf nb ad250 n251 (t153) ((AD nb ad155 t153)) → rf nb ad250 n251 (t141) ((AD nb ad143 t141)) → rf nb ad250 n251 (x4) (q5) → rf nb ad250 n251 (a1) (Aa1) → rf nb ad250 n251 (a3) (Aa3) → va_P (dC, dI) vwCl (CH cy nb ad250 n251 E253) H → va_D A (CH cy nb ad250 n251 E253) → va_S A s.heap H locs → lv_has ls 15 [(14, .int y254), (13, .ref (AD nb ad155 t153)), (12, .ref (AD nb ad143 t141)), (11, .int t130), (10, .int (2 + x123)), (9, .int (((97 + x102).toUInt32 % 65536).toInt32)), (8, .int (((97 + x98).toUInt32 % 65536).toInt32)), (7, .int x92), (6, .int y87), (5, .int (1 + x19)), (4, .int x13), (3, .ref q5), (0, .ref Aa1), (1, .int a2), (2, .ref Aa3)] → W p l e (headSpec (wsg yL_textOf cL_textOf 15 (some (.object "java/lang/String"))) ({ frames := 14, cells := nz - n0, slots := sz9 - s0, locals := 900 })).room s m ([.ref Aa1, .int a2, .ref Aa3] : List Value).toArray below meth c H locs (n251 - n0) (s252 - s0) Qn (F0 m 335 ls []) := by
                      intro m249
                      induction m249 with
                      | zero => intro y254 n251 s252 E253 hF; exact (m0_o hF).elim
                      | succ m249 ih =>
                        intro y254 n251 s252 E253 hF hC hN hT ad250 H locs ls hX hr255 hr256 hr257 hr258 hr259 hP hD hS hl
                        simp only [H_L_textOf_L335] at hF
                        refine lv_iload hx hb dL_textOf_335 (lv_at hl 0 rfl) ?_
                        refine lv_iload hx hb dL_textOf_337 (lv_at hl 4 rfl) ?_
                        refine lv_icmp_ge (tgt := 355) hx hb dL_textOf_339 (by decide) (fun c260 => ?_) (fun c260 => ?_)
                        · skip
                          rw [if_pos c260] at hF
                          obtain ⟨ht9, hn9, hs9, hE9⟩ := mr_o hF
                          subst hn9 hs9 hE9
                          subst ht9
                          have hl := lv_sub (l' := [(14, .int y254), (13, .ref (AD nb ad155 t153)), (12, .ref (AD nb ad143 t141)), (11, .int t130), (10, .int (2 + x123)), (9, .int (((97 + x102).toUInt32 % 65536).toInt32)), (8, .int (((97 + x98).toUInt32 % 65536).toInt32)), (7, .int x92), (6, .int y87), (5, .int (1 + x19)), (4, .int x13), (3, .ref q5), (0, .ref Aa1), (1, .int a2), (2, .ref Aa3)]) hl [0, 1, 2, 3, 4, 5, 6, 7, 8, 9, 10, 11, 12, 13, 14] rfl
                          exact kx239 _ _ _ _ hX hr255 hr256 hr257 hr258 hr259 hP hD hS hl
                        · skip
                          rw [if_neg c260] at hF
                          refine lv_aload_n hx hb dL_textOf_342 rfl (lv_at hl 14 rfl) ?_
                          refine lv_aload hx hb dL_textOf_343 (lv_at hl 1 rfl) ?_
                          obtain ⟨fs9, e261, hF⟩ := mg_o hF
                          obtain ⟨x262, n264, s265, E266, e263, hF⟩ := mb_o hF
                          have hm := mle e263
                          have hM1 := mle1 hF
                          have hM2 := mle2 hF
                          have hm1 := hm.1
                          have hm2 := hm.2.1
                          have hFc := my_free hD hS hA
                          refine va_callr (va_runV (C := RJ4) (As := [.ref (AD nb ad155 t153)]) (rest := []) ⟨hx, hb, hml, hown, hts⟩ (h_J4_append_15ec4 l dC dI cy nb ad250 n251 s252 E253 hC (a3) Aa3 hr259 (t153) (AD nb ad155 t153) hr255 H.size x262 n264 s265 E266 e263) (cwV 1 hts (gV mw_618 mw_619 mw_620 mw_8 mw_621) rfl rfl rfl (by decide +kernel) ⟨Nat.le_of_ble_eq_true rfl, Nat.le_of_ble_eq_true rfl⟩) (hl_preV hP hK hD hE hS hFc (va_recv hK (rdO_ hP hC hr259 e261) (ci := 1) (q0 := 0) rfl rfl)) rfl rfl hl.1 rfl (lv_room (Nat.le_of_ble_eq_true rfl)) dL_textOf_345 ⟨show n251 - n0 + (n264 - n251) ≤ nz - n0 by omega, show s252 - s0 + (s265 - s252) ≤ sz9 - s0 by omega⟩) hS (fun q _ h => hFc q h) hFc (fun u ra t H1 locs ht hvm hw hB hz1 hk1 hS => ?_)
                          obtain ⟨ad267, hax, hr268, hP1, hD1⟩ := hB
                          rw [ht] at hP1
                          have hP := hP1
                          have hD := hD1.weaken (fun k q _ h => hFc q.1 h)
                          generalize H1 = H at hP hS ⊢
                          have hr255 := hr255.mv hC.1 hax
                          have hr256 := hr256.mv hC.1 hax
                          have hr257 := hr257.mv hC.1 hax
                          have hr258 := hr258.mv hC.1 hax
                          have hr259 := hr259.mv hC.1 hax
                          have hX := hX.trans hax
                          have hC := hm.2.2 hC
                          have hN : n0 ≤ n264 := Nat.le_trans hN hm1
                          have hT : s0 ≤ s265 := Nat.le_trans hT hm2
                          refine W.widen (k := n264 - n0) (n := s265 - s0) (by omega) (by omega) ?_
                          clear hP1 hD1 hFc hk1 hz1 hvm ht hax hm hm1 hm2 hM1 hM2
                          refine my_top (y := .ref (AD nb ad267 x262)) (congrArg Value.ref hr268.2.symm) ?_
                          have hr268 := rf_self hr268
                          refine lv_pop hx hb dL_textOf_348 rfl ?_
                          refine lv_iinc (v := (y254 + 1)) (lv' := [(14, .int (y254 + 1)), (13, .ref (AD nb ad155 t153)), (12, .ref (AD nb ad143 t141)), (11, .int t130), (10, .int (2 + x123)), (9, .int (((97 + x102).toUInt32 % 65536).toInt32)), (8, .int (((97 + x98).toUInt32 % 65536).toInt32)), (7, .int x92), (6, .int y87), (5, .int (1 + x19)), (4, .int x13), (3, .ref q5), (0, .ref Aa1), (1, .int a2), (2, .ref Aa3)]) hx hb dL_textOf_349 hl (k := 0) rfl (by rfl) (by decide) rfl (fun ls hl => ?_)
                          refine lv_goto (tgt := 335) hx hb dL_textOf_352 (by decide) ?_
                          have hl := lv_sub (l' := [(14, .int (y254 + 1)), (13, .ref (AD nb ad155 t153)), (12, .ref (AD nb ad143 t141)), (11, .int t130), (10, .int (2 + x123)), (9, .int (((97 + x102).toUInt32 % 65536).toInt32)), (8, .int (((97 + x98).toUInt32 % 65536).toInt32)), (7, .int x92), (6, .int y87), (5, .int (1 + x19)), (4, .int x13), (3, .ref q5), (0, .ref Aa1), (1, .int a2), (2, .ref Aa3)]) hl [0, 1, 2, 3, 4, 5, 6, 7, 8, 9, 10, 11, 12, 13, 14] rfl
                          exact ih _ _ _ _ hF hC hN hT _ _ _ _ hX hr255 hr256 hr257 hr258 hr259 hP hD hS hl
                    have hl := lv_sub (l' := [(14, .int 0), (13, .ref (AD nb ad155 t153)), (12, .ref (AD nb ad143 t141)), (11, .int t130), (10, .int (2 + x123)), (9, .int (((97 + x102).toUInt32 % 65536).toInt32)), (8, .int (((97 + x98).toUInt32 % 65536).toInt32)), (7, .int x92), (6, .int y87), (5, .int (1 + x19)), (4, .int x13), (3, .ref q5), (0, .ref Aa1), (1, .int a2), (2, .ref Aa3)]) hl [0, 1, 2, 3, 4, 5, 6, 7, 8, 9, 10, 11, 12, 13, 14] rfl
                    exact loop248 FUEL _ _ _ _ hL234 hC hN hT _ _ _ _ hX hr199 hr200 hr201 hr202 hr203 hP hD hS hl
                  have hK270 := mle1 hF
                  have hK271 := mle2 hF
                  clear hF hm
                  have hF := hJ193
                  clear hJ193
                  refine lv_if_ne (tgt := 316) hx hb dL_textOf_308 (by decide) (fun c191 => ?_) (fun c191 => ?_)
                  · skip
                    rw [if_neg c191] at hF
                    refine va_ldcS hx hb hown (hE.xr 5 rfl) dL_textOf_316 ?_
                    obtain ⟨ht9, hn9, hs9, hE9⟩ := mr_o hF
                    subst ht9 hn9 hs9 hE9
                    have hl := lv_sub (l' := [(13, .ref (AD nb ad155 t153)), (12, .ref (AD nb ad143 t141)), (11, .int t130), (10, .int (2 + x123)), (9, .int (((97 + x102).toUInt32 % 65536).toInt32)), (8, .int (((97 + x98).toUInt32 % 65536).toInt32)), (7, .int x92), (6, .int y87), (5, .int (1 + x19)), (4, .int x13), (3, .ref q5), (0, .ref Aa1), (1, .int a2), (2, .ref Aa3)]) hl [0, 1, 2, 3, 4, 5, 6, 7, 8, 9, 10, 11, 12, 13] rfl
                    refine W.eq (g2 := F0 m _ ls [.ref (AD nb ad186 (1001010)), .ref (AD nb ad186 x181)]) (by try rw [(rf_cc (j := 1010) (ad := ad186) : AD nb ad186 (1001010) = (nb 1010))]) ?_
                    exact join198 _ _ _ _ hX hr164 hr160 hr161 hr162 hr163 rf_cs hr187 hP hD hS hl
                  · skip
                    rw [if_pos c191] at hF
                    refine va_ldcS hx hb hown (hE.xr 4 rfl) dL_textOf_311 ?_
                    refine lv_goto (tgt := 318) hx hb dL_textOf_313 (by decide) ?_
                    obtain ⟨ht9, hn9, hs9, hE9⟩ := mr_o hF
                    subst ht9 hn9 hs9 hE9
                    have hl := lv_sub (l' := [(13, .ref (AD nb ad155 t153)), (12, .ref (AD nb ad143 t141)), (11, .int t130), (10, .int (2 + x123)), (9, .int (((97 + x102).toUInt32 % 65536).toInt32)), (8, .int (((97 + x98).toUInt32 % 65536).toInt32)), (7, .int x92), (6, .int y87), (5, .int (1 + x19)), (4, .int x13), (3, .ref q5), (0, .ref Aa1), (1, .int a2), (2, .ref Aa3)]) hl [0, 1, 2, 3, 4, 5, 6, 7, 8, 9, 10, 11, 12, 13] rfl
                    refine W.eq (g2 := F0 m _ ls [.ref (AD nb ad186 (1001008)), .ref (AD nb ad186 x181)]) (by try rw [(rf_cc (j := 1008) (ad := ad186) : AD nb ad186 (1001008) = (nb 1008))]) ?_
                    exact join198 _ _ _ _ hX hr164 hr160 hr161 hr162 hr163 rf_cs hr187 hP hD hS hl
                · skip
                  rw [if_neg c179] at hF
                  refine lv_goto (tgt := 355) hx hb dL_textOf_295 (by decide) ?_
                  obtain ⟨ht9, hn9, hs9, hE9⟩ := mr_o hF
                  subst ht9 hn9 hs9 hE9
                  have hl := lv_sub (l' := [(9, .int (((97 + x102).toUInt32 % 65536).toInt32)), (8, .int (((97 + x98).toUInt32 % 65536).toInt32)), (7, .int x92), (6, .int y87), (5, .int (1 + x19)), (4, .int x13), (3, .ref q5), (0, .ref Aa1), (1, .int a2), (2, .ref Aa3)]) hl [4, 5, 6, 7, 8, 9, 10, 11, 12, 13] rfl
                  exact join115 _ _ _ _ hX hr161 hr162 hr163 hP hD hS hl
              have hK272 := mle1 hF
              have hK273 := mle2 hF
              clear hF hm
              have hF := hJ154
              clear hJ154
              refine lv_if_eq (tgt := 273) hx hb dL_textOf_242 (by decide) (fun c152 => ?_) (fun c152 => ?_)
              · skip
                rw [if_pos c152] at hF
                refine lv_aload hx hb dL_textOf_273 (lv_at hl 0 rfl) ?_
                obtain ⟨ht9, hn9, hs9, hE9⟩ := mr_o hF
                subst ht9 hn9 hs9 hE9
                have hl := lv_sub (l' := [(12, .ref (AD nb ad143 t141)), (11, .int t130), (10, .int (2 + x123)), (9, .int (((97 + x102).toUInt32 % 65536).toInt32)), (8, .int (((97 + x98).toUInt32 % 65536).toInt32)), (7, .int x92), (6, .int y87), (5, .int (1 + x19)), (4, .int x13), (3, .ref q5), (0, .ref Aa1), (1, .int a2), (2, .ref Aa3)]) hl [0, 1, 2, 3, 4, 5, 6, 7, 8, 9, 10, 11, 12] rfl
                refine W.eq (g2 := F0 m _ ls [.ref (AD nb ad143 (t141))]) (by try rw [hr151.2]) ?_
                exact join159 _ _ _ _ hX hr151 hr148 hr149 hr150 (rf_self hr151) hP hD hS hl
              · skip
                rw [if_neg c152] at hF
                obtain ⟨x277, n274, s275, E276, hq, hF⟩ := mn_o hF
                have hM1 := mle1 hF
                have hM2 := mle2 hF
                have hq9 := hq.2.1
                have hq8 := hq.2.2.1
                refine va_new (ci := 1) (fs := [.null, .int 0, .int 0, .int 0]) (C := RJ4) (T := TJ4) (N := 4) hx hb hts inlJ4 tyJ4 tyJ4_ok hown (hts _ mw_6) (hts _ mw_7) (hts _ mw_8) hK hP hD hS hA rfl (fun j hj => by match j, hj with | 0, _ => rfl | 1, _ => rfl | 2, _ => rfl | 3, _ => rfl | (n+4), h => omega) (show n144 - n0 + 1 ≤ nz - n0 by omega) (show s145 - s0 + 4 ≤ sz9 - s0 by omega) dL_textOf_245 (fun q278 H hP hD hS => ?_)
                obtain ⟨ad279, hax, hr280, hC9, hw9⟩ := new_w (cy := cy) (nb := nb) (ad := ad143) (e := .inr (1, [.null, .int 0, .int 0, .int 0])) nok_J4 (fun _ => rfl) hC q278 hq
                rw [hw9] at hP hD
                have hr151 := hr151.mv hC.1 hax
                have hr148 := hr148.mv hC.1 hax
                have hr149 := hr149.mv hC.1 hax
                have hr150 := hr150.mv hC.1 hax
                have hX := hX.trans hax
                have hC := hC9
                obtain ⟨-, hq1, hq2, -, -⟩ := hq
                have hN : n0 ≤ n274 := by omega
                have hT : s0 ≤ s275 := by omega
                refine W.widen (k := n274 - n0) (n := s275 - s0) (by omega) (by omega) ?_
                clear hM1 hM2 hax hC9 hw9 hq1 hq2 hq8 hq9
                refine lv_dup hx hb dL_textOf_248 rfl ?_
                obtain ⟨⟨⟩, n282, s283, E284, e281, hF⟩ := mb_o hF
                have hm := mle e281
                have hM1 := mle1 hF
                have hM2 := mle2 hF
                have hm1 := hm.1
                have hm2 := hm.2.1
                have hFc := my_free hD hS hA
                refine va_callv (va_runI (As := []) (rest := [.ref q278]) ⟨hx, hb, hml, hown, hts⟩ (h_J4_init_da8c8 l dC dI cy nb ad279 n274 s275 E276 hC (x277) q278 hr280 H.size n282 s283 E284 e281) (cwI 0 hts (gI mw_583) rfl rfl rfl (hts _ mw_8) (hts _ mw_581) (hts _ mw_582) rfl (by decide +kernel) ⟨Nat.le_of_ble_eq_true rfl, Nat.le_of_ble_eq_true rfl⟩) (hl_preS hP hK hD hE hS hFc) rfl rfl hl.1 rfl (lv_room (Nat.le_of_ble_eq_true rfl)) dL_textOf_249 ⟨show n274 - n0 + (n282 - n274) ≤ nz - n0 by omega, show s275 - s0 + (s283 - s275) ≤ sz9 - s0 by omega⟩) hS (fun q _ h => hFc q h) hFc (fun u t H1 locs ht hvm hw hB hz1 hk1 hS => ?_)
                obtain ⟨ad285, hax, hP1, hD1⟩ := hB
                rw [ht] at hP1
                have hP := hP1
                have hD := hD1.weaken (fun k q _ h => hFc q.1 h)
                generalize H1 = H at hP hS ⊢
                have hr151 := hr151.mv hC.1 hax
                have hr148 := hr148.mv hC.1 hax
                have hr149 := hr149.mv hC.1 hax
                have hr150 := hr150.mv hC.1 hax
                have hr280 := hr280.mv hC.1 hax
                have hX := hX.trans hax
                have hC := hm.2.2 hC
                have hN : n0 ≤ n282 := Nat.le_trans hN hm1
                have hT : s0 ≤ s283 := Nat.le_trans hT hm2
                refine W.widen (k := n282 - n0) (n := s283 - s0) (by omega) (by omega) ?_
                clear hP1 hD1 hFc hk1 hz1 hvm ht hax hm hm1 hm2 hM1 hM2
                refine va_ldcS hx hb hown (hE.xr 1 rfl) dL_textOf_252 ?_
                obtain ⟨fs9, e286, hF⟩ := mg_o hF
                obtain ⟨x287, n289, s290, E291, e288, hF⟩ := mb_o hF
                have hm := mle e288
                have hM1 := mle1 hF
                have hM2 := mle2 hF
                have hm1 := hm.1
                have hm2 := hm.2.1
                have hFc := my_free hD hS hA
                refine va_callr (va_runV (C := RJ4) (As := [.ref (nb 1002)]) (rest := []) ⟨hx, hb, hml, hown, hts⟩ (h_J4_append_15ec4 l dC dI cy nb ad285 n282 s283 E284 hC (x277) q278 hr280 (1001002) (nb 1002) rf_c H.size x287 n289 s290 E291 e288) (cwV 1 hts (gV mw_618 mw_619 mw_620 mw_8 mw_621) rfl rfl rfl (by decide +kernel) ⟨Nat.le_of_ble_eq_true rfl, Nat.le_of_ble_eq_true rfl⟩) (hl_preV hP hK hD hE hS hFc (va_recv hK (rdO_ hP hC hr280 e286) (ci := 1) (q0 := 0) rfl rfl)) rfl rfl hl.1 rfl (lv_room (Nat.le_of_ble_eq_true rfl)) dL_textOf_254 ⟨show n282 - n0 + (n289 - n282) ≤ nz - n0 by omega, show s283 - s0 + (s290 - s283) ≤ sz9 - s0 by omega⟩) hS (fun q _ h => hFc q h) hFc (fun u ra t H1 locs ht hvm hw hB hz1 hk1 hS => ?_)
                obtain ⟨ad292, hax, hr293, hP1, hD1⟩ := hB
                rw [ht] at hP1
                have hP := hP1
                have hD := hD1.weaken (fun k q _ h => hFc q.1 h)
                generalize H1 = H at hP hS ⊢
                have hr151 := hr151.mv hC.1 hax
                have hr148 := hr148.mv hC.1 hax
                have hr149 := hr149.mv hC.1 hax
                have hr150 := hr150.mv hC.1 hax
                have hX := hX.trans hax
                have hC := hm.2.2 hC
                have hN : n0 ≤ n289 := Nat.le_trans hN hm1
                have hT : s0 ≤ s290 := Nat.le_trans hT hm2
                refine W.widen (k := n289 - n0) (n := s290 - s0) (by omega) (by omega) ?_
                clear hP1 hD1 hFc hk1 hz1 hvm ht hax hm hm1 hm2 hM1 hM2
                refine my_top (y := .ref (AD nb ad292 x287)) (congrArg Value.ref hr293.2.symm) ?_
                have hr293 := rf_self hr293
                refine lv_iload hx hb dL_textOf_257 (lv_at hl 4 rfl) ?_
                obtain ⟨fs9, e295, hF⟩ := mg_o hF
                obtain ⟨x296, n298, s299, E300, e297, hF⟩ := mb_o hF
                have hm := mle e297
                have hM1 := mle1 hF
                have hM2 := mle2 hF
                have hm1 := hm.1
                have hm2 := hm.2.1
                have hFc := my_free hD hS hA
                refine va_callr (va_runV (C := RJ4) (As := [.int (((97 + x98).toUInt32 % 65536).toInt32)]) (rest := []) ⟨hx, hb, hml, hown, hts⟩ (h_J4_append_cf468 l dC dI cy nb ad292 n289 s290 E291 hC (x287) (AD nb ad292 x287) hr293 ((((97 + x98).toUInt32 % 65536).toInt32)) H.size x296 n298 s299 E300 e297) (cwV 1 hts (gV mw_759 mw_760 mw_761 mw_8 mw_762) rfl rfl rfl (by decide +kernel) ⟨Nat.le_of_ble_eq_true rfl, Nat.le_of_ble_eq_true rfl⟩) (hl_preV hP hK hD hE hS hFc (va_recv hK (rdO_ hP hC hr293 e295) (ci := 1) (q0 := 0) rfl rfl)) rfl rfl hl.1 rfl (lv_room (Nat.le_of_ble_eq_true rfl)) dL_textOf_259 ⟨show n289 - n0 + (n298 - n289) ≤ nz - n0 by omega, show s290 - s0 + (s299 - s290) ≤ sz9 - s0 by omega⟩) hS (fun q _ h => hFc q h) hFc (fun u ra t H1 locs ht hvm hw hB hz1 hk1 hS => ?_)
                obtain ⟨ad301, hax, hr302, hP1, hD1⟩ := hB
                rw [ht] at hP1
                have hP := hP1
                have hD := hD1.weaken (fun k q _ h => hFc q.1 h)
                generalize H1 = H at hP hS ⊢
                have hr151 := hr151.mv hC.1 hax
                have hr148 := hr148.mv hC.1 hax
                have hr149 := hr149.mv hC.1 hax
                have hr150 := hr150.mv hC.1 hax
                have hX := hX.trans hax
                have hC := hm.2.2 hC
                have hN : n0 ≤ n298 := Nat.le_trans hN hm1
                have hT : s0 ≤ s299 := Nat.le_trans hT hm2
                refine W.widen (k := n298 - n0) (n := s299 - s0) (by omega) (by omega) ?_
                clear hP1 hD1 hFc hk1 hz1 hvm ht hax hm hm1 hm2 hM1 hM2
                refine my_top (y := .ref (AD nb ad301 x296)) (congrArg Value.ref hr302.2.symm) ?_
                have hr302 := rf_self hr302
                refine lv_iload hx hb dL_textOf_262 (lv_at hl 4 rfl) ?_
                obtain ⟨fs9, e304, hF⟩ := mg_o hF
                obtain ⟨x305, n307, s308, E309, e306, hF⟩ := mb_o hF
                have hm := mle e306
                have hM1 := mle1 hF
                have hM2 := mle2 hF
                have hm1 := hm.1
                have hm2 := hm.2.1
                have hFc := my_free hD hS hA
                refine va_callr (va_runV (C := RJ4) (As := [.int (((97 + x98).toUInt32 % 65536).toInt32)]) (rest := []) ⟨hx, hb, hml, hown, hts⟩ (h_J4_append_cf468 l dC dI cy nb ad301 n298 s299 E300 hC (x296) (AD nb ad301 x296) hr302 ((((97 + x98).toUInt32 % 65536).toInt32)) H.size x305 n307 s308 E309 e306) (cwV 1 hts (gV mw_759 mw_760 mw_761 mw_8 mw_762) rfl rfl rfl (by decide +kernel) ⟨Nat.le_of_ble_eq_true rfl, Nat.le_of_ble_eq_true rfl⟩) (hl_preV hP hK hD hE hS hFc (va_recv hK (rdO_ hP hC hr302 e304) (ci := 1) (q0 := 0) rfl rfl)) rfl rfl hl.1 rfl (lv_room (Nat.le_of_ble_eq_true rfl)) dL_textOf_264 ⟨show n298 - n0 + (n307 - n298) ≤ nz - n0 by omega, show s299 - s0 + (s308 - s299) ≤ sz9 - s0 by omega⟩) hS (fun q _ h => hFc q h) hFc (fun u ra t H1 locs ht hvm hw hB hz1 hk1 hS => ?_)
                obtain ⟨ad310, hax, hr311, hP1, hD1⟩ := hB
                rw [ht] at hP1
                have hP := hP1
                have hD := hD1.weaken (fun k q _ h => hFc q.1 h)
                generalize H1 = H at hP hS ⊢
                have hr151 := hr151.mv hC.1 hax
                have hr148 := hr148.mv hC.1 hax
                have hr149 := hr149.mv hC.1 hax
                have hr150 := hr150.mv hC.1 hax
                have hX := hX.trans hax
                have hC := hm.2.2 hC
                have hN : n0 ≤ n307 := Nat.le_trans hN hm1
                have hT : s0 ≤ s308 := Nat.le_trans hT hm2
                refine W.widen (k := n307 - n0) (n := s308 - s0) (by omega) (by omega) ?_
                clear hP1 hD1 hFc hk1 hz1 hvm ht hax hm hm1 hm2 hM1 hM2
                refine my_top (y := .ref (AD nb ad310 x305)) (congrArg Value.ref hr311.2.symm) ?_
                have hr311 := rf_self hr311
                obtain ⟨fs9, e313, hF⟩ := mg_o hF
                obtain ⟨x314, n316, s317, E318, e315, hF⟩ := mb_o hF
                have hm := mle e315
                have hM1 := mle1 hF
                have hM2 := mle2 hF
                have hm1 := hm.1
                have hm2 := hm.2.1
                have hFc := my_free hD hS hA
                refine va_callr (va_runV (C := RJ4) (As := []) (rest := []) ⟨hx, hb, hml, hown, hts⟩ (h_J4_toString_0e30d l dC dI cy nb ad310 n307 s308 E309 hC (x305) (AD nb ad310 x305) hr311 H.size x314 n316 s317 E318 e315) (cwV 0 hts (gV mw_780 mw_781 mw_782 mw_8 mw_783) rfl rfl rfl (by decide +kernel) ⟨Nat.le_of_ble_eq_true rfl, Nat.le_of_ble_eq_true rfl⟩) (hl_preV hP hK hD hE hS hFc (va_recv hK (rdO_ hP hC hr311 e313) (ci := 1) (q0 := 0) rfl rfl)) rfl rfl hl.1 rfl (lv_room (Nat.le_of_ble_eq_true rfl)) dL_textOf_267 ⟨show n307 - n0 + (n316 - n307) ≤ nz - n0 by omega, show s308 - s0 + (s317 - s308) ≤ sz9 - s0 by omega⟩) hS (fun q _ h => hFc q h) hFc (fun u ra t H1 locs ht hvm hw hB hz1 hk1 hS => ?_)
                obtain ⟨ad319, hax, hr320, hP1, hD1⟩ := hB
                rw [ht] at hP1
                have hP := hP1
                have hD := hD1.weaken (fun k q _ h => hFc q.1 h)
                generalize H1 = H at hP hS ⊢
                have hr151 := hr151.mv hC.1 hax
                have hr148 := hr148.mv hC.1 hax
                have hr149 := hr149.mv hC.1 hax
                have hr150 := hr150.mv hC.1 hax
                have hX := hX.trans hax
                have hC := hm.2.2 hC
                have hN : n0 ≤ n316 := Nat.le_trans hN hm1
                have hT : s0 ≤ s317 := Nat.le_trans hT hm2
                refine W.widen (k := n316 - n0) (n := s317 - s0) (by omega) (by omega) ?_
                clear hP1 hD1 hFc hk1 hz1 hvm ht hax hm hm1 hm2 hM1 hM2
                refine my_top (y := .ref (AD nb ad319 x314)) (congrArg Value.ref hr320.2.symm) ?_
                have hr320 := rf_self hr320
                refine lv_goto (tgt := 275) hx hb dL_textOf_270 (by decide) ?_
                obtain ⟨ht9, hn9, hs9, hE9⟩ := mr_o hF
                subst ht9 hn9 hs9 hE9
                have hl := lv_sub (l' := [(12, .ref (AD nb ad143 t141)), (11, .int t130), (10, .int (2 + x123)), (9, .int (((97 + x102).toUInt32 % 65536).toInt32)), (8, .int (((97 + x98).toUInt32 % 65536).toInt32)), (7, .int x92), (6, .int y87), (5, .int (1 + x19)), (4, .int x13), (3, .ref q5), (0, .ref Aa1), (1, .int a2), (2, .ref Aa3)]) hl [0, 1, 2, 3, 4, 5, 6, 7, 8, 9, 10, 11, 12] rfl
                refine W.eq (g2 := F0 m _ ls [.ref (AD nb ad319 (x314))]) (by try rw [hr320.2]) ?_
                exact join159 _ _ _ _ hX hr151 hr148 hr149 hr150 (rf_self hr320) hP hD hS hl
            have hK322 := mle1 hF
            have hK323 := mle2 hF
            clear hF hm
            have hF := hJ142
            clear hJ142
            refine lv_if_eq (tgt := 195) hx hb dL_textOf_164 (by decide) (fun c140 => ?_) (fun c140 => ?_)
            · skip
              rw [if_pos c140] at hF
              obtain ⟨x327, n324, s325, E326, hq, hF⟩ := mn_o hF
              have hM1 := mle1 hF
              have hM2 := mle2 hF
              have hq9 := hq.2.1
              have hq8 := hq.2.2.1
              refine va_new (ci := 1) (fs := [.null, .int 0, .int 0, .int 0]) (C := RJ4) (T := TJ4) (N := 4) hx hb hts inlJ4 tyJ4 tyJ4_ok hown (hts _ mw_6) (hts _ mw_7) (hts _ mw_8) hK hP hD hS hA rfl (fun j hj => by match j, hj with | 0, _ => rfl | 1, _ => rfl | 2, _ => rfl | 3, _ => rfl | (n+4), h => omega) (show n133 - n0 + 1 ≤ nz - n0 by omega) (show s134 - s0 + 4 ≤ sz9 - s0 by omega) dL_textOf_195 (fun q328 H hP hD hS => ?_)
              obtain ⟨ad329, hax, hr330, hC9, hw9⟩ := new_w (cy := cy) (nb := nb) (ad := ad132) (e := .inr (1, [.null, .int 0, .int 0, .int 0])) nok_J4 (fun _ => rfl) hC q328 hq
              rw [hw9] at hP hD
              have hr137 := hr137.mv hC.1 hax
              have hr138 := hr138.mv hC.1 hax
              have hr139 := hr139.mv hC.1 hax
              have hX := hX.trans hax
              have hC := hC9
              obtain ⟨-, hq1, hq2, -, -⟩ := hq
              have hN : n0 ≤ n324 := by omega
              have hT : s0 ≤ s325 := by omega
              refine W.widen (k := n324 - n0) (n := s325 - s0) (by omega) (by omega) ?_
              clear hM1 hM2 hax hC9 hw9 hq1 hq2 hq8 hq9
              refine lv_dup hx hb dL_textOf_198 rfl ?_
              obtain ⟨⟨⟩, n332, s333, E334, e331, hF⟩ := mb_o hF
              have hm := mle e331
              have hM1 := mle1 hF
              have hM2 := mle2 hF
              have hm1 := hm.1
              have hm2 := hm.2.1
              have hFc := my_free hD hS hA
              refine va_callv (va_runI (As := []) (rest := [.ref q328]) ⟨hx, hb, hml, hown, hts⟩ (h_J4_init_da8c8 l dC dI cy nb ad329 n324 s325 E326 hC (x327) q328 hr330 H.size n332 s333 E334 e331) (cwI 0 hts (gI mw_583) rfl rfl rfl (hts _ mw_8) (hts _ mw_581) (hts _ mw_582) rfl (by decide +kernel) ⟨Nat.le_of_ble_eq_true rfl, Nat.le_of_ble_eq_true rfl⟩) (hl_preS hP hK hD hE hS hFc) rfl rfl hl.1 rfl (lv_room (Nat.le_of_ble_eq_true rfl)) dL_textOf_199 ⟨show n324 - n0 + (n332 - n324) ≤ nz - n0 by omega, show s325 - s0 + (s333 - s325) ≤ sz9 - s0 by omega⟩) hS (fun q _ h => hFc q h) hFc (fun u t H1 locs ht hvm hw hB hz1 hk1 hS => ?_)
              obtain ⟨ad335, hax, hP1, hD1⟩ := hB
              rw [ht] at hP1
              have hP := hP1
              have hD := hD1.weaken (fun k q _ h => hFc q.1 h)
              generalize H1 = H at hP hS ⊢
              have hr137 := hr137.mv hC.1 hax
              have hr138 := hr138.mv hC.1 hax
              have hr139 := hr139.mv hC.1 hax
              have hr330 := hr330.mv hC.1 hax
              have hX := hX.trans hax
              have hC := hm.2.2 hC
              have hN : n0 ≤ n332 := Nat.le_trans hN hm1
              have hT : s0 ≤ s333 := Nat.le_trans hT hm2
              refine W.widen (k := n332 - n0) (n := s333 - s0) (by omega) (by omega) ?_
              clear hP1 hD1 hFc hk1 hz1 hvm ht hax hm hm1 hm2 hM1 hM2
              refine lv_iload hx hb dL_textOf_202 (lv_at hl 3 rfl) ?_
              obtain ⟨fs9, e336, hF⟩ := mg_o hF
              obtain ⟨x337, n339, s340, E341, e338, hF⟩ := mb_o hF
              have hm := mle e338
              have hM1 := mle1 hF
              have hM2 := mle2 hF
              have hm1 := hm.1
              have hm2 := hm.2.1
              have hFc := my_free hD hS hA
              refine va_callr (va_runV (C := RJ4) (As := [.int (((97 + x98).toUInt32 % 65536).toInt32)]) (rest := []) ⟨hx, hb, hml, hown, hts⟩ (h_J4_append_cf468 l dC dI cy nb ad335 n332 s333 E334 hC (x327) q328 hr330 ((((97 + x98).toUInt32 % 65536).toInt32)) H.size x337 n339 s340 E341 e338) (cwV 1 hts (gV mw_759 mw_760 mw_761 mw_8 mw_762) rfl rfl rfl (by decide +kernel) ⟨Nat.le_of_ble_eq_true rfl, Nat.le_of_ble_eq_true rfl⟩) (hl_preV hP hK hD hE hS hFc (va_recv hK (rdO_ hP hC hr330 e336) (ci := 1) (q0 := 0) rfl rfl)) rfl rfl hl.1 rfl (lv_room (Nat.le_of_ble_eq_true rfl)) dL_textOf_204 ⟨show n332 - n0 + (n339 - n332) ≤ nz - n0 by omega, show s333 - s0 + (s340 - s333) ≤ sz9 - s0 by omega⟩) hS (fun q _ h => hFc q h) hFc (fun u ra t H1 locs ht hvm hw hB hz1 hk1 hS => ?_)
              obtain ⟨ad342, hax, hr343, hP1, hD1⟩ := hB
              rw [ht] at hP1
              have hP := hP1
              have hD := hD1.weaken (fun k q _ h => hFc q.1 h)
              generalize H1 = H at hP hS ⊢
              have hr137 := hr137.mv hC.1 hax
              have hr138 := hr138.mv hC.1 hax
              have hr139 := hr139.mv hC.1 hax
              have hX := hX.trans hax
              have hC := hm.2.2 hC
              have hN : n0 ≤ n339 := Nat.le_trans hN hm1
              have hT : s0 ≤ s340 := Nat.le_trans hT hm2
              refine W.widen (k := n339 - n0) (n := s340 - s0) (by omega) (by omega) ?_
              clear hP1 hD1 hFc hk1 hz1 hvm ht hax hm hm1 hm2 hM1 hM2
              refine my_top (y := .ref (AD nb ad342 x337)) (congrArg Value.ref hr343.2.symm) ?_
              have hr343 := rf_self hr343
              refine va_ldcS hx hb hown (hE.xr 1 rfl) dL_textOf_207 ?_
              obtain ⟨fs9, e345, hF⟩ := mg_o hF
              obtain ⟨x346, n348, s349, E350, e347, hF⟩ := mb_o hF
              have hm := mle e347
              have hM1 := mle1 hF
              have hM2 := mle2 hF
              have hm1 := hm.1
              have hm2 := hm.2.1
              have hFc := my_free hD hS hA
              refine va_callr (va_runV (C := RJ4) (As := [.ref (nb 1002)]) (rest := []) ⟨hx, hb, hml, hown, hts⟩ (h_J4_append_15ec4 l dC dI cy nb ad342 n339 s340 E341 hC (x337) (AD nb ad342 x337) hr343 (1001002) (nb 1002) rf_c H.size x346 n348 s349 E350 e347) (cwV 1 hts (gV mw_618 mw_619 mw_620 mw_8 mw_621) rfl rfl rfl (by decide +kernel) ⟨Nat.le_of_ble_eq_true rfl, Nat.le_of_ble_eq_true rfl⟩) (hl_preV hP hK hD hE hS hFc (va_recv hK (rdO_ hP hC hr343 e345) (ci := 1) (q0 := 0) rfl rfl)) rfl rfl hl.1 rfl (lv_room (Nat.le_of_ble_eq_true rfl)) dL_textOf_209 ⟨show n339 - n0 + (n348 - n339) ≤ nz - n0 by omega, show s340 - s0 + (s349 - s340) ≤ sz9 - s0 by omega⟩) hS (fun q _ h => hFc q h) hFc (fun u ra t H1 locs ht hvm hw hB hz1 hk1 hS => ?_)
              obtain ⟨ad351, hax, hr352, hP1, hD1⟩ := hB
              rw [ht] at hP1
              have hP := hP1
              have hD := hD1.weaken (fun k q _ h => hFc q.1 h)
              generalize H1 = H at hP hS ⊢
              have hr137 := hr137.mv hC.1 hax
              have hr138 := hr138.mv hC.1 hax
              have hr139 := hr139.mv hC.1 hax
              have hX := hX.trans hax
              have hC := hm.2.2 hC
              have hN : n0 ≤ n348 := Nat.le_trans hN hm1
              have hT : s0 ≤ s349 := Nat.le_trans hT hm2
              refine W.widen (k := n348 - n0) (n := s349 - s0) (by omega) (by omega) ?_
              clear hP1 hD1 hFc hk1 hz1 hvm ht hax hm hm1 hm2 hM1 hM2
              refine my_top (y := .ref (AD nb ad351 x346)) (congrArg Value.ref hr352.2.symm) ?_
              have hr352 := rf_self hr352
              refine lv_iload hx hb dL_textOf_212 (lv_at hl 4 rfl) ?_
              refine lv_ldc (v := 32768) hx hb hown (hts _ mw_1041) dL_textOf_214 ?_
              obtain ⟨x354, e355, hF⟩ := mp_o hF
              refine lv_idiv hx hb dL_textOf_216 (dv_ne e355) ?_
              refine my_topi (y := x354) (dv_eq e355) ?_
              refine lv_iconst (v := 2) hx hb dL_textOf_217 (by decide) ?_
              obtain ⟨x356, e357, hF⟩ := mp_o hF
              refine lv_irem hx hb dL_textOf_218 (rm_ne e357) ?_
              refine my_topi (y := x356) (rm_eq e357) ?_
              obtain ⟨t359, n362, s363, E364, hJ360, hF⟩ := mb_o hF
              have hm := mle hJ360
              have join365 : ∀ (ad361 : Nat → Nat) (H : Heap) (locs : List Loc) (ls : Array Slot), axh n0 ad0 n362 ad361 → rf nb ad361 n362 (x4) (q5) → rf nb ad361 n362 (a1) (Aa1) → rf nb ad361 n362 (a3) (Aa3) → rf nb ad361 n362 (t359) ((AD nb ad361 t359)) → rf nb ad361 n362 (x346) ((AD nb ad351 x346)) → va_P (dC, dI) vwCl (CH cy nb ad361 n362 E364) H → va_D A (CH cy nb ad361 n362 E364) → va_S A s.heap H locs → lv_has ls 15 [(11, .int t130), (10, .int (2 + x123)), (9, .int (((97 + x102).toUInt32 % 65536).toInt32)), (8, .int (((97 + x98).toUInt32 % 65536).toInt32)), (7, .int x92), (6, .int y87), (5, .int (1 + x19)), (4, .int x13), (3, .ref q5), (0, .ref Aa1), (1, .int a2), (2, .ref Aa3)] → W p l e (headSpec (wsg yL_textOf cL_textOf 15 (some (.object "java/lang/String"))) ({ frames := 14, cells := nz - n0, slots := sz9 - s0, locals := 900 })).room s m ([.ref Aa1, .int a2, .ref Aa3] : List Value).toArray below meth c H locs (n362 - n0) (s363 - s0) Qn (F0 m 232 ls [.ref (AD nb ad361 t359), .ref (AD nb ad351 x346)]) := by
                intro ad361 H locs ls hX hr366 hr367 hr368 hr369 hr370 hP hD hS hl
                have hC := hm.2.2 hC
                have hN : n0 ≤ n362 := Nat.le_trans hN hm.1
                have hT : s0 ≤ s363 := Nat.le_trans hT hm.2.1
                clear hm
                obtain ⟨fs9, e371, hF⟩ := mg_o hF
                obtain ⟨x372, n374, s375, E376, e373, hF⟩ := mb_o hF
                have hm := mle e373
                have hM1 := mle1 hF
                have hM2 := mle2 hF
                have hm1 := hm.1
                have hm2 := hm.2.1
                have hFc := my_free hD hS hA
                refine va_callr (va_runV (C := RJ4) (As := [.ref (AD nb ad361 t359)]) (rest := []) ⟨hx, hb, hml, hown, hts⟩ (h_J4_append_533cd l dC dI cy nb ad361 n362 s363 E364 hC (x346) (AD nb ad351 x346) hr370 (t359) (AD nb ad361 t359) hr369 H.size x372 n374 s375 E376 e373) (cwV 1 hts (gV mw_990 mw_991 mw_992 mw_8 mw_993) rfl rfl rfl (by decide +kernel) ⟨Nat.le_of_ble_eq_true rfl, Nat.le_of_ble_eq_true rfl⟩) (hl_preV hP hK hD hE hS hFc (va_recv hK (rdO_ hP hC hr370 e371) (ci := 1) (q0 := 0) rfl rfl)) rfl rfl hl.1 rfl (lv_room (Nat.le_of_ble_eq_true rfl)) dL_textOf_232 ⟨show n362 - n0 + (n374 - n362) ≤ nz - n0 by omega, show s363 - s0 + (s375 - s363) ≤ sz9 - s0 by omega⟩) hS (fun q _ h => hFc q h) hFc (fun u ra t H1 locs ht hvm hw hB hz1 hk1 hS => ?_)
                obtain ⟨ad377, hax, hr378, hP1, hD1⟩ := hB
                rw [ht] at hP1
                have hP := hP1
                have hD := hD1.weaken (fun k q _ h => hFc q.1 h)
                generalize H1 = H at hP hS ⊢
                have hr366 := hr366.mv hC.1 hax
                have hr367 := hr367.mv hC.1 hax
                have hr368 := hr368.mv hC.1 hax
                have hX := hX.trans hax
                have hC := hm.2.2 hC
                have hN : n0 ≤ n374 := Nat.le_trans hN hm1
                have hT : s0 ≤ s375 := Nat.le_trans hT hm2
                refine W.widen (k := n374 - n0) (n := s375 - s0) (by omega) (by omega) ?_
                clear hP1 hD1 hFc hk1 hz1 hvm ht hax hm hm1 hm2 hM1 hM2
                refine my_top (y := .ref (AD nb ad377 x372)) (congrArg Value.ref hr378.2.symm) ?_
                have hr378 := rf_self hr378
                obtain ⟨fs9, e380, hF⟩ := mg_o hF
                obtain ⟨x381, n383, s384, E385, e382, hF⟩ := mb_o hF
                have hm := mle e382
                have hM1 := mle1 hF
                have hM2 := mle2 hF
                have hm1 := hm.1
                have hm2 := hm.2.1
                have hFc := my_free hD hS hA
                refine va_callr (va_runV (C := RJ4) (As := []) (rest := []) ⟨hx, hb, hml, hown, hts⟩ (h_J4_toString_0e30d l dC dI cy nb ad377 n374 s375 E376 hC (x372) (AD nb ad377 x372) hr378 H.size x381 n383 s384 E385 e382) (cwV 0 hts (gV mw_780 mw_781 mw_782 mw_8 mw_783) rfl rfl rfl (by decide +kernel) ⟨Nat.le_of_ble_eq_true rfl, Nat.le_of_ble_eq_true rfl⟩) (hl_preV hP hK hD hE hS hFc (va_recv hK (rdO_ hP hC hr378 e380) (ci := 1) (q0 := 0) rfl rfl)) rfl rfl hl.1 rfl (lv_room (Nat.le_of_ble_eq_true rfl)) dL_textOf_235 ⟨show n374 - n0 + (n383 - n374) ≤ nz - n0 by omega, show s375 - s0 + (s384 - s375) ≤ sz9 - s0 by omega⟩) hS (fun q _ h => hFc q h) hFc (fun u ra t H1 locs ht hvm hw hB hz1 hk1 hS => ?_)
                obtain ⟨ad386, hax, hr387, hP1, hD1⟩ := hB
                rw [ht] at hP1
                have hP := hP1
                have hD := hD1.weaken (fun k q _ h => hFc q.1 h)
                generalize H1 = H at hP hS ⊢
                have hr366 := hr366.mv hC.1 hax
                have hr367 := hr367.mv hC.1 hax
                have hr368 := hr368.mv hC.1 hax
                have hX := hX.trans hax
                have hC := hm.2.2 hC
                have hN : n0 ≤ n383 := Nat.le_trans hN hm1
                have hT : s0 ≤ s384 := Nat.le_trans hT hm2
                refine W.widen (k := n383 - n0) (n := s384 - s0) (by omega) (by omega) ?_
                clear hP1 hD1 hFc hk1 hz1 hvm ht hax hm hm1 hm2 hM1 hM2
                refine my_top (y := .ref (AD nb ad386 x381)) (congrArg Value.ref hr387.2.symm) ?_
                have hr387 := rf_self hr387
                obtain ⟨ht9, hn9, hs9, hE9⟩ := mr_o hF
                subst ht9 hn9 hs9 hE9
                have hl := lv_sub (l' := [(11, .int t130), (10, .int (2 + x123)), (9, .int (((97 + x102).toUInt32 % 65536).toInt32)), (8, .int (((97 + x98).toUInt32 % 65536).toInt32)), (7, .int x92), (6, .int y87), (5, .int (1 + x19)), (4, .int x13), (3, .ref q5), (0, .ref Aa1), (1, .int a2), (2, .ref Aa3)]) hl [0, 1, 2, 3, 4, 5, 6, 7, 8, 9, 10, 11] rfl
                refine W.eq (g2 := F0 m _ ls [.ref (AD nb ad386 (x381))]) (by try rw [hr387.2]) ?_
                exact join147 _ _ _ _ hX hr366 hr367 hr368 (rf_self hr387) hP hD hS hl
              have hK389 := mle1 hF
              have hK390 := mle2 hF
              clear hF hm
              have hF := hJ360
              clear hJ360
              refine lv_if_ne (tgt := 230) hx hb dL_textOf_219 (by decide) (fun c358 => ?_) (fun c358 => ?_)
              · skip
                rw [if_neg c358] at hF
                refine va_ldcS hx hb hown (hE.xr 1 rfl) dL_textOf_230 ?_
                obtain ⟨ht9, hn9, hs9, hE9⟩ := mr_o hF
                subst ht9 hn9 hs9 hE9
                have hl := lv_sub (l' := [(11, .int t130), (10, .int (2 + x123)), (9, .int (((97 + x102).toUInt32 % 65536).toInt32)), (8, .int (((97 + x98).toUInt32 % 65536).toInt32)), (7, .int x92), (6, .int y87), (5, .int (1 + x19)), (4, .int x13), (3, .ref q5), (0, .ref Aa1), (1, .int a2), (2, .ref Aa3)]) hl [0, 1, 2, 3, 4, 5, 6, 7, 8, 9, 10, 11] rfl
                refine W.eq (g2 := F0 m _ ls [.ref (AD nb ad351 (1001002)), .ref (AD nb ad351 x346)]) (by try rw [(rf_cc (j := 1002) (ad := ad351) : AD nb ad351 (1001002) = (nb 1002))]) ?_
                exact join365 _ _ _ _ hX hr137 hr138 hr139 rf_cs hr352 hP hD hS hl
              · skip
                rw [if_pos c358] at hF
                refine lv_iload hx hb dL_textOf_222 (lv_at hl 2 rfl) ?_
                obtain ⟨x391, n393, s394, E395, e392, hF⟩ := mb_o hF
                have hm := mle e392
                have hM1 := mle1 hF
                have hM2 := mle2 hF
                have hm1 := hm.1
                have hm2 := hm.2.1
                have hFc := my_free hD hS hA
                refine va_callr (va_runS (As := [.int (((97 + x102).toUInt32 % 65536).toInt32)]) (rest := [.ref (AD nb ad351 x346)]) ⟨hx, hb, hml, hown, hts⟩ (h_J11_valueOf_f0083 l dC dI cy nb ad351 n348 s349 E350 hC ((((97 + x102).toUInt32 % 65536).toInt32)) H.size x391 n393 s394 E395 e392) (va_cwS 1 hts (gS mw_1044 mw_1045 mw_1005 mw_1046) rfl rfl rfl (by decide +kernel) ⟨Nat.le_of_ble_eq_true rfl, Nat.le_of_ble_eq_true rfl⟩) (hl_preS hP hK hD hE hS hFc) rfl rfl hl.1 rfl (lv_room (Nat.le_of_ble_eq_true rfl)) dL_textOf_224 ⟨show n348 - n0 + (n393 - n348) ≤ nz - n0 by omega, show s349 - s0 + (s394 - s349) ≤ sz9 - s0 by omega⟩) hS (fun q _ h => hFc q h) hFc (fun u ra t H1 locs ht hvm hw hB hz1 hk1 hS => ?_)
                obtain ⟨ad396, hax, hr397, hP1, hD1⟩ := hB
                rw [ht] at hP1
                have hP := hP1
                have hD := hD1.weaken (fun k q _ h => hFc q.1 h)
                generalize H1 = H at hP hS ⊢
                have hr137 := hr137.mv hC.1 hax
                have hr138 := hr138.mv hC.1 hax
                have hr139 := hr139.mv hC.1 hax
                have hr352 := hr352.mv hC.1 hax
                have hX := hX.trans hax
                have hC := hm.2.2 hC
                have hN : n0 ≤ n393 := Nat.le_trans hN hm1
                have hT : s0 ≤ s394 := Nat.le_trans hT hm2
                refine W.widen (k := n393 - n0) (n := s394 - s0) (by omega) (by omega) ?_
                clear hP1 hD1 hFc hk1 hz1 hvm ht hax hm hm1 hm2 hM1 hM2
                refine my_top (y := .ref (AD nb ad396 x391)) (congrArg Value.ref hr397.2.symm) ?_
                have hr397 := rf_self hr397
                refine lv_goto (tgt := 232) hx hb dL_textOf_227 (by decide) ?_
                obtain ⟨ht9, hn9, hs9, hE9⟩ := mr_o hF
                subst ht9 hn9 hs9 hE9
                have hl := lv_sub (l' := [(11, .int t130), (10, .int (2 + x123)), (9, .int (((97 + x102).toUInt32 % 65536).toInt32)), (8, .int (((97 + x98).toUInt32 % 65536).toInt32)), (7, .int x92), (6, .int y87), (5, .int (1 + x19)), (4, .int x13), (3, .ref q5), (0, .ref Aa1), (1, .int a2), (2, .ref Aa3)]) hl [0, 1, 2, 3, 4, 5, 6, 7, 8, 9, 10, 11] rfl
                refine W.eq (g2 := F0 m _ ls [.ref (AD nb ad396 (x391)), .ref (AD nb ad351 x346)]) (by try rw [hr397.2]) ?_
                exact join365 _ _ _ _ hX hr137 hr138 hr139 (rf_self hr397) hr352 hP hD hS hl
            · skip
              rw [if_neg c140] at hF
              obtain ⟨x402, n399, s400, E401, hq, hF⟩ := mn_o hF
              have hM1 := mle1 hF
              have hM2 := mle2 hF
              have hq9 := hq.2.1
              have hq8 := hq.2.2.1
              refine va_new (ci := 1) (fs := [.null, .int 0, .int 0, .int 0]) (C := RJ4) (T := TJ4) (N := 4) hx hb hts inlJ4 tyJ4 tyJ4_ok hown (hts _ mw_6) (hts _ mw_7) (hts _ mw_8) hK hP hD hS hA rfl (fun j hj => by match j, hj with | 0, _ => rfl | 1, _ => rfl | 2, _ => rfl | 3, _ => rfl | (n+4), h => omega) (show n133 - n0 + 1 ≤ nz - n0 by omega) (show s134 - s0 + 4 ≤ sz9 - s0 by omega) dL_textOf_167 (fun q403 H hP hD hS => ?_)
              obtain ⟨ad404, hax, hr405, hC9, hw9⟩ := new_w (cy := cy) (nb := nb) (ad := ad132) (e := .inr (1, [.null, .int 0, .int 0, .int 0])) nok_J4 (fun _ => rfl) hC q403 hq
              rw [hw9] at hP hD
              have hr137 := hr137.mv hC.1 hax
              have hr138 := hr138.mv hC.1 hax
              have hr139 := hr139.mv hC.1 hax
              have hX := hX.trans hax
              have hC := hC9
              obtain ⟨-, hq1, hq2, -, -⟩ := hq
              have hN : n0 ≤ n399 := by omega
              have hT : s0 ≤ s400 := by omega
              refine W.widen (k := n399 - n0) (n := s400 - s0) (by omega) (by omega) ?_
              clear hM1 hM2 hax hC9 hw9 hq1 hq2 hq8 hq9
              refine lv_dup hx hb dL_textOf_170 rfl ?_
              obtain ⟨⟨⟩, n407, s408, E409, e406, hF⟩ := mb_o hF
              have hm := mle e406
              have hM1 := mle1 hF
              have hM2 := mle2 hF
              have hm1 := hm.1
              have hm2 := hm.2.1
              have hFc := my_free hD hS hA
              refine va_callv (va_runI (As := []) (rest := [.ref q403]) ⟨hx, hb, hml, hown, hts⟩ (h_J4_init_da8c8 l dC dI cy nb ad404 n399 s400 E401 hC (x402) q403 hr405 H.size n407 s408 E409 e406) (cwI 0 hts (gI mw_583) rfl rfl rfl (hts _ mw_8) (hts _ mw_581) (hts _ mw_582) rfl (by decide +kernel) ⟨Nat.le_of_ble_eq_true rfl, Nat.le_of_ble_eq_true rfl⟩) (hl_preS hP hK hD hE hS hFc) rfl rfl hl.1 rfl (lv_room (Nat.le_of_ble_eq_true rfl)) dL_textOf_171 ⟨show n399 - n0 + (n407 - n399) ≤ nz - n0 by omega, show s400 - s0 + (s408 - s400) ≤ sz9 - s0 by omega⟩) hS (fun q _ h => hFc q h) hFc (fun u t H1 locs ht hvm hw hB hz1 hk1 hS => ?_)
              obtain ⟨ad410, hax, hP1, hD1⟩ := hB
              rw [ht] at hP1
              have hP := hP1
              have hD := hD1.weaken (fun k q _ h => hFc q.1 h)
              generalize H1 = H at hP hS ⊢
              have hr137 := hr137.mv hC.1 hax
              have hr138 := hr138.mv hC.1 hax
              have hr139 := hr139.mv hC.1 hax
              have hr405 := hr405.mv hC.1 hax
              have hX := hX.trans hax
              have hC := hm.2.2 hC
              have hN : n0 ≤ n407 := Nat.le_trans hN hm1
              have hT : s0 ≤ s408 := Nat.le_trans hT hm2
              refine W.widen (k := n407 - n0) (n := s408 - s0) (by omega) (by omega) ?_
              clear hP1 hD1 hFc hk1 hz1 hvm ht hax hm hm1 hm2 hM1 hM2
              refine va_ldcS hx hb hown (hE.xr 2 rfl) dL_textOf_174 ?_
              obtain ⟨fs9, e411, hF⟩ := mg_o hF
              obtain ⟨x412, n414, s415, E416, e413, hF⟩ := mb_o hF
              have hm := mle e413
              have hM1 := mle1 hF
              have hM2 := mle2 hF
              have hm1 := hm.1
              have hm2 := hm.2.1
              have hFc := my_free hD hS hA
              refine va_callr (va_runV (C := RJ4) (As := [.ref (nb 1004)]) (rest := []) ⟨hx, hb, hml, hown, hts⟩ (h_J4_append_15ec4 l dC dI cy nb ad410 n407 s408 E409 hC (x402) q403 hr405 (1001004) (nb 1004) rf_c H.size x412 n414 s415 E416 e413) (cwV 1 hts (gV mw_618 mw_619 mw_620 mw_8 mw_621) rfl rfl rfl (by decide +kernel) ⟨Nat.le_of_ble_eq_true rfl, Nat.le_of_ble_eq_true rfl⟩) (hl_preV hP hK hD hE hS hFc (va_recv hK (rdO_ hP hC hr405 e411) (ci := 1) (q0 := 0) rfl rfl)) rfl rfl hl.1 rfl (lv_room (Nat.le_of_ble_eq_true rfl)) dL_textOf_176 ⟨show n407 - n0 + (n414 - n407) ≤ nz - n0 by omega, show s408 - s0 + (s415 - s408) ≤ sz9 - s0 by omega⟩) hS (fun q _ h => hFc q h) hFc (fun u ra t H1 locs ht hvm hw hB hz1 hk1 hS => ?_)
              obtain ⟨ad417, hax, hr418, hP1, hD1⟩ := hB
              rw [ht] at hP1
              have hP := hP1
              have hD := hD1.weaken (fun k q _ h => hFc q.1 h)
              generalize H1 = H at hP hS ⊢
              have hr137 := hr137.mv hC.1 hax
              have hr138 := hr138.mv hC.1 hax
              have hr139 := hr139.mv hC.1 hax
              have hX := hX.trans hax
              have hC := hm.2.2 hC
              have hN : n0 ≤ n414 := Nat.le_trans hN hm1
              have hT : s0 ≤ s415 := Nat.le_trans hT hm2
              refine W.widen (k := n414 - n0) (n := s415 - s0) (by omega) (by omega) ?_
              clear hP1 hD1 hFc hk1 hz1 hvm ht hax hm hm1 hm2 hM1 hM2
              refine my_top (y := .ref (AD nb ad417 x412)) (congrArg Value.ref hr418.2.symm) ?_
              have hr418 := rf_self hr418
              refine lv_iload hx hb dL_textOf_179 (lv_at hl 3 rfl) ?_
              obtain ⟨fs9, e420, hF⟩ := mg_o hF
              obtain ⟨x421, n423, s424, E425, e422, hF⟩ := mb_o hF
              have hm := mle e422
              have hM1 := mle1 hF
              have hM2 := mle2 hF
              have hm1 := hm.1
              have hm2 := hm.2.1
              have hFc := my_free hD hS hA
              refine va_callr (va_runV (C := RJ4) (As := [.int (((97 + x98).toUInt32 % 65536).toInt32)]) (rest := []) ⟨hx, hb, hml, hown, hts⟩ (h_J4_append_cf468 l dC dI cy nb ad417 n414 s415 E416 hC (x412) (AD nb ad417 x412) hr418 ((((97 + x98).toUInt32 % 65536).toInt32)) H.size x421 n423 s424 E425 e422) (cwV 1 hts (gV mw_759 mw_760 mw_761 mw_8 mw_762) rfl rfl rfl (by decide +kernel) ⟨Nat.le_of_ble_eq_true rfl, Nat.le_of_ble_eq_true rfl⟩) (hl_preV hP hK hD hE hS hFc (va_recv hK (rdO_ hP hC hr418 e420) (ci := 1) (q0 := 0) rfl rfl)) rfl rfl hl.1 rfl (lv_room (Nat.le_of_ble_eq_true rfl)) dL_textOf_181 ⟨show n414 - n0 + (n423 - n414) ≤ nz - n0 by omega, show s415 - s0 + (s424 - s415) ≤ sz9 - s0 by omega⟩) hS (fun q _ h => hFc q h) hFc (fun u ra t H1 locs ht hvm hw hB hz1 hk1 hS => ?_)
              obtain ⟨ad426, hax, hr427, hP1, hD1⟩ := hB
              rw [ht] at hP1
              have hP := hP1
              have hD := hD1.weaken (fun k q _ h => hFc q.1 h)
              generalize H1 = H at hP hS ⊢
              have hr137 := hr137.mv hC.1 hax
              have hr138 := hr138.mv hC.1 hax
              have hr139 := hr139.mv hC.1 hax
              have hX := hX.trans hax
              have hC := hm.2.2 hC
              have hN : n0 ≤ n423 := Nat.le_trans hN hm1
              have hT : s0 ≤ s424 := Nat.le_trans hT hm2
              refine W.widen (k := n423 - n0) (n := s424 - s0) (by omega) (by omega) ?_
              clear hP1 hD1 hFc hk1 hz1 hvm ht hax hm hm1 hm2 hM1 hM2
              refine my_top (y := .ref (AD nb ad426 x421)) (congrArg Value.ref hr427.2.symm) ?_
              have hr427 := rf_self hr427
              refine va_ldcS hx hb hown (hE.xr 3 rfl) dL_textOf_184 ?_
              obtain ⟨fs9, e429, hF⟩ := mg_o hF
              obtain ⟨x430, n432, s433, E434, e431, hF⟩ := mb_o hF
              have hm := mle e431
              have hM1 := mle1 hF
              have hM2 := mle2 hF
              have hm1 := hm.1
              have hm2 := hm.2.1
              have hFc := my_free hD hS hA
              refine va_callr (va_runV (C := RJ4) (As := [.ref (nb 1006)]) (rest := []) ⟨hx, hb, hml, hown, hts⟩ (h_J4_append_15ec4 l dC dI cy nb ad426 n423 s424 E425 hC (x421) (AD nb ad426 x421) hr427 (1001006) (nb 1006) rf_c H.size x430 n432 s433 E434 e431) (cwV 1 hts (gV mw_618 mw_619 mw_620 mw_8 mw_621) rfl rfl rfl (by decide +kernel) ⟨Nat.le_of_ble_eq_true rfl, Nat.le_of_ble_eq_true rfl⟩) (hl_preV hP hK hD hE hS hFc (va_recv hK (rdO_ hP hC hr427 e429) (ci := 1) (q0 := 0) rfl rfl)) rfl rfl hl.1 rfl (lv_room (Nat.le_of_ble_eq_true rfl)) dL_textOf_186 ⟨show n423 - n0 + (n432 - n423) ≤ nz - n0 by omega, show s424 - s0 + (s433 - s424) ≤ sz9 - s0 by omega⟩) hS (fun q _ h => hFc q h) hFc (fun u ra t H1 locs ht hvm hw hB hz1 hk1 hS => ?_)
              obtain ⟨ad435, hax, hr436, hP1, hD1⟩ := hB
              rw [ht] at hP1
              have hP := hP1
              have hD := hD1.weaken (fun k q _ h => hFc q.1 h)
              generalize H1 = H at hP hS ⊢
              have hr137 := hr137.mv hC.1 hax
              have hr138 := hr138.mv hC.1 hax
              have hr139 := hr139.mv hC.1 hax
              have hX := hX.trans hax
              have hC := hm.2.2 hC
              have hN : n0 ≤ n432 := Nat.le_trans hN hm1
              have hT : s0 ≤ s433 := Nat.le_trans hT hm2
              refine W.widen (k := n432 - n0) (n := s433 - s0) (by omega) (by omega) ?_
              clear hP1 hD1 hFc hk1 hz1 hvm ht hax hm hm1 hm2 hM1 hM2
              refine my_top (y := .ref (AD nb ad435 x430)) (congrArg Value.ref hr436.2.symm) ?_
              have hr436 := rf_self hr436
              obtain ⟨fs9, e438, hF⟩ := mg_o hF
              obtain ⟨x439, n441, s442, E443, e440, hF⟩ := mb_o hF
              have hm := mle e440
              have hM1 := mle1 hF
              have hM2 := mle2 hF
              have hm1 := hm.1
              have hm2 := hm.2.1
              have hFc := my_free hD hS hA
              refine va_callr (va_runV (C := RJ4) (As := []) (rest := []) ⟨hx, hb, hml, hown, hts⟩ (h_J4_toString_0e30d l dC dI cy nb ad435 n432 s433 E434 hC (x430) (AD nb ad435 x430) hr436 H.size x439 n441 s442 E443 e440) (cwV 0 hts (gV mw_780 mw_781 mw_782 mw_8 mw_783) rfl rfl rfl (by decide +kernel) ⟨Nat.le_of_ble_eq_true rfl, Nat.le_of_ble_eq_true rfl⟩) (hl_preV hP hK hD hE hS hFc (va_recv hK (rdO_ hP hC hr436 e438) (ci := 1) (q0 := 0) rfl rfl)) rfl rfl hl.1 rfl (lv_room (Nat.le_of_ble_eq_true rfl)) dL_textOf_189 ⟨show n432 - n0 + (n441 - n432) ≤ nz - n0 by omega, show s433 - s0 + (s442 - s433) ≤ sz9 - s0 by omega⟩) hS (fun q _ h => hFc q h) hFc (fun u ra t H1 locs ht hvm hw hB hz1 hk1 hS => ?_)
              obtain ⟨ad444, hax, hr445, hP1, hD1⟩ := hB
              rw [ht] at hP1
              have hP := hP1
              have hD := hD1.weaken (fun k q _ h => hFc q.1 h)
              generalize H1 = H at hP hS ⊢
              have hr137 := hr137.mv hC.1 hax
              have hr138 := hr138.mv hC.1 hax
              have hr139 := hr139.mv hC.1 hax
              have hX := hX.trans hax
              have hC := hm.2.2 hC
              have hN : n0 ≤ n441 := Nat.le_trans hN hm1
              have hT : s0 ≤ s442 := Nat.le_trans hT hm2
              refine W.widen (k := n441 - n0) (n := s442 - s0) (by omega) (by omega) ?_
              clear hP1 hD1 hFc hk1 hz1 hvm ht hax hm hm1 hm2 hM1 hM2
              refine my_top (y := .ref (AD nb ad444 x439)) (congrArg Value.ref hr445.2.symm) ?_
              have hr445 := rf_self hr445
              refine lv_goto (tgt := 238) hx hb dL_textOf_192 (by decide) ?_
              obtain ⟨ht9, hn9, hs9, hE9⟩ := mr_o hF
              subst ht9 hn9 hs9 hE9
              have hl := lv_sub (l' := [(11, .int t130), (10, .int (2 + x123)), (9, .int (((97 + x102).toUInt32 % 65536).toInt32)), (8, .int (((97 + x98).toUInt32 % 65536).toInt32)), (7, .int x92), (6, .int y87), (5, .int (1 + x19)), (4, .int x13), (3, .ref q5), (0, .ref Aa1), (1, .int a2), (2, .ref Aa3)]) hl [0, 1, 2, 3, 4, 5, 6, 7, 8, 9, 10, 11] rfl
              refine W.eq (g2 := F0 m _ ls [.ref (AD nb ad444 (x439))]) (by try rw [hr445.2]) ?_
              exact join147 _ _ _ _ hX hr137 hr138 hr139 (rf_self hr445) hP hD hS hl
          have hK447 := mle1 hF
          have hK448 := mle2 hF
          clear hF hm
          have hF := hJ131
          clear hJ131
          refine lv_if_ne (tgt := 159) hx hb dL_textOf_147 (by decide) (fun c129 => ?_) (fun c129 => ?_)
          · skip
            rw [if_neg c129] at hF
            refine lv_iconst (v := 0) hx hb dL_textOf_159 (by decide) ?_
            obtain ⟨ht9, hn9, hs9, hE9⟩ := mr_o hF
            subst ht9 hn9 hs9 hE9
            have hl := lv_sub (l' := [(10, .int (2 + x123)), (9, .int (((97 + x102).toUInt32 % 65536).toInt32)), (8, .int (((97 + x98).toUInt32 % 65536).toInt32)), (7, .int x92), (6, .int y87), (5, .int (1 + x19)), (4, .int x13), (3, .ref q5), (0, .ref Aa1), (1, .int a2), (2, .ref Aa3)]) hl [0, 1, 2, 3, 4, 5, 6, 7, 8, 9, 10] rfl
            exact join136 _ _ _ _ hX hr88 hr89 hr90 hP hD hS hl
          · skip
            rw [if_pos c129] at hF
            refine lv_iload hx hb dL_textOf_150 (lv_at hl 4 rfl) ?_
            refine lv_if_ne (tgt := 159) hx hb dL_textOf_152 (by decide) (fun c449 => ?_) (fun c449 => ?_)
            · skip
              rw [if_neg c449] at hF
              refine lv_iconst (v := 0) hx hb dL_textOf_159 (by decide) ?_
              obtain ⟨ht9, hn9, hs9, hE9⟩ := mr_o hF
              subst ht9 hn9 hs9 hE9
              have hl := lv_sub (l' := [(10, .int (2 + x123)), (9, .int (((97 + x102).toUInt32 % 65536).toInt32)), (8, .int (((97 + x98).toUInt32 % 65536).toInt32)), (7, .int x92), (6, .int y87), (5, .int (1 + x19)), (4, .int x13), (3, .ref q5), (0, .ref Aa1), (1, .int a2), (2, .ref Aa3)]) hl [0, 1, 2, 3, 4, 5, 6, 7, 8, 9, 10] rfl
              exact join136 _ _ _ _ hX hr88 hr89 hr90 hP hD hS hl
            · skip
              rw [if_pos c449] at hF
              refine lv_iconst (v := 1) hx hb dL_textOf_155 (by decide) ?_
              refine lv_goto (tgt := 160) hx hb dL_textOf_156 (by decide) ?_
              obtain ⟨ht9, hn9, hs9, hE9⟩ := mr_o hF
              subst ht9 hn9 hs9 hE9
              have hl := lv_sub (l' := [(10, .int (2 + x123)), (9, .int (((97 + x102).toUInt32 % 65536).toInt32)), (8, .int (((97 + x98).toUInt32 % 65536).toInt32)), (7, .int x92), (6, .int y87), (5, .int (1 + x19)), (4, .int x13), (3, .ref q5), (0, .ref Aa1), (1, .int a2), (2, .ref Aa3)]) hl [0, 1, 2, 3, 4, 5, 6, 7, 8, 9, 10] rfl
              exact join136 _ _ _ _ hX hr88 hr89 hr90 hP hD hS hl
        · skip
          rw [if_neg c108] at hF
          refine lv_aload_n hx hb dL_textOf_81 rfl (lv_at hl 9 rfl) ?_
          obtain ⟨fs9, e450, hF⟩ := mg_o hF
          obtain ⟨x451, n453, s454, E455, e452, hF⟩ := mb_o hF
          have hm := mle e452
          have hM1 := mle1 hF
          have hM2 := mle2 hF
          have hm1 := hm.1
          have hm2 := hm.2.1
          have hFc := my_free hD hS hA
          refine va_calli (va_runV (C := RJ4) (As := []) (rest := []) ⟨hx, hb, hml, hown, hts⟩ (h_J4_length_8abf5 l dC dI cy nb ad97 n94 s95 E96 hC (a3) Aa3 hr90 H.size x451 n453 s454 E455 e452) (cwV 0 hts (gV mw_1042 mw_803 mw_1043 mw_8 mw_804) rfl rfl rfl (by decide +kernel) ⟨Nat.le_of_ble_eq_true rfl, Nat.le_of_ble_eq_true rfl⟩) (hl_preV hP hK hD hE hS hFc (va_recv hK (rdO_ hP hC hr90 e450) (ci := 1) (q0 := 0) rfl rfl)) rfl rfl hl.1 rfl (lv_room (Nat.le_of_ble_eq_true rfl)) dL_textOf_82 ⟨show n94 - n0 + (n453 - n94) ≤ nz - n0 by omega, show s95 - s0 + (s454 - s95) ≤ sz9 - s0 by omega⟩) hS (fun q _ h => hFc q h) hFc (fun r9 u t H1 locs ht hvm hw hB hz1 hk1 hS => ?_)
          obtain ⟨ad456, hax, hP1, hD1⟩ := hB
          rw [ht] at hP1
          have hP := hP1
          have hD := hD1.weaken (fun k q _ h => hFc q.1 h)
          generalize H1 = H at hP hS ⊢
          have hr88 := hr88.mv hC.1 hax
          have hr89 := hr89.mv hC.1 hax
          have hr90 := hr90.mv hC.1 hax
          have hX := hX.trans hax
          have hC := hm.2.2 hC
          have hN : n0 ≤ n453 := Nat.le_trans hN hm1
          have hT : s0 ≤ s454 := Nat.le_trans hT hm2
          refine W.widen (k := n453 - n0) (n := s454 - s0) (by omega) (by omega) ?_
          clear hP1 hD1 hFc hk1 hz1 hvm ht hax hm hm1 hm2 hM1 hM2
          obtain rfl := hw.symm
          refine lv_bipush (v := 16) hx hb dL_textOf_85 (by decide) ?_
          refine lv_icmp_ne (tgt := 93) hx hb dL_textOf_87 (by decide) (fun c457 => ?_) (fun c457 => ?_)
          · skip
            rw [if_neg c457] at hF
            refine lv_aload_n hx hb dL_textOf_93 rfl (lv_at hl 9 rfl) ?_
            refine lv_iload hx hb dL_textOf_94 (lv_at hl 1 rfl) ?_
            obtain ⟨fs9, e458, hF⟩ := mg_o hF
            obtain ⟨x459, n461, s462, E463, e460, hF⟩ := mb_o hF
            have hm := mle e460
            have hM1 := mle1 hF
            have hM2 := mle2 hF
            have hm1 := hm.1
            have hm2 := hm.2.1
            have hFc := my_free hD hS hA
            refine va_callr (va_runV (C := RJ4) (As := [.int (((97 + x98).toUInt32 % 65536).toInt32)]) (rest := []) ⟨hx, hb, hml, hown, hts⟩ (h_J4_append_cf468 l dC dI cy nb ad456 n453 s454 E455 hC (a3) Aa3 hr90 ((((97 + x98).toUInt32 % 65536).toInt32)) H.size x459 n461 s462 E463 e460) (cwV 1 hts (gV mw_759 mw_760 mw_761 mw_8 mw_762) rfl rfl rfl (by decide +kernel) ⟨Nat.le_of_ble_eq_true rfl, Nat.le_of_ble_eq_true rfl⟩) (hl_preV hP hK hD hE hS hFc (va_recv hK (rdO_ hP hC hr90 e458) (ci := 1) (q0 := 0) rfl rfl)) rfl rfl hl.1 rfl (lv_room (Nat.le_of_ble_eq_true rfl)) dL_textOf_96 ⟨show n453 - n0 + (n461 - n453) ≤ nz - n0 by omega, show s454 - s0 + (s462 - s454) ≤ sz9 - s0 by omega⟩) hS (fun q _ h => hFc q h) hFc (fun u ra t H1 locs ht hvm hw hB hz1 hk1 hS => ?_)
            obtain ⟨ad464, hax, hr465, hP1, hD1⟩ := hB
            rw [ht] at hP1
            have hP := hP1
            have hD := hD1.weaken (fun k q _ h => hFc q.1 h)
            generalize H1 = H at hP hS ⊢
            have hr88 := hr88.mv hC.1 hax
            have hr89 := hr89.mv hC.1 hax
            have hr90 := hr90.mv hC.1 hax
            have hX := hX.trans hax
            have hC := hm.2.2 hC
            have hN : n0 ≤ n461 := Nat.le_trans hN hm1
            have hT : s0 ≤ s462 := Nat.le_trans hT hm2
            refine W.widen (k := n461 - n0) (n := s462 - s0) (by omega) (by omega) ?_
            clear hP1 hD1 hFc hk1 hz1 hvm ht hax hm hm1 hm2 hM1 hM2
            refine my_top (y := .ref (AD nb ad464 x459)) (congrArg Value.ref hr465.2.symm) ?_
            have hr465 := rf_self hr465
            refine lv_pop hx hb dL_textOf_99 rfl ?_
            refine lv_aload_n hx hb dL_textOf_100 rfl (lv_at hl 6 rfl) ?_
            refine lv_iload hx hb dL_textOf_101 (lv_at hl 3 rfl) ?_
            refine lv_iconst (v := 2) hx hb dL_textOf_103 (by decide) ?_
            obtain ⟨x467, e468, hF⟩ := mp_o hF
            refine lv_irem hx hb dL_textOf_104 (rm_ne e468) ?_
            refine my_topi (y := x467) (rm_eq e468) ?_
            obtain ⟨t470, n473, s474, E475, hJ471, hF⟩ := mb_o hF
            have hm := mle hJ471
            have join476 : ∀ (ad472 : Nat → Nat) (H : Heap) (locs : List Loc) (ls : Array Slot), axh n0 ad0 n473 ad472 → rf nb ad472 n473 (x4) (q5) → rf nb ad472 n473 (a1) (Aa1) → rf nb ad472 n473 (a3) (Aa3) → rf nb ad472 n473 (t470) ((AD nb ad472 t470)) → va_P (dC, dI) vwCl (CH cy nb ad472 n473 E475) H → va_D A (CH cy nb ad472 n473 E475) → va_S A s.heap H locs → lv_has ls 15 [(9, .int (((97 + x102).toUInt32 % 65536).toInt32)), (8, .int (((97 + x98).toUInt32 % 65536).toInt32)), (7, .int x92), (6, .int y87), (5, .int (1 + x19)), (4, .int x13), (3, .ref q5), (0, .ref Aa1), (1, .int a2), (2, .ref Aa3)] → W p l e (headSpec (wsg yL_textOf cL_textOf 15 (some (.object "java/lang/String"))) ({ frames := 14, cells := nz - n0, slots := sz9 - s0, locals := 900 })).room s m ([.ref Aa1, .int a2, .ref Aa3] : List Value).toArray below meth c H locs (n473 - n0) (s474 - s0) Qn (F0 m 115 ls [.ref (AD nb ad472 t470), .ref q5]) := by
              intro ad472 H locs ls hX hr477 hr478 hr479 hr480 hP hD hS hl
              have hC := hm.2.2 hC
              have hN : n0 ≤ n473 := Nat.le_trans hN hm.1
              have hT : s0 ≤ s474 := Nat.le_trans hT hm.2.1
              clear hm
              obtain ⟨fs9, e481, hF⟩ := mg_o hF
              obtain ⟨x482, n484, s485, E486, e483, hF⟩ := mb_o hF
              have hm := mle e483
              have hM1 := mle1 hF
              have hM2 := mle2 hF
              have hm1 := hm.1
              have hm2 := hm.2.1
              have hFc := my_free hD hS hA
              refine va_callr (va_runV (C := RJ4) (As := [.ref (AD nb ad472 t470)]) (rest := []) ⟨hx, hb, hml, hown, hts⟩ (h_J4_append_15ec4 l dC dI cy nb ad472 n473 s474 E475 hC (x4) q5 hr477 (t470) (AD nb ad472 t470) hr480 H.size x482 n484 s485 E486 e483) (cwV 1 hts (gV mw_618 mw_619 mw_620 mw_8 mw_621) rfl rfl rfl (by decide +kernel) ⟨Nat.le_of_ble_eq_true rfl, Nat.le_of_ble_eq_true rfl⟩) (hl_preV hP hK hD hE hS hFc (va_recv hK (rdO_ hP hC hr477 e481) (ci := 1) (q0 := 0) rfl rfl)) rfl rfl hl.1 rfl (lv_room (Nat.le_of_ble_eq_true rfl)) dL_textOf_115 ⟨show n473 - n0 + (n484 - n473) ≤ nz - n0 by omega, show s474 - s0 + (s485 - s474) ≤ sz9 - s0 by omega⟩) hS (fun q _ h => hFc q h) hFc (fun u ra t H1 locs ht hvm hw hB hz1 hk1 hS => ?_)
              obtain ⟨ad487, hax, hr488, hP1, hD1⟩ := hB
              rw [ht] at hP1
              have hP := hP1
              have hD := hD1.weaken (fun k q _ h => hFc q.1 h)
              generalize H1 = H at hP hS ⊢
              have hr477 := hr477.mv hC.1 hax
              have hr478 := hr478.mv hC.1 hax
              have hr479 := hr479.mv hC.1 hax
              have hX := hX.trans hax
              have hC := hm.2.2 hC
              have hN : n0 ≤ n484 := Nat.le_trans hN hm1
              have hT : s0 ≤ s485 := Nat.le_trans hT hm2
              refine W.widen (k := n484 - n0) (n := s485 - s0) (by omega) (by omega) ?_
              clear hP1 hD1 hFc hk1 hz1 hvm ht hax hm hm1 hm2 hM1 hM2
              refine my_top (y := .ref (AD nb ad487 x482)) (congrArg Value.ref hr488.2.symm) ?_
              have hr488 := rf_self hr488
              refine lv_iload hx hb dL_textOf_118 (lv_at hl 1 rfl) ?_
              obtain ⟨fs9, e490, hF⟩ := mg_o hF
              obtain ⟨x491, n493, s494, E495, e492, hF⟩ := mb_o hF
              have hm := mle e492
              have hM1 := mle1 hF
              have hM2 := mle2 hF
              have hm1 := hm.1
              have hm2 := hm.2.1
              have hFc := my_free hD hS hA
              refine va_callr (va_runV (C := RJ4) (As := [.int (((97 + x98).toUInt32 % 65536).toInt32)]) (rest := []) ⟨hx, hb, hml, hown, hts⟩ (h_J4_append_cf468 l dC dI cy nb ad487 n484 s485 E486 hC (x482) (AD nb ad487 x482) hr488 ((((97 + x98).toUInt32 % 65536).toInt32)) H.size x491 n493 s494 E495 e492) (cwV 1 hts (gV mw_759 mw_760 mw_761 mw_8 mw_762) rfl rfl rfl (by decide +kernel) ⟨Nat.le_of_ble_eq_true rfl, Nat.le_of_ble_eq_true rfl⟩) (hl_preV hP hK hD hE hS hFc (va_recv hK (rdO_ hP hC hr488 e490) (ci := 1) (q0 := 0) rfl rfl)) rfl rfl hl.1 rfl (lv_room (Nat.le_of_ble_eq_true rfl)) dL_textOf_120 ⟨show n484 - n0 + (n493 - n484) ≤ nz - n0 by omega, show s485 - s0 + (s494 - s485) ≤ sz9 - s0 by omega⟩) hS (fun q _ h => hFc q h) hFc (fun u ra t H1 locs ht hvm hw hB hz1 hk1 hS => ?_)
              obtain ⟨ad496, hax, hr497, hP1, hD1⟩ := hB
              rw [ht] at hP1
              have hP := hP1
              have hD := hD1.weaken (fun k q _ h => hFc q.1 h)
              generalize H1 = H at hP hS ⊢
              have hr477 := hr477.mv hC.1 hax
              have hr478 := hr478.mv hC.1 hax
              have hr479 := hr479.mv hC.1 hax
              have hX := hX.trans hax
              have hC := hm.2.2 hC
              have hN : n0 ≤ n493 := Nat.le_trans hN hm1
              have hT : s0 ≤ s494 := Nat.le_trans hT hm2
              refine W.widen (k := n493 - n0) (n := s494 - s0) (by omega) (by omega) ?_
              clear hP1 hD1 hFc hk1 hz1 hvm ht hax hm hm1 hm2 hM1 hM2
              refine my_top (y := .ref (AD nb ad496 x491)) (congrArg Value.ref hr497.2.symm) ?_
              have hr497 := rf_self hr497
              refine lv_pop hx hb dL_textOf_123 rfl ?_
              refine lv_goto (tgt := 355) hx hb dL_textOf_124 (by decide) ?_
              obtain ⟨ht9, hn9, hs9, hE9⟩ := mr_o hF
              subst ht9 hn9 hs9 hE9
              have hl := lv_sub (l' := [(9, .int (((97 + x102).toUInt32 % 65536).toInt32)), (8, .int (((97 + x98).toUInt32 % 65536).toInt32)), (7, .int x92), (6, .int y87), (5, .int (1 + x19)), (4, .int x13), (3, .ref q5), (0, .ref Aa1), (1, .int a2), (2, .ref Aa3)]) hl [0, 1, 2, 3, 4, 5, 6, 7, 8, 9] rfl
              exact join115 _ _ _ _ hX hr477 hr478 hr479 hP hD hS hl
            have hK499 := mle1 hF
            have hK500 := mle2 hF
            clear hF hm
            have hF := hJ471
            clear hJ471
            refine lv_if_ne (tgt := 113) hx hb dL_textOf_105 (by decide) (fun c469 => ?_) (fun c469 => ?_)
            · skip
              rw [if_neg c469] at hF
              refine va_ldcS hx hb hown (hE.xr 1 rfl) dL_textOf_113 ?_
              obtain ⟨ht9, hn9, hs9, hE9⟩ := mr_o hF
              subst ht9 hn9 hs9 hE9
              have hl := lv_sub (l' := [(9, .int (((97 + x102).toUInt32 % 65536).toInt32)), (8, .int (((97 + x98).toUInt32 % 65536).toInt32)), (7, .int x92), (6, .int y87), (5, .int (1 + x19)), (4, .int x13), (3, .ref q5), (0, .ref Aa1), (1, .int a2), (2, .ref Aa3)]) hl [0, 1, 2, 3, 4, 5, 6, 7, 8, 9] rfl
              refine W.eq (g2 := F0 m _ ls [.ref (AD nb ad464 (1001002)), .ref q5]) (by try rw [(rf_cc (j := 1002) (ad := ad464) : AD nb ad464 (1001002) = (nb 1002))]) ?_
              exact join476 _ _ _ _ hX hr88 hr89 hr90 rf_cs hP hD hS hl
            · skip
              rw [if_pos c469] at hF
              refine va_ldcS hx hb hown (hE.xr 0 rfl) dL_textOf_108 ?_
              refine lv_goto (tgt := 115) hx hb dL_textOf_110 (by decide) ?_
              obtain ⟨ht9, hn9, hs9, hE9⟩ := mr_o hF
              subst ht9 hn9 hs9 hE9
              have hl := lv_sub (l' := [(9, .int (((97 + x102).toUInt32 % 65536).toInt32)), (8, .int (((97 + x98).toUInt32 % 65536).toInt32)), (7, .int x92), (6, .int y87), (5, .int (1 + x19)), (4, .int x13), (3, .ref q5), (0, .ref Aa1), (1, .int a2), (2, .ref Aa3)]) hl [0, 1, 2, 3, 4, 5, 6, 7, 8, 9] rfl
              refine W.eq (g2 := F0 m _ ls [.ref (AD nb ad464 (1001000)), .ref q5]) (by try rw [(rf_cc (j := 1000) (ad := ad464) : AD nb ad464 (1001000) = (nb 1000))]) ?_
              exact join476 _ _ _ _ hX hr88 hr89 hr90 rf_cs hP hD hS hl
          · skip
            rw [if_pos c457] at hF
            refine lv_goto (tgt := 355) hx hb dL_textOf_90 (by decide) ?_
            obtain ⟨ht9, hn9, hs9, hE9⟩ := mr_o hF
            subst ht9 hn9 hs9 hE9
            have hl := lv_sub (l' := [(9, .int (((97 + x102).toUInt32 % 65536).toInt32)), (8, .int (((97 + x98).toUInt32 % 65536).toInt32)), (7, .int x92), (6, .int y87), (5, .int (1 + x19)), (4, .int x13), (3, .ref q5), (0, .ref Aa1), (1, .int a2), (2, .ref Aa3)]) hl [0, 1, 2, 3, 4, 5, 6, 7, 8, 9] rfl
            exact join115 _ _ _ _ hX hr88 hr89 hr90 hP hD hS hl
  have hl := lv_sub (l' := [(6, .int 0), (5, .int (1 + x19)), (4, .int x13), (3, .ref q5), (0, .ref Aa1), (1, .int a2), (2, .ref Aa3)]) hl [0, 1, 2, 3, 4, 5, 6] rfl
  exact loop81 FUEL _ _ _ _ hL22 hC hN hT _ _ _ _ hX hr7 ha1 ha3 hP hD hS hl
noncomputable def H_L_drawn_L508 (x190 : Int32) (x174 : Int32) (x156 : Nat) (x13 : Int32) (x4 : Nat) (a1 : Nat) (a2 : Int32) (a3 : Nat) : Nat → Int32 → MH (Int32)
  | 0, _ => m0
  | m219 + 1, y224 => mb (mp (dv x13 2097152)) fun x229 => mb (mp (rm x229 8)) fun x231 => if x231 ≤ y224 then (mr y224) else (if x190 ≤ 0 then (mr y224) else (mb (H_L_at (a1) (((a2 + 10) + y224))) fun x235 => mb (mp (rm x235 x190)) fun x241 => mb (mn 4 (.inr (1, [.null, .int 0, .int 0, .int 0])) nok_J4) fun x246 => mb (H_J4_init_da8c8 (x246)) fun _ => mb (mg fun n E => fO n E (a3) 1) fun _ => mb (H_J4_append_15ec4 (a3) (1001026)) fun x256 => mb (mg fun n E => fO n E (x256) 1) fun _ => mb (H_J4_append_bf812 (x256) (x241)) fun x265 => mb (mg fun n E => fO n E (x265) 1) fun _ => mb (H_J4_append_cf468 (x265) (32)) fun x274 => mb (H_L_textOf (a1) (((a2 + 20) + (6 * y224))) (x246)) fun x282 => mb (mg fun n E => fO n E (x274) 1) fun _ => mb (H_J4_append_15ec4 (x274) (x282)) fun x291 => mb (mn 9 (.inr (8, [.int 0, .null, .int 0, .int 0, .int 0, .int 0, .int 0, .int 0, .int 0])) nok_X8) fun x302 => mb (mg fun n E => fO n E (x246) 1) fun _ => mb (H_J4_toString_0e30d (x246)) fun x307 => mb (H_X8_init (x302) (x241) (x307)) fun _ => mb (mg fun n E => fO n E (x4) 9) fun _ => mb (H_X9_cardsOf (x4) (x241)) fun x321 => mb (wI (x302) 8 2 (x321)) fun _ => mb (rR (x4) 9 10) fun x329 => mb (mg fun n E => fO n E (x329) 14) fun _ => mb (H_Jx4a65c_add_9ea2d (x329) (x302)) fun x333 => H_L_drawn_L508 x190 x174 x156 x13 x4 a1 a2 a3 m219 ((y224 + 1))))
noncomputable def H_L_drawn_L448 (x190 : Int32) (x174 : Int32) (x156 : Nat) (x13 : Int32) (x4 : Nat) (a1 : Nat) (a2 : Int32) (a3 : Nat) : Nat → Int32 → MH (Int32)
  | 0, _ => m0
  | m342 + 1, y347 => if x190 ≤ y347 then (mr y347) else (mb (rR (x4) 9 8) fun x353 => mb (H_L_at (a1) (((a2 + 6) + y347))) fun x356 => mb (mp (rm x356 10)) fun x362 => mb (H_J6_valueOf_2dffe (x362)) fun x364 => mb (mg fun n E => fO n E (x353) 14) fun _ => mb (H_Jx4a65c_add_9ea2d (x353) (x364)) fun x373 => mb (mg fun n E => fO n E (a3) 1) fun _ => mb (H_J4_append_15ec4 (a3) (1001024)) fun x380 => mb (rR (x4) 9 8) fun x388 => mb (mg fun n E => fO n E (x388) 14) fun _ => mb (H_Jx4a65c_get_915e3 (x388) (y347)) fun x392 => mb (mg fun n E => fO n E (x380) 1) fun _ => mb (H_J4_append_533cd (x380) (x392)) fun x401 => H_L_drawn_L448 x190 x174 x156 x13 x4 a1 a2 a3 m342 ((y347 + 1)))
noncomputable def H_L_drawn_L238 (x434 : Nat) (x429 : Int32) (x423 : Int32) (y417 : Int32) (x174 : Int32) (x156 : Nat) (x13 : Int32) (x4 : Nat) (a1 : Nat) (a2 : Int32) (a3 : Nat) : Nat → Int32 → MH (Int32)
  | 0, _ => m0
  | m641 + 1, y646 => mb (mp (dv x423 8)) fun x652 => mb (mp (rm x652 5)) fun x654 => if (1 + x654) ≤ y646 then (mr y646) else (mb (mp (dv x423 64)) fun x657 => mb (mg fun n E => fO n E (x434) 1) fun _ => mb (H_J4_append_bf812 (x434) (((x657 >>> (y646 &&& 31)) &&& 1))) fun x660 => H_L_drawn_L238 x434 x429 x423 y417 x174 x156 x13 x4 a1 a2 a3 m641 ((y646 + 1)))
noncomputable def H_L_drawn_L201 (x174 : Int32) (x156 : Nat) (x13 : Int32) (x4 : Nat) (a1 : Nat) (a2 : Int32) (a3 : Nat) : Nat → Int32 → MH (Int32)
  | 0, _ => m0
  | m412 + 1, y417 => if x174 ≤ y417 then (mr y417) else (mb (H_L_at (a1) (((a2 + 1) + y417))) fun x423 => mb (mp (rm x423 4)) fun x429 => mb (mn 4 (.inr (1, [.null, .int 0, .int 0, .int 0])) nok_J4) fun x434 => mb (H_J4_init_da8c8 (x434)) fun _ => mb (H_L_drawn_L238 x434 x429 x423 y417 x174 x156 x13 x4 a1 a2 a3 FUEL ((0 : Int32))) fun t443 => mb (mn 15 (.inr (10, [.int 0, .null, .int 0, .int 0, .int 0, .int 0, .int 0, .int 0, .int 0, .int 0, .int 0, .int 0, .int 0, .int 0, .int 0])) nok_X10) fun x459 => mb (mp (dv x423 2048)) fun x463 => mb (if x429 = 3 then (mr (4 : Int32)) else (mr (6 : Int32)) : MH (Int32)) fun t466 => mb (mp (rm x463 t466)) fun x479 => mb (mg fun n E => fO n E (x434) 1) fun _ => mb (H_J4_toString_0e30d (x434)) fun x482 => mb (H_X10_init (x459) (x429) ((1 + x479)) (x482)) fun _ => mb (rR (x4) 9 7) fun x495 => mb (mg fun n E => fO n E (x495) 14) fun _ => mb (H_Jx4a65c_add_9ea2d (x495) (x459)) fun x499 => mb (rQ (x156) 11 (x429)) fun x505 => mb (mg fun n E => fO n E (a3) 1) fun _ => mb (H_J4_append_15ec4 (a3) (x505)) fun x509 => mb (rI (x459) 10 2) fun x517 => mb (mg fun n E => fO n E (x509) 1) fun _ => mb (H_J4_append_bf812 (x509) (x517)) fun x520 => mb (mg fun n E => fO n E (x520) 1) fun _ => mb (H_J4_append_cf468 (x520) (32)) fun x529 => mb (mg fun n E => fO n E (x529) 1) fun _ => mb (H_J4_append_1fab5 (x529) (x434)) fun x538 => mb (mp (dv x423 16384)) fun x546 => mb (mp (rm x546 3)) fun x548 => mb (if x548 ≤ 0 then (mb (mp (dv x423 65536)) fun x566 => mb (mp (rm x566 4)) fun x568 => mb (wI (x459) 10 9 ((1 + x568))) fun _ => mb (mp (dv x423 262144)) fun x572 => mb (mp (rm x572 6)) fun x574 => mb (wI (x459) 10 10 ((1 + x574))) fun _ => mb (mg fun n E => fO n E (a3) 1) fun _ => mb (H_J4_append_15ec4 (a3) (1001022)) fun x579 => mb (mg fun n E => fO n E (x579) 1) fun _ => mb (H_J4_append_bf812 (x579) (y417)) fun x588 => mb (mg fun n E => fO n E (x588) 1) fun _ => mb (H_J4_append_cf468 (x588) (32)) fun x597 => mb (rI (x459) 10 9) fun x605 => mb (mg fun n E => fO n E (x597) 1) fun _ => mb (H_J4_append_bf812 (x597) (x605)) fun x608 => mb (mg fun n E => fO n E (x608) 1) fun _ => mb (H_J4_append_cf468 (x608) (32)) fun x617 => mb (rI (x459) 10 10) fun x625 => mb (mg fun n E => fO n E (x617) 1) fun _ => mb (H_J4_append_bf812 (x617) (x625)) fun x628 => mr ()) else (mr ()) : MH (Unit)) fun t551 => H_L_drawn_L201 x174 x156 x13 x4 a1 a2 a3 m412 ((y417 + 1)))
noncomputable def H_L_drawn (a1 : Nat) (a2 : Int32) (a3 : Nat) : MH Nat := mb (mn 14 (.inr (9, [.int 0, .int 0, .int 0, .int 0, .int 0, .int 0, .int 0, .null, .null, .null, .null, .null, .null, .null])) nok_X9) fun x4 => mb (H_X9_init (x4)) fun _ => mb (H_L_at (a1) (a2)) fun x13 => mb (mp (dv x13 8)) fun x19 => mb (mp (rm x19 2)) fun x21 => mb (if x21 = 0 then (mr (20 : Int32)) else (mr (200 : Int32)) : MH (Int32)) fun t24 => mb (mp (rm x13 t24)) fun x34 => mb (wI (x4) 9 0 ((1 + x34))) fun _ => mb (mp (dv x13 16)) fun x38 => mb (mp (rm x38 4)) fun x40 => mb (if x40 = 0 then (mb (mp (dv x13 64)) fun x674 => mb (mp (rm x674 5)) fun x676 => mr x676) else (mb (mp (dv x13 64)) fun x670 => mb (mp (rm x670 40)) fun x672 => mr (10 + x672)) : MH (Int32)) fun t43 => mb (wI (x4) 9 3 (t43)) fun _ => mb (rI (x4) 9 3) fun x55 => mb (wI (x4) 9 5 (x55)) fun _ => mb (mp (dv x13 4096)) fun x59 => mb (mp (rm x59 4)) fun x61 => mb (wI (x4) 9 1 ((1 + x61))) fun _ => mb (mp (dv x13 16384)) fun x65 => mb (mp (rm x65 4)) fun x67 => mb (wI (x4) 9 2 ((1 + x67))) fun _ => mb (mg fun n E => fO n E (a3) 1) fun _ => mb (H_J4_append_15ec4 (a3) (1001012)) fun x72 => mb (rI (x4) 9 0) fun x80 => mb (mg fun n E => fO n E (x72) 1) fun _ => mb (H_J4_append_bf812 (x72) (x80)) fun x83 => mb (mg fun n E => fO n E (x83) 1) fun _ => mb (H_J4_append_cf468 (x83) (32)) fun x92 => mb (rI (x4) 9 3) fun x100 => mb (mg fun n E => fO n E (x92) 1) fun _ => mb (H_J4_append_bf812 (x92) (x100)) fun x103 => mb (mg fun n E => fO n E (x103) 1) fun _ => mb (H_J4_append_cf468 (x103) (32)) fun x112 => mb (rI (x4) 9 1) fun x120 => mb (mg fun n E => fO n E (x112) 1) fun _ => mb (H_J4_append_bf812 (x112) (x120)) fun x123 => mb (mg fun n E => fO n E (x123) 1) fun _ => mb (H_J4_append_cf468 (x123) (32)) fun x132 => mb (rI (x4) 9 2) fun x140 => mb (mg fun n E => fO n E (x132) 1) fun _ => mb (H_J4_append_bf812 (x132) (x140)) fun x143 => mb (mp (ln 4)) fun k151 => mb (nQ 11 k151) fun x156 => mb (mg fun n E => okA n E 11 (1001014)) fun _ => mb (wQ (x156) 11 (0) (1001014)) fun _ => mb (mg fun n E => okA n E 11 (1001016)) fun _ => mb (wQ (x156) 11 (1) (1001016)) fun _ => mb (mg fun n E => okA n E 11 (1001018)) fun _ => mb (wQ (x156) 11 (2) (1001018)) fun _ => mb (mg fun n E => okA n E 11 (1001020)) fun _ => mb (wQ (x156) 11 (3) (1001020)) fun _ => mb (mp (dv x13 65536)) fun x172 => mb (mp (rm x172 5)) fun x174 => mb (H_L_drawn_L201 x174 x156 x13 x4 a1 a2 a3 FUEL ((0 : Int32))) fun t176 => mb (mp (dv x13 524288)) fun x188 => mb (mp (rm x188 4)) fun x190 => mb (H_L_drawn_L448 x190 x174 x156 x13 x4 a1 a2 a3 FUEL ((0 : Int32))) fun t192 => mb (H_L_drawn_L508 x190 x174 x156 x13 x4 a1 a2 a3 FUEL ((0 : Int32))) fun t204 => mr x4
set_option maxHeartbeats 4000000 in
set_option maxRecDepth 100000 in
theorem h_L_drawn (l : Launch) (dC : Nat → ClassId) (dI : Nat → Nat → Nat) (cy : Nat → ClassId) (nb : Nat → Nat) (ad0 : Nat → Nat) (n0 s0 : Nat) (E0 : HE) (hC : clo n0 E0) (a1 Aa1 : Nat) (ha1 : rf nb ad0 n0 a1 Aa1) (a2 : Int32) (a3 Aa3 : Nat) (ha3 : rf nb ad0 n0 a3 Aa3) (sz : Nat) (ro : Nat) (nz sz9 : Nat) (Ez : HE) (hF : (H_L_drawn a1 a2 a3).1 (n0, s0, E0) = some (ro, nz, sz9, Ez)) : Met l yL_drawn (wsg yL_drawn cL_drawn 12 (some (.object "CardLineLaw$Line"))) ({ frames := 15, cells := nz - n0, slots := sz9 - s0, locals := 1000 }) (va_Pc [.ref Aa1, .int a2, .ref Aa3] (fun U => U.heap.size = sz ∧ va_P (dC, dI) vwCl (CH cy nb ad0 n0 E0) U.heap ∧ va_K (dC, dI) vwCl (tyL cy) U ∧ va_D (fun _ => True) (CH cy nb ad0 n0 E0) ∧ GL nb (va_A (CH cy nb ad0 n0 E0) sz) U)) (va_Qr (fun (_ : Unit) => True) (fun _ ra t => ∃ ad2 : Nat → Nat, axh n0 ad0 nz ad2 ∧ rf nb ad2 nz ro ra ∧ va_P (dC, dI) vwCl (CH cy nb ad2 nz Ez) t.heap ∧ va_D (va_A (CH cy nb ad0 n0 E0) sz) (CH cy nb ad2 nz Ez)) (va_A (CH cy nb ad0 n0 E0) sz)) (nz - n0) (sz9 - s0) (va_A (CH cy nb ad0 n0 E0) sz) := by
  refine Met.ofW (cc := cL_drawn) (maxL := 12) (ret := (some (.object "CardLineLaw$Line"))) (by decide) rfl ?_
  intro p e s m args below meth c s₁ B hml hv
  obtain ⟨rfl, hsz, hP, hK, hD0, hE⟩ := hv
  have hx := B.exec
  have hb := B.bytes
  have hr := B.returns
  have hts0 := atoms_spec (ws := (wsg yL_drawn cL_drawn 12 (some (.object "CardLineLaw$Line")))) B.pre
  have hts : ∀ w ∈ wsL_law, w.before _ s = true := fun w h => hts0 w (List.mem_cons_of_mem _ h)
  have hown : s.vm.findClass RL = some m.cls := by have h9 := findClass_of_methodNamed B.named; exact h9
  subst hsz
  have hD := hD0.self (sz := s.heap.size)
  generalize hAe : va_A (CH cy nb ad0 n0 E0) s.heap.size = A at hD hE ⊢
  have hA : ∀ q : Nat, s.heap.size ≤ q → A q := fun q h => by rw [← hAe]; exact Or.inr h
  have hS : va_S A s.heap s.heap [] := va_S.rf
  have hl := lv_entry ([.ref Aa1, .int a2, .ref Aa3]) (n := 12) (Nat.le_of_ble_eq_true rfl)
  rw [lg_entry_eq]
  generalize (lg_sl ([.ref Aa1, .int a2, .ref Aa3]) ++ List.replicate (12 - (lg_sl ([.ref Aa1, .int a2, .ref Aa3])).length) Slot.unset).toArray = ls at hl ⊢
  have hl : lv_has ls 12 [(0, .ref Aa1), (1, .int a2), (2, .ref Aa3)] := hl
  generalize hHe : s.heap = H at hP hS ⊢
  have hS : va_S A s.heap H [] := by rw [hHe]; exact hS
  refine my_Q (fun Qn hQ => ?_)
  simp only [H_L_drawn] at hF
  have hX : axh n0 ad0 n0 ad0 := axh_refl
  have hN : n0 ≤ n0 := Nat.le_refl _
  have hT : s0 ≤ s0 := Nat.le_refl _
  refine W.widen (k := n0 - n0) (n := s0 - s0) (by omega) (by omega) ?_
  obtain ⟨x4, n1, s2, E3, hq, hF⟩ := mn_o hF
  have hM1 := mle1 hF
  have hM2 := mle2 hF
  have hq9 := hq.2.1
  have hq8 := hq.2.2.1
  refine va_new (ci := 9) (fs := [.int 0, .int 0, .int 0, .int 0, .int 0, .int 0, .int 0, .null, .null, .null, .null, .null, .null, .null]) (C := RX9) (T := TX9) (N := 14) hx hb hts inlX9 tyX9 tyX9_ok hown (hts _ mw_3) (hts _ mw_4) (hts _ mw_5) hK hP hD hS hA rfl (fun j hj => by match j, hj with | 0, _ => rfl | 1, _ => rfl | 2, _ => rfl | 3, _ => rfl | 4, _ => rfl | 5, _ => rfl | 6, _ => rfl | 7, _ => rfl | 8, _ => rfl | 9, _ => rfl | 10, _ => rfl | 11, _ => rfl | 12, _ => rfl | 13, _ => rfl | (n+14), h => omega) (show n0 - n0 + 1 ≤ nz - n0 by omega) (show s0 - s0 + 14 ≤ sz9 - s0 by omega) dL_drawn_0 (fun q5 H hP hD hS => ?_)
  obtain ⟨ad6, hax, hr7, hC9, hw9⟩ := new_w (cy := cy) (nb := nb) (ad := ad0) (e := .inr (9, [.int 0, .int 0, .int 0, .int 0, .int 0, .int 0, .int 0, .null, .null, .null, .null, .null, .null, .null])) nok_X9 (fun _ => rfl) hC q5 hq
  rw [hw9] at hP hD
  have ha1 := ha1.mv hC.1 hax
  have ha3 := ha3.mv hC.1 hax
  have hX := hX.trans hax
  have hC := hC9
  obtain ⟨-, hq1, hq2, -, -⟩ := hq
  have hN : n0 ≤ n1 := by omega
  have hT : s0 ≤ s2 := by omega
  refine W.widen (k := n1 - n0) (n := s2 - s0) (by omega) (by omega) ?_
  clear hM1 hM2 hax hC9 hw9 hq1 hq2 hq8 hq9
  refine lv_dup hx hb dL_drawn_3 rfl ?_
  obtain ⟨⟨⟩, n9, s10, E11, e8, hF⟩ := mb_o hF
  have hm := mle e8
  have hM1 := mle1 hF
  have hM2 := mle2 hF
  have hm1 := hm.1
  have hm2 := hm.2.1
  have hFc := my_free hD hS hA
  refine va_callv (va_runIN (As := []) (rest := [.ref q5]) ⟨hx, hb, hml, hown, hts⟩ (h_X9_init l dC dI cy nb ad6 n1 s2 E3 hC (x4) q5 hr7 H.size n9 s10 E11 e8) ⟨va_cnB 0 hts (gI mw_99) rfl rfl rfl hE.nm0 (hts _ mw_5) (by decide +kernel) ⟨Nat.le_of_ble_eq_true rfl, Nat.le_of_ble_eq_true rfl⟩, rfl, (hts _ mw_98)⟩ (hl_preS hP hK hD hE hS hFc) rfl rfl hl.1 rfl (lv_room (Nat.le_of_ble_eq_true rfl)) dL_drawn_4 ⟨show n1 - n0 + (n9 - n1) ≤ nz - n0 by omega, show s2 - s0 + (s10 - s2) ≤ sz9 - s0 by omega⟩) hS (fun q _ h => hFc q h) hFc (fun u t H1 locs ht hvm hw hB hz1 hk1 hS => ?_)
  obtain ⟨ad12, hax, hP1, hD1⟩ := hB
  rw [ht] at hP1
  have hP := hP1
  have hD := hD1.weaken (fun k q _ h => hFc q.1 h)
  generalize H1 = H at hP hS ⊢
  have ha1 := ha1.mv hC.1 hax
  have ha3 := ha3.mv hC.1 hax
  have hr7 := hr7.mv hC.1 hax
  have hX := hX.trans hax
  have hC := hm.2.2 hC
  have hN : n0 ≤ n9 := Nat.le_trans hN hm1
  have hT : s0 ≤ s10 := Nat.le_trans hT hm2
  refine W.widen (k := n9 - n0) (n := s10 - s0) (by omega) (by omega) ?_
  clear hP1 hD1 hFc hk1 hz1 hvm ht hax hm hm1 hm2 hM1 hM2
  refine lv_astore_n (lv' := [(3, .ref q5), (0, .ref Aa1), (1, .int a2), (2, .ref Aa3)]) hx hb dL_drawn_7 rfl hl (by decide) rfl (fun ls hl => ?_)
  refine lv_aload_n hx hb dL_drawn_8 rfl (lv_at hl 1 rfl) ?_
  refine lv_iload_n hx hb dL_drawn_9 rfl (lv_at hl 2 rfl) ?_
  obtain ⟨x13, n15, s16, E17, e14, hF⟩ := mb_o hF
  have hm := mle e14
  have hM1 := mle1 hF
  have hM2 := mle2 hF
  have hm1 := hm.1
  have hm2 := hm.2.1
  have hFc := my_free hD hS hA
  refine va_calli (va_runS (As := [.ref Aa1, .int a2]) (rest := []) ⟨hx, hb, hml, hown, hts⟩ (h_L_at l dC dI cy nb ad12 n9 s10 E11 hC (a1) Aa1 ha1 (a2) H.size x13 n15 s16 E17 e14) (va_cwS 2 hts (gS mw_614 mw_615 mw_129 mw_616) rfl rfl rfl (by decide +kernel) ⟨Nat.le_of_ble_eq_true rfl, Nat.le_of_ble_eq_true rfl⟩) (hl_preS hP hK hD hE hS hFc) rfl rfl hl.1 rfl (lv_room (Nat.le_of_ble_eq_true rfl)) dL_drawn_10 ⟨show n9 - n0 + (n15 - n9) ≤ nz - n0 by omega, show s10 - s0 + (s16 - s10) ≤ sz9 - s0 by omega⟩) hS (fun q _ h => hFc q h) hFc (fun r9 u t H1 locs ht hvm hw hB hz1 hk1 hS => ?_)
  obtain ⟨ad18, hax, hP1, hD1⟩ := hB
  rw [ht] at hP1
  have hP := hP1
  have hD := hD1.weaken (fun k q _ h => hFc q.1 h)
  generalize H1 = H at hP hS ⊢
  have hr7 := hr7.mv hC.1 hax
  have ha1 := ha1.mv hC.1 hax
  have ha3 := ha3.mv hC.1 hax
  have hX := hX.trans hax
  have hC := hm.2.2 hC
  have hN : n0 ≤ n15 := Nat.le_trans hN hm1
  have hT : s0 ≤ s16 := Nat.le_trans hT hm2
  refine W.widen (k := n15 - n0) (n := s16 - s0) (by omega) (by omega) ?_
  clear hP1 hD1 hFc hk1 hz1 hvm ht hax hm hm1 hm2 hM1 hM2
  obtain rfl := hw.symm
  refine lv_istore (lv' := [(4, .int x13), (3, .ref q5), (0, .ref Aa1), (1, .int a2), (2, .ref Aa3)]) hx hb dL_drawn_13 hl (by decide) rfl (fun ls hl => ?_)
  refine lv_aload_n hx hb dL_drawn_15 rfl (lv_at hl 1 rfl) ?_
  refine lv_iconst (v := 1) hx hb dL_drawn_16 (by decide) ?_
  refine lv_iload hx hb dL_drawn_17 (lv_at hl 0 rfl) ?_
  refine lv_iload hx hb dL_drawn_19 (lv_at hl 0 rfl) ?_
  refine lv_bipush (v := 8) hx hb dL_drawn_21 (by decide) ?_
  obtain ⟨x19, e20, hF⟩ := mp_o hF
  refine lv_idiv hx hb dL_drawn_23 (dv_ne e20) ?_
  refine my_topi (y := x19) (dv_eq e20) ?_
  refine lv_iconst (v := 2) hx hb dL_drawn_24 (by decide) ?_
  obtain ⟨x21, e22, hF⟩ := mp_o hF
  refine lv_irem hx hb dL_drawn_25 (rm_ne e22) ?_
  refine my_topi (y := x21) (rm_eq e22) ?_
  obtain ⟨t24, n27, s28, E29, hJ25, hF⟩ := mb_o hF
  have hm := mle hJ25
  have join30 : ∀ (ad26 : Nat → Nat) (H : Heap) (locs : List Loc) (ls : Array Slot), axh n0 ad0 n27 ad26 → rf nb ad26 n27 (x4) (q5) → rf nb ad26 n27 (a1) (Aa1) → rf nb ad26 n27 (a3) (Aa3) → va_P (dC, dI) vwCl (CH cy nb ad26 n27 E29) H → va_D A (CH cy nb ad26 n27 E29) → va_S A s.heap H locs → lv_has ls 12 [(4, .int x13), (3, .ref q5), (0, .ref Aa1), (1, .int a2), (2, .ref Aa3)] → W p l e (headSpec (wsg yL_drawn cL_drawn 12 (some (.object "CardLineLaw$Line"))) ({ frames := 15, cells := nz - n0, slots := sz9 - s0, locals := 1000 })).room s m ([.ref Aa1, .int a2, .ref Aa3] : List Value).toArray below meth c H locs (n27 - n0) (s28 - s0) Qn (F0 m 37 ls [.int t24, .int x13, .int 1, .ref q5]) := by
    intro ad26 H locs ls hX hr31 hr32 hr33 hP hD hS hl
    have hC := hm.2.2 hC
    have hN : n0 ≤ n27 := Nat.le_trans hN hm.1
    have hT : s0 ≤ s28 := Nat.le_trans hT hm.2.1
    clear hm
    obtain ⟨x34, e35, hF⟩ := mp_o hF
    refine lv_irem hx hb dL_drawn_37 (rm_ne e35) ?_
    refine my_topi (y := x34) (rm_eq e35) ?_
    refine lv_iadd hx hb dL_drawn_38 ?_
    obtain ⟨E36, e37, hF⟩ := mw_o hF
    obtain ⟨q9, fs9, h9, ez9⟩ := wrI (cy := cy) hC hr31 e37
    refine va_put (D := (dC, dI)) (ci := 9) (v := .int (1 + x34)) (ty := .int) (C := RX9) (T := TX9) (N := 14) hx hb hts inlX9 tyX9 tyX9_ok nmX9 hown hK hP hD hS q9 h9 rfl 0 (by decide) (hts _ mw_133) (fun _ h9 => h9) rfl (by decide +kernel) rfl rfl (Nat.le_of_ble_eq_true rfl) dL_drawn_39 (fun H locs hP hD hS => ?_)
    rw [ez9] at hP hD
    clear ez9 h9
    have hC := sI_clo e37 hC
    refine lv_aload_n hx hb dL_drawn_42 rfl (lv_at hl 1 rfl) ?_
    refine lv_iload hx hb dL_drawn_43 (lv_at hl 0 rfl) ?_
    refine lv_bipush (v := 16) hx hb dL_drawn_45 (by decide) ?_
    obtain ⟨x38, e39, hF⟩ := mp_o hF
    refine lv_idiv hx hb dL_drawn_47 (dv_ne e39) ?_
    refine my_topi (y := x38) (dv_eq e39) ?_
    refine lv_iconst (v := 4) hx hb dL_drawn_48 (by decide) ?_
    obtain ⟨x40, e41, hF⟩ := mp_o hF
    refine lv_irem hx hb dL_drawn_49 (rm_ne e41) ?_
    refine my_topi (y := x40) (rm_eq e41) ?_
    obtain ⟨t43, n46, s47, E48, hJ44, hF⟩ := mb_o hF
    have hm := mle hJ44
    have join49 : ∀ (ad45 : Nat → Nat) (H : Heap) (locs : List Loc) (ls : Array Slot), axh n0 ad0 n46 ad45 → rf nb ad45 n46 (x4) (q5) → rf nb ad45 n46 (a1) (Aa1) → rf nb ad45 n46 (a3) (Aa3) → va_P (dC, dI) vwCl (CH cy nb ad45 n46 E48) H → va_D A (CH cy nb ad45 n46 E48) → va_S A s.heap H locs → lv_has ls 12 [(4, .int x13), (3, .ref q5), (0, .ref Aa1), (1, .int a2), (2, .ref Aa3)] → W p l e (headSpec (wsg yL_drawn cL_drawn 12 (some (.object "CardLineLaw$Line"))) ({ frames := 15, cells := nz - n0, slots := sz9 - s0, locals := 1000 })).room s m ([.ref Aa1, .int a2, .ref Aa3] : List Value).toArray below meth c H locs (n46 - n0) (s47 - s0) Qn (F0 m 74 ls [.int t43, .ref q5]) := by
      intro ad45 H locs ls hX hr50 hr51 hr52 hP hD hS hl
      have hC := hm.2.2 hC
      have hN : n0 ≤ n46 := Nat.le_trans hN hm.1
      have hT : s0 ≤ s47 := Nat.le_trans hT hm.2.1
      clear hm
      obtain ⟨E53, e54, hF⟩ := mw_o hF
      obtain ⟨q9, fs9, h9, ez9⟩ := wrI (cy := cy) hC hr50 e54
      refine va_put (D := (dC, dI)) (ci := 9) (v := .int t43) (ty := .int) (C := RX9) (T := TX9) (N := 14) hx hb hts inlX9 tyX9 tyX9_ok nmX9 hown hK hP hD hS q9 h9 rfl 3 (by decide) (hts _ mw_136) (fun _ h9 => h9) rfl (by decide +kernel) rfl rfl (Nat.le_of_ble_eq_true rfl) dL_drawn_74 (fun H locs hP hD hS => ?_)
      rw [ez9] at hP hD
      clear ez9 h9
      have hC := sI_clo e54 hC
      refine lv_aload_n hx hb dL_drawn_77 rfl (lv_at hl 1 rfl) ?_
      refine lv_aload_n hx hb dL_drawn_78 rfl (lv_at hl 1 rfl) ?_
      obtain ⟨x55, e56, hF⟩ := mg_o hF
      obtain ⟨fs9, h9, g9⟩ := rdI hP hC hr50 e56
      refine va_get (D := (dC, dI)) (ci := 9) (v := .int x55) (C := RX9) (T := TX9) (N := 14) hx hb hts inlX9 hown hK h9 0 rfl rfl 3 (by decide) (hts _ mw_136) (fun _ h9 => h9) g9 dL_drawn_79 ?_
      clear h9 g9
      obtain ⟨E57, e58, hF⟩ := mw_o hF
      obtain ⟨q9, fs9, h9, ez9⟩ := wrI (cy := cy) hC hr50 e58
      refine va_put (D := (dC, dI)) (ci := 9) (v := .int x55) (ty := .int) (C := RX9) (T := TX9) (N := 14) hx hb hts inlX9 tyX9 tyX9_ok nmX9 hown hK hP hD hS q9 h9 rfl 5 (by decide) (hts _ mw_132) (fun _ h9 => h9) rfl (by decide +kernel) rfl rfl (Nat.le_of_ble_eq_true rfl) dL_drawn_82 (fun H locs hP hD hS => ?_)
      rw [ez9] at hP hD
      clear ez9 h9
      have hC := sI_clo e58 hC
      refine lv_aload_n hx hb dL_drawn_85 rfl (lv_at hl 1 rfl) ?_
      refine lv_iconst (v := 1) hx hb dL_drawn_86 (by decide) ?_
      refine lv_iload hx hb dL_drawn_87 (lv_at hl 0 rfl) ?_
      refine lv_sipush (v := 4096) hx hb dL_drawn_89 (by decide) ?_
      obtain ⟨x59, e60, hF⟩ := mp_o hF
      refine lv_idiv hx hb dL_drawn_92 (dv_ne e60) ?_
      refine my_topi (y := x59) (dv_eq e60) ?_
      refine lv_iconst (v := 4) hx hb dL_drawn_93 (by decide) ?_
      obtain ⟨x61, e62, hF⟩ := mp_o hF
      refine lv_irem hx hb dL_drawn_94 (rm_ne e62) ?_
      refine my_topi (y := x61) (rm_eq e62) ?_
      refine lv_iadd hx hb dL_drawn_95 ?_
      obtain ⟨E63, e64, hF⟩ := mw_o hF
      obtain ⟨q9, fs9, h9, ez9⟩ := wrI (cy := cy) hC hr50 e64
      refine va_put (D := (dC, dI)) (ci := 9) (v := .int (1 + x61)) (ty := .int) (C := RX9) (T := TX9) (N := 14) hx hb hts inlX9 tyX9 tyX9_ok nmX9 hown hK hP hD hS q9 h9 rfl 1 (by decide) (hts _ mw_134) (fun _ h9 => h9) rfl (by decide +kernel) rfl rfl (Nat.le_of_ble_eq_true rfl) dL_drawn_96 (fun H locs hP hD hS => ?_)
      rw [ez9] at hP hD
      clear ez9 h9
      have hC := sI_clo e64 hC
      refine lv_aload_n hx hb dL_drawn_99 rfl (lv_at hl 1 rfl) ?_
      refine lv_iconst (v := 1) hx hb dL_drawn_100 (by decide) ?_
      refine lv_iload hx hb dL_drawn_101 (lv_at hl 0 rfl) ?_
      refine lv_sipush (v := 16384) hx hb dL_drawn_103 (by decide) ?_
      obtain ⟨x65, e66, hF⟩ := mp_o hF
      refine lv_idiv hx hb dL_drawn_106 (dv_ne e66) ?_
      refine my_topi (y := x65) (dv_eq e66) ?_
      refine lv_iconst (v := 4) hx hb dL_drawn_107 (by decide) ?_
      obtain ⟨x67, e68, hF⟩ := mp_o hF
      refine lv_irem hx hb dL_drawn_108 (rm_ne e68) ?_
      refine my_topi (y := x67) (rm_eq e68) ?_
      refine lv_iadd hx hb dL_drawn_109 ?_
      obtain ⟨E69, e70, hF⟩ := mw_o hF
      obtain ⟨q9, fs9, h9, ez9⟩ := wrI (cy := cy) hC hr50 e70
      refine va_put (D := (dC, dI)) (ci := 9) (v := .int (1 + x67)) (ty := .int) (C := RX9) (T := TX9) (N := 14) hx hb hts inlX9 tyX9 tyX9_ok nmX9 hown hK hP hD hS q9 h9 rfl 2 (by decide) (hts _ mw_135) (fun _ h9 => h9) rfl (by decide +kernel) rfl rfl (Nat.le_of_ble_eq_true rfl) dL_drawn_110 (fun H locs hP hD hS => ?_)
      rw [ez9] at hP hD
      clear ez9 h9
      have hC := sI_clo e70 hC
      refine lv_aload_n hx hb dL_drawn_113 rfl (lv_at hl 4 rfl) ?_
      refine va_ldcS hx hb hown (hE.xr 6 rfl) dL_drawn_114 ?_
      obtain ⟨fs9, e71, hF⟩ := mg_o hF
      obtain ⟨x72, n74, s75, E76, e73, hF⟩ := mb_o hF
      have hm := mle e73
      have hM1 := mle1 hF
      have hM2 := mle2 hF
      have hm1 := hm.1
      have hm2 := hm.2.1
      have hFc := my_free hD hS hA
      refine va_callr (va_runV (C := RJ4) (As := [.ref (nb 1012)]) (rest := []) ⟨hx, hb, hml, hown, hts⟩ (h_J4_append_15ec4 l dC dI cy nb ad45 n46 s47 E69 hC (a3) Aa3 hr52 (1001012) (nb 1012) rf_c H.size x72 n74 s75 E76 e73) (cwV 1 hts (gV mw_618 mw_619 mw_620 mw_8 mw_621) rfl rfl rfl (by decide +kernel) ⟨Nat.le_of_ble_eq_true rfl, Nat.le_of_ble_eq_true rfl⟩) (hl_preV hP hK hD hE hS hFc (va_recv hK (rdO_ hP hC hr52 e71) (ci := 1) (q0 := 0) rfl rfl)) rfl rfl hl.1 rfl (lv_room (Nat.le_of_ble_eq_true rfl)) dL_drawn_116 ⟨show n46 - n0 + (n74 - n46) ≤ nz - n0 by omega, show s47 - s0 + (s75 - s47) ≤ sz9 - s0 by omega⟩) hS (fun q _ h => hFc q h) hFc (fun u ra t H1 locs ht hvm hw hB hz1 hk1 hS => ?_)
      obtain ⟨ad77, hax, hr78, hP1, hD1⟩ := hB
      rw [ht] at hP1
      have hP := hP1
      have hD := hD1.weaken (fun k q _ h => hFc q.1 h)
      generalize H1 = H at hP hS ⊢
      have hr50 := hr50.mv hC.1 hax
      have hr51 := hr51.mv hC.1 hax
      have hr52 := hr52.mv hC.1 hax
      have hX := hX.trans hax
      have hC := hm.2.2 hC
      have hN : n0 ≤ n74 := Nat.le_trans hN hm1
      have hT : s0 ≤ s75 := Nat.le_trans hT hm2
      refine W.widen (k := n74 - n0) (n := s75 - s0) (by omega) (by omega) ?_
      clear hP1 hD1 hFc hk1 hz1 hvm ht hax hm hm1 hm2 hM1 hM2
      refine my_top (y := .ref (AD nb ad77 x72)) (congrArg Value.ref hr78.2.symm) ?_
      have hr78 := rf_self hr78
      refine lv_aload_n hx hb dL_drawn_119 rfl (lv_at hl 1 rfl) ?_
      obtain ⟨x80, e81, hF⟩ := mg_o hF
      obtain ⟨fs9, h9, g9⟩ := rdI hP hC hr50 e81
      refine va_get (D := (dC, dI)) (ci := 9) (v := .int x80) (C := RX9) (T := TX9) (N := 14) hx hb hts inlX9 hown hK h9 0 rfl rfl 0 (by decide) (hts _ mw_133) (fun _ h9 => h9) g9 dL_drawn_120 ?_
      clear h9 g9
      obtain ⟨fs9, e82, hF⟩ := mg_o hF
      obtain ⟨x83, n85, s86, E87, e84, hF⟩ := mb_o hF
      have hm := mle e84
      have hM1 := mle1 hF
      have hM2 := mle2 hF
      have hm1 := hm.1
      have hm2 := hm.2.1
      have hFc := my_free hD hS hA
      refine va_callr (va_runV (C := RJ4) (As := [.int x80]) (rest := []) ⟨hx, hb, hml, hown, hts⟩ (h_J4_append_bf812 l dC dI cy nb ad77 n74 s75 E76 hC (x72) (AD nb ad77 x72) hr78 (x80) H.size x83 n85 s86 E87 e84) (cwV 1 hts (gV mw_735 mw_736 mw_737 mw_8 mw_738) rfl rfl rfl (by decide +kernel) ⟨Nat.le_of_ble_eq_true rfl, Nat.le_of_ble_eq_true rfl⟩) (hl_preV hP hK hD hE hS hFc (va_recv hK (rdO_ hP hC hr78 e82) (ci := 1) (q0 := 0) rfl rfl)) rfl rfl hl.1 rfl (lv_room (Nat.le_of_ble_eq_true rfl)) dL_drawn_123 ⟨show n74 - n0 + (n85 - n74) ≤ nz - n0 by omega, show s75 - s0 + (s86 - s75) ≤ sz9 - s0 by omega⟩) hS (fun q _ h => hFc q h) hFc (fun u ra t H1 locs ht hvm hw hB hz1 hk1 hS => ?_)
      obtain ⟨ad88, hax, hr89, hP1, hD1⟩ := hB
      rw [ht] at hP1
      have hP := hP1
      have hD := hD1.weaken (fun k q _ h => hFc q.1 h)
      generalize H1 = H at hP hS ⊢
      have hr50 := hr50.mv hC.1 hax
      have hr51 := hr51.mv hC.1 hax
      have hr52 := hr52.mv hC.1 hax
      have hX := hX.trans hax
      have hC := hm.2.2 hC
      have hN : n0 ≤ n85 := Nat.le_trans hN hm1
      have hT : s0 ≤ s86 := Nat.le_trans hT hm2
      refine W.widen (k := n85 - n0) (n := s86 - s0) (by omega) (by omega) ?_
      clear hP1 hD1 hFc hk1 hz1 hvm ht hax hm hm1 hm2 hM1 hM2
      refine my_top (y := .ref (AD nb ad88 x83)) (congrArg Value.ref hr89.2.symm) ?_
      have hr89 := rf_self hr89
      refine lv_bipush (v := 32) hx hb dL_drawn_126 (by decide) ?_
      obtain ⟨fs9, e91, hF⟩ := mg_o hF
      obtain ⟨x92, n94, s95, E96, e93, hF⟩ := mb_o hF
      have hm := mle e93
      have hM1 := mle1 hF
      have hM2 := mle2 hF
      have hm1 := hm.1
      have hm2 := hm.2.1
      have hFc := my_free hD hS hA
      refine va_callr (va_runV (C := RJ4) (As := [.int 32]) (rest := []) ⟨hx, hb, hml, hown, hts⟩ (h_J4_append_cf468 l dC dI cy nb ad88 n85 s86 E87 hC (x83) (AD nb ad88 x83) hr89 (32) H.size x92 n94 s95 E96 e93) (cwV 1 hts (gV mw_759 mw_760 mw_761 mw_8 mw_762) rfl rfl rfl (by decide +kernel) ⟨Nat.le_of_ble_eq_true rfl, Nat.le_of_ble_eq_true rfl⟩) (hl_preV hP hK hD hE hS hFc (va_recv hK (rdO_ hP hC hr89 e91) (ci := 1) (q0 := 0) rfl rfl)) rfl rfl hl.1 rfl (lv_room (Nat.le_of_ble_eq_true rfl)) dL_drawn_128 ⟨show n85 - n0 + (n94 - n85) ≤ nz - n0 by omega, show s86 - s0 + (s95 - s86) ≤ sz9 - s0 by omega⟩) hS (fun q _ h => hFc q h) hFc (fun u ra t H1 locs ht hvm hw hB hz1 hk1 hS => ?_)
      obtain ⟨ad97, hax, hr98, hP1, hD1⟩ := hB
      rw [ht] at hP1
      have hP := hP1
      have hD := hD1.weaken (fun k q _ h => hFc q.1 h)
      generalize H1 = H at hP hS ⊢
      have hr50 := hr50.mv hC.1 hax
      have hr51 := hr51.mv hC.1 hax
      have hr52 := hr52.mv hC.1 hax
      have hX := hX.trans hax
      have hC := hm.2.2 hC
      have hN : n0 ≤ n94 := Nat.le_trans hN hm1
      have hT : s0 ≤ s95 := Nat.le_trans hT hm2
      refine W.widen (k := n94 - n0) (n := s95 - s0) (by omega) (by omega) ?_
      clear hP1 hD1 hFc hk1 hz1 hvm ht hax hm hm1 hm2 hM1 hM2
      refine my_top (y := .ref (AD nb ad97 x92)) (congrArg Value.ref hr98.2.symm) ?_
      have hr98 := rf_self hr98
      refine lv_aload_n hx hb dL_drawn_131 rfl (lv_at hl 1 rfl) ?_
      obtain ⟨x100, e101, hF⟩ := mg_o hF
      obtain ⟨fs9, h9, g9⟩ := rdI hP hC hr50 e101
      refine va_get (D := (dC, dI)) (ci := 9) (v := .int x100) (C := RX9) (T := TX9) (N := 14) hx hb hts inlX9 hown hK h9 0 rfl rfl 3 (by decide) (hts _ mw_136) (fun _ h9 => h9) g9 dL_drawn_132 ?_
      clear h9 g9
      obtain ⟨fs9, e102, hF⟩ := mg_o hF
      obtain ⟨x103, n105, s106, E107, e104, hF⟩ := mb_o hF
      have hm := mle e104
      have hM1 := mle1 hF
      have hM2 := mle2 hF
      have hm1 := hm.1
      have hm2 := hm.2.1
      have hFc := my_free hD hS hA
      refine va_callr (va_runV (C := RJ4) (As := [.int x100]) (rest := []) ⟨hx, hb, hml, hown, hts⟩ (h_J4_append_bf812 l dC dI cy nb ad97 n94 s95 E96 hC (x92) (AD nb ad97 x92) hr98 (x100) H.size x103 n105 s106 E107 e104) (cwV 1 hts (gV mw_735 mw_736 mw_737 mw_8 mw_738) rfl rfl rfl (by decide +kernel) ⟨Nat.le_of_ble_eq_true rfl, Nat.le_of_ble_eq_true rfl⟩) (hl_preV hP hK hD hE hS hFc (va_recv hK (rdO_ hP hC hr98 e102) (ci := 1) (q0 := 0) rfl rfl)) rfl rfl hl.1 rfl (lv_room (Nat.le_of_ble_eq_true rfl)) dL_drawn_135 ⟨show n94 - n0 + (n105 - n94) ≤ nz - n0 by omega, show s95 - s0 + (s106 - s95) ≤ sz9 - s0 by omega⟩) hS (fun q _ h => hFc q h) hFc (fun u ra t H1 locs ht hvm hw hB hz1 hk1 hS => ?_)
      obtain ⟨ad108, hax, hr109, hP1, hD1⟩ := hB
      rw [ht] at hP1
      have hP := hP1
      have hD := hD1.weaken (fun k q _ h => hFc q.1 h)
      generalize H1 = H at hP hS ⊢
      have hr50 := hr50.mv hC.1 hax
      have hr51 := hr51.mv hC.1 hax
      have hr52 := hr52.mv hC.1 hax
      have hX := hX.trans hax
      have hC := hm.2.2 hC
      have hN : n0 ≤ n105 := Nat.le_trans hN hm1
      have hT : s0 ≤ s106 := Nat.le_trans hT hm2
      refine W.widen (k := n105 - n0) (n := s106 - s0) (by omega) (by omega) ?_
      clear hP1 hD1 hFc hk1 hz1 hvm ht hax hm hm1 hm2 hM1 hM2
      refine my_top (y := .ref (AD nb ad108 x103)) (congrArg Value.ref hr109.2.symm) ?_
      have hr109 := rf_self hr109
      refine lv_bipush (v := 32) hx hb dL_drawn_138 (by decide) ?_
      obtain ⟨fs9, e111, hF⟩ := mg_o hF
      obtain ⟨x112, n114, s115, E116, e113, hF⟩ := mb_o hF
      have hm := mle e113
      have hM1 := mle1 hF
      have hM2 := mle2 hF
      have hm1 := hm.1
      have hm2 := hm.2.1
      have hFc := my_free hD hS hA
      refine va_callr (va_runV (C := RJ4) (As := [.int 32]) (rest := []) ⟨hx, hb, hml, hown, hts⟩ (h_J4_append_cf468 l dC dI cy nb ad108 n105 s106 E107 hC (x103) (AD nb ad108 x103) hr109 (32) H.size x112 n114 s115 E116 e113) (cwV 1 hts (gV mw_759 mw_760 mw_761 mw_8 mw_762) rfl rfl rfl (by decide +kernel) ⟨Nat.le_of_ble_eq_true rfl, Nat.le_of_ble_eq_true rfl⟩) (hl_preV hP hK hD hE hS hFc (va_recv hK (rdO_ hP hC hr109 e111) (ci := 1) (q0 := 0) rfl rfl)) rfl rfl hl.1 rfl (lv_room (Nat.le_of_ble_eq_true rfl)) dL_drawn_140 ⟨show n105 - n0 + (n114 - n105) ≤ nz - n0 by omega, show s106 - s0 + (s115 - s106) ≤ sz9 - s0 by omega⟩) hS (fun q _ h => hFc q h) hFc (fun u ra t H1 locs ht hvm hw hB hz1 hk1 hS => ?_)
      obtain ⟨ad117, hax, hr118, hP1, hD1⟩ := hB
      rw [ht] at hP1
      have hP := hP1
      have hD := hD1.weaken (fun k q _ h => hFc q.1 h)
      generalize H1 = H at hP hS ⊢
      have hr50 := hr50.mv hC.1 hax
      have hr51 := hr51.mv hC.1 hax
      have hr52 := hr52.mv hC.1 hax
      have hX := hX.trans hax
      have hC := hm.2.2 hC
      have hN : n0 ≤ n114 := Nat.le_trans hN hm1
      have hT : s0 ≤ s115 := Nat.le_trans hT hm2
      refine W.widen (k := n114 - n0) (n := s115 - s0) (by omega) (by omega) ?_
      clear hP1 hD1 hFc hk1 hz1 hvm ht hax hm hm1 hm2 hM1 hM2
      refine my_top (y := .ref (AD nb ad117 x112)) (congrArg Value.ref hr118.2.symm) ?_
      have hr118 := rf_self hr118
      refine lv_aload_n hx hb dL_drawn_143 rfl (lv_at hl 1 rfl) ?_
      obtain ⟨x120, e121, hF⟩ := mg_o hF
      obtain ⟨fs9, h9, g9⟩ := rdI hP hC hr50 e121
      refine va_get (D := (dC, dI)) (ci := 9) (v := .int x120) (C := RX9) (T := TX9) (N := 14) hx hb hts inlX9 hown hK h9 0 rfl rfl 1 (by decide) (hts _ mw_134) (fun _ h9 => h9) g9 dL_drawn_144 ?_
      clear h9 g9
      obtain ⟨fs9, e122, hF⟩ := mg_o hF
      obtain ⟨x123, n125, s126, E127, e124, hF⟩ := mb_o hF
      have hm := mle e124
      have hM1 := mle1 hF
      have hM2 := mle2 hF
      have hm1 := hm.1
      have hm2 := hm.2.1
      have hFc := my_free hD hS hA
      refine va_callr (va_runV (C := RJ4) (As := [.int x120]) (rest := []) ⟨hx, hb, hml, hown, hts⟩ (h_J4_append_bf812 l dC dI cy nb ad117 n114 s115 E116 hC (x112) (AD nb ad117 x112) hr118 (x120) H.size x123 n125 s126 E127 e124) (cwV 1 hts (gV mw_735 mw_736 mw_737 mw_8 mw_738) rfl rfl rfl (by decide +kernel) ⟨Nat.le_of_ble_eq_true rfl, Nat.le_of_ble_eq_true rfl⟩) (hl_preV hP hK hD hE hS hFc (va_recv hK (rdO_ hP hC hr118 e122) (ci := 1) (q0 := 0) rfl rfl)) rfl rfl hl.1 rfl (lv_room (Nat.le_of_ble_eq_true rfl)) dL_drawn_147 ⟨show n114 - n0 + (n125 - n114) ≤ nz - n0 by omega, show s115 - s0 + (s126 - s115) ≤ sz9 - s0 by omega⟩) hS (fun q _ h => hFc q h) hFc (fun u ra t H1 locs ht hvm hw hB hz1 hk1 hS => ?_)
      obtain ⟨ad128, hax, hr129, hP1, hD1⟩ := hB
      rw [ht] at hP1
      have hP := hP1
      have hD := hD1.weaken (fun k q _ h => hFc q.1 h)
      generalize H1 = H at hP hS ⊢
      have hr50 := hr50.mv hC.1 hax
      have hr51 := hr51.mv hC.1 hax
      have hr52 := hr52.mv hC.1 hax
      have hX := hX.trans hax
      have hC := hm.2.2 hC
      have hN : n0 ≤ n125 := Nat.le_trans hN hm1
      have hT : s0 ≤ s126 := Nat.le_trans hT hm2
      refine W.widen (k := n125 - n0) (n := s126 - s0) (by omega) (by omega) ?_
      clear hP1 hD1 hFc hk1 hz1 hvm ht hax hm hm1 hm2 hM1 hM2
      refine my_top (y := .ref (AD nb ad128 x123)) (congrArg Value.ref hr129.2.symm) ?_
      have hr129 := rf_self hr129
      refine lv_bipush (v := 32) hx hb dL_drawn_150 (by decide) ?_
      obtain ⟨fs9, e131, hF⟩ := mg_o hF
      obtain ⟨x132, n134, s135, E136, e133, hF⟩ := mb_o hF
      have hm := mle e133
      have hM1 := mle1 hF
      have hM2 := mle2 hF
      have hm1 := hm.1
      have hm2 := hm.2.1
      have hFc := my_free hD hS hA
      refine va_callr (va_runV (C := RJ4) (As := [.int 32]) (rest := []) ⟨hx, hb, hml, hown, hts⟩ (h_J4_append_cf468 l dC dI cy nb ad128 n125 s126 E127 hC (x123) (AD nb ad128 x123) hr129 (32) H.size x132 n134 s135 E136 e133) (cwV 1 hts (gV mw_759 mw_760 mw_761 mw_8 mw_762) rfl rfl rfl (by decide +kernel) ⟨Nat.le_of_ble_eq_true rfl, Nat.le_of_ble_eq_true rfl⟩) (hl_preV hP hK hD hE hS hFc (va_recv hK (rdO_ hP hC hr129 e131) (ci := 1) (q0 := 0) rfl rfl)) rfl rfl hl.1 rfl (lv_room (Nat.le_of_ble_eq_true rfl)) dL_drawn_152 ⟨show n125 - n0 + (n134 - n125) ≤ nz - n0 by omega, show s126 - s0 + (s135 - s126) ≤ sz9 - s0 by omega⟩) hS (fun q _ h => hFc q h) hFc (fun u ra t H1 locs ht hvm hw hB hz1 hk1 hS => ?_)
      obtain ⟨ad137, hax, hr138, hP1, hD1⟩ := hB
      rw [ht] at hP1
      have hP := hP1
      have hD := hD1.weaken (fun k q _ h => hFc q.1 h)
      generalize H1 = H at hP hS ⊢
      have hr50 := hr50.mv hC.1 hax
      have hr51 := hr51.mv hC.1 hax
      have hr52 := hr52.mv hC.1 hax
      have hX := hX.trans hax
      have hC := hm.2.2 hC
      have hN : n0 ≤ n134 := Nat.le_trans hN hm1
      have hT : s0 ≤ s135 := Nat.le_trans hT hm2
      refine W.widen (k := n134 - n0) (n := s135 - s0) (by omega) (by omega) ?_
      clear hP1 hD1 hFc hk1 hz1 hvm ht hax hm hm1 hm2 hM1 hM2
      refine my_top (y := .ref (AD nb ad137 x132)) (congrArg Value.ref hr138.2.symm) ?_
      have hr138 := rf_self hr138
      refine lv_aload_n hx hb dL_drawn_155 rfl (lv_at hl 1 rfl) ?_
      obtain ⟨x140, e141, hF⟩ := mg_o hF
      obtain ⟨fs9, h9, g9⟩ := rdI hP hC hr50 e141
      refine va_get (D := (dC, dI)) (ci := 9) (v := .int x140) (C := RX9) (T := TX9) (N := 14) hx hb hts inlX9 hown hK h9 0 rfl rfl 2 (by decide) (hts _ mw_135) (fun _ h9 => h9) g9 dL_drawn_156 ?_
      clear h9 g9
      obtain ⟨fs9, e142, hF⟩ := mg_o hF
      obtain ⟨x143, n145, s146, E147, e144, hF⟩ := mb_o hF
      have hm := mle e144
      have hM1 := mle1 hF
      have hM2 := mle2 hF
      have hm1 := hm.1
      have hm2 := hm.2.1
      have hFc := my_free hD hS hA
      refine va_callr (va_runV (C := RJ4) (As := [.int x140]) (rest := []) ⟨hx, hb, hml, hown, hts⟩ (h_J4_append_bf812 l dC dI cy nb ad137 n134 s135 E136 hC (x132) (AD nb ad137 x132) hr138 (x140) H.size x143 n145 s146 E147 e144) (cwV 1 hts (gV mw_735 mw_736 mw_737 mw_8 mw_738) rfl rfl rfl (by decide +kernel) ⟨Nat.le_of_ble_eq_true rfl, Nat.le_of_ble_eq_true rfl⟩) (hl_preV hP hK hD hE hS hFc (va_recv hK (rdO_ hP hC hr138 e142) (ci := 1) (q0 := 0) rfl rfl)) rfl rfl hl.1 rfl (lv_room (Nat.le_of_ble_eq_true rfl)) dL_drawn_159 ⟨show n134 - n0 + (n145 - n134) ≤ nz - n0 by omega, show s135 - s0 + (s146 - s135) ≤ sz9 - s0 by omega⟩) hS (fun q _ h => hFc q h) hFc (fun u ra t H1 locs ht hvm hw hB hz1 hk1 hS => ?_)
      obtain ⟨ad148, hax, hr149, hP1, hD1⟩ := hB
      rw [ht] at hP1
      have hP := hP1
      have hD := hD1.weaken (fun k q _ h => hFc q.1 h)
      generalize H1 = H at hP hS ⊢
      have hr50 := hr50.mv hC.1 hax
      have hr51 := hr51.mv hC.1 hax
      have hr52 := hr52.mv hC.1 hax
      have hX := hX.trans hax
      have hC := hm.2.2 hC
      have hN : n0 ≤ n145 := Nat.le_trans hN hm1
      have hT : s0 ≤ s146 := Nat.le_trans hT hm2
      refine W.widen (k := n145 - n0) (n := s146 - s0) (by omega) (by omega) ?_
      clear hP1 hD1 hFc hk1 hz1 hvm ht hax hm hm1 hm2 hM1 hM2
      refine my_top (y := .ref (AD nb ad148 x143)) (congrArg Value.ref hr149.2.symm) ?_
      have hr149 := rf_self hr149
      refine lv_pop hx hb dL_drawn_162 rfl ?_
      refine lv_iconst (v := 4) hx hb dL_drawn_163 (by decide) ?_
      obtain ⟨k151, e152, hF⟩ := mp_o hF
      obtain ⟨x156, n153, s154, E155, hq, hF⟩ := mn_o hF
      have hM1 := mle1 hF
      have hM2 := mle2 hF
      have hq9 := hq.2.1
      have hq8 := hq.2.2.1
      obtain ⟨l1, l2, l3⟩ := ln_s e152
      refine va_newq (C := "java/lang/String") hx hb hown (hts _ mw_603) hE.ao1 hK hP hD hS hA l1 l2 (show k151 * 4 ≤ 536870912 by omega) (show n145 - n0 + 1 ≤ nz - n0 by omega) (show s146 - s0 + k151 ≤ sz9 - s0 by omega) dL_drawn_164 (fun q157 cA H hK9 hP hD hS => ?_)
      have hcA := my_cA hK9 hK 11 rfl
      subst hcA
      clear hK9 l1 l2 l3
      obtain ⟨ad158, hax, hr159, hC9, hw9⟩ := new_w (cy := cy) (nb := nb) (ad := ad148) (e := .inl (11, k151, .inr (.inr (.inr (.inr fun _ => none))))) (fun _ _ h => by cases h) (fun _ => rfl) hC q157 hq
      rw [hw9] at hP hD
      have hr50 := hr50.mv hC.1 hax
      have hr51 := hr51.mv hC.1 hax
      have hr52 := hr52.mv hC.1 hax
      have hX := hX.trans hax
      have hC := hC9
      obtain ⟨-, hq1, hq2, -, -⟩ := hq
      have hN : n0 ≤ n153 := by omega
      have hT : s0 ≤ s154 := by omega
      refine W.widen (k := n153 - n0) (n := s154 - s0) (by omega) (by omega) ?_
      clear hM1 hM2 hax hC9 hw9 hq1 hq2 hq8 hq9
      refine lv_dup hx hb dL_drawn_167 rfl ?_
      refine lv_iconst (v := 0) hx hb dL_drawn_168 (by decide) ?_
      refine va_ldcS hx hb hown (hE.xr 7 rfl) dL_drawn_169 ?_
      obtain ⟨_, e161, hF⟩ := mg_o hF
      obtain ⟨E160, e162, hF⟩ := mw_o hF
      obtain ⟨q9, m9, f9, h9, i9, ez9⟩ := wrQ (cy := cy) hC hr159 rf_c e162
      refine va_astqM hx hb hK hP hD hS q9 11 h9 rfl (hs_any11 hK hP hC hE hS rf_c e161) i9 dL_drawn_171 (fun H locs hP hD hS => ?_)
      clear i9
      rw [ez9] at hP hD
      clear ez9 h9
      have hC := sQ_clo e162 hC
      refine lv_dup hx hb dL_drawn_172 rfl ?_
      refine lv_iconst (v := 1) hx hb dL_drawn_173 (by decide) ?_
      refine va_ldcS hx hb hown (hE.xr 8 rfl) dL_drawn_174 ?_
      obtain ⟨_, e164, hF⟩ := mg_o hF
      obtain ⟨E163, e165, hF⟩ := mw_o hF
      obtain ⟨q9, m9, f9, h9, i9, ez9⟩ := wrQ (cy := cy) hC hr159 rf_c e165
      refine va_astqM hx hb hK hP hD hS q9 11 h9 rfl (hs_any11 hK hP hC hE hS rf_c e164) i9 dL_drawn_176 (fun H locs hP hD hS => ?_)
      clear i9
      rw [ez9] at hP hD
      clear ez9 h9
      have hC := sQ_clo e165 hC
      refine lv_dup hx hb dL_drawn_177 rfl ?_
      refine lv_iconst (v := 2) hx hb dL_drawn_178 (by decide) ?_
      refine va_ldcS hx hb hown (hE.xr 9 rfl) dL_drawn_179 ?_
      obtain ⟨_, e167, hF⟩ := mg_o hF
      obtain ⟨E166, e168, hF⟩ := mw_o hF
      obtain ⟨q9, m9, f9, h9, i9, ez9⟩ := wrQ (cy := cy) hC hr159 rf_c e168
      refine va_astqM hx hb hK hP hD hS q9 11 h9 rfl (hs_any11 hK hP hC hE hS rf_c e167) i9 dL_drawn_181 (fun H locs hP hD hS => ?_)
      clear i9
      rw [ez9] at hP hD
      clear ez9 h9
      have hC := sQ_clo e168 hC
      refine lv_dup hx hb dL_drawn_182 rfl ?_
      refine lv_iconst (v := 3) hx hb dL_drawn_183 (by decide) ?_
      refine va_ldcS hx hb hown (hE.xr 10 rfl) dL_drawn_184 ?_
      obtain ⟨_, e170, hF⟩ := mg_o hF
      obtain ⟨E169, e171, hF⟩ := mw_o hF
      obtain ⟨q9, m9, f9, h9, i9, ez9⟩ := wrQ (cy := cy) hC hr159 rf_c e171
      refine va_astqM hx hb hK hP hD hS q9 11 h9 rfl (hs_any11 hK hP hC hE hS rf_c e170) i9 dL_drawn_186 (fun H locs hP hD hS => ?_)
      clear i9
      rw [ez9] at hP hD
      clear ez9 h9
      have hC := sQ_clo e171 hC
      refine lv_astore (lv' := [(5, .ref q157), (4, .int x13), (3, .ref q5), (0, .ref Aa1), (1, .int a2), (2, .ref Aa3)]) hx hb dL_drawn_187 hl (by decide) rfl (fun ls hl => ?_)
      refine lv_iload hx hb dL_drawn_189 (lv_at hl 1 rfl) ?_
      refine lv_ldc (v := 65536) hx hb hown (hts _ mw_604) dL_drawn_191 ?_
      obtain ⟨x172, e173, hF⟩ := mp_o hF
      refine lv_idiv hx hb dL_drawn_193 (dv_ne e173) ?_
      refine my_topi (y := x172) (dv_eq e173) ?_
      refine lv_iconst (v := 5) hx hb dL_drawn_194 (by decide) ?_
      obtain ⟨x174, e175, hF⟩ := mp_o hF
      refine lv_irem hx hb dL_drawn_195 (rm_ne e175) ?_
      refine my_topi (y := x174) (rm_eq e175) ?_
      refine lv_istore (lv' := [(6, .int x174), (5, .ref q157), (4, .int x13), (3, .ref q5), (0, .ref Aa1), (1, .int a2), (2, .ref Aa3)]) hx hb dL_drawn_196 hl (by decide) rfl (fun ls hl => ?_)
      refine lv_iconst (v := 0) hx hb dL_drawn_198 (by decide) ?_
      refine lv_istore (lv' := [(7, .int 0), (6, .int x174), (5, .ref q157), (4, .int x13), (3, .ref q5), (0, .ref Aa1), (1, .int a2), (2, .ref Aa3)]) hx hb dL_drawn_199 hl (by decide) rfl (fun ls hl => ?_)
      obtain ⟨t176, n178, s179, E180, hL177, hF⟩ := mb_o hF
      have hm := mle hL177
      have kx182 : ∀ (ad181 : Nat → Nat) (H : Heap) (locs : List Loc) (ls : Array Slot), axh n0 ad0 n178 ad181 → rf nb ad181 n178 (x156) (q157) → rf nb ad181 n178 (x4) (q5) → rf nb ad181 n178 (a1) (Aa1) → rf nb ad181 n178 (a3) (Aa3) → va_P (dC, dI) vwCl (CH cy nb ad181 n178 E180) H → va_D A (CH cy nb ad181 n178 E180) → va_S A s.heap H locs → lv_has ls 12 [(7, .int t176), (6, .int x174), (5, .ref q157), (4, .int x13), (3, .ref q5), (0, .ref Aa1), (1, .int a2), (2, .ref Aa3)] → W p l e (headSpec (wsg yL_drawn cL_drawn 12 (some (.object "CardLineLaw$Line"))) ({ frames := 15, cells := nz - n0, slots := sz9 - s0, locals := 1000 })).room s m ([.ref Aa1, .int a2, .ref Aa3] : List Value).toArray below meth c H locs (n178 - n0) (s179 - s0) Qn (F0 m 436 ls []) := by
        intro ad181 H locs ls hX hr184 hr185 hr186 hr187 hP hD hS hl
        have hC := hm.2.2 hC
        have hN : n0 ≤ n178 := Nat.le_trans hN hm.1
        have hT : s0 ≤ s179 := Nat.le_trans hT hm.2.1
        clear hm
        refine lv_iload hx hb dL_drawn_436 (lv_at hl 3 rfl) ?_
        refine lv_ldc (v := 524288) hx hb hown (hts _ mw_609) dL_drawn_438 ?_
        obtain ⟨x188, e189, hF⟩ := mp_o hF
        refine lv_idiv hx hb dL_drawn_440 (dv_ne e189) ?_
        refine my_topi (y := x188) (dv_eq e189) ?_
        refine lv_iconst (v := 4) hx hb dL_drawn_441 (by decide) ?_
        obtain ⟨x190, e191, hF⟩ := mp_o hF
        refine lv_irem hx hb dL_drawn_442 (rm_ne e191) ?_
        refine my_topi (y := x190) (rm_eq e191) ?_
        refine lv_istore (lv' := [(7, .int x190), (6, .int x174), (5, .ref q157), (4, .int x13), (3, .ref q5), (0, .ref Aa1), (1, .int a2), (2, .ref Aa3)]) hx hb dL_drawn_443 hl (by decide) rfl (fun ls hl => ?_)
        refine lv_iconst (v := 0) hx hb dL_drawn_445 (by decide) ?_
        refine lv_istore (lv' := [(8, .int 0), (7, .int x190), (6, .int x174), (5, .ref q157), (4, .int x13), (3, .ref q5), (0, .ref Aa1), (1, .int a2), (2, .ref Aa3)]) hx hb dL_drawn_446 hl (by decide) rfl (fun ls hl => ?_)
        obtain ⟨t192, n194, s195, E196, hL193, hF⟩ := mb_o hF
        have hm := mle hL193
        have kx198 : ∀ (ad197 : Nat → Nat) (H : Heap) (locs : List Loc) (ls : Array Slot), axh n0 ad0 n194 ad197 → rf nb ad197 n194 (x156) (q157) → rf nb ad197 n194 (x4) (q5) → rf nb ad197 n194 (a1) (Aa1) → rf nb ad197 n194 (a3) (Aa3) → va_P (dC, dI) vwCl (CH cy nb ad197 n194 E196) H → va_D A (CH cy nb ad197 n194 E196) → va_S A s.heap H locs → lv_has ls 12 [(8, .int t192), (7, .int x190), (6, .int x174), (5, .ref q157), (4, .int x13), (3, .ref q5), (0, .ref Aa1), (1, .int a2), (2, .ref Aa3)] → W p l e (headSpec (wsg yL_drawn cL_drawn 12 (some (.object "CardLineLaw$Line"))) ({ frames := 15, cells := nz - n0, slots := sz9 - s0, locals := 1000 })).room s m ([.ref Aa1, .int a2, .ref Aa3] : List Value).toArray below meth c H locs (n194 - n0) (s195 - s0) Qn (F0 m 505 ls []) := by
          intro ad197 H locs ls hX hr200 hr201 hr202 hr203 hP hD hS hl
          have hC := hm.2.2 hC
          have hN : n0 ≤ n194 := Nat.le_trans hN hm.1
          have hT : s0 ≤ s195 := Nat.le_trans hT hm.2.1
          clear hm
          refine lv_iconst (v := 0) hx hb dL_drawn_505 (by decide) ?_
          refine lv_istore (lv' := [(8, .int 0), (7, .int x190), (6, .int x174), (5, .ref q157), (4, .int x13), (3, .ref q5), (0, .ref Aa1), (1, .int a2), (2, .ref Aa3)]) hx hb dL_drawn_506 hl (by decide) rfl (fun ls hl => ?_)
          obtain ⟨t204, n206, s207, E208, hL205, hF⟩ := mb_o hF
          have hm := mle hL205
          have kx210 : ∀ (ad209 : Nat → Nat) (H : Heap) (locs : List Loc) (ls : Array Slot), axh n0 ad0 n206 ad209 → rf nb ad209 n206 (x156) (q157) → rf nb ad209 n206 (x4) (q5) → rf nb ad209 n206 (a1) (Aa1) → rf nb ad209 n206 (a3) (Aa3) → va_P (dC, dI) vwCl (CH cy nb ad209 n206 E208) H → va_D A (CH cy nb ad209 n206 E208) → va_S A s.heap H locs → lv_has ls 12 [(8, .int t204), (7, .int x190), (6, .int x174), (5, .ref q157), (4, .int x13), (3, .ref q5), (0, .ref Aa1), (1, .int a2), (2, .ref Aa3)] → W p l e (headSpec (wsg yL_drawn cL_drawn 12 (some (.object "CardLineLaw$Line"))) ({ frames := 15, cells := nz - n0, slots := sz9 - s0, locals := 1000 })).room s m ([.ref Aa1, .int a2, .ref Aa3] : List Value).toArray below meth c H locs (n206 - n0) (s207 - s0) Qn (F0 m 630 ls []) := by
            intro ad209 H locs ls hX hr212 hr213 hr214 hr215 hP hD hS hl
            have hC := hm.2.2 hC
            have hN : n0 ≤ n206 := Nat.le_trans hN hm.1
            have hT : s0 ≤ s207 := Nat.le_trans hT hm.2.1
            clear hm
            refine lv_aload_n hx hb dL_drawn_630 rfl (lv_at hl 5 rfl) ?_
            obtain ⟨ht9, hn9, hs9, hE9⟩ := mr_o hF
            subst hn9 hs9 hE9
            have hX9 := hX
            rw [hQ]
            exact W.aret (v := .ref q5) hx hb hr (by first | exact Or.inl ⟨_, rfl⟩ | exact Or.inr ⟨_, rfl⟩) (Or.inr ⟨_, rfl⟩) (fun t ht hW => ⟨⟨(), q5, rfl, trivial, _, hX, (by rw [← ht9]; exact hr213), by rw [ht]; exact hP, hD⟩, hS.F ht⟩) hS.2.2 dL_drawn_631
          have hK216 := mle1 hF
          have hK217 := mle2 hF
          clear hF hm
          have loop218 : ∀ (m219 : Nat) (y224 : Int32) (n221 s222 : Nat) (E223 : HE), (H_L_drawn_L508 x190 x174 x156 x13 x4 a1 a2 a3 m219 y224).1 (n221, s222, E223) = some (t204, n206, s207, E208) → clo n221 E223 → n0 ≤ n221 → s0 ≤ s222 → ∀ (ad220 : Nat → Nat) (H : Heap) (locs : List Loc) (ls : Array Slot), axh n0 ad0 n221 ad220 → rf nb ad220 n221 (x156) (q157) → rf nb ad220 n221 (x4) (q5) → rf nb ad220 n221 (a1) (Aa1) → rf nb ad220 n221 (a3) (Aa3) → va_P (dC, dI) vwCl (CH cy nb ad220 n221 E223) H → va_D A (CH cy nb ad220 n221 E223) → va_S A s.heap H locs → lv_has ls 12 [(8, .int y224), (7, .int x190), (6, .int x174), (5, .ref q157), (4, .int x13), (3, .ref q5), (0, .ref Aa1), (1, .int a2), (2, .ref Aa3)] → W p l e (headSpec (wsg yL_drawn cL_drawn 12 (some (.object "CardLineLaw$Line"))) ({ frames := 15, cells := nz - n0, slots := sz9 - s0, locals := 1000 })).room s m ([.ref Aa1, .int a2, .ref Aa3] : List Value).toArray below meth c H locs (n221 - n0) (s222 - s0) Qn (F0 m 508 ls []) := by
            intro m219
            induction m219 with
            | zero => intro y224 n221 s222 E223 hF; exact (m0_o hF).elim
            | succ m219 ih =>
              intro y224 n221 s222 E223 hF hC hN hT ad220 H locs ls hX hr225 hr226 hr227 hr228 hP hD hS hl
              simp only [H_L_drawn_L508] at hF
              refine lv_iload hx hb dL_drawn_508 (lv_at hl 0 rfl) ?_
              refine lv_iload hx hb dL_drawn_510 (lv_at hl 4 rfl) ?_
              refine lv_ldc (v := 2097152) hx hb hown (hts _ mw_610) dL_drawn_512 ?_
              obtain ⟨x229, e230, hF⟩ := mp_o hF
              refine lv_idiv hx hb dL_drawn_514 (dv_ne e230) ?_
              refine my_topi (y := x229) (dv_eq e230) ?_
              refine lv_bipush (v := 8) hx hb dL_drawn_515 (by decide) ?_
              obtain ⟨x231, e232, hF⟩ := mp_o hF
              refine lv_irem hx hb dL_drawn_517 (rm_ne e232) ?_
              refine my_topi (y := x231) (rm_eq e232) ?_
              refine lv_icmp_ge (tgt := 630) hx hb dL_drawn_518 (by decide) (fun c233 => ?_) (fun c233 => ?_)
              · skip
                rw [if_pos c233] at hF
                obtain ⟨ht9, hn9, hs9, hE9⟩ := mr_o hF
                subst hn9 hs9 hE9
                subst ht9
                have hl := lv_sub (l' := [(8, .int y224), (7, .int x190), (6, .int x174), (5, .ref q157), (4, .int x13), (3, .ref q5), (0, .ref Aa1), (1, .int a2), (2, .ref Aa3)]) hl [0, 1, 2, 3, 4, 5, 6, 7, 8] rfl
                exact kx210 _ _ _ _ hX hr225 hr226 hr227 hr228 hP hD hS hl
              · skip
                rw [if_neg c233] at hF
                refine lv_iload hx hb dL_drawn_521 (lv_at hl 1 rfl) ?_
                refine lv_if_le (tgt := 630) hx hb dL_drawn_523 (by decide) (fun c234 => ?_) (fun c234 => ?_)
                · skip
                  rw [if_pos c234] at hF
                  obtain ⟨ht9, hn9, hs9, hE9⟩ := mr_o hF
                  subst hn9 hs9 hE9
                  subst ht9
                  have hl := lv_sub (l' := [(8, .int y224), (7, .int x190), (6, .int x174), (5, .ref q157), (4, .int x13), (3, .ref q5), (0, .ref Aa1), (1, .int a2), (2, .ref Aa3)]) hl [0, 1, 2, 3, 4, 5, 6, 7, 8] rfl
                  exact kx210 _ _ _ _ hX hr225 hr226 hr227 hr228 hP hD hS hl
                · skip
                  rw [if_neg c234] at hF
                  refine lv_aload_n hx hb dL_drawn_526 rfl (lv_at hl 6 rfl) ?_
                  refine lv_iload_n hx hb dL_drawn_527 rfl (lv_at hl 7 rfl) ?_
                  refine lv_bipush (v := 10) hx hb dL_drawn_528 (by decide) ?_
                  refine lv_iadd hx hb dL_drawn_530 ?_
                  refine lv_iload hx hb dL_drawn_531 (lv_at hl 0 rfl) ?_
                  refine lv_iadd hx hb dL_drawn_533 ?_
                  obtain ⟨x235, n237, s238, E239, e236, hF⟩ := mb_o hF
                  have hm := mle e236
                  have hM1 := mle1 hF
                  have hM2 := mle2 hF
                  have hm1 := hm.1
                  have hm2 := hm.2.1
                  have hFc := my_free hD hS hA
                  refine va_calli (va_runS (As := [.ref Aa1, .int ((a2 + 10) + y224)]) (rest := []) ⟨hx, hb, hml, hown, hts⟩ (h_L_at l dC dI cy nb ad220 n221 s222 E223 hC (a1) Aa1 hr227 (((a2 + 10) + y224)) H.size x235 n237 s238 E239 e236) (va_cwS 2 hts (gS mw_614 mw_615 mw_129 mw_616) rfl rfl rfl (by decide +kernel) ⟨Nat.le_of_ble_eq_true rfl, Nat.le_of_ble_eq_true rfl⟩) (hl_preS hP hK hD hE hS hFc) rfl rfl hl.1 rfl (lv_room (Nat.le_of_ble_eq_true rfl)) dL_drawn_534 ⟨show n221 - n0 + (n237 - n221) ≤ nz - n0 by omega, show s222 - s0 + (s238 - s222) ≤ sz9 - s0 by omega⟩) hS (fun q _ h => hFc q h) hFc (fun r9 u t H1 locs ht hvm hw hB hz1 hk1 hS => ?_)
                  obtain ⟨ad240, hax, hP1, hD1⟩ := hB
                  rw [ht] at hP1
                  have hP := hP1
                  have hD := hD1.weaken (fun k q _ h => hFc q.1 h)
                  generalize H1 = H at hP hS ⊢
                  have hr225 := hr225.mv hC.1 hax
                  have hr226 := hr226.mv hC.1 hax
                  have hr227 := hr227.mv hC.1 hax
                  have hr228 := hr228.mv hC.1 hax
                  have hX := hX.trans hax
                  have hC := hm.2.2 hC
                  have hN : n0 ≤ n237 := Nat.le_trans hN hm1
                  have hT : s0 ≤ s238 := Nat.le_trans hT hm2
                  refine W.widen (k := n237 - n0) (n := s238 - s0) (by omega) (by omega) ?_
                  clear hP1 hD1 hFc hk1 hz1 hvm ht hax hm hm1 hm2 hM1 hM2
                  obtain rfl := hw.symm
                  refine lv_iload hx hb dL_drawn_537 (lv_at hl 1 rfl) ?_
                  obtain ⟨x241, e242, hF⟩ := mp_o hF
                  refine lv_irem hx hb dL_drawn_539 (rm_ne e242) ?_
                  refine my_topi (y := x241) (rm_eq e242) ?_
                  refine lv_istore (lv' := [(9, .int x241), (8, .int y224), (7, .int x190), (6, .int x174), (5, .ref q157), (4, .int x13), (3, .ref q5), (0, .ref Aa1), (1, .int a2), (2, .ref Aa3)]) hx hb dL_drawn_540 hl (by decide) rfl (fun ls hl => ?_)
                  obtain ⟨x246, n243, s244, E245, hq, hF⟩ := mn_o hF
                  have hM1 := mle1 hF
                  have hM2 := mle2 hF
                  have hq9 := hq.2.1
                  have hq8 := hq.2.2.1
                  refine va_new (ci := 1) (fs := [.null, .int 0, .int 0, .int 0]) (C := RJ4) (T := TJ4) (N := 4) hx hb hts inlJ4 tyJ4 tyJ4_ok hown (hts _ mw_6) (hts _ mw_7) (hts _ mw_8) hK hP hD hS hA rfl (fun j hj => by match j, hj with | 0, _ => rfl | 1, _ => rfl | 2, _ => rfl | 3, _ => rfl | (n+4), h => omega) (show n237 - n0 + 1 ≤ nz - n0 by omega) (show s238 - s0 + 4 ≤ sz9 - s0 by omega) dL_drawn_542 (fun q247 H hP hD hS => ?_)
                  obtain ⟨ad248, hax, hr249, hC9, hw9⟩ := new_w (cy := cy) (nb := nb) (ad := ad240) (e := .inr (1, [.null, .int 0, .int 0, .int 0])) nok_J4 (fun _ => rfl) hC q247 hq
                  rw [hw9] at hP hD
                  have hr225 := hr225.mv hC.1 hax
                  have hr226 := hr226.mv hC.1 hax
                  have hr227 := hr227.mv hC.1 hax
                  have hr228 := hr228.mv hC.1 hax
                  have hX := hX.trans hax
                  have hC := hC9
                  obtain ⟨-, hq1, hq2, -, -⟩ := hq
                  have hN : n0 ≤ n243 := by omega
                  have hT : s0 ≤ s244 := by omega
                  refine W.widen (k := n243 - n0) (n := s244 - s0) (by omega) (by omega) ?_
                  clear hM1 hM2 hax hC9 hw9 hq1 hq2 hq8 hq9
                  refine lv_dup hx hb dL_drawn_545 rfl ?_
                  obtain ⟨⟨⟩, n251, s252, E253, e250, hF⟩ := mb_o hF
                  have hm := mle e250
                  have hM1 := mle1 hF
                  have hM2 := mle2 hF
                  have hm1 := hm.1
                  have hm2 := hm.2.1
                  have hFc := my_free hD hS hA
                  refine va_callv (va_runI (As := []) (rest := [.ref q247]) ⟨hx, hb, hml, hown, hts⟩ (h_J4_init_da8c8 l dC dI cy nb ad248 n243 s244 E245 hC (x246) q247 hr249 H.size n251 s252 E253 e250) (cwI 0 hts (gI mw_583) rfl rfl rfl (hts _ mw_8) (hts _ mw_581) (hts _ mw_582) rfl (by decide +kernel) ⟨Nat.le_of_ble_eq_true rfl, Nat.le_of_ble_eq_true rfl⟩) (hl_preS hP hK hD hE hS hFc) rfl rfl hl.1 rfl (lv_room (Nat.le_of_ble_eq_true rfl)) dL_drawn_546 ⟨show n243 - n0 + (n251 - n243) ≤ nz - n0 by omega, show s244 - s0 + (s252 - s244) ≤ sz9 - s0 by omega⟩) hS (fun q _ h => hFc q h) hFc (fun u t H1 locs ht hvm hw hB hz1 hk1 hS => ?_)
                  obtain ⟨ad254, hax, hP1, hD1⟩ := hB
                  rw [ht] at hP1
                  have hP := hP1
                  have hD := hD1.weaken (fun k q _ h => hFc q.1 h)
                  generalize H1 = H at hP hS ⊢
                  have hr225 := hr225.mv hC.1 hax
                  have hr226 := hr226.mv hC.1 hax
                  have hr227 := hr227.mv hC.1 hax
                  have hr228 := hr228.mv hC.1 hax
                  have hr249 := hr249.mv hC.1 hax
                  have hX := hX.trans hax
                  have hC := hm.2.2 hC
                  have hN : n0 ≤ n251 := Nat.le_trans hN hm1
                  have hT : s0 ≤ s252 := Nat.le_trans hT hm2
                  refine W.widen (k := n251 - n0) (n := s252 - s0) (by omega) (by omega) ?_
                  clear hP1 hD1 hFc hk1 hz1 hvm ht hax hm hm1 hm2 hM1 hM2
                  refine lv_astore (lv' := [(10, .ref q247), (9, .int x241), (8, .int y224), (7, .int x190), (6, .int x174), (5, .ref q157), (4, .int x13), (3, .ref q5), (0, .ref Aa1), (1, .int a2), (2, .ref Aa3)]) hx hb dL_drawn_549 hl (by decide) rfl (fun ls hl => ?_)
                  refine lv_aload_n hx hb dL_drawn_551 rfl (lv_at hl 10 rfl) ?_
                  refine va_ldcS hx hb hown (hE.xr 13 rfl) dL_drawn_552 ?_
                  obtain ⟨fs9, e255, hF⟩ := mg_o hF
                  obtain ⟨x256, n258, s259, E260, e257, hF⟩ := mb_o hF
                  have hm := mle e257
                  have hM1 := mle1 hF
                  have hM2 := mle2 hF
                  have hm1 := hm.1
                  have hm2 := hm.2.1
                  have hFc := my_free hD hS hA
                  refine va_callr (va_runV (C := RJ4) (As := [.ref (nb 1026)]) (rest := []) ⟨hx, hb, hml, hown, hts⟩ (h_J4_append_15ec4 l dC dI cy nb ad254 n251 s252 E253 hC (a3) Aa3 hr228 (1001026) (nb 1026) rf_c H.size x256 n258 s259 E260 e257) (cwV 1 hts (gV mw_618 mw_619 mw_620 mw_8 mw_621) rfl rfl rfl (by decide +kernel) ⟨Nat.le_of_ble_eq_true rfl, Nat.le_of_ble_eq_true rfl⟩) (hl_preV hP hK hD hE hS hFc (va_recv hK (rdO_ hP hC hr228 e255) (ci := 1) (q0 := 0) rfl rfl)) rfl rfl hl.1 rfl (lv_room (Nat.le_of_ble_eq_true rfl)) dL_drawn_554 ⟨show n251 - n0 + (n258 - n251) ≤ nz - n0 by omega, show s252 - s0 + (s259 - s252) ≤ sz9 - s0 by omega⟩) hS (fun q _ h => hFc q h) hFc (fun u ra t H1 locs ht hvm hw hB hz1 hk1 hS => ?_)
                  obtain ⟨ad261, hax, hr262, hP1, hD1⟩ := hB
                  rw [ht] at hP1
                  have hP := hP1
                  have hD := hD1.weaken (fun k q _ h => hFc q.1 h)
                  generalize H1 = H at hP hS ⊢
                  have hr249 := hr249.mv hC.1 hax
                  have hr225 := hr225.mv hC.1 hax
                  have hr226 := hr226.mv hC.1 hax
                  have hr227 := hr227.mv hC.1 hax
                  have hr228 := hr228.mv hC.1 hax
                  have hX := hX.trans hax
                  have hC := hm.2.2 hC
                  have hN : n0 ≤ n258 := Nat.le_trans hN hm1
                  have hT : s0 ≤ s259 := Nat.le_trans hT hm2
                  refine W.widen (k := n258 - n0) (n := s259 - s0) (by omega) (by omega) ?_
                  clear hP1 hD1 hFc hk1 hz1 hvm ht hax hm hm1 hm2 hM1 hM2
                  refine my_top (y := .ref (AD nb ad261 x256)) (congrArg Value.ref hr262.2.symm) ?_
                  have hr262 := rf_self hr262
                  refine lv_iload hx hb dL_drawn_557 (lv_at hl 1 rfl) ?_
                  obtain ⟨fs9, e264, hF⟩ := mg_o hF
                  obtain ⟨x265, n267, s268, E269, e266, hF⟩ := mb_o hF
                  have hm := mle e266
                  have hM1 := mle1 hF
                  have hM2 := mle2 hF
                  have hm1 := hm.1
                  have hm2 := hm.2.1
                  have hFc := my_free hD hS hA
                  refine va_callr (va_runV (C := RJ4) (As := [.int x241]) (rest := []) ⟨hx, hb, hml, hown, hts⟩ (h_J4_append_bf812 l dC dI cy nb ad261 n258 s259 E260 hC (x256) (AD nb ad261 x256) hr262 (x241) H.size x265 n267 s268 E269 e266) (cwV 1 hts (gV mw_735 mw_736 mw_737 mw_8 mw_738) rfl rfl rfl (by decide +kernel) ⟨Nat.le_of_ble_eq_true rfl, Nat.le_of_ble_eq_true rfl⟩) (hl_preV hP hK hD hE hS hFc (va_recv hK (rdO_ hP hC hr262 e264) (ci := 1) (q0 := 0) rfl rfl)) rfl rfl hl.1 rfl (lv_room (Nat.le_of_ble_eq_true rfl)) dL_drawn_559 ⟨show n258 - n0 + (n267 - n258) ≤ nz - n0 by omega, show s259 - s0 + (s268 - s259) ≤ sz9 - s0 by omega⟩) hS (fun q _ h => hFc q h) hFc (fun u ra t H1 locs ht hvm hw hB hz1 hk1 hS => ?_)
                  obtain ⟨ad270, hax, hr271, hP1, hD1⟩ := hB
                  rw [ht] at hP1
                  have hP := hP1
                  have hD := hD1.weaken (fun k q _ h => hFc q.1 h)
                  generalize H1 = H at hP hS ⊢
                  have hr249 := hr249.mv hC.1 hax
                  have hr225 := hr225.mv hC.1 hax
                  have hr226 := hr226.mv hC.1 hax
                  have hr227 := hr227.mv hC.1 hax
                  have hr228 := hr228.mv hC.1 hax
                  have hX := hX.trans hax
                  have hC := hm.2.2 hC
                  have hN : n0 ≤ n267 := Nat.le_trans hN hm1
                  have hT : s0 ≤ s268 := Nat.le_trans hT hm2
                  refine W.widen (k := n267 - n0) (n := s268 - s0) (by omega) (by omega) ?_
                  clear hP1 hD1 hFc hk1 hz1 hvm ht hax hm hm1 hm2 hM1 hM2
                  refine my_top (y := .ref (AD nb ad270 x265)) (congrArg Value.ref hr271.2.symm) ?_
                  have hr271 := rf_self hr271
                  refine lv_bipush (v := 32) hx hb dL_drawn_562 (by decide) ?_
                  obtain ⟨fs9, e273, hF⟩ := mg_o hF
                  obtain ⟨x274, n276, s277, E278, e275, hF⟩ := mb_o hF
                  have hm := mle e275
                  have hM1 := mle1 hF
                  have hM2 := mle2 hF
                  have hm1 := hm.1
                  have hm2 := hm.2.1
                  have hFc := my_free hD hS hA
                  refine va_callr (va_runV (C := RJ4) (As := [.int 32]) (rest := []) ⟨hx, hb, hml, hown, hts⟩ (h_J4_append_cf468 l dC dI cy nb ad270 n267 s268 E269 hC (x265) (AD nb ad270 x265) hr271 (32) H.size x274 n276 s277 E278 e275) (cwV 1 hts (gV mw_759 mw_760 mw_761 mw_8 mw_762) rfl rfl rfl (by decide +kernel) ⟨Nat.le_of_ble_eq_true rfl, Nat.le_of_ble_eq_true rfl⟩) (hl_preV hP hK hD hE hS hFc (va_recv hK (rdO_ hP hC hr271 e273) (ci := 1) (q0 := 0) rfl rfl)) rfl rfl hl.1 rfl (lv_room (Nat.le_of_ble_eq_true rfl)) dL_drawn_564 ⟨show n267 - n0 + (n276 - n267) ≤ nz - n0 by omega, show s268 - s0 + (s277 - s268) ≤ sz9 - s0 by omega⟩) hS (fun q _ h => hFc q h) hFc (fun u ra t H1 locs ht hvm hw hB hz1 hk1 hS => ?_)
                  obtain ⟨ad279, hax, hr280, hP1, hD1⟩ := hB
                  rw [ht] at hP1
                  have hP := hP1
                  have hD := hD1.weaken (fun k q _ h => hFc q.1 h)
                  generalize H1 = H at hP hS ⊢
                  have hr249 := hr249.mv hC.1 hax
                  have hr225 := hr225.mv hC.1 hax
                  have hr226 := hr226.mv hC.1 hax
                  have hr227 := hr227.mv hC.1 hax
                  have hr228 := hr228.mv hC.1 hax
                  have hX := hX.trans hax
                  have hC := hm.2.2 hC
                  have hN : n0 ≤ n276 := Nat.le_trans hN hm1
                  have hT : s0 ≤ s277 := Nat.le_trans hT hm2
                  refine W.widen (k := n276 - n0) (n := s277 - s0) (by omega) (by omega) ?_
                  clear hP1 hD1 hFc hk1 hz1 hvm ht hax hm hm1 hm2 hM1 hM2
                  refine my_top (y := .ref (AD nb ad279 x274)) (congrArg Value.ref hr280.2.symm) ?_
                  have hr280 := rf_self hr280
                  refine lv_aload_n hx hb dL_drawn_567 rfl (lv_at hl 8 rfl) ?_
                  refine lv_iload_n hx hb dL_drawn_568 rfl (lv_at hl 9 rfl) ?_
                  refine lv_bipush (v := 20) hx hb dL_drawn_569 (by decide) ?_
                  refine lv_iadd hx hb dL_drawn_571 ?_
                  refine lv_bipush (v := 6) hx hb dL_drawn_572 (by decide) ?_
                  refine lv_iload hx hb dL_drawn_574 (lv_at hl 2 rfl) ?_
                  refine lv_imul hx hb dL_drawn_576 ?_
                  refine lv_iadd hx hb dL_drawn_577 ?_
                  refine lv_aload hx hb dL_drawn_578 (lv_at hl 0 rfl) ?_
                  obtain ⟨x282, n284, s285, E286, e283, hF⟩ := mb_o hF
                  have hm := mle e283
                  have hM1 := mle1 hF
                  have hM2 := mle2 hF
                  have hm1 := hm.1
                  have hm2 := hm.2.1
                  have hFc := my_free hD hS hA
                  refine va_callr (va_runS (As := [.ref Aa1, .int ((a2 + 20) + (6 * y224)), .ref q247]) (rest := [.ref (AD nb ad279 x274)]) ⟨hx, hb, hml, hown, hts⟩ (h_L_textOf l dC dI cy nb ad279 n276 s277 E278 hC (a1) Aa1 hr227 (((a2 + 20) + (6 * y224))) (x246) q247 hr249 H.size x282 n284 s285 E286 e283) (va_cwS 3 hts (gS mw_1038 mw_1039 mw_129 mw_1040) rfl rfl rfl (by decide +kernel) ⟨Nat.le_of_ble_eq_true rfl, Nat.le_of_ble_eq_true rfl⟩) (hl_preS hP hK hD hE hS hFc) rfl rfl hl.1 rfl (lv_room (Nat.le_of_ble_eq_true rfl)) dL_drawn_580 ⟨show n276 - n0 + (n284 - n276) ≤ nz - n0 by omega, show s277 - s0 + (s285 - s277) ≤ sz9 - s0 by omega⟩) hS (fun q _ h => hFc q h) hFc (fun u ra t H1 locs ht hvm hw hB hz1 hk1 hS => ?_)
                  obtain ⟨ad287, hax, hr288, hP1, hD1⟩ := hB
                  rw [ht] at hP1
                  have hP := hP1
                  have hD := hD1.weaken (fun k q _ h => hFc q.1 h)
                  generalize H1 = H at hP hS ⊢
                  have hr249 := hr249.mv hC.1 hax
                  have hr225 := hr225.mv hC.1 hax
                  have hr226 := hr226.mv hC.1 hax
                  have hr227 := hr227.mv hC.1 hax
                  have hr228 := hr228.mv hC.1 hax
                  have hr280 := hr280.mv hC.1 hax
                  have hX := hX.trans hax
                  have hC := hm.2.2 hC
                  have hN : n0 ≤ n284 := Nat.le_trans hN hm1
                  have hT : s0 ≤ s285 := Nat.le_trans hT hm2
                  refine W.widen (k := n284 - n0) (n := s285 - s0) (by omega) (by omega) ?_
                  clear hP1 hD1 hFc hk1 hz1 hvm ht hax hm hm1 hm2 hM1 hM2
                  refine my_top (y := .ref (AD nb ad287 x282)) (congrArg Value.ref hr288.2.symm) ?_
                  have hr288 := rf_self hr288
                  obtain ⟨fs9, e290, hF⟩ := mg_o hF
                  obtain ⟨x291, n293, s294, E295, e292, hF⟩ := mb_o hF
                  have hm := mle e292
                  have hM1 := mle1 hF
                  have hM2 := mle2 hF
                  have hm1 := hm.1
                  have hm2 := hm.2.1
                  have hFc := my_free hD hS hA
                  refine va_callr (va_runV (C := RJ4) (As := [.ref (AD nb ad287 x282)]) (rest := []) ⟨hx, hb, hml, hown, hts⟩ (h_J4_append_15ec4 l dC dI cy nb ad287 n284 s285 E286 hC (x274) (AD nb ad279 x274) hr280 (x282) (AD nb ad287 x282) hr288 H.size x291 n293 s294 E295 e292) (cwV 1 hts (gV mw_618 mw_619 mw_620 mw_8 mw_621) rfl rfl rfl (by decide +kernel) ⟨Nat.le_of_ble_eq_true rfl, Nat.le_of_ble_eq_true rfl⟩) (hl_preV hP hK hD hE hS hFc (va_recv hK (rdO_ hP hC hr280 e290) (ci := 1) (q0 := 0) rfl rfl)) rfl rfl hl.1 rfl (lv_room (Nat.le_of_ble_eq_true rfl)) dL_drawn_583 ⟨show n284 - n0 + (n293 - n284) ≤ nz - n0 by omega, show s285 - s0 + (s294 - s285) ≤ sz9 - s0 by omega⟩) hS (fun q _ h => hFc q h) hFc (fun u ra t H1 locs ht hvm hw hB hz1 hk1 hS => ?_)
                  obtain ⟨ad296, hax, hr297, hP1, hD1⟩ := hB
                  rw [ht] at hP1
                  have hP := hP1
                  have hD := hD1.weaken (fun k q _ h => hFc q.1 h)
                  generalize H1 = H at hP hS ⊢
                  have hr249 := hr249.mv hC.1 hax
                  have hr225 := hr225.mv hC.1 hax
                  have hr226 := hr226.mv hC.1 hax
                  have hr227 := hr227.mv hC.1 hax
                  have hr228 := hr228.mv hC.1 hax
                  have hX := hX.trans hax
                  have hC := hm.2.2 hC
                  have hN : n0 ≤ n293 := Nat.le_trans hN hm1
                  have hT : s0 ≤ s294 := Nat.le_trans hT hm2
                  refine W.widen (k := n293 - n0) (n := s294 - s0) (by omega) (by omega) ?_
                  clear hP1 hD1 hFc hk1 hz1 hvm ht hax hm hm1 hm2 hM1 hM2
                  refine my_top (y := .ref (AD nb ad296 x291)) (congrArg Value.ref hr297.2.symm) ?_
                  have hr297 := rf_self hr297
                  refine lv_pop hx hb dL_drawn_586 rfl ?_
                  obtain ⟨x302, n299, s300, E301, hq, hF⟩ := mn_o hF
                  have hM1 := mle1 hF
                  have hM2 := mle2 hF
                  have hq9 := hq.2.1
                  have hq8 := hq.2.2.1
                  refine va_new (ci := 8) (fs := [.int 0, .null, .int 0, .int 0, .int 0, .int 0, .int 0, .int 0, .int 0]) (C := RX8) (T := TX8) (N := 9) hx hb hts inlX8 tyX8 tyX8_ok hown (hts _ mw_153) (hts _ mw_612) (hts _ mw_613) hK hP hD hS hA rfl (fun j hj => by match j, hj with | 0, _ => rfl | 1, _ => rfl | 2, _ => rfl | 3, _ => rfl | 4, _ => rfl | 5, _ => rfl | 6, _ => rfl | 7, _ => rfl | 8, _ => rfl | (n+9), h => omega) (show n293 - n0 + 1 ≤ nz - n0 by omega) (show s294 - s0 + 9 ≤ sz9 - s0 by omega) dL_drawn_587 (fun q303 H hP hD hS => ?_)
                  obtain ⟨ad304, hax, hr305, hC9, hw9⟩ := new_w (cy := cy) (nb := nb) (ad := ad296) (e := .inr (8, [.int 0, .null, .int 0, .int 0, .int 0, .int 0, .int 0, .int 0, .int 0])) nok_X8 (fun _ => rfl) hC q303 hq
                  rw [hw9] at hP hD
                  have hr249 := hr249.mv hC.1 hax
                  have hr225 := hr225.mv hC.1 hax
                  have hr226 := hr226.mv hC.1 hax
                  have hr227 := hr227.mv hC.1 hax
                  have hr228 := hr228.mv hC.1 hax
                  have hX := hX.trans hax
                  have hC := hC9
                  obtain ⟨-, hq1, hq2, -, -⟩ := hq
                  have hN : n0 ≤ n299 := by omega
                  have hT : s0 ≤ s300 := by omega
                  refine W.widen (k := n299 - n0) (n := s300 - s0) (by omega) (by omega) ?_
                  clear hM1 hM2 hax hC9 hw9 hq1 hq2 hq8 hq9
                  refine lv_dup hx hb dL_drawn_590 rfl ?_
                  refine lv_iload hx hb dL_drawn_591 (lv_at hl 1 rfl) ?_
                  refine lv_aload hx hb dL_drawn_593 (lv_at hl 0 rfl) ?_
                  obtain ⟨fs9, e306, hF⟩ := mg_o hF
                  obtain ⟨x307, n309, s310, E311, e308, hF⟩ := mb_o hF
                  have hm := mle e308
                  have hM1 := mle1 hF
                  have hM2 := mle2 hF
                  have hm1 := hm.1
                  have hm2 := hm.2.1
                  have hFc := my_free hD hS hA
                  refine va_callr (va_runV (C := RJ4) (As := []) (rest := [.int x241, .ref q303, .ref q303]) ⟨hx, hb, hml, hown, hts⟩ (h_J4_toString_0e30d l dC dI cy nb ad304 n299 s300 E301 hC (x246) q247 hr249 H.size x307 n309 s310 E311 e308) (cwV 0 hts (gV mw_780 mw_781 mw_782 mw_8 mw_783) rfl rfl rfl (by decide +kernel) ⟨Nat.le_of_ble_eq_true rfl, Nat.le_of_ble_eq_true rfl⟩) (hl_preV hP hK hD hE hS hFc (va_recv hK (rdO_ hP hC hr249 e306) (ci := 1) (q0 := 0) rfl rfl)) rfl rfl hl.1 rfl (lv_room (Nat.le_of_ble_eq_true rfl)) dL_drawn_595 ⟨show n299 - n0 + (n309 - n299) ≤ nz - n0 by omega, show s300 - s0 + (s310 - s300) ≤ sz9 - s0 by omega⟩) hS (fun q _ h => hFc q h) hFc (fun u ra t H1 locs ht hvm hw hB hz1 hk1 hS => ?_)
                  obtain ⟨ad312, hax, hr313, hP1, hD1⟩ := hB
                  rw [ht] at hP1
                  have hP := hP1
                  have hD := hD1.weaken (fun k q _ h => hFc q.1 h)
                  generalize H1 = H at hP hS ⊢
                  have hr249 := hr249.mv hC.1 hax
                  have hr225 := hr225.mv hC.1 hax
                  have hr226 := hr226.mv hC.1 hax
                  have hr227 := hr227.mv hC.1 hax
                  have hr228 := hr228.mv hC.1 hax
                  have hr305 := hr305.mv hC.1 hax
                  have hX := hX.trans hax
                  have hC := hm.2.2 hC
                  have hN : n0 ≤ n309 := Nat.le_trans hN hm1
                  have hT : s0 ≤ s310 := Nat.le_trans hT hm2
                  refine W.widen (k := n309 - n0) (n := s310 - s0) (by omega) (by omega) ?_
                  clear hP1 hD1 hFc hk1 hz1 hvm ht hax hm hm1 hm2 hM1 hM2
                  refine my_top (y := .ref (AD nb ad312 x307)) (congrArg Value.ref hr313.2.symm) ?_
                  have hr313 := rf_self hr313
                  obtain ⟨⟨⟩, n316, s317, E318, e315, hF⟩ := mb_o hF
                  have hm := mle e315
                  have hM1 := mle1 hF
                  have hM2 := mle2 hF
                  have hm1 := hm.1
                  have hm2 := hm.2.1
                  have hFc := my_free hD hS hA
                  refine va_callv (va_runI (As := [.int x241, .ref (AD nb ad312 x307)]) (rest := [.ref q303]) ⟨hx, hb, hml, hown, hts⟩ (h_X8_init l dC dI cy nb ad312 n309 s310 E311 hC (x302) q303 hr305 (x241) (x307) (AD nb ad312 x307) hr313 H.size n316 s317 E318 e315) (cwI 2 hts (gI mw_1056) rfl rfl rfl (hts _ mw_613) (hts _ mw_1054) (hts _ mw_1055) rfl (by decide +kernel) ⟨Nat.le_of_ble_eq_true rfl, Nat.le_of_ble_eq_true rfl⟩) (hl_preS hP hK hD hE hS hFc) rfl rfl hl.1 rfl (lv_room (Nat.le_of_ble_eq_true rfl)) dL_drawn_598 ⟨show n309 - n0 + (n316 - n309) ≤ nz - n0 by omega, show s310 - s0 + (s317 - s310) ≤ sz9 - s0 by omega⟩) hS (fun q _ h => hFc q h) hFc (fun u t H1 locs ht hvm hw hB hz1 hk1 hS => ?_)
                  obtain ⟨ad319, hax, hP1, hD1⟩ := hB
                  rw [ht] at hP1
                  have hP := hP1
                  have hD := hD1.weaken (fun k q _ h => hFc q.1 h)
                  generalize H1 = H at hP hS ⊢
                  have hr249 := hr249.mv hC.1 hax
                  have hr225 := hr225.mv hC.1 hax
                  have hr226 := hr226.mv hC.1 hax
                  have hr227 := hr227.mv hC.1 hax
                  have hr228 := hr228.mv hC.1 hax
                  have hr305 := hr305.mv hC.1 hax
                  have hX := hX.trans hax
                  have hC := hm.2.2 hC
                  have hN : n0 ≤ n316 := Nat.le_trans hN hm1
                  have hT : s0 ≤ s317 := Nat.le_trans hT hm2
                  refine W.widen (k := n316 - n0) (n := s317 - s0) (by omega) (by omega) ?_
                  clear hP1 hD1 hFc hk1 hz1 hvm ht hax hm hm1 hm2 hM1 hM2
                  refine lv_astore (lv' := [(11, .ref q303), (10, .ref q247), (9, .int x241), (8, .int y224), (7, .int x190), (6, .int x174), (5, .ref q157), (4, .int x13), (3, .ref q5), (0, .ref Aa1), (1, .int a2), (2, .ref Aa3)]) hx hb dL_drawn_601 hl (by decide) rfl (fun ls hl => ?_)
                  refine lv_aload hx hb dL_drawn_603 (lv_at hl 0 rfl) ?_
                  refine lv_aload_n hx hb dL_drawn_605 rfl (lv_at hl 8 rfl) ?_
                  refine lv_iload hx hb dL_drawn_606 (lv_at hl 2 rfl) ?_
                  obtain ⟨fs9, e320, hF⟩ := mg_o hF
                  obtain ⟨x321, n323, s324, E325, e322, hF⟩ := mb_o hF
                  have hm := mle e322
                  have hM1 := mle1 hF
                  have hM2 := mle2 hF
                  have hm1 := hm.1
                  have hm2 := hm.2.1
                  have hFc := my_free hD hS hA
                  refine va_calli (va_runV (C := RX9) (As := [.int x241]) (rest := [.ref q303]) ⟨hx, hb, hml, hown, hts⟩ (h_X9_cardsOf l dC dI cy nb ad319 n316 s317 E318 hC (x4) q5 hr226 (x241) H.size x321 n323 s324 E325 e322) (cwV 1 hts (gV mw_1062 mw_1063 mw_1064 mw_5 mw_1065) rfl rfl rfl (by decide +kernel) ⟨Nat.le_of_ble_eq_true rfl, Nat.le_of_ble_eq_true rfl⟩) (hl_preV hP hK hD hE hS hFc (va_recv hK (rdO_ hP hC hr226 e320) (ci := 9) (q0 := 0) rfl rfl)) rfl rfl hl.1 rfl (lv_room (Nat.le_of_ble_eq_true rfl)) dL_drawn_608 ⟨show n316 - n0 + (n323 - n316) ≤ nz - n0 by omega, show s317 - s0 + (s324 - s317) ≤ sz9 - s0 by omega⟩) hS (fun q _ h => hFc q h) hFc (fun r9 u t H1 locs ht hvm hw hB hz1 hk1 hS => ?_)
                  obtain ⟨ad326, hax, hP1, hD1⟩ := hB
                  rw [ht] at hP1
                  have hP := hP1
                  have hD := hD1.weaken (fun k q _ h => hFc q.1 h)
                  generalize H1 = H at hP hS ⊢
                  have hr305 := hr305.mv hC.1 hax
                  have hr249 := hr249.mv hC.1 hax
                  have hr225 := hr225.mv hC.1 hax
                  have hr226 := hr226.mv hC.1 hax
                  have hr227 := hr227.mv hC.1 hax
                  have hr228 := hr228.mv hC.1 hax
                  have hX := hX.trans hax
                  have hC := hm.2.2 hC
                  have hN : n0 ≤ n323 := Nat.le_trans hN hm1
                  have hT : s0 ≤ s324 := Nat.le_trans hT hm2
                  refine W.widen (k := n323 - n0) (n := s324 - s0) (by omega) (by omega) ?_
                  clear hP1 hD1 hFc hk1 hz1 hvm ht hax hm hm1 hm2 hM1 hM2
                  obtain rfl := hw.symm
                  obtain ⟨E327, e328, hF⟩ := mw_o hF
                  obtain ⟨q9, fs9, h9, ez9⟩ := wrI (cy := cy) hC hr305 e328
                  refine va_put (D := (dC, dI)) (ci := 8) (v := .int x321) (ty := .int) (C := RX8) (T := TX8) (N := 9) hx hb hts inlX8 tyX8 tyX8_ok nmX8 hown hK hP hD hS q9 h9 rfl 2 (by decide) (hts _ mw_155) (fun _ h9 => h9) rfl (by decide +kernel) rfl rfl (Nat.le_of_ble_eq_true rfl) dL_drawn_611 (fun H locs hP hD hS => ?_)
                  rw [ez9] at hP hD
                  clear ez9 h9
                  have hC := sI_clo e328 hC
                  refine lv_aload_n hx hb dL_drawn_614 rfl (lv_at hl 8 rfl) ?_
                  obtain ⟨x329, e330, hF⟩ := mg_o hF
                  obtain ⟨hr331, fs9, h9, g9⟩ := rdR hP hC hr226 e330
                  refine va_get (D := (dC, dI)) (ci := 9) (v := .ref (AD nb ad326 x329)) (C := RX9) (T := TX9) (N := 14) hx hb hts inlX9 hown hK h9 0 rfl rfl 10 (by decide) (hts _ mw_13) (fun _ h9 => h9) g9 dL_drawn_615 ?_
                  clear h9 g9
                  refine lv_aload hx hb dL_drawn_618 (lv_at hl 0 rfl) ?_
                  obtain ⟨fs9, e332, hF⟩ := mg_o hF
                  obtain ⟨x333, n335, s336, E337, e334, hF⟩ := mb_o hF
                  have hm := mle e334
                  have hM1 := mle1 hF
                  have hM2 := mle2 hF
                  have hm1 := hm.1
                  have hm2 := hm.2.1
                  have hFc := my_free hD hS hA
                  refine va_calli (va_runV (C := RJx4a65c) (As := [.ref q303]) (rest := []) ⟨hx, hb, hml, hown, hts⟩ (h_Jx4a65c_add_9ea2d l dC dI cy nb ad326 n323 s324 E327 hC (x329) (AD nb ad326 x329) hr331 (x302) q303 hr305 H.size x333 n335 s336 E337 e334) (cwV 1 hts (gV mw_840 mw_841 mw_842 mw_12 mw_843) rfl rfl rfl (by decide +kernel) ⟨Nat.le_of_ble_eq_true rfl, Nat.le_of_ble_eq_true rfl⟩) (hl_preV hP hK hD hE hS hFc (va_recv hK (rdO_ hP hC hr331 e332) (ci := 14) (q0 := 0) rfl rfl)) rfl rfl hl.1 rfl (lv_room (Nat.le_of_ble_eq_true rfl)) dL_drawn_620 ⟨show n323 - n0 + (n335 - n323) ≤ nz - n0 by omega, show s324 - s0 + (s336 - s324) ≤ sz9 - s0 by omega⟩) hS (fun q _ h => hFc q h) hFc (fun r9 u t H1 locs ht hvm hw hB hz1 hk1 hS => ?_)
                  obtain ⟨ad338, hax, hP1, hD1⟩ := hB
                  rw [ht] at hP1
                  have hP := hP1
                  have hD := hD1.weaken (fun k q _ h => hFc q.1 h)
                  generalize H1 = H at hP hS ⊢
                  have hr305 := hr305.mv hC.1 hax
                  have hr249 := hr249.mv hC.1 hax
                  have hr225 := hr225.mv hC.1 hax
                  have hr226 := hr226.mv hC.1 hax
                  have hr227 := hr227.mv hC.1 hax
                  have hr228 := hr228.mv hC.1 hax
                  have hX := hX.trans hax
                  have hC := hm.2.2 hC
                  have hN : n0 ≤ n335 := Nat.le_trans hN hm1
                  have hT : s0 ≤ s336 := Nat.le_trans hT hm2
                  refine W.widen (k := n335 - n0) (n := s336 - s0) (by omega) (by omega) ?_
                  clear hP1 hD1 hFc hk1 hz1 hvm ht hax hm hm1 hm2 hM1 hM2
                  obtain rfl := hw.symm
                  refine lv_pop hx hb dL_drawn_623 rfl ?_
                  refine lv_iinc (v := (y224 + 1)) (lv' := [(8, .int (y224 + 1)), (11, .ref q303), (10, .ref q247), (9, .int x241), (7, .int x190), (6, .int x174), (5, .ref q157), (4, .int x13), (3, .ref q5), (0, .ref Aa1), (1, .int a2), (2, .ref Aa3)]) hx hb dL_drawn_624 hl (k := 3) rfl (by rfl) (by decide) rfl (fun ls hl => ?_)
                  refine lv_goto (tgt := 508) hx hb dL_drawn_627 (by decide) ?_
                  have hl := lv_sub (l' := [(8, .int (y224 + 1)), (7, .int x190), (6, .int x174), (5, .ref q157), (4, .int x13), (3, .ref q5), (0, .ref Aa1), (1, .int a2), (2, .ref Aa3)]) hl [0, 4, 5, 6, 7, 8, 9, 10, 11] rfl
                  exact ih _ _ _ _ hF hC hN hT _ _ _ _ hX hr225 hr226 hr227 hr228 hP hD hS hl
          have hl := lv_sub (l' := [(8, .int 0), (7, .int x190), (6, .int x174), (5, .ref q157), (4, .int x13), (3, .ref q5), (0, .ref Aa1), (1, .int a2), (2, .ref Aa3)]) hl [0, 1, 2, 3, 4, 5, 6, 7, 8] rfl
          exact loop218 FUEL _ _ _ _ hL205 hC hN hT _ _ _ _ hX hr200 hr201 hr202 hr203 hP hD hS hl
        have hK339 := mle1 hF
        have hK340 := mle2 hF
        clear hF hm
        have loop341 : ∀ (m342 : Nat) (y347 : Int32) (n344 s345 : Nat) (E346 : HE), (H_L_drawn_L448 x190 x174 x156 x13 x4 a1 a2 a3 m342 y347).1 (n344, s345, E346) = some (t192, n194, s195, E196) → clo n344 E346 → n0 ≤ n344 → s0 ≤ s345 → ∀ (ad343 : Nat → Nat) (H : Heap) (locs : List Loc) (ls : Array Slot), axh n0 ad0 n344 ad343 → rf nb ad343 n344 (x156) (q157) → rf nb ad343 n344 (x4) (q5) → rf nb ad343 n344 (a1) (Aa1) → rf nb ad343 n344 (a3) (Aa3) → va_P (dC, dI) vwCl (CH cy nb ad343 n344 E346) H → va_D A (CH cy nb ad343 n344 E346) → va_S A s.heap H locs → lv_has ls 12 [(8, .int y347), (7, .int x190), (6, .int x174), (5, .ref q157), (4, .int x13), (3, .ref q5), (0, .ref Aa1), (1, .int a2), (2, .ref Aa3)] → W p l e (headSpec (wsg yL_drawn cL_drawn 12 (some (.object "CardLineLaw$Line"))) ({ frames := 15, cells := nz - n0, slots := sz9 - s0, locals := 1000 })).room s m ([.ref Aa1, .int a2, .ref Aa3] : List Value).toArray below meth c H locs (n344 - n0) (s345 - s0) Qn (F0 m 448 ls []) := by
          intro m342
          induction m342 with
          | zero => intro y347 n344 s345 E346 hF; exact (m0_o hF).elim
          | succ m342 ih =>
            intro y347 n344 s345 E346 hF hC hN hT ad343 H locs ls hX hr348 hr349 hr350 hr351 hP hD hS hl
            simp only [H_L_drawn_L448] at hF
            refine lv_iload hx hb dL_drawn_448 (lv_at hl 0 rfl) ?_
            refine lv_iload hx hb dL_drawn_450 (lv_at hl 1 rfl) ?_
            refine lv_icmp_ge (tgt := 505) hx hb dL_drawn_452 (by decide) (fun c352 => ?_) (fun c352 => ?_)
            · skip
              rw [if_pos c352] at hF
              obtain ⟨ht9, hn9, hs9, hE9⟩ := mr_o hF
              subst hn9 hs9 hE9
              subst ht9
              have hl := lv_sub (l' := [(8, .int y347), (7, .int x190), (6, .int x174), (5, .ref q157), (4, .int x13), (3, .ref q5), (0, .ref Aa1), (1, .int a2), (2, .ref Aa3)]) hl [0, 1, 2, 3, 4, 5, 6, 7, 8] rfl
              exact kx198 _ _ _ _ hX hr348 hr349 hr350 hr351 hP hD hS hl
            · skip
              rw [if_neg c352] at hF
              refine lv_aload_n hx hb dL_drawn_455 rfl (lv_at hl 5 rfl) ?_
              obtain ⟨x353, e354, hF⟩ := mg_o hF
              obtain ⟨hr355, fs9, h9, g9⟩ := rdR hP hC hr349 e354
              refine va_get (D := (dC, dI)) (ci := 9) (v := .ref (AD nb ad343 x353)) (C := RX9) (T := TX9) (N := 14) hx hb hts inlX9 hown hK h9 0 rfl rfl 8 (by decide) (hts _ mw_131) (fun _ h9 => h9) g9 dL_drawn_456 ?_
              clear h9 g9
              refine lv_aload_n hx hb dL_drawn_459 rfl (lv_at hl 6 rfl) ?_
              refine lv_iload_n hx hb dL_drawn_460 rfl (lv_at hl 7 rfl) ?_
              refine lv_bipush (v := 6) hx hb dL_drawn_461 (by decide) ?_
              refine lv_iadd hx hb dL_drawn_463 ?_
              refine lv_iload hx hb dL_drawn_464 (lv_at hl 0 rfl) ?_
              refine lv_iadd hx hb dL_drawn_466 ?_
              obtain ⟨x356, n358, s359, E360, e357, hF⟩ := mb_o hF
              have hm := mle e357
              have hM1 := mle1 hF
              have hM2 := mle2 hF
              have hm1 := hm.1
              have hm2 := hm.2.1
              have hFc := my_free hD hS hA
              refine va_calli (va_runS (As := [.ref Aa1, .int ((a2 + 6) + y347)]) (rest := [.ref (AD nb ad343 x353)]) ⟨hx, hb, hml, hown, hts⟩ (h_L_at l dC dI cy nb ad343 n344 s345 E346 hC (a1) Aa1 hr350 (((a2 + 6) + y347)) H.size x356 n358 s359 E360 e357) (va_cwS 2 hts (gS mw_614 mw_615 mw_129 mw_616) rfl rfl rfl (by decide +kernel) ⟨Nat.le_of_ble_eq_true rfl, Nat.le_of_ble_eq_true rfl⟩) (hl_preS hP hK hD hE hS hFc) rfl rfl hl.1 rfl (lv_room (Nat.le_of_ble_eq_true rfl)) dL_drawn_467 ⟨show n344 - n0 + (n358 - n344) ≤ nz - n0 by omega, show s345 - s0 + (s359 - s345) ≤ sz9 - s0 by omega⟩) hS (fun q _ h => hFc q h) hFc (fun r9 u t H1 locs ht hvm hw hB hz1 hk1 hS => ?_)
              obtain ⟨ad361, hax, hP1, hD1⟩ := hB
              rw [ht] at hP1
              have hP := hP1
              have hD := hD1.weaken (fun k q _ h => hFc q.1 h)
              generalize H1 = H at hP hS ⊢
              have hr348 := hr348.mv hC.1 hax
              have hr349 := hr349.mv hC.1 hax
              have hr350 := hr350.mv hC.1 hax
              have hr351 := hr351.mv hC.1 hax
              have hr355 := hr355.mv hC.1 hax
              have hX := hX.trans hax
              have hC := hm.2.2 hC
              have hN : n0 ≤ n358 := Nat.le_trans hN hm1
              have hT : s0 ≤ s359 := Nat.le_trans hT hm2
              refine W.widen (k := n358 - n0) (n := s359 - s0) (by omega) (by omega) ?_
              clear hP1 hD1 hFc hk1 hz1 hvm ht hax hm hm1 hm2 hM1 hM2
              obtain rfl := hw.symm
              refine lv_bipush (v := 10) hx hb dL_drawn_470 (by decide) ?_
              obtain ⟨x362, e363, hF⟩ := mp_o hF
              refine lv_irem hx hb dL_drawn_472 (rm_ne e363) ?_
              refine my_topi (y := x362) (rm_eq e363) ?_
              obtain ⟨x364, n366, s367, E368, e365, hF⟩ := mb_o hF
              have hm := mle e365
              have hM1 := mle1 hF
              have hM2 := mle2 hF
              have hm1 := hm.1
              have hm2 := hm.2.1
              have hFc := my_free hD hS hA
              refine va_callr (va_runS (As := [.int x362]) (rest := [.ref (AD nb ad343 x353)]) ⟨hx, hb, hml, hown, hts⟩ (h_J6_valueOf_2dffe l dC dI cy nb ad361 n358 s359 E360 hC (x362) H.size x364 n366 s367 E368 e365) (va_cwS 1 hts (gS mw_975 mw_976 mw_311 mw_977) rfl rfl rfl (by decide +kernel) ⟨Nat.le_of_ble_eq_true rfl, Nat.le_of_ble_eq_true rfl⟩) (hl_preS hP hK hD hE hS hFc) rfl rfl hl.1 rfl (lv_room (Nat.le_of_ble_eq_true rfl)) dL_drawn_473 ⟨show n358 - n0 + (n366 - n358) ≤ nz - n0 by omega, show s359 - s0 + (s367 - s359) ≤ sz9 - s0 by omega⟩) hS (fun q _ h => hFc q h) hFc (fun u ra t H1 locs ht hvm hw hB hz1 hk1 hS => ?_)
              obtain ⟨ad369, hax, hr370, hP1, hD1⟩ := hB
              rw [ht] at hP1
              have hP := hP1
              have hD := hD1.weaken (fun k q _ h => hFc q.1 h)
              generalize H1 = H at hP hS ⊢
              have hr348 := hr348.mv hC.1 hax
              have hr349 := hr349.mv hC.1 hax
              have hr350 := hr350.mv hC.1 hax
              have hr351 := hr351.mv hC.1 hax
              have hr355 := hr355.mv hC.1 hax
              have hX := hX.trans hax
              have hC := hm.2.2 hC
              have hN : n0 ≤ n366 := Nat.le_trans hN hm1
              have hT : s0 ≤ s367 := Nat.le_trans hT hm2
              refine W.widen (k := n366 - n0) (n := s367 - s0) (by omega) (by omega) ?_
              clear hP1 hD1 hFc hk1 hz1 hvm ht hax hm hm1 hm2 hM1 hM2
              refine my_top (y := .ref (AD nb ad369 x364)) (congrArg Value.ref hr370.2.symm) ?_
              have hr370 := rf_self hr370
              obtain ⟨fs9, e372, hF⟩ := mg_o hF
              obtain ⟨x373, n375, s376, E377, e374, hF⟩ := mb_o hF
              have hm := mle e374
              have hM1 := mle1 hF
              have hM2 := mle2 hF
              have hm1 := hm.1
              have hm2 := hm.2.1
              have hFc := my_free hD hS hA
              refine va_calli (va_runV (C := RJx4a65c) (As := [.ref (AD nb ad369 x364)]) (rest := []) ⟨hx, hb, hml, hown, hts⟩ (h_Jx4a65c_add_9ea2d l dC dI cy nb ad369 n366 s367 E368 hC (x353) (AD nb ad343 x353) hr355 (x364) (AD nb ad369 x364) hr370 H.size x373 n375 s376 E377 e374) (cwV 1 hts (gV mw_840 mw_841 mw_842 mw_12 mw_843) rfl rfl rfl (by decide +kernel) ⟨Nat.le_of_ble_eq_true rfl, Nat.le_of_ble_eq_true rfl⟩) (hl_preV hP hK hD hE hS hFc (va_recv hK (rdO_ hP hC hr355 e372) (ci := 14) (q0 := 0) rfl rfl)) rfl rfl hl.1 rfl (lv_room (Nat.le_of_ble_eq_true rfl)) dL_drawn_476 ⟨show n366 - n0 + (n375 - n366) ≤ nz - n0 by omega, show s367 - s0 + (s376 - s367) ≤ sz9 - s0 by omega⟩) hS (fun q _ h => hFc q h) hFc (fun r9 u t H1 locs ht hvm hw hB hz1 hk1 hS => ?_)
              obtain ⟨ad378, hax, hP1, hD1⟩ := hB
              rw [ht] at hP1
              have hP := hP1
              have hD := hD1.weaken (fun k q _ h => hFc q.1 h)
              generalize H1 = H at hP hS ⊢
              have hr348 := hr348.mv hC.1 hax
              have hr349 := hr349.mv hC.1 hax
              have hr350 := hr350.mv hC.1 hax
              have hr351 := hr351.mv hC.1 hax
              have hX := hX.trans hax
              have hC := hm.2.2 hC
              have hN : n0 ≤ n375 := Nat.le_trans hN hm1
              have hT : s0 ≤ s376 := Nat.le_trans hT hm2
              refine W.widen (k := n375 - n0) (n := s376 - s0) (by omega) (by omega) ?_
              clear hP1 hD1 hFc hk1 hz1 hvm ht hax hm hm1 hm2 hM1 hM2
              obtain rfl := hw.symm
              refine lv_pop hx hb dL_drawn_479 rfl ?_
              refine lv_aload_n hx hb dL_drawn_480 rfl (lv_at hl 8 rfl) ?_
              refine va_ldcS hx hb hown (hE.xr 12 rfl) dL_drawn_481 ?_
              obtain ⟨fs9, e379, hF⟩ := mg_o hF
              obtain ⟨x380, n382, s383, E384, e381, hF⟩ := mb_o hF
              have hm := mle e381
              have hM1 := mle1 hF
              have hM2 := mle2 hF
              have hm1 := hm.1
              have hm2 := hm.2.1
              have hFc := my_free hD hS hA
              refine va_callr (va_runV (C := RJ4) (As := [.ref (nb 1024)]) (rest := []) ⟨hx, hb, hml, hown, hts⟩ (h_J4_append_15ec4 l dC dI cy nb ad378 n375 s376 E377 hC (a3) Aa3 hr351 (1001024) (nb 1024) rf_c H.size x380 n382 s383 E384 e381) (cwV 1 hts (gV mw_618 mw_619 mw_620 mw_8 mw_621) rfl rfl rfl (by decide +kernel) ⟨Nat.le_of_ble_eq_true rfl, Nat.le_of_ble_eq_true rfl⟩) (hl_preV hP hK hD hE hS hFc (va_recv hK (rdO_ hP hC hr351 e379) (ci := 1) (q0 := 0) rfl rfl)) rfl rfl hl.1 rfl (lv_room (Nat.le_of_ble_eq_true rfl)) dL_drawn_483 ⟨show n375 - n0 + (n382 - n375) ≤ nz - n0 by omega, show s376 - s0 + (s383 - s376) ≤ sz9 - s0 by omega⟩) hS (fun q _ h => hFc q h) hFc (fun u ra t H1 locs ht hvm hw hB hz1 hk1 hS => ?_)
              obtain ⟨ad385, hax, hr386, hP1, hD1⟩ := hB
              rw [ht] at hP1
              have hP := hP1
              have hD := hD1.weaken (fun k q _ h => hFc q.1 h)
              generalize H1 = H at hP hS ⊢
              have hr348 := hr348.mv hC.1 hax
              have hr349 := hr349.mv hC.1 hax
              have hr350 := hr350.mv hC.1 hax
              have hr351 := hr351.mv hC.1 hax
              have hX := hX.trans hax
              have hC := hm.2.2 hC
              have hN : n0 ≤ n382 := Nat.le_trans hN hm1
              have hT : s0 ≤ s383 := Nat.le_trans hT hm2
              refine W.widen (k := n382 - n0) (n := s383 - s0) (by omega) (by omega) ?_
              clear hP1 hD1 hFc hk1 hz1 hvm ht hax hm hm1 hm2 hM1 hM2
              refine my_top (y := .ref (AD nb ad385 x380)) (congrArg Value.ref hr386.2.symm) ?_
              have hr386 := rf_self hr386
              refine lv_aload_n hx hb dL_drawn_486 rfl (lv_at hl 5 rfl) ?_
              obtain ⟨x388, e389, hF⟩ := mg_o hF
              obtain ⟨hr390, fs9, h9, g9⟩ := rdR hP hC hr349 e389
              refine va_get (D := (dC, dI)) (ci := 9) (v := .ref (AD nb ad385 x388)) (C := RX9) (T := TX9) (N := 14) hx hb hts inlX9 hown hK h9 0 rfl rfl 8 (by decide) (hts _ mw_131) (fun _ h9 => h9) g9 dL_drawn_487 ?_
              clear h9 g9
              refine lv_iload hx hb dL_drawn_490 (lv_at hl 0 rfl) ?_
              obtain ⟨fs9, e391, hF⟩ := mg_o hF
              obtain ⟨x392, n394, s395, E396, e393, hF⟩ := mb_o hF
              have hm := mle e393
              have hM1 := mle1 hF
              have hM2 := mle2 hF
              have hm1 := hm.1
              have hm2 := hm.2.1
              have hFc := my_free hD hS hA
              refine va_callr (va_runV (C := RJx4a65c) (As := [.int y347]) (rest := [.ref (AD nb ad385 x380)]) ⟨hx, hb, hml, hown, hts⟩ (h_Jx4a65c_get_915e3 l dC dI cy nb ad385 n382 s383 E384 hC (x388) (AD nb ad385 x388) hr390 (y347) H.size x392 n394 s395 E396 e393) (cwV 1 hts (gV mw_234 mw_235 mw_236 mw_12 mw_237) rfl rfl rfl (by decide +kernel) ⟨Nat.le_of_ble_eq_true rfl, Nat.le_of_ble_eq_true rfl⟩) (hl_preV hP hK hD hE hS hFc (va_recv hK (rdO_ hP hC hr390 e391) (ci := 14) (q0 := 0) rfl rfl)) rfl rfl hl.1 rfl (lv_room (Nat.le_of_ble_eq_true rfl)) dL_drawn_492 ⟨show n382 - n0 + (n394 - n382) ≤ nz - n0 by omega, show s383 - s0 + (s395 - s383) ≤ sz9 - s0 by omega⟩) hS (fun q _ h => hFc q h) hFc (fun u ra t H1 locs ht hvm hw hB hz1 hk1 hS => ?_)
              obtain ⟨ad397, hax, hr398, hP1, hD1⟩ := hB
              rw [ht] at hP1
              have hP := hP1
              have hD := hD1.weaken (fun k q _ h => hFc q.1 h)
              generalize H1 = H at hP hS ⊢
              have hr348 := hr348.mv hC.1 hax
              have hr349 := hr349.mv hC.1 hax
              have hr350 := hr350.mv hC.1 hax
              have hr351 := hr351.mv hC.1 hax
              have hr386 := hr386.mv hC.1 hax
              have hX := hX.trans hax
              have hC := hm.2.2 hC
              have hN : n0 ≤ n394 := Nat.le_trans hN hm1
              have hT : s0 ≤ s395 := Nat.le_trans hT hm2
              refine W.widen (k := n394 - n0) (n := s395 - s0) (by omega) (by omega) ?_
              clear hP1 hD1 hFc hk1 hz1 hvm ht hax hm hm1 hm2 hM1 hM2
              refine my_top (y := .ref (AD nb ad397 x392)) (congrArg Value.ref hr398.2.symm) ?_
              have hr398 := rf_self hr398
              obtain ⟨fs9, e400, hF⟩ := mg_o hF
              obtain ⟨x401, n403, s404, E405, e402, hF⟩ := mb_o hF
              have hm := mle e402
              have hM1 := mle1 hF
              have hM2 := mle2 hF
              have hm1 := hm.1
              have hm2 := hm.2.1
              have hFc := my_free hD hS hA
              refine va_callr (va_runV (C := RJ4) (As := [.ref (AD nb ad397 x392)]) (rest := []) ⟨hx, hb, hml, hown, hts⟩ (h_J4_append_533cd l dC dI cy nb ad397 n394 s395 E396 hC (x380) (AD nb ad385 x380) hr386 (x392) (AD nb ad397 x392) hr398 H.size x401 n403 s404 E405 e402) (cwV 1 hts (gV mw_990 mw_991 mw_992 mw_8 mw_993) rfl rfl rfl (by decide +kernel) ⟨Nat.le_of_ble_eq_true rfl, Nat.le_of_ble_eq_true rfl⟩) (hl_preV hP hK hD hE hS hFc (va_recv hK (rdO_ hP hC hr386 e400) (ci := 1) (q0 := 0) rfl rfl)) rfl rfl hl.1 rfl (lv_room (Nat.le_of_ble_eq_true rfl)) dL_drawn_495 ⟨show n394 - n0 + (n403 - n394) ≤ nz - n0 by omega, show s395 - s0 + (s404 - s395) ≤ sz9 - s0 by omega⟩) hS (fun q _ h => hFc q h) hFc (fun u ra t H1 locs ht hvm hw hB hz1 hk1 hS => ?_)
              obtain ⟨ad406, hax, hr407, hP1, hD1⟩ := hB
              rw [ht] at hP1
              have hP := hP1
              have hD := hD1.weaken (fun k q _ h => hFc q.1 h)
              generalize H1 = H at hP hS ⊢
              have hr348 := hr348.mv hC.1 hax
              have hr349 := hr349.mv hC.1 hax
              have hr350 := hr350.mv hC.1 hax
              have hr351 := hr351.mv hC.1 hax
              have hX := hX.trans hax
              have hC := hm.2.2 hC
              have hN : n0 ≤ n403 := Nat.le_trans hN hm1
              have hT : s0 ≤ s404 := Nat.le_trans hT hm2
              refine W.widen (k := n403 - n0) (n := s404 - s0) (by omega) (by omega) ?_
              clear hP1 hD1 hFc hk1 hz1 hvm ht hax hm hm1 hm2 hM1 hM2
              refine my_top (y := .ref (AD nb ad406 x401)) (congrArg Value.ref hr407.2.symm) ?_
              have hr407 := rf_self hr407
              refine lv_pop hx hb dL_drawn_498 rfl ?_
              refine lv_iinc (v := (y347 + 1)) (lv' := [(8, .int (y347 + 1)), (7, .int x190), (6, .int x174), (5, .ref q157), (4, .int x13), (3, .ref q5), (0, .ref Aa1), (1, .int a2), (2, .ref Aa3)]) hx hb dL_drawn_499 hl (k := 0) rfl (by rfl) (by decide) rfl (fun ls hl => ?_)
              refine lv_goto (tgt := 448) hx hb dL_drawn_502 (by decide) ?_
              have hl := lv_sub (l' := [(8, .int (y347 + 1)), (7, .int x190), (6, .int x174), (5, .ref q157), (4, .int x13), (3, .ref q5), (0, .ref Aa1), (1, .int a2), (2, .ref Aa3)]) hl [0, 1, 2, 3, 4, 5, 6, 7, 8] rfl
              exact ih _ _ _ _ hF hC hN hT _ _ _ _ hX hr348 hr349 hr350 hr351 hP hD hS hl
        have hl := lv_sub (l' := [(8, .int 0), (7, .int x190), (6, .int x174), (5, .ref q157), (4, .int x13), (3, .ref q5), (0, .ref Aa1), (1, .int a2), (2, .ref Aa3)]) hl [0, 1, 2, 3, 4, 5, 6, 7, 8] rfl
        exact loop341 FUEL _ _ _ _ hL193 hC hN hT _ _ _ _ hX hr184 hr185 hr186 hr187 hP hD hS hl
      have hK409 := mle1 hF
      have hK410 := mle2 hF
      clear hF hm
      have loop411 : ∀ (m412 : Nat) (y417 : Int32) (n414 s415 : Nat) (E416 : HE), (H_L_drawn_L201 x174 x156 x13 x4 a1 a2 a3 m412 y417).1 (n414, s415, E416) = some (t176, n178, s179, E180) → clo n414 E416 → n0 ≤ n414 → s0 ≤ s415 → ∀ (ad413 : Nat → Nat) (H : Heap) (locs : List Loc) (ls : Array Slot), axh n0 ad0 n414 ad413 → rf nb ad413 n414 (x156) (q157) → rf nb ad413 n414 (x4) (q5) → rf nb ad413 n414 (a1) (Aa1) → rf nb ad413 n414 (a3) (Aa3) → va_P (dC, dI) vwCl (CH cy nb ad413 n414 E416) H → va_D A (CH cy nb ad413 n414 E416) → va_S A s.heap H locs → lv_has ls 12 [(7, .int y417), (6, .int x174), (5, .ref q157), (4, .int x13), (3, .ref q5), (0, .ref Aa1), (1, .int a2), (2, .ref Aa3)] → W p l e (headSpec (wsg yL_drawn cL_drawn 12 (some (.object "CardLineLaw$Line"))) ({ frames := 15, cells := nz - n0, slots := sz9 - s0, locals := 1000 })).room s m ([.ref Aa1, .int a2, .ref Aa3] : List Value).toArray below meth c H locs (n414 - n0) (s415 - s0) Qn (F0 m 201 ls []) := by
        intro m412
        induction m412 with
        | zero => intro y417 n414 s415 E416 hF; exact (m0_o hF).elim
        | succ m412 ih =>
          intro y417 n414 s415 E416 hF hC hN hT ad413 H locs ls hX hr418 hr419 hr420 hr421 hP hD hS hl
          simp only [H_L_drawn_L201] at hF
          refine lv_iload hx hb dL_drawn_201 (lv_at hl 0 rfl) ?_
          refine lv_iload hx hb dL_drawn_203 (lv_at hl 1 rfl) ?_
          refine lv_icmp_ge (tgt := 436) hx hb dL_drawn_205 (by decide) (fun c422 => ?_) (fun c422 => ?_)
          · skip
            rw [if_pos c422] at hF
            obtain ⟨ht9, hn9, hs9, hE9⟩ := mr_o hF
            subst hn9 hs9 hE9
            subst ht9
            have hl := lv_sub (l' := [(7, .int y417), (6, .int x174), (5, .ref q157), (4, .int x13), (3, .ref q5), (0, .ref Aa1), (1, .int a2), (2, .ref Aa3)]) hl [0, 1, 2, 3, 4, 5, 6, 7] rfl
            exact kx182 _ _ _ _ hX hr418 hr419 hr420 hr421 hP hD hS hl
          · skip
            rw [if_neg c422] at hF
            refine lv_aload_n hx hb dL_drawn_208 rfl (lv_at hl 5 rfl) ?_
            refine lv_iload_n hx hb dL_drawn_209 rfl (lv_at hl 6 rfl) ?_
            refine lv_iconst (v := 1) hx hb dL_drawn_210 (by decide) ?_
            refine lv_iadd hx hb dL_drawn_211 ?_
            refine lv_iload hx hb dL_drawn_212 (lv_at hl 0 rfl) ?_
            refine lv_iadd hx hb dL_drawn_214 ?_
            obtain ⟨x423, n425, s426, E427, e424, hF⟩ := mb_o hF
            have hm := mle e424
            have hM1 := mle1 hF
            have hM2 := mle2 hF
            have hm1 := hm.1
            have hm2 := hm.2.1
            have hFc := my_free hD hS hA
            refine va_calli (va_runS (As := [.ref Aa1, .int ((a2 + 1) + y417)]) (rest := []) ⟨hx, hb, hml, hown, hts⟩ (h_L_at l dC dI cy nb ad413 n414 s415 E416 hC (a1) Aa1 hr420 (((a2 + 1) + y417)) H.size x423 n425 s426 E427 e424) (va_cwS 2 hts (gS mw_614 mw_615 mw_129 mw_616) rfl rfl rfl (by decide +kernel) ⟨Nat.le_of_ble_eq_true rfl, Nat.le_of_ble_eq_true rfl⟩) (hl_preS hP hK hD hE hS hFc) rfl rfl hl.1 rfl (lv_room (Nat.le_of_ble_eq_true rfl)) dL_drawn_215 ⟨show n414 - n0 + (n425 - n414) ≤ nz - n0 by omega, show s415 - s0 + (s426 - s415) ≤ sz9 - s0 by omega⟩) hS (fun q _ h => hFc q h) hFc (fun r9 u t H1 locs ht hvm hw hB hz1 hk1 hS => ?_)
            obtain ⟨ad428, hax, hP1, hD1⟩ := hB
            rw [ht] at hP1
            have hP := hP1
            have hD := hD1.weaken (fun k q _ h => hFc q.1 h)
            generalize H1 = H at hP hS ⊢
            have hr418 := hr418.mv hC.1 hax
            have hr419 := hr419.mv hC.1 hax
            have hr420 := hr420.mv hC.1 hax
            have hr421 := hr421.mv hC.1 hax
            have hX := hX.trans hax
            have hC := hm.2.2 hC
            have hN : n0 ≤ n425 := Nat.le_trans hN hm1
            have hT : s0 ≤ s426 := Nat.le_trans hT hm2
            refine W.widen (k := n425 - n0) (n := s426 - s0) (by omega) (by omega) ?_
            clear hP1 hD1 hFc hk1 hz1 hvm ht hax hm hm1 hm2 hM1 hM2
            obtain rfl := hw.symm
            refine lv_istore (lv' := [(8, .int x423), (7, .int y417), (6, .int x174), (5, .ref q157), (4, .int x13), (3, .ref q5), (0, .ref Aa1), (1, .int a2), (2, .ref Aa3)]) hx hb dL_drawn_218 hl (by decide) rfl (fun ls hl => ?_)
            refine lv_iload hx hb dL_drawn_220 (lv_at hl 0 rfl) ?_
            refine lv_iconst (v := 4) hx hb dL_drawn_222 (by decide) ?_
            obtain ⟨x429, e430, hF⟩ := mp_o hF
            refine lv_irem hx hb dL_drawn_223 (rm_ne e430) ?_
            refine my_topi (y := x429) (rm_eq e430) ?_
            refine lv_istore (lv' := [(9, .int x429), (8, .int x423), (7, .int y417), (6, .int x174), (5, .ref q157), (4, .int x13), (3, .ref q5), (0, .ref Aa1), (1, .int a2), (2, .ref Aa3)]) hx hb dL_drawn_224 hl (by decide) rfl (fun ls hl => ?_)
            obtain ⟨x434, n431, s432, E433, hq, hF⟩ := mn_o hF
            have hM1 := mle1 hF
            have hM2 := mle2 hF
            have hq9 := hq.2.1
            have hq8 := hq.2.2.1
            refine va_new (ci := 1) (fs := [.null, .int 0, .int 0, .int 0]) (C := RJ4) (T := TJ4) (N := 4) hx hb hts inlJ4 tyJ4 tyJ4_ok hown (hts _ mw_6) (hts _ mw_7) (hts _ mw_8) hK hP hD hS hA rfl (fun j hj => by match j, hj with | 0, _ => rfl | 1, _ => rfl | 2, _ => rfl | 3, _ => rfl | (n+4), h => omega) (show n425 - n0 + 1 ≤ nz - n0 by omega) (show s426 - s0 + 4 ≤ sz9 - s0 by omega) dL_drawn_226 (fun q435 H hP hD hS => ?_)
            obtain ⟨ad436, hax, hr437, hC9, hw9⟩ := new_w (cy := cy) (nb := nb) (ad := ad428) (e := .inr (1, [.null, .int 0, .int 0, .int 0])) nok_J4 (fun _ => rfl) hC q435 hq
            rw [hw9] at hP hD
            have hr418 := hr418.mv hC.1 hax
            have hr419 := hr419.mv hC.1 hax
            have hr420 := hr420.mv hC.1 hax
            have hr421 := hr421.mv hC.1 hax
            have hX := hX.trans hax
            have hC := hC9
            obtain ⟨-, hq1, hq2, -, -⟩ := hq
            have hN : n0 ≤ n431 := by omega
            have hT : s0 ≤ s432 := by omega
            refine W.widen (k := n431 - n0) (n := s432 - s0) (by omega) (by omega) ?_
            clear hM1 hM2 hax hC9 hw9 hq1 hq2 hq8 hq9
            refine lv_dup hx hb dL_drawn_229 rfl ?_
            obtain ⟨⟨⟩, n439, s440, E441, e438, hF⟩ := mb_o hF
            have hm := mle e438
            have hM1 := mle1 hF
            have hM2 := mle2 hF
            have hm1 := hm.1
            have hm2 := hm.2.1
            have hFc := my_free hD hS hA
            refine va_callv (va_runI (As := []) (rest := [.ref q435]) ⟨hx, hb, hml, hown, hts⟩ (h_J4_init_da8c8 l dC dI cy nb ad436 n431 s432 E433 hC (x434) q435 hr437 H.size n439 s440 E441 e438) (cwI 0 hts (gI mw_583) rfl rfl rfl (hts _ mw_8) (hts _ mw_581) (hts _ mw_582) rfl (by decide +kernel) ⟨Nat.le_of_ble_eq_true rfl, Nat.le_of_ble_eq_true rfl⟩) (hl_preS hP hK hD hE hS hFc) rfl rfl hl.1 rfl (lv_room (Nat.le_of_ble_eq_true rfl)) dL_drawn_230 ⟨show n431 - n0 + (n439 - n431) ≤ nz - n0 by omega, show s432 - s0 + (s440 - s432) ≤ sz9 - s0 by omega⟩) hS (fun q _ h => hFc q h) hFc (fun u t H1 locs ht hvm hw hB hz1 hk1 hS => ?_)
            obtain ⟨ad442, hax, hP1, hD1⟩ := hB
            rw [ht] at hP1
            have hP := hP1
            have hD := hD1.weaken (fun k q _ h => hFc q.1 h)
            generalize H1 = H at hP hS ⊢
            have hr418 := hr418.mv hC.1 hax
            have hr419 := hr419.mv hC.1 hax
            have hr420 := hr420.mv hC.1 hax
            have hr421 := hr421.mv hC.1 hax
            have hr437 := hr437.mv hC.1 hax
            have hX := hX.trans hax
            have hC := hm.2.2 hC
            have hN : n0 ≤ n439 := Nat.le_trans hN hm1
            have hT : s0 ≤ s440 := Nat.le_trans hT hm2
            refine W.widen (k := n439 - n0) (n := s440 - s0) (by omega) (by omega) ?_
            clear hP1 hD1 hFc hk1 hz1 hvm ht hax hm hm1 hm2 hM1 hM2
            refine lv_astore (lv' := [(10, .ref q435), (9, .int x429), (8, .int x423), (7, .int y417), (6, .int x174), (5, .ref q157), (4, .int x13), (3, .ref q5), (0, .ref Aa1), (1, .int a2), (2, .ref Aa3)]) hx hb dL_drawn_233 hl (by decide) rfl (fun ls hl => ?_)
            refine lv_iconst (v := 0) hx hb dL_drawn_235 (by decide) ?_
            refine lv_istore (lv' := [(11, .int 0), (10, .ref q435), (9, .int x429), (8, .int x423), (7, .int y417), (6, .int x174), (5, .ref q157), (4, .int x13), (3, .ref q5), (0, .ref Aa1), (1, .int a2), (2, .ref Aa3)]) hx hb dL_drawn_236 hl (by decide) rfl (fun ls hl => ?_)
            obtain ⟨t443, n445, s446, E447, hL444, hF⟩ := mb_o hF
            have hm := mle hL444
            have kx449 : ∀ (ad448 : Nat → Nat) (H : Heap) (locs : List Loc) (ls : Array Slot), axh n0 ad0 n445 ad448 → rf nb ad448 n445 (x434) (q435) → rf nb ad448 n445 (x156) (q157) → rf nb ad448 n445 (x4) (q5) → rf nb ad448 n445 (a1) (Aa1) → rf nb ad448 n445 (a3) (Aa3) → va_P (dC, dI) vwCl (CH cy nb ad448 n445 E447) H → va_D A (CH cy nb ad448 n445 E447) → va_S A s.heap H locs → lv_has ls 12 [(11, .int t443), (10, .ref q435), (9, .int x429), (8, .int x423), (7, .int y417), (6, .int x174), (5, .ref q157), (4, .int x13), (3, .ref q5), (0, .ref Aa1), (1, .int a2), (2, .ref Aa3)] → W p l e (headSpec (wsg yL_drawn cL_drawn 12 (some (.object "CardLineLaw$Line"))) ({ frames := 15, cells := nz - n0, slots := sz9 - s0, locals := 1000 })).room s m ([.ref Aa1, .int a2, .ref Aa3] : List Value).toArray below meth c H locs (n445 - n0) (s446 - s0) Qn (F0 m 274 ls []) := by
              intro ad448 H locs ls hX hr451 hr452 hr453 hr454 hr455 hP hD hS hl
              have hC := hm.2.2 hC
              have hN : n0 ≤ n445 := Nat.le_trans hN hm.1
              have hT : s0 ≤ s446 := Nat.le_trans hT hm.2.1
              clear hm
              obtain ⟨x459, n456, s457, E458, hq, hF⟩ := mn_o hF
              have hM1 := mle1 hF
              have hM2 := mle2 hF
              have hq9 := hq.2.1
              have hq8 := hq.2.2.1
              refine va_new (ci := 10) (fs := [.int 0, .null, .int 0, .int 0, .int 0, .int 0, .int 0, .int 0, .int 0, .int 0, .int 0, .int 0, .int 0, .int 0, .int 0]) (C := RX10) (T := TX10) (N := 15) hx hb hts inlX10 tyX10 tyX10_ok hown (hts _ mw_139) (hts _ mw_606) (hts _ mw_607) hK hP hD hS hA rfl (fun j hj => by match j, hj with | 0, _ => rfl | 1, _ => rfl | 2, _ => rfl | 3, _ => rfl | 4, _ => rfl | 5, _ => rfl | 6, _ => rfl | 7, _ => rfl | 8, _ => rfl | 9, _ => rfl | 10, _ => rfl | 11, _ => rfl | 12, _ => rfl | 13, _ => rfl | 14, _ => rfl | (n+15), h => omega) (show n445 - n0 + 1 ≤ nz - n0 by omega) (show s446 - s0 + 15 ≤ sz9 - s0 by omega) dL_drawn_274 (fun q460 H hP hD hS => ?_)
              obtain ⟨ad461, hax, hr462, hC9, hw9⟩ := new_w (cy := cy) (nb := nb) (ad := ad448) (e := .inr (10, [.int 0, .null, .int 0, .int 0, .int 0, .int 0, .int 0, .int 0, .int 0, .int 0, .int 0, .int 0, .int 0, .int 0, .int 0])) nok_X10 (fun _ => rfl) hC q460 hq
              rw [hw9] at hP hD
              have hr451 := hr451.mv hC.1 hax
              have hr452 := hr452.mv hC.1 hax
              have hr453 := hr453.mv hC.1 hax
              have hr454 := hr454.mv hC.1 hax
              have hr455 := hr455.mv hC.1 hax
              have hX := hX.trans hax
              have hC := hC9
              obtain ⟨-, hq1, hq2, -, -⟩ := hq
              have hN : n0 ≤ n456 := by omega
              have hT : s0 ≤ s457 := by omega
              refine W.widen (k := n456 - n0) (n := s457 - s0) (by omega) (by omega) ?_
              clear hM1 hM2 hax hC9 hw9 hq1 hq2 hq8 hq9
              refine lv_dup hx hb dL_drawn_277 rfl ?_
              refine lv_iload hx hb dL_drawn_278 (lv_at hl 2 rfl) ?_
              refine lv_iconst (v := 1) hx hb dL_drawn_280 (by decide) ?_
              refine lv_iload hx hb dL_drawn_281 (lv_at hl 3 rfl) ?_
              refine lv_sipush (v := 2048) hx hb dL_drawn_283 (by decide) ?_
              obtain ⟨x463, e464, hF⟩ := mp_o hF
              refine lv_idiv hx hb dL_drawn_286 (dv_ne e464) ?_
              refine my_topi (y := x463) (dv_eq e464) ?_
              refine lv_iload hx hb dL_drawn_287 (lv_at hl 2 rfl) ?_
              refine lv_iconst (v := 3) hx hb dL_drawn_289 (by decide) ?_
              obtain ⟨t466, n469, s470, E471, hJ467, hF⟩ := mb_o hF
              have hm := mle hJ467
              have join472 : ∀ (ad468 : Nat → Nat) (H : Heap) (locs : List Loc) (ls : Array Slot), axh n0 ad0 n469 ad468 → rf nb ad468 n469 (x434) (q435) → rf nb ad468 n469 (x156) (q157) → rf nb ad468 n469 (x4) (q5) → rf nb ad468 n469 (a1) (Aa1) → rf nb ad468 n469 (a3) (Aa3) → rf nb ad468 n469 (x459) (q460) → va_P (dC, dI) vwCl (CH cy nb ad468 n469 E471) H → va_D A (CH cy nb ad468 n469 E471) → va_S A s.heap H locs → lv_has ls 12 [(11, .int t443), (10, .ref q435), (9, .int x429), (8, .int x423), (7, .int y417), (6, .int x174), (5, .ref q157), (4, .int x13), (3, .ref q5), (0, .ref Aa1), (1, .int a2), (2, .ref Aa3)] → W p l e (headSpec (wsg yL_drawn cL_drawn 12 (some (.object "CardLineLaw$Line"))) ({ frames := 15, cells := nz - n0, slots := sz9 - s0, locals := 1000 })).room s m ([.ref Aa1, .int a2, .ref Aa3] : List Value).toArray below meth c H locs (n469 - n0) (s470 - s0) Qn (F0 m 299 ls [.int t466, .int x463, .int 1, .int x429, .ref q460, .ref q460]) := by
                intro ad468 H locs ls hX hr473 hr474 hr475 hr476 hr477 hr478 hP hD hS hl
                have hC := hm.2.2 hC
                have hN : n0 ≤ n469 := Nat.le_trans hN hm.1
                have hT : s0 ≤ s470 := Nat.le_trans hT hm.2.1
                clear hm
                obtain ⟨x479, e480, hF⟩ := mp_o hF
                refine lv_irem hx hb dL_drawn_299 (rm_ne e480) ?_
                refine my_topi (y := x479) (rm_eq e480) ?_
                refine lv_iadd hx hb dL_drawn_300 ?_
                refine lv_aload hx hb dL_drawn_301 (lv_at hl 1 rfl) ?_
                obtain ⟨fs9, e481, hF⟩ := mg_o hF
                obtain ⟨x482, n484, s485, E486, e483, hF⟩ := mb_o hF
                have hm := mle e483
                have hM1 := mle1 hF
                have hM2 := mle2 hF
                have hm1 := hm.1
                have hm2 := hm.2.1
                have hFc := my_free hD hS hA
                refine va_callr (va_runV (C := RJ4) (As := []) (rest := [.int (1 + x479), .int x429, .ref q460, .ref q460]) ⟨hx, hb, hml, hown, hts⟩ (h_J4_toString_0e30d l dC dI cy nb ad468 n469 s470 E471 hC (x434) q435 hr473 H.size x482 n484 s485 E486 e483) (cwV 0 hts (gV mw_780 mw_781 mw_782 mw_8 mw_783) rfl rfl rfl (by decide +kernel) ⟨Nat.le_of_ble_eq_true rfl, Nat.le_of_ble_eq_true rfl⟩) (hl_preV hP hK hD hE hS hFc (va_recv hK (rdO_ hP hC hr473 e481) (ci := 1) (q0 := 0) rfl rfl)) rfl rfl hl.1 rfl (lv_room (Nat.le_of_ble_eq_true rfl)) dL_drawn_303 ⟨show n469 - n0 + (n484 - n469) ≤ nz - n0 by omega, show s470 - s0 + (s485 - s470) ≤ sz9 - s0 by omega⟩) hS (fun q _ h => hFc q h) hFc (fun u ra t H1 locs ht hvm hw hB hz1 hk1 hS => ?_)
                obtain ⟨ad487, hax, hr488, hP1, hD1⟩ := hB
                rw [ht] at hP1
                have hP := hP1
                have hD := hD1.weaken (fun k q _ h => hFc q.1 h)
                generalize H1 = H at hP hS ⊢
                have hr473 := hr473.mv hC.1 hax
                have hr474 := hr474.mv hC.1 hax
                have hr475 := hr475.mv hC.1 hax
                have hr476 := hr476.mv hC.1 hax
                have hr477 := hr477.mv hC.1 hax
                have hr478 := hr478.mv hC.1 hax
                have hX := hX.trans hax
                have hC := hm.2.2 hC
                have hN : n0 ≤ n484 := Nat.le_trans hN hm1
                have hT : s0 ≤ s485 := Nat.le_trans hT hm2
                refine W.widen (k := n484 - n0) (n := s485 - s0) (by omega) (by omega) ?_
                clear hP1 hD1 hFc hk1 hz1 hvm ht hax hm hm1 hm2 hM1 hM2
                refine my_top (y := .ref (AD nb ad487 x482)) (congrArg Value.ref hr488.2.symm) ?_
                have hr488 := rf_self hr488
                obtain ⟨⟨⟩, n491, s492, E493, e490, hF⟩ := mb_o hF
                have hm := mle e490
                have hM1 := mle1 hF
                have hM2 := mle2 hF
                have hm1 := hm.1
                have hm2 := hm.2.1
                have hFc := my_free hD hS hA
                refine va_callv (va_runI (As := [.int x429, .int (1 + x479), .ref (AD nb ad487 x482)]) (rest := [.ref q460]) ⟨hx, hb, hml, hown, hts⟩ (h_X10_init l dC dI cy nb ad487 n484 s485 E486 hC (x459) q460 hr478 (x429) ((1 + x479)) (x482) (AD nb ad487 x482) hr488 H.size n491 s492 E493 e490) (cwI 3 hts (gI mw_834) rfl rfl rfl (hts _ mw_607) (hts _ mw_832) (hts _ mw_833) rfl (by decide +kernel) ⟨Nat.le_of_ble_eq_true rfl, Nat.le_of_ble_eq_true rfl⟩) (hl_preS hP hK hD hE hS hFc) rfl rfl hl.1 rfl (lv_room (Nat.le_of_ble_eq_true rfl)) dL_drawn_306 ⟨show n484 - n0 + (n491 - n484) ≤ nz - n0 by omega, show s485 - s0 + (s492 - s485) ≤ sz9 - s0 by omega⟩) hS (fun q _ h => hFc q h) hFc (fun u t H1 locs ht hvm hw hB hz1 hk1 hS => ?_)
                obtain ⟨ad494, hax, hP1, hD1⟩ := hB
                rw [ht] at hP1
                have hP := hP1
                have hD := hD1.weaken (fun k q _ h => hFc q.1 h)
                generalize H1 = H at hP hS ⊢
                have hr473 := hr473.mv hC.1 hax
                have hr474 := hr474.mv hC.1 hax
                have hr475 := hr475.mv hC.1 hax
                have hr476 := hr476.mv hC.1 hax
                have hr477 := hr477.mv hC.1 hax
                have hr478 := hr478.mv hC.1 hax
                have hX := hX.trans hax
                have hC := hm.2.2 hC
                have hN : n0 ≤ n491 := Nat.le_trans hN hm1
                have hT : s0 ≤ s492 := Nat.le_trans hT hm2
                refine W.widen (k := n491 - n0) (n := s492 - s0) (by omega) (by omega) ?_
                clear hP1 hD1 hFc hk1 hz1 hvm ht hax hm hm1 hm2 hM1 hM2
                refine lv_astore (lv' := [(11, .ref q460), (10, .ref q435), (9, .int x429), (8, .int x423), (7, .int y417), (6, .int x174), (5, .ref q157), (4, .int x13), (3, .ref q5), (0, .ref Aa1), (1, .int a2), (2, .ref Aa3)]) hx hb dL_drawn_309 hl (by decide) rfl (fun ls hl => ?_)
                refine lv_aload_n hx hb dL_drawn_311 rfl (lv_at hl 8 rfl) ?_
                obtain ⟨x495, e496, hF⟩ := mg_o hF
                obtain ⟨hr497, fs9, h9, g9⟩ := rdR hP hC hr475 e496
                refine va_get (D := (dC, dI)) (ci := 9) (v := .ref (AD nb ad494 x495)) (C := RX9) (T := TX9) (N := 14) hx hb hts inlX9 hown hK h9 0 rfl rfl 7 (by decide) (hts _ mw_9) (fun _ h9 => h9) g9 dL_drawn_312 ?_
                clear h9 g9
                refine lv_aload hx hb dL_drawn_315 (lv_at hl 0 rfl) ?_
                obtain ⟨fs9, e498, hF⟩ := mg_o hF
                obtain ⟨x499, n501, s502, E503, e500, hF⟩ := mb_o hF
                have hm := mle e500
                have hM1 := mle1 hF
                have hM2 := mle2 hF
                have hm1 := hm.1
                have hm2 := hm.2.1
                have hFc := my_free hD hS hA
                refine va_calli (va_runV (C := RJx4a65c) (As := [.ref q460]) (rest := []) ⟨hx, hb, hml, hown, hts⟩ (h_Jx4a65c_add_9ea2d l dC dI cy nb ad494 n491 s492 E493 hC (x495) (AD nb ad494 x495) hr497 (x459) q460 hr478 H.size x499 n501 s502 E503 e500) (cwV 1 hts (gV mw_840 mw_841 mw_842 mw_12 mw_843) rfl rfl rfl (by decide +kernel) ⟨Nat.le_of_ble_eq_true rfl, Nat.le_of_ble_eq_true rfl⟩) (hl_preV hP hK hD hE hS hFc (va_recv hK (rdO_ hP hC hr497 e498) (ci := 14) (q0 := 0) rfl rfl)) rfl rfl hl.1 rfl (lv_room (Nat.le_of_ble_eq_true rfl)) dL_drawn_317 ⟨show n491 - n0 + (n501 - n491) ≤ nz - n0 by omega, show s492 - s0 + (s502 - s492) ≤ sz9 - s0 by omega⟩) hS (fun q _ h => hFc q h) hFc (fun r9 u t H1 locs ht hvm hw hB hz1 hk1 hS => ?_)
                obtain ⟨ad504, hax, hP1, hD1⟩ := hB
                rw [ht] at hP1
                have hP := hP1
                have hD := hD1.weaken (fun k q _ h => hFc q.1 h)
                generalize H1 = H at hP hS ⊢
                have hr478 := hr478.mv hC.1 hax
                have hr473 := hr473.mv hC.1 hax
                have hr474 := hr474.mv hC.1 hax
                have hr475 := hr475.mv hC.1 hax
                have hr476 := hr476.mv hC.1 hax
                have hr477 := hr477.mv hC.1 hax
                have hX := hX.trans hax
                have hC := hm.2.2 hC
                have hN : n0 ≤ n501 := Nat.le_trans hN hm1
                have hT : s0 ≤ s502 := Nat.le_trans hT hm2
                refine W.widen (k := n501 - n0) (n := s502 - s0) (by omega) (by omega) ?_
                clear hP1 hD1 hFc hk1 hz1 hvm ht hax hm hm1 hm2 hM1 hM2
                obtain rfl := hw.symm
                refine lv_pop hx hb dL_drawn_320 rfl ?_
                refine lv_aload_n hx hb dL_drawn_321 rfl (lv_at hl 11 rfl) ?_
                refine lv_aload hx hb dL_drawn_322 (lv_at hl 6 rfl) ?_
                refine lv_iload hx hb dL_drawn_324 (lv_at hl 2 rfl) ?_
                obtain ⟨x505, e506, hF⟩ := mg_o hF
                obtain ⟨hr507, m9, f9, h9, i9, g9⟩ := rdQ hP hC hr474 e506
                refine va_aldq hx hb hK h9 0 11 rfl rfl i9 dL_drawn_326 ?_
                refine my_top (y := .ref (AD nb ad504 x505)) g9 ?_
                clear h9 i9 g9
                obtain ⟨fs9, e508, hF⟩ := mg_o hF
                obtain ⟨x509, n511, s512, E513, e510, hF⟩ := mb_o hF
                have hm := mle e510
                have hM1 := mle1 hF
                have hM2 := mle2 hF
                have hm1 := hm.1
                have hm2 := hm.2.1
                have hFc := my_free hD hS hA
                refine va_callr (va_runV (C := RJ4) (As := [.ref (AD nb ad504 x505)]) (rest := []) ⟨hx, hb, hml, hown, hts⟩ (h_J4_append_15ec4 l dC dI cy nb ad504 n501 s502 E503 hC (a3) Aa3 hr477 (x505) (AD nb ad504 x505) hr507 H.size x509 n511 s512 E513 e510) (cwV 1 hts (gV mw_618 mw_619 mw_620 mw_8 mw_621) rfl rfl rfl (by decide +kernel) ⟨Nat.le_of_ble_eq_true rfl, Nat.le_of_ble_eq_true rfl⟩) (hl_preV hP hK hD hE hS hFc (va_recv hK (rdO_ hP hC hr477 e508) (ci := 1) (q0 := 0) rfl rfl)) rfl rfl hl.1 rfl (lv_room (Nat.le_of_ble_eq_true rfl)) dL_drawn_327 ⟨show n501 - n0 + (n511 - n501) ≤ nz - n0 by omega, show s502 - s0 + (s512 - s502) ≤ sz9 - s0 by omega⟩) hS (fun q _ h => hFc q h) hFc (fun u ra t H1 locs ht hvm hw hB hz1 hk1 hS => ?_)
                obtain ⟨ad514, hax, hr515, hP1, hD1⟩ := hB
                rw [ht] at hP1
                have hP := hP1
                have hD := hD1.weaken (fun k q _ h => hFc q.1 h)
                generalize H1 = H at hP hS ⊢
                have hr478 := hr478.mv hC.1 hax
                have hr473 := hr473.mv hC.1 hax
                have hr474 := hr474.mv hC.1 hax
                have hr475 := hr475.mv hC.1 hax
                have hr476 := hr476.mv hC.1 hax
                have hr477 := hr477.mv hC.1 hax
                have hX := hX.trans hax
                have hC := hm.2.2 hC
                have hN : n0 ≤ n511 := Nat.le_trans hN hm1
                have hT : s0 ≤ s512 := Nat.le_trans hT hm2
                refine W.widen (k := n511 - n0) (n := s512 - s0) (by omega) (by omega) ?_
                clear hP1 hD1 hFc hk1 hz1 hvm ht hax hm hm1 hm2 hM1 hM2
                refine my_top (y := .ref (AD nb ad514 x509)) (congrArg Value.ref hr515.2.symm) ?_
                have hr515 := rf_self hr515
                refine lv_aload hx hb dL_drawn_330 (lv_at hl 0 rfl) ?_
                obtain ⟨x517, e518, hF⟩ := mg_o hF
                obtain ⟨fs9, h9, g9⟩ := rdI hP hC hr478 e518
                refine va_get (D := (dC, dI)) (ci := 10) (v := .int x517) (C := RX10) (T := TX10) (N := 15) hx hb hts inlX10 hown hK h9 0 rfl rfl 2 (by decide) (hts _ mw_141) (fun _ h9 => h9) g9 dL_drawn_332 ?_
                clear h9 g9
                obtain ⟨fs9, e519, hF⟩ := mg_o hF
                obtain ⟨x520, n522, s523, E524, e521, hF⟩ := mb_o hF
                have hm := mle e521
                have hM1 := mle1 hF
                have hM2 := mle2 hF
                have hm1 := hm.1
                have hm2 := hm.2.1
                have hFc := my_free hD hS hA
                refine va_callr (va_runV (C := RJ4) (As := [.int x517]) (rest := []) ⟨hx, hb, hml, hown, hts⟩ (h_J4_append_bf812 l dC dI cy nb ad514 n511 s512 E513 hC (x509) (AD nb ad514 x509) hr515 (x517) H.size x520 n522 s523 E524 e521) (cwV 1 hts (gV mw_735 mw_736 mw_737 mw_8 mw_738) rfl rfl rfl (by decide +kernel) ⟨Nat.le_of_ble_eq_true rfl, Nat.le_of_ble_eq_true rfl⟩) (hl_preV hP hK hD hE hS hFc (va_recv hK (rdO_ hP hC hr515 e519) (ci := 1) (q0 := 0) rfl rfl)) rfl rfl hl.1 rfl (lv_room (Nat.le_of_ble_eq_true rfl)) dL_drawn_335 ⟨show n511 - n0 + (n522 - n511) ≤ nz - n0 by omega, show s512 - s0 + (s523 - s512) ≤ sz9 - s0 by omega⟩) hS (fun q _ h => hFc q h) hFc (fun u ra t H1 locs ht hvm hw hB hz1 hk1 hS => ?_)
                obtain ⟨ad525, hax, hr526, hP1, hD1⟩ := hB
                rw [ht] at hP1
                have hP := hP1
                have hD := hD1.weaken (fun k q _ h => hFc q.1 h)
                generalize H1 = H at hP hS ⊢
                have hr478 := hr478.mv hC.1 hax
                have hr473 := hr473.mv hC.1 hax
                have hr474 := hr474.mv hC.1 hax
                have hr475 := hr475.mv hC.1 hax
                have hr476 := hr476.mv hC.1 hax
                have hr477 := hr477.mv hC.1 hax
                have hX := hX.trans hax
                have hC := hm.2.2 hC
                have hN : n0 ≤ n522 := Nat.le_trans hN hm1
                have hT : s0 ≤ s523 := Nat.le_trans hT hm2
                refine W.widen (k := n522 - n0) (n := s523 - s0) (by omega) (by omega) ?_
                clear hP1 hD1 hFc hk1 hz1 hvm ht hax hm hm1 hm2 hM1 hM2
                refine my_top (y := .ref (AD nb ad525 x520)) (congrArg Value.ref hr526.2.symm) ?_
                have hr526 := rf_self hr526
                refine lv_bipush (v := 32) hx hb dL_drawn_338 (by decide) ?_
                obtain ⟨fs9, e528, hF⟩ := mg_o hF
                obtain ⟨x529, n531, s532, E533, e530, hF⟩ := mb_o hF
                have hm := mle e530
                have hM1 := mle1 hF
                have hM2 := mle2 hF
                have hm1 := hm.1
                have hm2 := hm.2.1
                have hFc := my_free hD hS hA
                refine va_callr (va_runV (C := RJ4) (As := [.int 32]) (rest := []) ⟨hx, hb, hml, hown, hts⟩ (h_J4_append_cf468 l dC dI cy nb ad525 n522 s523 E524 hC (x520) (AD nb ad525 x520) hr526 (32) H.size x529 n531 s532 E533 e530) (cwV 1 hts (gV mw_759 mw_760 mw_761 mw_8 mw_762) rfl rfl rfl (by decide +kernel) ⟨Nat.le_of_ble_eq_true rfl, Nat.le_of_ble_eq_true rfl⟩) (hl_preV hP hK hD hE hS hFc (va_recv hK (rdO_ hP hC hr526 e528) (ci := 1) (q0 := 0) rfl rfl)) rfl rfl hl.1 rfl (lv_room (Nat.le_of_ble_eq_true rfl)) dL_drawn_340 ⟨show n522 - n0 + (n531 - n522) ≤ nz - n0 by omega, show s523 - s0 + (s532 - s523) ≤ sz9 - s0 by omega⟩) hS (fun q _ h => hFc q h) hFc (fun u ra t H1 locs ht hvm hw hB hz1 hk1 hS => ?_)
                obtain ⟨ad534, hax, hr535, hP1, hD1⟩ := hB
                rw [ht] at hP1
                have hP := hP1
                have hD := hD1.weaken (fun k q _ h => hFc q.1 h)
                generalize H1 = H at hP hS ⊢
                have hr478 := hr478.mv hC.1 hax
                have hr473 := hr473.mv hC.1 hax
                have hr474 := hr474.mv hC.1 hax
                have hr475 := hr475.mv hC.1 hax
                have hr476 := hr476.mv hC.1 hax
                have hr477 := hr477.mv hC.1 hax
                have hX := hX.trans hax
                have hC := hm.2.2 hC
                have hN : n0 ≤ n531 := Nat.le_trans hN hm1
                have hT : s0 ≤ s532 := Nat.le_trans hT hm2
                refine W.widen (k := n531 - n0) (n := s532 - s0) (by omega) (by omega) ?_
                clear hP1 hD1 hFc hk1 hz1 hvm ht hax hm hm1 hm2 hM1 hM2
                refine my_top (y := .ref (AD nb ad534 x529)) (congrArg Value.ref hr535.2.symm) ?_
                have hr535 := rf_self hr535
                refine lv_aload hx hb dL_drawn_343 (lv_at hl 1 rfl) ?_
                obtain ⟨fs9, e537, hF⟩ := mg_o hF
                obtain ⟨x538, n540, s541, E542, e539, hF⟩ := mb_o hF
                have hm := mle e539
                have hM1 := mle1 hF
                have hM2 := mle2 hF
                have hm1 := hm.1
                have hm2 := hm.2.1
                have hFc := my_free hD hS hA
                refine va_callr (va_runV (C := RJ4) (As := [.ref q435]) (rest := []) ⟨hx, hb, hml, hown, hts⟩ (h_J4_append_1fab5 l dC dI cy nb ad534 n531 s532 E533 hC (x529) (AD nb ad534 x529) hr535 (x434) q435 hr473 H.size x538 n540 s541 E542 e539) (cwV 1 hts (gV mw_872 mw_873 mw_874 mw_8 mw_875) rfl rfl rfl (by decide +kernel) ⟨Nat.le_of_ble_eq_true rfl, Nat.le_of_ble_eq_true rfl⟩) (hl_preV hP hK hD hE hS hFc (va_recv hK (rdO_ hP hC hr535 e537) (ci := 1) (q0 := 0) rfl rfl)) rfl rfl hl.1 rfl (lv_room (Nat.le_of_ble_eq_true rfl)) dL_drawn_345 ⟨show n531 - n0 + (n540 - n531) ≤ nz - n0 by omega, show s532 - s0 + (s541 - s532) ≤ sz9 - s0 by omega⟩) hS (fun q _ h => hFc q h) hFc (fun u ra t H1 locs ht hvm hw hB hz1 hk1 hS => ?_)
                obtain ⟨ad543, hax, hr544, hP1, hD1⟩ := hB
                rw [ht] at hP1
                have hP := hP1
                have hD := hD1.weaken (fun k q _ h => hFc q.1 h)
                generalize H1 = H at hP hS ⊢
                have hr478 := hr478.mv hC.1 hax
                have hr473 := hr473.mv hC.1 hax
                have hr474 := hr474.mv hC.1 hax
                have hr475 := hr475.mv hC.1 hax
                have hr476 := hr476.mv hC.1 hax
                have hr477 := hr477.mv hC.1 hax
                have hX := hX.trans hax
                have hC := hm.2.2 hC
                have hN : n0 ≤ n540 := Nat.le_trans hN hm1
                have hT : s0 ≤ s541 := Nat.le_trans hT hm2
                refine W.widen (k := n540 - n0) (n := s541 - s0) (by omega) (by omega) ?_
                clear hP1 hD1 hFc hk1 hz1 hvm ht hax hm hm1 hm2 hM1 hM2
                refine my_top (y := .ref (AD nb ad543 x538)) (congrArg Value.ref hr544.2.symm) ?_
                have hr544 := rf_self hr544
                refine lv_pop hx hb dL_drawn_348 rfl ?_
                refine lv_iload hx hb dL_drawn_349 (lv_at hl 3 rfl) ?_
                refine lv_sipush (v := 16384) hx hb dL_drawn_351 (by decide) ?_
                obtain ⟨x546, e547, hF⟩ := mp_o hF
                refine lv_idiv hx hb dL_drawn_354 (dv_ne e547) ?_
                refine my_topi (y := x546) (dv_eq e547) ?_
                refine lv_iconst (v := 3) hx hb dL_drawn_355 (by decide) ?_
                obtain ⟨x548, e549, hF⟩ := mp_o hF
                refine lv_irem hx hb dL_drawn_356 (rm_ne e549) ?_
                refine my_topi (y := x548) (rm_eq e549) ?_
                obtain ⟨t551, n554, s555, E556, hJ552, hF⟩ := mb_o hF
                have hm := mle hJ552
                have join557 : ∀ (ad553 : Nat → Nat) (H : Heap) (locs : List Loc) (ls : Array Slot), axh n0 ad0 n554 ad553 → rf nb ad553 n554 (x459) (q460) → rf nb ad553 n554 (x434) (q435) → rf nb ad553 n554 (x156) (q157) → rf nb ad553 n554 (x4) (q5) → rf nb ad553 n554 (a1) (Aa1) → rf nb ad553 n554 (a3) (Aa3) → va_P (dC, dI) vwCl (CH cy nb ad553 n554 E556) H → va_D A (CH cy nb ad553 n554 E556) → va_S A s.heap H locs → lv_has ls 12 [(11, .ref q460), (10, .ref q435), (9, .int x429), (8, .int x423), (7, .int y417), (6, .int x174), (5, .ref q157), (4, .int x13), (3, .ref q5), (0, .ref Aa1), (1, .int a2), (2, .ref Aa3)] → W p l e (headSpec (wsg yL_drawn cL_drawn 12 (some (.object "CardLineLaw$Line"))) ({ frames := 15, cells := nz - n0, slots := sz9 - s0, locals := 1000 })).room s m ([.ref Aa1, .int a2, .ref Aa3] : List Value).toArray below meth c H locs (n554 - n0) (s555 - s0) Qn (F0 m 430 ls []) := by
                  intro ad553 H locs ls hX hr558 hr559 hr560 hr561 hr562 hr563 hP hD hS hl
                  have hC := hm.2.2 hC
                  have hN : n0 ≤ n554 := Nat.le_trans hN hm.1
                  have hT : s0 ≤ s555 := Nat.le_trans hT hm.2.1
                  clear hm
                  refine lv_iinc (v := (y417 + 1)) (lv' := [(7, .int (y417 + 1)), (11, .ref q460), (10, .ref q435), (9, .int x429), (8, .int x423), (6, .int x174), (5, .ref q157), (4, .int x13), (3, .ref q5), (0, .ref Aa1), (1, .int a2), (2, .ref Aa3)]) hx hb dL_drawn_430 hl (k := 4) rfl (by rfl) (by decide) rfl (fun ls hl => ?_)
                  refine lv_goto (tgt := 201) hx hb dL_drawn_433 (by decide) ?_
                  have hl := lv_sub (l' := [(7, .int (y417 + 1)), (6, .int x174), (5, .ref q157), (4, .int x13), (3, .ref q5), (0, .ref Aa1), (1, .int a2), (2, .ref Aa3)]) hl [0, 5, 6, 7, 8, 9, 10, 11] rfl
                  exact ih _ _ _ _ hF hC hN hT _ _ _ _ hX hr560 hr561 hr562 hr563 hP hD hS hl
                have hK564 := mle1 hF
                have hK565 := mle2 hF
                clear hF hm
                have hF := hJ552
                clear hJ552
                refine lv_if_le (tgt := 363) hx hb dL_drawn_357 (by decide) (fun c550 => ?_) (fun c550 => ?_)
                · skip
                  rw [if_pos c550] at hF
                  refine lv_aload hx hb dL_drawn_363 (lv_at hl 0 rfl) ?_
                  refine lv_iconst (v := 1) hx hb dL_drawn_365 (by decide) ?_
                  refine lv_iload hx hb dL_drawn_366 (lv_at hl 3 rfl) ?_
                  refine lv_ldc (v := 65536) hx hb hown (hts _ mw_604) dL_drawn_368 ?_
                  obtain ⟨x566, e567, hF⟩ := mp_o hF
                  refine lv_idiv hx hb dL_drawn_370 (dv_ne e567) ?_
                  refine my_topi (y := x566) (dv_eq e567) ?_
                  refine lv_iconst (v := 4) hx hb dL_drawn_371 (by decide) ?_
                  obtain ⟨x568, e569, hF⟩ := mp_o hF
                  refine lv_irem hx hb dL_drawn_372 (rm_ne e569) ?_
                  refine my_topi (y := x568) (rm_eq e569) ?_
                  refine lv_iadd hx hb dL_drawn_373 ?_
                  obtain ⟨E570, e571, hF⟩ := mw_o hF
                  obtain ⟨q9, fs9, h9, ez9⟩ := wrI (cy := cy) hC hr478 e571
                  refine va_put (D := (dC, dI)) (ci := 10) (v := .int (1 + x568)) (ty := .int) (C := RX10) (T := TX10) (N := 15) hx hb hts inlX10 tyX10 tyX10_ok nmX10 hown hK hP hD hS q9 h9 rfl 9 (by decide) (hts _ mw_149) (fun _ h9 => h9) rfl (by decide +kernel) rfl rfl (Nat.le_of_ble_eq_true rfl) dL_drawn_374 (fun H locs hP hD hS => ?_)
                  rw [ez9] at hP hD
                  clear ez9 h9
                  have hC := sI_clo e571 hC
                  refine lv_aload hx hb dL_drawn_377 (lv_at hl 0 rfl) ?_
                  refine lv_iconst (v := 1) hx hb dL_drawn_379 (by decide) ?_
                  refine lv_iload hx hb dL_drawn_380 (lv_at hl 3 rfl) ?_
                  refine lv_ldc (v := 262144) hx hb hown (hts _ mw_608) dL_drawn_382 ?_
                  obtain ⟨x572, e573, hF⟩ := mp_o hF
                  refine lv_idiv hx hb dL_drawn_384 (dv_ne e573) ?_
                  refine my_topi (y := x572) (dv_eq e573) ?_
                  refine lv_bipush (v := 6) hx hb dL_drawn_385 (by decide) ?_
                  obtain ⟨x574, e575, hF⟩ := mp_o hF
                  refine lv_irem hx hb dL_drawn_387 (rm_ne e575) ?_
                  refine my_topi (y := x574) (rm_eq e575) ?_
                  refine lv_iadd hx hb dL_drawn_388 ?_
                  obtain ⟨E576, e577, hF⟩ := mw_o hF
                  obtain ⟨q9, fs9, h9, ez9⟩ := wrI (cy := cy) hC hr478 e577
                  refine va_put (D := (dC, dI)) (ci := 10) (v := .int (1 + x574)) (ty := .int) (C := RX10) (T := TX10) (N := 15) hx hb hts inlX10 tyX10 tyX10_ok nmX10 hown hK hP hD hS q9 h9 rfl 10 (by decide) (hts _ mw_150) (fun _ h9 => h9) rfl (by decide +kernel) rfl rfl (Nat.le_of_ble_eq_true rfl) dL_drawn_389 (fun H locs hP hD hS => ?_)
                  rw [ez9] at hP hD
                  clear ez9 h9
                  have hC := sI_clo e577 hC
                  refine lv_aload_n hx hb dL_drawn_392 rfl (lv_at hl 11 rfl) ?_
                  refine va_ldcS hx hb hown (hE.xr 11 rfl) dL_drawn_393 ?_
                  obtain ⟨fs9, e578, hF⟩ := mg_o hF
                  obtain ⟨x579, n581, s582, E583, e580, hF⟩ := mb_o hF
                  have hm := mle e580
                  have hM1 := mle1 hF
                  have hM2 := mle2 hF
                  have hm1 := hm.1
                  have hm2 := hm.2.1
                  have hFc := my_free hD hS hA
                  refine va_callr (va_runV (C := RJ4) (As := [.ref (nb 1022)]) (rest := []) ⟨hx, hb, hml, hown, hts⟩ (h_J4_append_15ec4 l dC dI cy nb ad543 n540 s541 E576 hC (a3) Aa3 hr477 (1001022) (nb 1022) rf_c H.size x579 n581 s582 E583 e580) (cwV 1 hts (gV mw_618 mw_619 mw_620 mw_8 mw_621) rfl rfl rfl (by decide +kernel) ⟨Nat.le_of_ble_eq_true rfl, Nat.le_of_ble_eq_true rfl⟩) (hl_preV hP hK hD hE hS hFc (va_recv hK (rdO_ hP hC hr477 e578) (ci := 1) (q0 := 0) rfl rfl)) rfl rfl hl.1 rfl (lv_room (Nat.le_of_ble_eq_true rfl)) dL_drawn_395 ⟨show n540 - n0 + (n581 - n540) ≤ nz - n0 by omega, show s541 - s0 + (s582 - s541) ≤ sz9 - s0 by omega⟩) hS (fun q _ h => hFc q h) hFc (fun u ra t H1 locs ht hvm hw hB hz1 hk1 hS => ?_)
                  obtain ⟨ad584, hax, hr585, hP1, hD1⟩ := hB
                  rw [ht] at hP1
                  have hP := hP1
                  have hD := hD1.weaken (fun k q _ h => hFc q.1 h)
                  generalize H1 = H at hP hS ⊢
                  have hr478 := hr478.mv hC.1 hax
                  have hr473 := hr473.mv hC.1 hax
                  have hr474 := hr474.mv hC.1 hax
                  have hr475 := hr475.mv hC.1 hax
                  have hr476 := hr476.mv hC.1 hax
                  have hr477 := hr477.mv hC.1 hax
                  have hX := hX.trans hax
                  have hC := hm.2.2 hC
                  have hN : n0 ≤ n581 := Nat.le_trans hN hm1
                  have hT : s0 ≤ s582 := Nat.le_trans hT hm2
                  refine W.widen (k := n581 - n0) (n := s582 - s0) (by omega) (by omega) ?_
                  clear hP1 hD1 hFc hk1 hz1 hvm ht hax hm hm1 hm2 hM1 hM2
                  refine my_top (y := .ref (AD nb ad584 x579)) (congrArg Value.ref hr585.2.symm) ?_
                  have hr585 := rf_self hr585
                  refine lv_iload hx hb dL_drawn_398 (lv_at hl 4 rfl) ?_
                  obtain ⟨fs9, e587, hF⟩ := mg_o hF
                  obtain ⟨x588, n590, s591, E592, e589, hF⟩ := mb_o hF
                  have hm := mle e589
                  have hM1 := mle1 hF
                  have hM2 := mle2 hF
                  have hm1 := hm.1
                  have hm2 := hm.2.1
                  have hFc := my_free hD hS hA
                  refine va_callr (va_runV (C := RJ4) (As := [.int y417]) (rest := []) ⟨hx, hb, hml, hown, hts⟩ (h_J4_append_bf812 l dC dI cy nb ad584 n581 s582 E583 hC (x579) (AD nb ad584 x579) hr585 (y417) H.size x588 n590 s591 E592 e589) (cwV 1 hts (gV mw_735 mw_736 mw_737 mw_8 mw_738) rfl rfl rfl (by decide +kernel) ⟨Nat.le_of_ble_eq_true rfl, Nat.le_of_ble_eq_true rfl⟩) (hl_preV hP hK hD hE hS hFc (va_recv hK (rdO_ hP hC hr585 e587) (ci := 1) (q0 := 0) rfl rfl)) rfl rfl hl.1 rfl (lv_room (Nat.le_of_ble_eq_true rfl)) dL_drawn_400 ⟨show n581 - n0 + (n590 - n581) ≤ nz - n0 by omega, show s582 - s0 + (s591 - s582) ≤ sz9 - s0 by omega⟩) hS (fun q _ h => hFc q h) hFc (fun u ra t H1 locs ht hvm hw hB hz1 hk1 hS => ?_)
                  obtain ⟨ad593, hax, hr594, hP1, hD1⟩ := hB
                  rw [ht] at hP1
                  have hP := hP1
                  have hD := hD1.weaken (fun k q _ h => hFc q.1 h)
                  generalize H1 = H at hP hS ⊢
                  have hr478 := hr478.mv hC.1 hax
                  have hr473 := hr473.mv hC.1 hax
                  have hr474 := hr474.mv hC.1 hax
                  have hr475 := hr475.mv hC.1 hax
                  have hr476 := hr476.mv hC.1 hax
                  have hr477 := hr477.mv hC.1 hax
                  have hX := hX.trans hax
                  have hC := hm.2.2 hC
                  have hN : n0 ≤ n590 := Nat.le_trans hN hm1
                  have hT : s0 ≤ s591 := Nat.le_trans hT hm2
                  refine W.widen (k := n590 - n0) (n := s591 - s0) (by omega) (by omega) ?_
                  clear hP1 hD1 hFc hk1 hz1 hvm ht hax hm hm1 hm2 hM1 hM2
                  refine my_top (y := .ref (AD nb ad593 x588)) (congrArg Value.ref hr594.2.symm) ?_
                  have hr594 := rf_self hr594
                  refine lv_bipush (v := 32) hx hb dL_drawn_403 (by decide) ?_
                  obtain ⟨fs9, e596, hF⟩ := mg_o hF
                  obtain ⟨x597, n599, s600, E601, e598, hF⟩ := mb_o hF
                  have hm := mle e598
                  have hM1 := mle1 hF
                  have hM2 := mle2 hF
                  have hm1 := hm.1
                  have hm2 := hm.2.1
                  have hFc := my_free hD hS hA
                  refine va_callr (va_runV (C := RJ4) (As := [.int 32]) (rest := []) ⟨hx, hb, hml, hown, hts⟩ (h_J4_append_cf468 l dC dI cy nb ad593 n590 s591 E592 hC (x588) (AD nb ad593 x588) hr594 (32) H.size x597 n599 s600 E601 e598) (cwV 1 hts (gV mw_759 mw_760 mw_761 mw_8 mw_762) rfl rfl rfl (by decide +kernel) ⟨Nat.le_of_ble_eq_true rfl, Nat.le_of_ble_eq_true rfl⟩) (hl_preV hP hK hD hE hS hFc (va_recv hK (rdO_ hP hC hr594 e596) (ci := 1) (q0 := 0) rfl rfl)) rfl rfl hl.1 rfl (lv_room (Nat.le_of_ble_eq_true rfl)) dL_drawn_405 ⟨show n590 - n0 + (n599 - n590) ≤ nz - n0 by omega, show s591 - s0 + (s600 - s591) ≤ sz9 - s0 by omega⟩) hS (fun q _ h => hFc q h) hFc (fun u ra t H1 locs ht hvm hw hB hz1 hk1 hS => ?_)
                  obtain ⟨ad602, hax, hr603, hP1, hD1⟩ := hB
                  rw [ht] at hP1
                  have hP := hP1
                  have hD := hD1.weaken (fun k q _ h => hFc q.1 h)
                  generalize H1 = H at hP hS ⊢
                  have hr478 := hr478.mv hC.1 hax
                  have hr473 := hr473.mv hC.1 hax
                  have hr474 := hr474.mv hC.1 hax
                  have hr475 := hr475.mv hC.1 hax
                  have hr476 := hr476.mv hC.1 hax
                  have hr477 := hr477.mv hC.1 hax
                  have hX := hX.trans hax
                  have hC := hm.2.2 hC
                  have hN : n0 ≤ n599 := Nat.le_trans hN hm1
                  have hT : s0 ≤ s600 := Nat.le_trans hT hm2
                  refine W.widen (k := n599 - n0) (n := s600 - s0) (by omega) (by omega) ?_
                  clear hP1 hD1 hFc hk1 hz1 hvm ht hax hm hm1 hm2 hM1 hM2
                  refine my_top (y := .ref (AD nb ad602 x597)) (congrArg Value.ref hr603.2.symm) ?_
                  have hr603 := rf_self hr603
                  refine lv_aload hx hb dL_drawn_408 (lv_at hl 0 rfl) ?_
                  obtain ⟨x605, e606, hF⟩ := mg_o hF
                  obtain ⟨fs9, h9, g9⟩ := rdI hP hC hr478 e606
                  refine va_get (D := (dC, dI)) (ci := 10) (v := .int x605) (C := RX10) (T := TX10) (N := 15) hx hb hts inlX10 hown hK h9 0 rfl rfl 9 (by decide) (hts _ mw_149) (fun _ h9 => h9) g9 dL_drawn_410 ?_
                  clear h9 g9
                  obtain ⟨fs9, e607, hF⟩ := mg_o hF
                  obtain ⟨x608, n610, s611, E612, e609, hF⟩ := mb_o hF
                  have hm := mle e609
                  have hM1 := mle1 hF
                  have hM2 := mle2 hF
                  have hm1 := hm.1
                  have hm2 := hm.2.1
                  have hFc := my_free hD hS hA
                  refine va_callr (va_runV (C := RJ4) (As := [.int x605]) (rest := []) ⟨hx, hb, hml, hown, hts⟩ (h_J4_append_bf812 l dC dI cy nb ad602 n599 s600 E601 hC (x597) (AD nb ad602 x597) hr603 (x605) H.size x608 n610 s611 E612 e609) (cwV 1 hts (gV mw_735 mw_736 mw_737 mw_8 mw_738) rfl rfl rfl (by decide +kernel) ⟨Nat.le_of_ble_eq_true rfl, Nat.le_of_ble_eq_true rfl⟩) (hl_preV hP hK hD hE hS hFc (va_recv hK (rdO_ hP hC hr603 e607) (ci := 1) (q0 := 0) rfl rfl)) rfl rfl hl.1 rfl (lv_room (Nat.le_of_ble_eq_true rfl)) dL_drawn_413 ⟨show n599 - n0 + (n610 - n599) ≤ nz - n0 by omega, show s600 - s0 + (s611 - s600) ≤ sz9 - s0 by omega⟩) hS (fun q _ h => hFc q h) hFc (fun u ra t H1 locs ht hvm hw hB hz1 hk1 hS => ?_)
                  obtain ⟨ad613, hax, hr614, hP1, hD1⟩ := hB
                  rw [ht] at hP1
                  have hP := hP1
                  have hD := hD1.weaken (fun k q _ h => hFc q.1 h)
                  generalize H1 = H at hP hS ⊢
                  have hr478 := hr478.mv hC.1 hax
                  have hr473 := hr473.mv hC.1 hax
                  have hr474 := hr474.mv hC.1 hax
                  have hr475 := hr475.mv hC.1 hax
                  have hr476 := hr476.mv hC.1 hax
                  have hr477 := hr477.mv hC.1 hax
                  have hX := hX.trans hax
                  have hC := hm.2.2 hC
                  have hN : n0 ≤ n610 := Nat.le_trans hN hm1
                  have hT : s0 ≤ s611 := Nat.le_trans hT hm2
                  refine W.widen (k := n610 - n0) (n := s611 - s0) (by omega) (by omega) ?_
                  clear hP1 hD1 hFc hk1 hz1 hvm ht hax hm hm1 hm2 hM1 hM2
                  refine my_top (y := .ref (AD nb ad613 x608)) (congrArg Value.ref hr614.2.symm) ?_
                  have hr614 := rf_self hr614
                  refine lv_bipush (v := 32) hx hb dL_drawn_416 (by decide) ?_
                  obtain ⟨fs9, e616, hF⟩ := mg_o hF
                  obtain ⟨x617, n619, s620, E621, e618, hF⟩ := mb_o hF
                  have hm := mle e618
                  have hM1 := mle1 hF
                  have hM2 := mle2 hF
                  have hm1 := hm.1
                  have hm2 := hm.2.1
                  have hFc := my_free hD hS hA
                  refine va_callr (va_runV (C := RJ4) (As := [.int 32]) (rest := []) ⟨hx, hb, hml, hown, hts⟩ (h_J4_append_cf468 l dC dI cy nb ad613 n610 s611 E612 hC (x608) (AD nb ad613 x608) hr614 (32) H.size x617 n619 s620 E621 e618) (cwV 1 hts (gV mw_759 mw_760 mw_761 mw_8 mw_762) rfl rfl rfl (by decide +kernel) ⟨Nat.le_of_ble_eq_true rfl, Nat.le_of_ble_eq_true rfl⟩) (hl_preV hP hK hD hE hS hFc (va_recv hK (rdO_ hP hC hr614 e616) (ci := 1) (q0 := 0) rfl rfl)) rfl rfl hl.1 rfl (lv_room (Nat.le_of_ble_eq_true rfl)) dL_drawn_418 ⟨show n610 - n0 + (n619 - n610) ≤ nz - n0 by omega, show s611 - s0 + (s620 - s611) ≤ sz9 - s0 by omega⟩) hS (fun q _ h => hFc q h) hFc (fun u ra t H1 locs ht hvm hw hB hz1 hk1 hS => ?_)
                  obtain ⟨ad622, hax, hr623, hP1, hD1⟩ := hB
                  rw [ht] at hP1
                  have hP := hP1
                  have hD := hD1.weaken (fun k q _ h => hFc q.1 h)
                  generalize H1 = H at hP hS ⊢
                  have hr478 := hr478.mv hC.1 hax
                  have hr473 := hr473.mv hC.1 hax
                  have hr474 := hr474.mv hC.1 hax
                  have hr475 := hr475.mv hC.1 hax
                  have hr476 := hr476.mv hC.1 hax
                  have hr477 := hr477.mv hC.1 hax
                  have hX := hX.trans hax
                  have hC := hm.2.2 hC
                  have hN : n0 ≤ n619 := Nat.le_trans hN hm1
                  have hT : s0 ≤ s620 := Nat.le_trans hT hm2
                  refine W.widen (k := n619 - n0) (n := s620 - s0) (by omega) (by omega) ?_
                  clear hP1 hD1 hFc hk1 hz1 hvm ht hax hm hm1 hm2 hM1 hM2
                  refine my_top (y := .ref (AD nb ad622 x617)) (congrArg Value.ref hr623.2.symm) ?_
                  have hr623 := rf_self hr623
                  refine lv_aload hx hb dL_drawn_421 (lv_at hl 0 rfl) ?_
                  obtain ⟨x625, e626, hF⟩ := mg_o hF
                  obtain ⟨fs9, h9, g9⟩ := rdI hP hC hr478 e626
                  refine va_get (D := (dC, dI)) (ci := 10) (v := .int x625) (C := RX10) (T := TX10) (N := 15) hx hb hts inlX10 hown hK h9 0 rfl rfl 10 (by decide) (hts _ mw_150) (fun _ h9 => h9) g9 dL_drawn_423 ?_
                  clear h9 g9
                  obtain ⟨fs9, e627, hF⟩ := mg_o hF
                  obtain ⟨x628, n630, s631, E632, e629, hF⟩ := mb_o hF
                  have hm := mle e629
                  have hM1 := mle1 hF
                  have hM2 := mle2 hF
                  have hm1 := hm.1
                  have hm2 := hm.2.1
                  have hFc := my_free hD hS hA
                  refine va_callr (va_runV (C := RJ4) (As := [.int x625]) (rest := []) ⟨hx, hb, hml, hown, hts⟩ (h_J4_append_bf812 l dC dI cy nb ad622 n619 s620 E621 hC (x617) (AD nb ad622 x617) hr623 (x625) H.size x628 n630 s631 E632 e629) (cwV 1 hts (gV mw_735 mw_736 mw_737 mw_8 mw_738) rfl rfl rfl (by decide +kernel) ⟨Nat.le_of_ble_eq_true rfl, Nat.le_of_ble_eq_true rfl⟩) (hl_preV hP hK hD hE hS hFc (va_recv hK (rdO_ hP hC hr623 e627) (ci := 1) (q0 := 0) rfl rfl)) rfl rfl hl.1 rfl (lv_room (Nat.le_of_ble_eq_true rfl)) dL_drawn_426 ⟨show n619 - n0 + (n630 - n619) ≤ nz - n0 by omega, show s620 - s0 + (s631 - s620) ≤ sz9 - s0 by omega⟩) hS (fun q _ h => hFc q h) hFc (fun u ra t H1 locs ht hvm hw hB hz1 hk1 hS => ?_)
                  obtain ⟨ad633, hax, hr634, hP1, hD1⟩ := hB
                  rw [ht] at hP1
                  have hP := hP1
                  have hD := hD1.weaken (fun k q _ h => hFc q.1 h)
                  generalize H1 = H at hP hS ⊢
                  have hr478 := hr478.mv hC.1 hax
                  have hr473 := hr473.mv hC.1 hax
                  have hr474 := hr474.mv hC.1 hax
                  have hr475 := hr475.mv hC.1 hax
                  have hr476 := hr476.mv hC.1 hax
                  have hr477 := hr477.mv hC.1 hax
                  have hX := hX.trans hax
                  have hC := hm.2.2 hC
                  have hN : n0 ≤ n630 := Nat.le_trans hN hm1
                  have hT : s0 ≤ s631 := Nat.le_trans hT hm2
                  refine W.widen (k := n630 - n0) (n := s631 - s0) (by omega) (by omega) ?_
                  clear hP1 hD1 hFc hk1 hz1 hvm ht hax hm hm1 hm2 hM1 hM2
                  refine my_top (y := .ref (AD nb ad633 x628)) (congrArg Value.ref hr634.2.symm) ?_
                  have hr634 := rf_self hr634
                  refine lv_pop hx hb dL_drawn_429 rfl ?_
                  obtain ⟨ht9, hn9, hs9, hE9⟩ := mr_o hF
                  subst ht9 hn9 hs9 hE9
                  have hl := lv_sub (l' := [(11, .ref q460), (10, .ref q435), (9, .int x429), (8, .int x423), (7, .int y417), (6, .int x174), (5, .ref q157), (4, .int x13), (3, .ref q5), (0, .ref Aa1), (1, .int a2), (2, .ref Aa3)]) hl [0, 1, 2, 3, 4, 5, 6, 7, 8, 9, 10, 11] rfl
                  exact join557 _ _ _ _ hX hr478 hr473 hr474 hr475 hr476 hr477 hP hD hS hl
                · skip
                  rw [if_neg c550] at hF
                  refine lv_goto (tgt := 430) hx hb dL_drawn_360 (by decide) ?_
                  obtain ⟨ht9, hn9, hs9, hE9⟩ := mr_o hF
                  subst ht9 hn9 hs9 hE9
                  have hl := lv_sub (l' := [(11, .ref q460), (10, .ref q435), (9, .int x429), (8, .int x423), (7, .int y417), (6, .int x174), (5, .ref q157), (4, .int x13), (3, .ref q5), (0, .ref Aa1), (1, .int a2), (2, .ref Aa3)]) hl [0, 1, 2, 3, 4, 5, 6, 7, 8, 9, 10, 11] rfl
                  exact join557 _ _ _ _ hX hr478 hr473 hr474 hr475 hr476 hr477 hP hD hS hl
              have hK636 := mle1 hF
              have hK637 := mle2 hF
              clear hF hm
              have hF := hJ467
              clear hJ467
              refine lv_icmp_ne (tgt := 297) hx hb dL_drawn_290 (by decide) (fun c465 => ?_) (fun c465 => ?_)
              · skip
                rw [if_neg c465] at hF
                refine lv_bipush (v := 6) hx hb dL_drawn_297 (by decide) ?_
                obtain ⟨ht9, hn9, hs9, hE9⟩ := mr_o hF
                subst ht9 hn9 hs9 hE9
                have hl := lv_sub (l' := [(11, .int t443), (10, .ref q435), (9, .int x429), (8, .int x423), (7, .int y417), (6, .int x174), (5, .ref q157), (4, .int x13), (3, .ref q5), (0, .ref Aa1), (1, .int a2), (2, .ref Aa3)]) hl [0, 1, 2, 3, 4, 5, 6, 7, 8, 9, 10, 11] rfl
                exact join472 _ _ _ _ hX hr451 hr452 hr453 hr454 hr455 hr462 hP hD hS hl
              · skip
                rw [if_pos c465] at hF
                refine lv_iconst (v := 4) hx hb dL_drawn_293 (by decide) ?_
                refine lv_goto (tgt := 299) hx hb dL_drawn_294 (by decide) ?_
                obtain ⟨ht9, hn9, hs9, hE9⟩ := mr_o hF
                subst ht9 hn9 hs9 hE9
                have hl := lv_sub (l' := [(11, .int t443), (10, .ref q435), (9, .int x429), (8, .int x423), (7, .int y417), (6, .int x174), (5, .ref q157), (4, .int x13), (3, .ref q5), (0, .ref Aa1), (1, .int a2), (2, .ref Aa3)]) hl [0, 1, 2, 3, 4, 5, 6, 7, 8, 9, 10, 11] rfl
                exact join472 _ _ _ _ hX hr451 hr452 hr453 hr454 hr455 hr462 hP hD hS hl
            have hK638 := mle1 hF
            have hK639 := mle2 hF
            clear hF hm
            have loop640 : ∀ (m641 : Nat) (y646 : Int32) (n643 s644 : Nat) (E645 : HE), (H_L_drawn_L238 x434 x429 x423 y417 x174 x156 x13 x4 a1 a2 a3 m641 y646).1 (n643, s644, E645) = some (t443, n445, s446, E447) → clo n643 E645 → n0 ≤ n643 → s0 ≤ s644 → ∀ (ad642 : Nat → Nat) (H : Heap) (locs : List Loc) (ls : Array Slot), axh n0 ad0 n643 ad642 → rf nb ad642 n643 (x434) (q435) → rf nb ad642 n643 (x156) (q157) → rf nb ad642 n643 (x4) (q5) → rf nb ad642 n643 (a1) (Aa1) → rf nb ad642 n643 (a3) (Aa3) → va_P (dC, dI) vwCl (CH cy nb ad642 n643 E645) H → va_D A (CH cy nb ad642 n643 E645) → va_S A s.heap H locs → lv_has ls 12 [(11, .int y646), (10, .ref q435), (9, .int x429), (8, .int x423), (7, .int y417), (6, .int x174), (5, .ref q157), (4, .int x13), (3, .ref q5), (0, .ref Aa1), (1, .int a2), (2, .ref Aa3)] → W p l e (headSpec (wsg yL_drawn cL_drawn 12 (some (.object "CardLineLaw$Line"))) ({ frames := 15, cells := nz - n0, slots := sz9 - s0, locals := 1000 })).room s m ([.ref Aa1, .int a2, .ref Aa3] : List Value).toArray below meth c H locs (n643 - n0) (s644 - s0) Qn (F0 m 238 ls []) := by
              intro m641
              induction m641 with
              | zero => intro y646 n643 s644 E645 hF; exact (m0_o hF).elim
              | succ m641 ih =>
                intro y646 n643 s644 E645 hF hC hN hT ad642 H locs ls hX hr647 hr648 hr649 hr650 hr651 hP hD hS hl
                simp only [H_L_drawn_L238] at hF
                refine lv_iload hx hb dL_drawn_238 (lv_at hl 0 rfl) ?_
                refine lv_iconst (v := 1) hx hb dL_drawn_240 (by decide) ?_
                refine lv_iload hx hb dL_drawn_241 (lv_at hl 3 rfl) ?_
                refine lv_bipush (v := 8) hx hb dL_drawn_243 (by decide) ?_
                obtain ⟨x652, e653, hF⟩ := mp_o hF
                refine lv_idiv hx hb dL_drawn_245 (dv_ne e653) ?_
                refine my_topi (y := x652) (dv_eq e653) ?_
                refine lv_iconst (v := 5) hx hb dL_drawn_246 (by decide) ?_
                obtain ⟨x654, e655, hF⟩ := mp_o hF
                refine lv_irem hx hb dL_drawn_247 (rm_ne e655) ?_
                refine my_topi (y := x654) (rm_eq e655) ?_
                refine lv_iadd hx hb dL_drawn_248 ?_
                refine lv_icmp_ge (tgt := 274) hx hb dL_drawn_249 (by decide) (fun c656 => ?_) (fun c656 => ?_)
                · skip
                  rw [if_pos c656] at hF
                  obtain ⟨ht9, hn9, hs9, hE9⟩ := mr_o hF
                  subst hn9 hs9 hE9
                  subst ht9
                  have hl := lv_sub (l' := [(11, .int y646), (10, .ref q435), (9, .int x429), (8, .int x423), (7, .int y417), (6, .int x174), (5, .ref q157), (4, .int x13), (3, .ref q5), (0, .ref Aa1), (1, .int a2), (2, .ref Aa3)]) hl [0, 1, 2, 3, 4, 5, 6, 7, 8, 9, 10, 11] rfl
                  exact kx449 _ _ _ _ hX hr647 hr648 hr649 hr650 hr651 hP hD hS hl
                · skip
                  rw [if_neg c656] at hF
                  refine lv_aload hx hb dL_drawn_252 (lv_at hl 1 rfl) ?_
                  refine lv_iload hx hb dL_drawn_254 (lv_at hl 3 rfl) ?_
                  refine lv_bipush (v := 64) hx hb dL_drawn_256 (by decide) ?_
                  obtain ⟨x657, e658, hF⟩ := mp_o hF
                  refine lv_idiv hx hb dL_drawn_258 (dv_ne e658) ?_
                  refine my_topi (y := x657) (dv_eq e658) ?_
                  refine lv_iload hx hb dL_drawn_259 (lv_at hl 0 rfl) ?_
                  refine lv_ishr hx hb dL_drawn_261 ?_
                  refine lv_iconst (v := 1) hx hb dL_drawn_262 (by decide) ?_
                  refine lv_iand hx hb dL_drawn_263 ?_
                  obtain ⟨fs9, e659, hF⟩ := mg_o hF
                  obtain ⟨x660, n662, s663, E664, e661, hF⟩ := mb_o hF
                  have hm := mle e661
                  have hM1 := mle1 hF
                  have hM2 := mle2 hF
                  have hm1 := hm.1
                  have hm2 := hm.2.1
                  have hFc := my_free hD hS hA
                  refine va_callr (va_runV (C := RJ4) (As := [.int ((x657 >>> (y646 &&& 31)) &&& 1)]) (rest := []) ⟨hx, hb, hml, hown, hts⟩ (h_J4_append_bf812 l dC dI cy nb ad642 n643 s644 E645 hC (x434) q435 hr647 (((x657 >>> (y646 &&& 31)) &&& 1)) H.size x660 n662 s663 E664 e661) (cwV 1 hts (gV mw_735 mw_736 mw_737 mw_8 mw_738) rfl rfl rfl (by decide +kernel) ⟨Nat.le_of_ble_eq_true rfl, Nat.le_of_ble_eq_true rfl⟩) (hl_preV hP hK hD hE hS hFc (va_recv hK (rdO_ hP hC hr647 e659) (ci := 1) (q0 := 0) rfl rfl)) rfl rfl hl.1 rfl (lv_room (Nat.le_of_ble_eq_true rfl)) dL_drawn_264 ⟨show n643 - n0 + (n662 - n643) ≤ nz - n0 by omega, show s644 - s0 + (s663 - s644) ≤ sz9 - s0 by omega⟩) hS (fun q _ h => hFc q h) hFc (fun u ra t H1 locs ht hvm hw hB hz1 hk1 hS => ?_)
                  obtain ⟨ad665, hax, hr666, hP1, hD1⟩ := hB
                  rw [ht] at hP1
                  have hP := hP1
                  have hD := hD1.weaken (fun k q _ h => hFc q.1 h)
                  generalize H1 = H at hP hS ⊢
                  have hr647 := hr647.mv hC.1 hax
                  have hr648 := hr648.mv hC.1 hax
                  have hr649 := hr649.mv hC.1 hax
                  have hr650 := hr650.mv hC.1 hax
                  have hr651 := hr651.mv hC.1 hax
                  have hX := hX.trans hax
                  have hC := hm.2.2 hC
                  have hN : n0 ≤ n662 := Nat.le_trans hN hm1
                  have hT : s0 ≤ s663 := Nat.le_trans hT hm2
                  refine W.widen (k := n662 - n0) (n := s663 - s0) (by omega) (by omega) ?_
                  clear hP1 hD1 hFc hk1 hz1 hvm ht hax hm hm1 hm2 hM1 hM2
                  refine my_top (y := .ref (AD nb ad665 x660)) (congrArg Value.ref hr666.2.symm) ?_
                  have hr666 := rf_self hr666
                  refine lv_pop hx hb dL_drawn_267 rfl ?_
                  refine lv_iinc (v := (y646 + 1)) (lv' := [(11, .int (y646 + 1)), (10, .ref q435), (9, .int x429), (8, .int x423), (7, .int y417), (6, .int x174), (5, .ref q157), (4, .int x13), (3, .ref q5), (0, .ref Aa1), (1, .int a2), (2, .ref Aa3)]) hx hb dL_drawn_268 hl (k := 0) rfl (by rfl) (by decide) rfl (fun ls hl => ?_)
                  refine lv_goto (tgt := 238) hx hb dL_drawn_271 (by decide) ?_
                  have hl := lv_sub (l' := [(11, .int (y646 + 1)), (10, .ref q435), (9, .int x429), (8, .int x423), (7, .int y417), (6, .int x174), (5, .ref q157), (4, .int x13), (3, .ref q5), (0, .ref Aa1), (1, .int a2), (2, .ref Aa3)]) hl [0, 1, 2, 3, 4, 5, 6, 7, 8, 9, 10, 11] rfl
                  exact ih _ _ _ _ hF hC hN hT _ _ _ _ hX hr647 hr648 hr649 hr650 hr651 hP hD hS hl
            have hl := lv_sub (l' := [(11, .int 0), (10, .ref q435), (9, .int x429), (8, .int x423), (7, .int y417), (6, .int x174), (5, .ref q157), (4, .int x13), (3, .ref q5), (0, .ref Aa1), (1, .int a2), (2, .ref Aa3)]) hl [0, 1, 2, 3, 4, 5, 6, 7, 8, 9, 10, 11] rfl
            exact loop640 FUEL _ _ _ _ hL444 hC hN hT _ _ _ _ hX hr437 hr418 hr419 hr420 hr421 hP hD hS hl
      have hl := lv_sub (l' := [(7, .int 0), (6, .int x174), (5, .ref q157), (4, .int x13), (3, .ref q5), (0, .ref Aa1), (1, .int a2), (2, .ref Aa3)]) hl [0, 1, 2, 3, 4, 5, 6, 7] rfl
      exact loop411 FUEL _ _ _ _ hL177 hC hN hT _ _ _ _ hX hr159 hr50 hr51 hr52 hP hD hS hl
    have hK668 := mle1 hF
    have hK669 := mle2 hF
    clear hF hm
    have hF := hJ44
    clear hJ44
    refine lv_if_ne (tgt := 63) hx hb dL_drawn_50 (by decide) (fun c42 => ?_) (fun c42 => ?_)
    · skip
      rw [if_neg c42] at hF
      refine lv_bipush (v := 10) hx hb dL_drawn_63 (by decide) ?_
      refine lv_iload hx hb dL_drawn_65 (lv_at hl 0 rfl) ?_
      refine lv_bipush (v := 64) hx hb dL_drawn_67 (by decide) ?_
      obtain ⟨x670, e671, hF⟩ := mp_o hF
      refine lv_idiv hx hb dL_drawn_69 (dv_ne e671) ?_
      refine my_topi (y := x670) (dv_eq e671) ?_
      refine lv_bipush (v := 40) hx hb dL_drawn_70 (by decide) ?_
      obtain ⟨x672, e673, hF⟩ := mp_o hF
      refine lv_irem hx hb dL_drawn_72 (rm_ne e673) ?_
      refine my_topi (y := x672) (rm_eq e673) ?_
      refine lv_iadd hx hb dL_drawn_73 ?_
      obtain ⟨ht9, hn9, hs9, hE9⟩ := mr_o hF
      subst ht9 hn9 hs9 hE9
      have hl := lv_sub (l' := [(4, .int x13), (3, .ref q5), (0, .ref Aa1), (1, .int a2), (2, .ref Aa3)]) hl [0, 1, 2, 3, 4] rfl
      exact join49 _ _ _ _ hX hr31 hr32 hr33 hP hD hS hl
    · skip
      rw [if_pos c42] at hF
      refine lv_iload hx hb dL_drawn_53 (lv_at hl 0 rfl) ?_
      refine lv_bipush (v := 64) hx hb dL_drawn_55 (by decide) ?_
      obtain ⟨x674, e675, hF⟩ := mp_o hF
      refine lv_idiv hx hb dL_drawn_57 (dv_ne e675) ?_
      refine my_topi (y := x674) (dv_eq e675) ?_
      refine lv_iconst (v := 5) hx hb dL_drawn_58 (by decide) ?_
      obtain ⟨x676, e677, hF⟩ := mp_o hF
      refine lv_irem hx hb dL_drawn_59 (rm_ne e677) ?_
      refine my_topi (y := x676) (rm_eq e677) ?_
      refine lv_goto (tgt := 74) hx hb dL_drawn_60 (by decide) ?_
      obtain ⟨ht9, hn9, hs9, hE9⟩ := mr_o hF
      subst ht9 hn9 hs9 hE9
      have hl := lv_sub (l' := [(4, .int x13), (3, .ref q5), (0, .ref Aa1), (1, .int a2), (2, .ref Aa3)]) hl [0, 1, 2, 3, 4] rfl
      exact join49 _ _ _ _ hX hr31 hr32 hr33 hP hD hS hl
  have hK678 := mle1 hF
  have hK679 := mle2 hF
  clear hF hm
  have hF := hJ25
  clear hJ25
  refine lv_if_ne (tgt := 34) hx hb dL_drawn_26 (by decide) (fun c23 => ?_) (fun c23 => ?_)
  · skip
    rw [if_neg c23] at hF
    refine lv_sipush (v := 200) hx hb dL_drawn_34 (by decide) ?_
    obtain ⟨ht9, hn9, hs9, hE9⟩ := mr_o hF
    subst ht9 hn9 hs9 hE9
    have hl := lv_sub (l' := [(4, .int x13), (3, .ref q5), (0, .ref Aa1), (1, .int a2), (2, .ref Aa3)]) hl [0, 1, 2, 3, 4] rfl
    exact join30 _ _ _ _ hX hr7 ha1 ha3 hP hD hS hl
  · skip
    rw [if_pos c23] at hF
    refine lv_bipush (v := 20) hx hb dL_drawn_29 (by decide) ?_
    refine lv_goto (tgt := 37) hx hb dL_drawn_31 (by decide) ?_
    obtain ⟨ht9, hn9, hs9, hE9⟩ := mr_o hF
    subst ht9 hn9 hs9 hE9
    have hl := lv_sub (l' := [(4, .int x13), (3, .ref q5), (0, .ref Aa1), (1, .int a2), (2, .ref Aa3)]) hl [0, 1, 2, 3, 4] rfl
    exact join30 _ _ _ _ hX hr7 ha1 ha3 hP hD hS hl
