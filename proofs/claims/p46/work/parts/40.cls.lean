noncomputable def C_J7_checkLength_df160 (a1 : Int32) (a2 : Int32) : Option (Unit) := if a1 ≤ a2 then (some ()) else (none)
set_option maxHeartbeats 4000000 in
set_option maxRecDepth 100000 in
theorem c_J7_checkLength_df160 (l : Launch) (dC : Nat → ClassId) (dI : Nat → Nat → Nat) (cy : Nat → ClassId) (nb : Nat → Nat)  (a1 : Int32) (a2 : Int32)  (sz : Nat) (hF : C_J7_checkLength_df160 a1 a2 = some ()) : Met l yJ7_checkLength_df160 (wsg yJ7_checkLength_df160 cJ7_checkLength_df160 2 none) ({ frames := 7, cells := 0, slots := 0, locals := 200 }) (va_Pc [.int a1, .int a2] (fun U => U.heap.size = sz ∧ va_P (dC, dI) vwCl ([] : va_W) U.heap ∧ va_K (dC, dI) vwCl (tyL cy) U ∧ va_D (fun _ => True) ([] : va_W) ∧ GE nb (va_A ([] : va_W) sz) U)) (va_Qv (fun (_ : Unit) => True) (fun _ t => va_P (dC, dI) vwCl ([] : va_W) t.heap ∧ va_D (va_A ([] : va_W) sz) ([] : va_W)) (va_A ([] : va_W) sz)) 0 0 (va_A ([] : va_W) sz) := by
  refine Met.ofW (cc := cJ7_checkLength_df160) (maxL := 2) (ret := none) pn_J7 rfl ?_
  intro p e s m args below meth c s₁ B hml hv
  obtain ⟨rfl, hsz, hP, hK, hD0, hE⟩ := hv
  have hx := B.exec
  have hb := B.bytes
  have hr := B.returns
  have hts0 := atoms_spec (ws := (wsg yJ7_checkLength_df160 cJ7_checkLength_df160 2 none)) B.pre
  have hts : ∀ w ∈ wsL_law, w.before _ s = true := fun w h => hts0 w (List.mem_cons_of_mem _ h)
  have hown : s.vm.findClass RJ7 = some m.cls := by have h9 := findClass_of_methodNamed B.named; exact h9
  have hlocks := B.notSynchronized
  subst hsz
  have hD := hD0.self (sz := s.heap.size)
  generalize hAe : va_A ([] : va_W) s.heap.size = A at hD hE ⊢
  have hA : ∀ q : Nat, s.heap.size ≤ q → A q := fun q h => by rw [← hAe]; exact Or.inr h
  have hS : va_S A s.heap s.heap [] := va_S.rf
  have hl := lv_entry ([.int a1, .int a2]) (n := 2) (Nat.le_of_ble_eq_true rfl)
  rw [lg_entry_eq]
  generalize (lg_sl ([.int a1, .int a2]) ++ List.replicate (2 - (lg_sl ([.int a1, .int a2])).length) Slot.unset).toArray = ls at hl ⊢
  have hl : lv_has ls 2 [(0, .int a1), (1, .int a2)] := hl
  generalize hHe : s.heap = H at hP hS ⊢
  have hS : va_S A s.heap H [] := by rw [hHe]; exact hS
  refine my_Q (fun Qn hQ => ?_)
  simp only [C_J7_checkLength_df160] at hF
  refine lv_iload_n hx hb dJ7_checkLength_df160_0 rfl (lv_at hl 1 rfl) ?_
  refine lv_iload_n hx hb dJ7_checkLength_df160_1 rfl (lv_at hl 0 rfl) ?_
  refine lv_icmp_ge (tgt := 37) hx hb dJ7_checkLength_df160_2 (by decide) (fun c1 => ?_) (fun c1 => ?_)
  · rw [if_pos c1] at hF
    have hZ := s1 hF
    have hP9 := hP
    have hD9 := hD
    rw [hQ]
    exact W.vret hx hb hr (fun t ht hW => ⟨⟨(), rfl, trivial, by rw [ht]; exact hP9, hD9⟩, hS.F ht⟩) hS.2.2 dJ7_checkLength_df160_37
  · rw [if_neg c1] at hF
    cases hF
noncomputable def C_J7_copyOfRangeByte_39247_tb (g : CG) (u0 : RS) (a2 : Int32) (a3 : Int32) : Option (Int32 × CG × RS) := (C_J7_checkLength_df160 (a2) (a3)).bind fun u1 => (al g u0 (a3 - a2)).bind fun x3 => (some (ga g)).bind fun g11 => (some (ut g u0 (a3 - a2))).bind fun u9 => (cpo 600 (u9 (500 + (x3).toNatClampNeg) 0).toNatClampNeg (u9 3) true a2 (0) (if (a3 - a2) < (600 - a2) then (a3 - a2) else (600 - a2))).bind fun n13 => (some (cpR u9 (500 + (x3).toNatClampNeg) (1 + ((0) : Int32).toNatClampNeg) (u9 3) (a2 : Int32).toNatClampNeg n13)).bind fun u15 => some ((x3), g11, u15)
set_option maxHeartbeats 4000000 in
set_option maxRecDepth 100000 in
theorem c_J7_copyOfRangeByte_39247_tb (l : Launch) (dC : Nat → ClassId) (dI : Nat → Nat → Nat) (cy : Nat → ClassId) (nb : Nat → Nat) (ad : CK → Nat) (ks : List CK) (g : CG) (hk : GA nb ad g ks) (u0 : RS) (a2 : Int32) (a3 : Int32) (ro : Int32) (gz : CG) (uz : RS) (sz : Nat) (hF : C_J7_copyOfRangeByte_39247_tb g u0 a2 a3 = some (ro, gz, uz)) : Met l yJ7_copyOfRangeByte_39247 (wsg yJ7_copyOfRangeByte_39247 cJ7_copyOfRangeByte_39247 5 (some (.array .byte))) ({ frames := 8, cells := 1, slots := 16, locals := 300 }) (va_Pc [.ref (ad .tb), .int a2, .int a3] (fun U => U.heap.size = sz ∧ va_P (dC, dI) vwCl (WC cy ad ks g u0) U.heap ∧ va_K (dC, dI) vwCl (tyL cy) U ∧ va_D (fun _ => True) (WC cy ad ks g u0) ∧ GE nb (va_A (WC cy ad ks g u0) sz) U)) (va_Qr (fun (_ : Unit) => True) (fun _ ra t => ∃ (ad' : CK → Nat) (ks' : List CK), ra = ad' (.tx ro.toNatClampNeg) ∧ GA nb ad' gz ks' ∧ AX g ad gz ad' ∧ va_P (dC, dI) vwCl (WC cy ad' ks' gz uz) t.heap ∧ va_D (va_A (WC cy ad ks g u0) sz) (WC cy ad' ks' gz uz)) (va_A (WC cy ad ks g u0) sz)) 1 16 (va_A (WC cy ad ks g u0) sz) := by
  refine Met.ofW (cc := cJ7_copyOfRangeByte_39247) (maxL := 5) (ret := (some (.array .byte))) pn_J7 rfl ?_
  intro p e s m args below meth c s₁ B hml hv
  obtain ⟨rfl, hsz, hP, hK, hD0, hE⟩ := hv
  have hx := B.exec
  have hb := B.bytes
  have hr := B.returns
  have hts0 := atoms_spec (ws := (wsg yJ7_copyOfRangeByte_39247 cJ7_copyOfRangeByte_39247 5 (some (.array .byte)))) B.pre
  have hts : ∀ w ∈ wsL_law, w.before _ s = true := fun w h => hts0 w (List.mem_cons_of_mem _ h)
  have hown : s.vm.findClass RJ7 = some m.cls := by have h9 := findClass_of_methodNamed B.named; exact h9
  have hlocks := B.notSynchronized
  subst hsz
  have hD := hD0.self (sz := s.heap.size)
  generalize hAe : va_A (WC cy ad ks g u0) s.heap.size = A at hD hE ⊢
  have hA : ∀ q : Nat, s.heap.size ≤ q → A q := fun q h => by rw [← hAe]; exact Or.inr h
  have hS : va_S A s.heap s.heap [] := va_S.rf
  have hl := lv_entry ([.ref (ad .tb), .int a2, .int a3]) (n := 5) (Nat.le_of_ble_eq_true rfl)
  rw [lg_entry_eq]
  generalize (lg_sl ([.ref (ad .tb), .int a2, .int a3]) ++ List.replicate (5 - (lg_sl ([.ref (ad .tb), .int a2, .int a3])).length) Slot.unset).toArray = ls at hl ⊢
  have hl : lv_has ls 5 [(0, .ref (ad .tb)), (1, .int a2), (2, .int a3)] := hl
  generalize hHe : s.heap = H at hP hS ⊢
  have hS : va_S A s.heap H [] := by rw [hHe]; exact hS
  refine my_Q (fun Qn hQ => ?_)
  simp only [C_J7_copyOfRangeByte_39247_tb] at hF
  refine lv_iload_n hx hb dJ7_copyOfRangeByte_39247_0 rfl (lv_at hl 1 rfl) ?_
  refine lv_iload_n hx hb dJ7_copyOfRangeByte_39247_1 rfl (lv_at hl 2 rfl) ?_
  obtain ⟨u1, e2, hF⟩ := ob hF
  have hPc : va_P (dC, dI) vwCl ([] : va_W) H := fun k q h => by simp at h
  have hDc : va_D A ([] : va_W) := ⟨fun i j p q h => by simp at h, fun k q h => by simp at h⟩
  have hFc := my_free0 hS hA
  refine va_callv (va_runS (As := [.int a2, .int a3]) (rest := []) ⟨hx, hb, hml, hown, hts⟩ (c_J7_checkLength_df160 l dC dI cy nb (a2) (a3) H.size e2) (va_cwS 2 hts (gS mw_354 mw_355 mw_91 mw_356) rfl rfl rfl (by decide +kernel) ⟨Nat.le_of_ble_eq_true rfl, Nat.le_of_ble_eq_true rfl⟩) (my_preS hPc hK hDc hE hS hFc) rfl rfl hl.1 rfl (lv_room (Nat.le_of_ble_eq_true rfl)) dJ7_copyOfRangeByte_39247_2 ⟨Nat.le_of_ble_eq_true rfl, Nat.le_of_ble_eq_true rfl⟩) hS (fun q _ h => hFc q h) hFc (fun u t H1 locs ht hvm hw hB hz1 hk1 hS => ?_)
  obtain ⟨hP1, hD1⟩ := hB
  rw [ht] at hP1
  have hP := my_keep hP hk1
  generalize H1 = H at hP hS ⊢
  clear hP1 hD1 hPc hDc hFc hk1 hz1 hvm ht
  refine lv_iload_n hx hb dJ7_copyOfRangeByte_39247_5 rfl (lv_at hl 2 rfl) ?_
  refine lv_iload_n hx hb dJ7_copyOfRangeByte_39247_6 rfl (lv_at hl 1 rfl) ?_
  refine lv_isub hx hb dJ7_copyOfRangeByte_39247_7 ?_
  refine lv_istore_n (lv' := [(3, .int (a3 - a2)), (0, .ref (ad .tb)), (1, .int a2), (2, .int a3)]) hx hb dJ7_copyOfRangeByte_39247_8 rfl hl (by decide) rfl (fun ls hl => ?_)
  refine lv_iload_n hx hb dJ7_copyOfRangeByte_39247_9 rfl (lv_at hl 0 rfl) ?_
  obtain ⟨x3, e4, hF⟩ := ob hF
  refine va_newa (atype := .byte) (ty := .byte) (N' := ((a3 - a2)).toNatClampNeg) (a0 := (((a3 - a2)).toNatClampNeg, .inl (fun _ => 0))) hx hb (hts _ mw_24) rfl hK hP hD hS hA (fun _ => rfl) (nn_of (al_s e4).1.1.1) rfl (show ((a3 - a2)).toNatClampNeg * 1 ≤ 536870912 by have := al_le e4; omega) (Nat.le_of_ble_eq_true rfl) (show 0 + ((a3 - a2)).toNatClampNeg ≤ 16 by have := al_le e4; omega) dJ7_copyOfRangeByte_39247_10 (fun q9 cA H hK9 hP hD hS => ?_)
  have hcA := my_cA hK9 hK 0 rfl
  subst hcA
  clear hK9
  refine W.widen (k := 1) (n := 16) (by omega) (by have := al_le e4; omega) ?_
  rw [wc_newt hk.1 e4] at hP hD
  have hk7 := ga_new (q := q9) hk
  have ax8 := ax_new (ad := ad) (g := g) (q := q9)
  have hq9 : adp ad (.tx (g.nt + 1)) q9 (.tx (x3).toNatClampNeg) = q9 := by rw [al_k e4]; exact if_pos rfl
  have hm9 : has (ga g) (.tx (x3).toNatClampNeg) := by rw [al_k e4]; exact ⟨by omega, Nat.le_refl _⟩
  generalize adp ad (.tx (g.nt + 1)) q9 = ad5 at hP hD hk7 ax8 hq9
  generalize ks ++ [CK.tx (g.nt + 1)] = ks6 at hP hD hk7
  obtain ⟨g11, e12, hF⟩ := ob hF
  obtain ⟨u9, e10, hF⟩ := ob hF
  rw [s1 e10, s1 e12] at hP hD
  rw [s1 e12] at hk7 ax8 hm9
  have hl : lv_has ls 5 [(3, .int (a3 - a2)), (0, .ref (ad5 .tb)), (1, .int a2), (2, .int a3)] := by rw [(ax8 .tb True.intro).2]; exact hl
  refine my_top (y := .ref (ad5 (.tx (x3).toNatClampNeg))) (congrArg Value.ref hq9.symm) ?_
  refine lv_astore (lv' := [(4, .ref (ad5 (.tx (x3).toNatClampNeg))), (3, .int (a3 - a2)), (0, .ref (ad5 .tb)), (1, .int a2), (2, .int a3)]) hx hb dJ7_copyOfRangeByte_39247_12 hl (by decide) rfl (fun ls hl => ?_)
  refine lv_aload_n hx hb dJ7_copyOfRangeByte_39247_14 rfl (lv_at hl 2 rfl) ?_
  refine lv_iload_n hx hb dJ7_copyOfRangeByte_39247_15 rfl (lv_at hl 3 rfl) ?_
  refine lv_aload hx hb dJ7_copyOfRangeByte_39247_16 (lv_at hl 0 rfl) ?_
  refine lv_iconst (v := 0) hx hb dJ7_copyOfRangeByte_39247_18 (by decide) ?_
  refine lv_aload_n hx hb dJ7_copyOfRangeByte_39247_19 rfl (lv_at hl 2 rfl) ?_
  obtain ⟨q9, h9⟩ := wc_at (cy := cy) (ad := ad5) (ks := ks6) (g := g11) (u := u9) (κ := .tb) hk7.1 True.intro
  refine va_alen (v := 600) hx hb hK hP q9 0 h9 rfl rfl dJ7_copyOfRangeByte_39247_20 ?_
  clear h9
  refine lv_iload_n hx hb dJ7_copyOfRangeByte_39247_21 rfl (lv_at hl 3 rfl) ?_
  refine lv_isub hx hb dJ7_copyOfRangeByte_39247_22 ?_
  refine lv_iload_n hx hb dJ7_copyOfRangeByte_39247_23 rfl (lv_at hl 1 rfl) ?_
  refine va_mmin hx hb (hml.trans hl.1.symm) hown (hts _ mw_318) (hts _ mw_233) (hts _ mw_234) (hts _ mw_235) (Nat.le_of_ble_eq_true rfl) (Nat.le_of_ble_eq_true rfl) (Nat.le_of_ble_eq_true rfl) (Nat.le_of_ble_eq_true rfl) dJ7_copyOfRangeByte_39247_24 ?_
  obtain ⟨n13, e14, hF⟩ := ob hF
  obtain ⟨u15, e16, hF⟩ := ob hF
  obtain ⟨⟨⟨c1, c2, c3, c4, c5⟩, c6⟩, c7⟩ := cpo_s e14
  obtain ⟨q9, h9, ez9⟩ := wc_gen (cy := cy) (ad := ad5) (ks := ks6) (g := g11) (u := u9) (u2 := cpR u9 (500 + (x3).toNatClampNeg) (1 + ((0) : Int32).toNatClampNeg) (u9 3) (a2 : Int32).toNatClampNeg n13) (κ := (.tx (x3).toNatClampNeg)) hk7.1 hm9 (cd_tx (hm9).1) sc_tx
  obtain ⟨q7, h7⟩ := wc_at (cy := cy) (ad := ad5) (ks := ks6) (g := g11) (u := u9) (κ := .tb) hk7.1 True.intro
  refine va_copyi hx hb (hml.trans hl.1.symm) hown (hts _ mw_319) (hts _ mw_302) (hts _ mw_303) (hts _ mw_304) hK hP hD hS q7 q9 0 0 h7 h9 rfl rfl rfl (nn_of c1) (nn_of c2) (nn_of c3) c4 c5 (c6 rfl) (Nat.le_of_ble_eq_true rfl) (Nat.le_of_ble_eq_true rfl) dJ7_copyOfRangeByte_39247_27 (fun H locs hP hD hS => ?_)
  rw [c7] at hP hD
  have hP : va_P (dC, dI) vwCl (WC cy ad5 ks6 g11 u15) H := by rw [← s1 e16, ← ez9]; exact hP
  have hD : va_D A (WC cy ad5 ks6 g11 u15) := by rw [← s1 e16, ← ez9]; exact hD
  clear ez9 h9
  clear h7 c1 c2 c3 c4 c5 c6 c7
  refine lv_aload hx hb dJ7_copyOfRangeByte_39247_30 (lv_at hl 0 rfl) ?_
  have hZ := s1 hF
  have zro : (x3) = ro := (congrArg (fun q => q.1) hZ)
  have zgz : g11 = gz := (congrArg (fun q => q.2.1) hZ)
  have zuz : u15 = uz := (congrArg (fun q => q.2.2) hZ)
  have hP9 : va_P (dC, dI) vwCl (WC cy ad5 ks6 gz uz) H := by rw [← zuz, ← zgz]; exact hP
  have hD9 : va_D A (WC cy ad5 ks6 gz uz) := by rw [← zuz, ← zgz]; exact hD
  have hk9 : GA nb ad5 gz ks6 := by rw [← zgz]; exact hk7
  have ax9 : AX g ad gz ad5 := by rw [← zgz]; exact ax8
  refine W.widen (k := 1) (n := 16) (by omega) (by omega) ?_
  rw [hQ]
  exact W.aret (v := .ref (ad5 (.tx (x3).toNatClampNeg))) hx hb hr (by first | exact Or.inl ⟨_, rfl⟩ | exact Or.inr ⟨_, rfl⟩) (Or.inr ⟨_, rfl⟩) (fun t ht hW => ⟨⟨(), (ad5 (.tx (x3).toNatClampNeg)), rfl, trivial, ad5, ks6, (congrArg (fun q => ad5 (.tx (q : Int32).toNatClampNeg)) zro), hk9, ax9, by rw [ht]; exact hP9, hD9⟩, hS.F ht⟩) hS.2.2 dJ7_copyOfRangeByte_39247_32
noncomputable def C_J7_copyOfRange_39247_tb (g : CG) (u0 : RS) (a2 : Int32) (a3 : Int32) : Option (Int32 × CG × RS) := if a2 = 0 then (if a3 = 600 then (none) else ((C_J7_copyOfRangeByte_39247_tb g u0 (a2) (a3)).bind fun t9 => some ((t9.1), (t9.2.1), (t9.2.2)))) else ((C_J7_copyOfRangeByte_39247_tb g u0 (a2) (a3)).bind fun t2 => some ((t2.1), (t2.2.1), (t2.2.2)))
set_option maxHeartbeats 4000000 in
set_option maxRecDepth 100000 in
theorem c_J7_copyOfRange_39247_tb (l : Launch) (dC : Nat → ClassId) (dI : Nat → Nat → Nat) (cy : Nat → ClassId) (nb : Nat → Nat) (ad : CK → Nat) (ks : List CK) (g : CG) (hk : GA nb ad g ks) (u0 : RS) (a2 : Int32) (a3 : Int32) (ro : Int32) (gz : CG) (uz : RS) (sz : Nat) (hF : C_J7_copyOfRange_39247_tb g u0 a2 a3 = some (ro, gz, uz)) : Met l yJ7_copyOfRange_39247 (wsg yJ7_copyOfRange_39247 cJ7_copyOfRange_39247 3 (some (.array .byte))) ({ frames := 9, cells := 1, slots := 16, locals := 400 }) (va_Pc [.ref (ad .tb), .int a2, .int a3] (fun U => U.heap.size = sz ∧ va_P (dC, dI) vwCl (WC cy ad ks g u0) U.heap ∧ va_K (dC, dI) vwCl (tyL cy) U ∧ va_D (fun _ => True) (WC cy ad ks g u0) ∧ GE nb (va_A (WC cy ad ks g u0) sz) U)) (va_Qr (fun (_ : Unit) => True) (fun _ ra t => ∃ (ad' : CK → Nat) (ks' : List CK), ra = ad' (.tx ro.toNatClampNeg) ∧ GA nb ad' gz ks' ∧ AX g ad gz ad' ∧ va_P (dC, dI) vwCl (WC cy ad' ks' gz uz) t.heap ∧ va_D (va_A (WC cy ad ks g u0) sz) (WC cy ad' ks' gz uz)) (va_A (WC cy ad ks g u0) sz)) 1 16 (va_A (WC cy ad ks g u0) sz) := by
  refine Met.ofW (cc := cJ7_copyOfRange_39247) (maxL := 3) (ret := (some (.array .byte))) pn_J7 rfl ?_
  intro p e s m args below meth c s₁ B hml hv
  obtain ⟨rfl, hsz, hP, hK, hD0, hE⟩ := hv
  have hx := B.exec
  have hb := B.bytes
  have hr := B.returns
  have hts0 := atoms_spec (ws := (wsg yJ7_copyOfRange_39247 cJ7_copyOfRange_39247 3 (some (.array .byte)))) B.pre
  have hts : ∀ w ∈ wsL_law, w.before _ s = true := fun w h => hts0 w (List.mem_cons_of_mem _ h)
  have hown : s.vm.findClass RJ7 = some m.cls := by have h9 := findClass_of_methodNamed B.named; exact h9
  have hlocks := B.notSynchronized
  subst hsz
  have hD := hD0.self (sz := s.heap.size)
  generalize hAe : va_A (WC cy ad ks g u0) s.heap.size = A at hD hE ⊢
  have hA : ∀ q : Nat, s.heap.size ≤ q → A q := fun q h => by rw [← hAe]; exact Or.inr h
  have hS : va_S A s.heap s.heap [] := va_S.rf
  have hl := lv_entry ([.ref (ad .tb), .int a2, .int a3]) (n := 3) (Nat.le_of_ble_eq_true rfl)
  rw [lg_entry_eq]
  generalize (lg_sl ([.ref (ad .tb), .int a2, .int a3]) ++ List.replicate (3 - (lg_sl ([.ref (ad .tb), .int a2, .int a3])).length) Slot.unset).toArray = ls at hl ⊢
  have hl : lv_has ls 3 [(0, .ref (ad .tb)), (1, .int a2), (2, .int a3)] := hl
  generalize hHe : s.heap = H at hP hS ⊢
  have hS : va_S A s.heap H [] := by rw [hHe]; exact hS
  refine my_Q (fun Qn hQ => ?_)
  simp only [C_J7_copyOfRange_39247_tb] at hF
  refine lv_iload_n hx hb dJ7_copyOfRange_39247_0 rfl (lv_at hl 1 rfl) ?_
  refine lv_if_ne (tgt := 10) hx hb dJ7_copyOfRange_39247_1 (by decide) (fun c1 => ?_) (fun c1 => ?_)
  · rw [if_neg c1] at hF
    refine lv_aload_n hx hb dJ7_copyOfRange_39247_10 rfl (lv_at hl 0 rfl) ?_
    refine lv_iload_n hx hb dJ7_copyOfRange_39247_11 rfl (lv_at hl 1 rfl) ?_
    refine lv_iload_n hx hb dJ7_copyOfRange_39247_12 rfl (lv_at hl 2 rfl) ?_
    obtain ⟨t2, e3, hF⟩ := ob hF
    have hPc := hP
    have hDc := hD
    have hFc := my_free hD hS hA
    refine va_callr (va_runS (As := [.ref (ad .tb), .int a2, .int a3]) (rest := []) ⟨hx, hb, hml, hown, hts⟩ (c_J7_copyOfRangeByte_39247_tb l dC dI cy nb ad ks g hk u0 (a2) (a3) (t2.1) (t2.2.1) (t2.2.2) H.size e3) (va_cwS 3 hts (gS mw_351 mw_352 mw_91 mw_353) rfl rfl rfl (by decide +kernel) ⟨Nat.le_of_ble_eq_true rfl, Nat.le_of_ble_eq_true rfl⟩) (my_preS hPc hK hDc hE hS hFc) rfl rfl hl.1 rfl (lv_room (Nat.le_of_ble_eq_true rfl)) dJ7_copyOfRange_39247_13 ⟨Nat.le_of_ble_eq_true rfl, Nat.le_of_ble_eq_true rfl⟩) hS (fun q _ h => hFc q h) hFc (fun u ra t H1 locs ht hvm hw hB hz1 hk1 hS => ?_)
    obtain ⟨ad4, ks5, hra, hk6, ax7, hP1, hD1⟩ := hB
    rw [ht] at hP1
    have hP := hP1
    have hD := hD1.weaken (fun k q _ h => hFc q.1 h)
    generalize H1 = H at hP hS ⊢
    have hl : lv_has ls 3 [(0, .ref (ad4 .tb)), (1, .int a2), (2, .int a3)] := by rw [(ax7 .tb True.intro).2]; exact hl
    clear hP1 hD1 hPc hDc hFc hk1 hz1 hvm ht
    obtain rfl := hra.symm
    refine W.widen (k := 1) (n := 16) (by omega) (by omega) ?_
    have hZ := s1 hF
    have zro : (t2.1) = ro := (congrArg (fun q => q.1) hZ)
    have zgz : (t2.2.1) = gz := (congrArg (fun q => q.2.1) hZ)
    have zuz : (t2.2.2) = uz := (congrArg (fun q => q.2.2) hZ)
    have hP9 : va_P (dC, dI) vwCl (WC cy ad4 ks5 gz uz) H := by rw [← zuz, ← zgz]; exact hP
    have hD9 : va_D A (WC cy ad4 ks5 gz uz) := by rw [← zuz, ← zgz]; exact hD
    have hk9 : GA nb ad4 gz ks5 := by rw [← zgz]; exact hk6
    have ax9 : AX g ad gz ad4 := by rw [← zgz]; exact ax7
    refine W.widen (k := 1) (n := 16) (by omega) (by omega) ?_
    rw [hQ]
    exact W.aret (v := .ref (ad4 (.tx (t2.1).toNatClampNeg))) hx hb hr (by first | exact Or.inl ⟨_, rfl⟩ | exact Or.inr ⟨_, rfl⟩) (Or.inr ⟨_, rfl⟩) (fun t ht hW => ⟨⟨(), (ad4 (.tx (t2.1).toNatClampNeg)), rfl, trivial, ad4, ks5, (congrArg (fun q => ad4 (.tx (q : Int32).toNatClampNeg)) zro), hk9, ax9, by rw [ht]; exact hP9, hD9⟩, hS.F ht⟩) hS.2.2 dJ7_copyOfRange_39247_16
  · rw [if_pos c1] at hF
    refine lv_iload_n hx hb dJ7_copyOfRange_39247_4 rfl (lv_at hl 2 rfl) ?_
    refine lv_aload_n hx hb dJ7_copyOfRange_39247_5 rfl (lv_at hl 0 rfl) ?_
    obtain ⟨q9, h9⟩ := wc_at (cy := cy) (ad := ad) (ks := ks) (g := g) (u := u0) (κ := .tb) hk.1 True.intro
    refine va_alen (v := 600) hx hb hK hP q9 0 h9 rfl rfl dJ7_copyOfRange_39247_6 ?_
    clear h9
    refine lv_icmp_eq (tgt := 17) hx hb dJ7_copyOfRange_39247_7 (by decide) (fun c8 => ?_) (fun c8 => ?_)
    · rw [if_pos c8] at hF
      cases hF
    · rw [if_neg c8] at hF
      refine lv_aload_n hx hb dJ7_copyOfRange_39247_10 rfl (lv_at hl 0 rfl) ?_
      refine lv_iload_n hx hb dJ7_copyOfRange_39247_11 rfl (lv_at hl 1 rfl) ?_
      refine lv_iload_n hx hb dJ7_copyOfRange_39247_12 rfl (lv_at hl 2 rfl) ?_
      obtain ⟨t9, e10, hF⟩ := ob hF
      have hPc := hP
      have hDc := hD
      have hFc := my_free hD hS hA
      refine va_callr (va_runS (As := [.ref (ad .tb), .int a2, .int a3]) (rest := []) ⟨hx, hb, hml, hown, hts⟩ (c_J7_copyOfRangeByte_39247_tb l dC dI cy nb ad ks g hk u0 (a2) (a3) (t9.1) (t9.2.1) (t9.2.2) H.size e10) (va_cwS 3 hts (gS mw_351 mw_352 mw_91 mw_353) rfl rfl rfl (by decide +kernel) ⟨Nat.le_of_ble_eq_true rfl, Nat.le_of_ble_eq_true rfl⟩) (my_preS hPc hK hDc hE hS hFc) rfl rfl hl.1 rfl (lv_room (Nat.le_of_ble_eq_true rfl)) dJ7_copyOfRange_39247_13 ⟨Nat.le_of_ble_eq_true rfl, Nat.le_of_ble_eq_true rfl⟩) hS (fun q _ h => hFc q h) hFc (fun u ra t H1 locs ht hvm hw hB hz1 hk1 hS => ?_)
      obtain ⟨ad11, ks12, hra, hk13, ax14, hP1, hD1⟩ := hB
      rw [ht] at hP1
      have hP := hP1
      have hD := hD1.weaken (fun k q _ h => hFc q.1 h)
      generalize H1 = H at hP hS ⊢
      have hl : lv_has ls 3 [(0, .ref (ad11 .tb)), (1, .int a2), (2, .int a3)] := by rw [(ax14 .tb True.intro).2]; exact hl
      clear hP1 hD1 hPc hDc hFc hk1 hz1 hvm ht
      obtain rfl := hra.symm
      refine W.widen (k := 1) (n := 16) (by omega) (by omega) ?_
      have hZ := s1 hF
      have zro : (t9.1) = ro := (congrArg (fun q => q.1) hZ)
      have zgz : (t9.2.1) = gz := (congrArg (fun q => q.2.1) hZ)
      have zuz : (t9.2.2) = uz := (congrArg (fun q => q.2.2) hZ)
      have hP9 : va_P (dC, dI) vwCl (WC cy ad11 ks12 gz uz) H := by rw [← zuz, ← zgz]; exact hP
      have hD9 : va_D A (WC cy ad11 ks12 gz uz) := by rw [← zuz, ← zgz]; exact hD
      have hk9 : GA nb ad11 gz ks12 := by rw [← zgz]; exact hk13
      have ax9 : AX g ad gz ad11 := by rw [← zgz]; exact ax14
      refine W.widen (k := 1) (n := 16) (by omega) (by omega) ?_
      rw [hQ]
      exact W.aret (v := .ref (ad11 (.tx (t9.1).toNatClampNeg))) hx hb hr (by first | exact Or.inl ⟨_, rfl⟩ | exact Or.inr ⟨_, rfl⟩) (Or.inr ⟨_, rfl⟩) (fun t ht hW => ⟨⟨(), (ad11 (.tx (t9.1).toNatClampNeg)), rfl, trivial, ad11, ks12, (congrArg (fun q => ad11 (.tx (q : Int32).toNatClampNeg)) zro), hk9, ax9, by rw [ht]; exact hP9, hD9⟩, hS.F ht⟩) hS.2.2 dJ7_copyOfRange_39247_16
noncomputable def C_J7_copyOf_9075b_le (g : CG) (u0 : RS) (a2 : Int32) : Option (Int32 × CG × RS) := if a2 = 64 then (none) else ((al g u0 a2).bind fun x2 => (some (ga g)).bind fun g10 => (some (ut g u0 a2)).bind fun u8 => (cpo 64 (u8 (500 + (x2).toNatClampNeg) 0).toNatClampNeg (u8 4) true (0) (0) (if a2 < (64 : Int32) then a2 else (64 : Int32))).bind fun n12 => (some (cpR u8 (500 + (x2).toNatClampNeg) (1 + ((0) : Int32).toNatClampNeg) (u8 4) ((0) : Int32).toNatClampNeg n12)).bind fun u14 => some ((x2), g10, u14))
set_option maxHeartbeats 4000000 in
set_option maxRecDepth 100000 in
theorem c_J7_copyOf_9075b_le (l : Launch) (dC : Nat → ClassId) (dI : Nat → Nat → Nat) (cy : Nat → ClassId) (nb : Nat → Nat) (ad : CK → Nat) (ks : List CK) (g : CG) (hk : GA nb ad g ks) (u0 : RS) (a2 : Int32) (ro : Int32) (gz : CG) (uz : RS) (sz : Nat) (hF : C_J7_copyOf_9075b_le g u0 a2 = some (ro, gz, uz)) : Met l yJ7_copyOf_9075b (wsg yJ7_copyOf_9075b cJ7_copyOf_9075b 3 (some (.array .byte))) ({ frames := 7, cells := 1, slots := 16, locals := 200 }) (va_Pc [.ref (ad .le), .int a2] (fun U => U.heap.size = sz ∧ va_P (dC, dI) vwCl (WC cy ad ks g u0) U.heap ∧ va_K (dC, dI) vwCl (tyL cy) U ∧ va_D (fun _ => True) (WC cy ad ks g u0) ∧ GE nb (va_A (WC cy ad ks g u0) sz) U)) (va_Qr (fun (_ : Unit) => True) (fun _ ra t => ∃ (ad' : CK → Nat) (ks' : List CK), ra = ad' (.tx ro.toNatClampNeg) ∧ GA nb ad' gz ks' ∧ AX g ad gz ad' ∧ va_P (dC, dI) vwCl (WC cy ad' ks' gz uz) t.heap ∧ va_D (va_A (WC cy ad ks g u0) sz) (WC cy ad' ks' gz uz)) (va_A (WC cy ad ks g u0) sz)) 1 16 (va_A (WC cy ad ks g u0) sz) := by
  refine Met.ofW (cc := cJ7_copyOf_9075b) (maxL := 3) (ret := (some (.array .byte))) pn_J7 rfl ?_
  intro p e s m args below meth c s₁ B hml hv
  obtain ⟨rfl, hsz, hP, hK, hD0, hE⟩ := hv
  have hx := B.exec
  have hb := B.bytes
  have hr := B.returns
  have hts0 := atoms_spec (ws := (wsg yJ7_copyOf_9075b cJ7_copyOf_9075b 3 (some (.array .byte)))) B.pre
  have hts : ∀ w ∈ wsL_law, w.before _ s = true := fun w h => hts0 w (List.mem_cons_of_mem _ h)
  have hown : s.vm.findClass RJ7 = some m.cls := by have h9 := findClass_of_methodNamed B.named; exact h9
  have hlocks := B.notSynchronized
  subst hsz
  have hD := hD0.self (sz := s.heap.size)
  generalize hAe : va_A (WC cy ad ks g u0) s.heap.size = A at hD hE ⊢
  have hA : ∀ q : Nat, s.heap.size ≤ q → A q := fun q h => by rw [← hAe]; exact Or.inr h
  have hS : va_S A s.heap s.heap [] := va_S.rf
  have hl := lv_entry ([.ref (ad .le), .int a2]) (n := 3) (Nat.le_of_ble_eq_true rfl)
  rw [lg_entry_eq]
  generalize (lg_sl ([.ref (ad .le), .int a2]) ++ List.replicate (3 - (lg_sl ([.ref (ad .le), .int a2])).length) Slot.unset).toArray = ls at hl ⊢
  have hl : lv_has ls 3 [(0, .ref (ad .le)), (1, .int a2)] := hl
  generalize hHe : s.heap = H at hP hS ⊢
  have hS : va_S A s.heap H [] := by rw [hHe]; exact hS
  refine my_Q (fun Qn hQ => ?_)
  simp only [C_J7_copyOf_9075b_le] at hF
  refine lv_iload_n hx hb dJ7_copyOf_9075b_0 rfl (lv_at hl 1 rfl) ?_
  refine lv_aload_n hx hb dJ7_copyOf_9075b_1 rfl (lv_at hl 0 rfl) ?_
  obtain ⟨q9, h9⟩ := wc_at (cy := cy) (ad := ad) (ks := ks) (g := g) (u := u0) (κ := .le) hk.1 True.intro
  refine va_alen (v := 64) hx hb hK hP q9 0 h9 rfl rfl dJ7_copyOf_9075b_2 ?_
  clear h9
  refine lv_icmp_ne (tgt := 14) hx hb dJ7_copyOf_9075b_3 (by decide) (fun c1 => ?_) (fun c1 => ?_)
  · rw [if_neg c1] at hF
    refine lv_iload_n hx hb dJ7_copyOf_9075b_14 rfl (lv_at hl 1 rfl) ?_
    obtain ⟨x2, e3, hF⟩ := ob hF
    refine va_newa (atype := .byte) (ty := .byte) (N' := (a2).toNatClampNeg) (a0 := ((a2).toNatClampNeg, .inl (fun _ => 0))) hx hb (hts _ mw_24) rfl hK hP hD hS hA (fun _ => rfl) (nn_of (al_s e3).1.1.1) rfl (show (a2).toNatClampNeg * 1 ≤ 536870912 by have := al_le e3; omega) (Nat.le_of_ble_eq_true rfl) (show 0 + (a2).toNatClampNeg ≤ 16 by have := al_le e3; omega) dJ7_copyOf_9075b_15 (fun q9 cA H hK9 hP hD hS => ?_)
    have hcA := my_cA hK9 hK 0 rfl
    subst hcA
    clear hK9
    refine W.widen (k := 1) (n := 16) (by omega) (by have := al_le e3; omega) ?_
    rw [wc_newt hk.1 e3] at hP hD
    have hk6 := ga_new (q := q9) hk
    have ax7 := ax_new (ad := ad) (g := g) (q := q9)
    have hq9 : adp ad (.tx (g.nt + 1)) q9 (.tx (x2).toNatClampNeg) = q9 := by rw [al_k e3]; exact if_pos rfl
    have hm9 : has (ga g) (.tx (x2).toNatClampNeg) := by rw [al_k e3]; exact ⟨by omega, Nat.le_refl _⟩
    generalize adp ad (.tx (g.nt + 1)) q9 = ad4 at hP hD hk6 ax7 hq9
    generalize ks ++ [CK.tx (g.nt + 1)] = ks5 at hP hD hk6
    obtain ⟨g10, e11, hF⟩ := ob hF
    obtain ⟨u8, e9, hF⟩ := ob hF
    rw [s1 e9, s1 e11] at hP hD
    rw [s1 e11] at hk6 ax7 hm9
    have hl : lv_has ls 3 [(0, .ref (ad4 .le)), (1, .int a2)] := by rw [(ax7 .le True.intro).2]; exact hl
    refine my_top (y := .ref (ad4 (.tx (x2).toNatClampNeg))) (congrArg Value.ref hq9.symm) ?_
    refine lv_astore_n (lv' := [(2, .ref (ad4 (.tx (x2).toNatClampNeg))), (0, .ref (ad4 .le)), (1, .int a2)]) hx hb dJ7_copyOf_9075b_17 rfl hl (by decide) rfl (fun ls hl => ?_)
    refine lv_aload_n hx hb dJ7_copyOf_9075b_18 rfl (lv_at hl 1 rfl) ?_
    refine lv_iconst (v := 0) hx hb dJ7_copyOf_9075b_19 (by decide) ?_
    refine lv_aload_n hx hb dJ7_copyOf_9075b_20 rfl (lv_at hl 0 rfl) ?_
    refine lv_iconst (v := 0) hx hb dJ7_copyOf_9075b_21 (by decide) ?_
    refine lv_aload_n hx hb dJ7_copyOf_9075b_22 rfl (lv_at hl 1 rfl) ?_
    obtain ⟨q9, h9⟩ := wc_at (cy := cy) (ad := ad4) (ks := ks5) (g := g10) (u := u8) (κ := .le) hk6.1 True.intro
    refine va_alen (v := 64) hx hb hK hP q9 0 h9 rfl rfl dJ7_copyOf_9075b_23 ?_
    clear h9
    refine lv_iload_n hx hb dJ7_copyOf_9075b_24 rfl (lv_at hl 2 rfl) ?_
    refine va_mmin hx hb (hml.trans hl.1.symm) hown (hts _ mw_318) (hts _ mw_233) (hts _ mw_234) (hts _ mw_235) (Nat.le_of_ble_eq_true rfl) (Nat.le_of_ble_eq_true rfl) (Nat.le_of_ble_eq_true rfl) (Nat.le_of_ble_eq_true rfl) dJ7_copyOf_9075b_25 ?_
    obtain ⟨n12, e13, hF⟩ := ob hF
    obtain ⟨u14, e15, hF⟩ := ob hF
    obtain ⟨⟨⟨c1, c2, c3, c4, c5⟩, c6⟩, c7⟩ := cpo_s e13
    obtain ⟨q9, h9, ez9⟩ := wc_gen (cy := cy) (ad := ad4) (ks := ks5) (g := g10) (u := u8) (u2 := cpR u8 (500 + (x2).toNatClampNeg) (1 + ((0) : Int32).toNatClampNeg) (u8 4) ((0) : Int32).toNatClampNeg n12) (κ := (.tx (x2).toNatClampNeg)) hk6.1 hm9 (cd_tx (hm9).1) sc_tx
    obtain ⟨q7, h7⟩ := wc_at (cy := cy) (ad := ad4) (ks := ks5) (g := g10) (u := u8) (κ := .le) hk6.1 True.intro
    refine va_copyi hx hb (hml.trans hl.1.symm) hown (hts _ mw_319) (hts _ mw_302) (hts _ mw_303) (hts _ mw_304) hK hP hD hS q7 q9 0 0 h7 h9 rfl rfl rfl (nn_of c1) (nn_of c2) (nn_of c3) c4 c5 (c6 rfl) (Nat.le_of_ble_eq_true rfl) (Nat.le_of_ble_eq_true rfl) dJ7_copyOf_9075b_28 (fun H locs hP hD hS => ?_)
    rw [c7] at hP hD
    have hP : va_P (dC, dI) vwCl (WC cy ad4 ks5 g10 u14) H := by rw [← s1 e15, ← ez9]; exact hP
    have hD : va_D A (WC cy ad4 ks5 g10 u14) := by rw [← s1 e15, ← ez9]; exact hD
    clear ez9 h9
    clear h7 c1 c2 c3 c4 c5 c6 c7
    refine lv_aload_n hx hb dJ7_copyOf_9075b_31 rfl (lv_at hl 0 rfl) ?_
    have hZ := s1 hF
    have zro : (x2) = ro := (congrArg (fun q => q.1) hZ)
    have zgz : g10 = gz := (congrArg (fun q => q.2.1) hZ)
    have zuz : u14 = uz := (congrArg (fun q => q.2.2) hZ)
    have hP9 : va_P (dC, dI) vwCl (WC cy ad4 ks5 gz uz) H := by rw [← zuz, ← zgz]; exact hP
    have hD9 : va_D A (WC cy ad4 ks5 gz uz) := by rw [← zuz, ← zgz]; exact hD
    have hk9 : GA nb ad4 gz ks5 := by rw [← zgz]; exact hk6
    have ax9 : AX g ad gz ad4 := by rw [← zgz]; exact ax7
    refine W.widen (k := 1) (n := 16) (by omega) (by omega) ?_
    rw [hQ]
    exact W.aret (v := .ref (ad4 (.tx (x2).toNatClampNeg))) hx hb hr (by first | exact Or.inl ⟨_, rfl⟩ | exact Or.inr ⟨_, rfl⟩) (Or.inr ⟨_, rfl⟩) (fun t ht hW => ⟨⟨(), (ad4 (.tx (x2).toNatClampNeg)), rfl, trivial, ad4, ks5, (congrArg (fun q => ad4 (.tx (q : Int32).toNatClampNeg)) zro), hk9, ax9, by rw [ht]; exact hP9, hD9⟩, hS.F ht⟩) hS.2.2 dJ7_copyOf_9075b_32
  · rw [if_pos c1] at hF
    cases hF
noncomputable def C_J7_fill_53178_is_L5 (L : Nat) (a2 : Int32) (g : CG) : Nat → Int32 → RS → Option (Int32 × RS)
  | 0, _, _ => none
  | m8 + 1, y1, u2 => if 5 ≤ y1 then (some ((y1, u2))) else ((ws u2 (400 + L) 5 y1 a2).bind fun u10 => C_J7_fill_53178_is_L5 L a2 g m8 ((y1 + 1)) u10)
noncomputable def C_J7_fill_53178_is (g : CG) (u0 : RS) (L : Nat) (a2 : Int32) : Option (RS) := (C_J7_fill_53178_is_L5 L a2 g FUEL (0 : Int32) u0).bind fun t3 => some (t3.2)
set_option maxHeartbeats 4000000 in
set_option maxRecDepth 100000 in
theorem c_J7_fill_53178_is (l : Launch) (dC : Nat → ClassId) (dI : Nat → Nat → Nat) (cy : Nat → ClassId) (nb : Nat → Nat) (ad : CK → Nat) (ks : List CK) (g : CG) (hk : GA nb ad g ks) (u0 : RS) (L : Nat) (a2 : Int32) (uz : RS) (sz : Nat) (h_L : has g (.is L)) (hF : C_J7_fill_53178_is g u0 L a2 = some uz) : Met l yJ7_fill_53178 (wsg yJ7_fill_53178 cJ7_fill_53178 4 none) ({ frames := 7, cells := 0, slots := 0, locals := 200 }) (va_Pc [.ref (ad (.is L)), .int a2] (fun U => U.heap.size = sz ∧ va_P (dC, dI) vwCl (WC cy ad ks g u0) U.heap ∧ va_K (dC, dI) vwCl (tyL cy) U ∧ va_D (fun _ => True) (WC cy ad ks g u0) ∧ GE nb (va_A (WC cy ad ks g u0) sz) U)) (va_Qv (fun (_ : Unit) => True) (fun _ t => va_P (dC, dI) vwCl (WC cy ad ks g uz) t.heap ∧ va_D (va_A (WC cy ad ks g u0) sz) (WC cy ad ks g uz)) (va_A (WC cy ad ks g u0) sz)) 0 0 (va_A (WC cy ad ks g u0) sz) := by
  refine Met.ofW (cc := cJ7_fill_53178) (maxL := 4) (ret := none) pn_J7 rfl ?_
  intro p e s m args below meth c s₁ B hml hv
  obtain ⟨rfl, hsz, hP, hK, hD0, hE⟩ := hv
  have hx := B.exec
  have hb := B.bytes
  have hr := B.returns
  have hts0 := atoms_spec (ws := (wsg yJ7_fill_53178 cJ7_fill_53178 4 none)) B.pre
  have hts : ∀ w ∈ wsL_law, w.before _ s = true := fun w h => hts0 w (List.mem_cons_of_mem _ h)
  have hown : s.vm.findClass RJ7 = some m.cls := by have h9 := findClass_of_methodNamed B.named; exact h9
  have hlocks := B.notSynchronized
  subst hsz
  have hD := hD0.self (sz := s.heap.size)
  generalize hAe : va_A (WC cy ad ks g u0) s.heap.size = A at hD hE ⊢
  have hA : ∀ q : Nat, s.heap.size ≤ q → A q := fun q h => by rw [← hAe]; exact Or.inr h
  have hS : va_S A s.heap s.heap [] := va_S.rf
  have hl := lv_entry ([.ref (ad (.is L)), .int a2]) (n := 4) (Nat.le_of_ble_eq_true rfl)
  rw [lg_entry_eq]
  generalize (lg_sl ([.ref (ad (.is L)), .int a2]) ++ List.replicate (4 - (lg_sl ([.ref (ad (.is L)), .int a2])).length) Slot.unset).toArray = ls at hl ⊢
  have hl : lv_has ls 4 [(0, .ref (ad (.is L))), (1, .int a2)] := hl
  generalize hHe : s.heap = H at hP hS ⊢
  have hS : va_S A s.heap H [] := by rw [hHe]; exact hS
  refine my_Q (fun Qn hQ => ?_)
  simp only [C_J7_fill_53178_is] at hF
  refine lv_iconst (v := 0) hx hb dJ7_fill_53178_0 (by decide) ?_
  refine lv_istore_n (lv' := [(2, .int 0), (0, .ref (ad (.is L))), (1, .int a2)]) hx hb dJ7_fill_53178_1 rfl hl (by decide) rfl (fun ls hl => ?_)
  refine lv_aload_n hx hb dJ7_fill_53178_2 rfl (lv_at hl 1 rfl) ?_
  obtain ⟨q9, h9⟩ := wc_at (cy := cy) (ad := ad) (ks := ks) (g := g) (u := u0) (κ := (.is L)) hk.1 h_L
  refine va_alen (v := 5) hx hb hK hP q9 1 h9 rfl rfl dJ7_fill_53178_3 ?_
  clear h9
  refine lv_istore_n (lv' := [(3, .int 5), (2, .int 0), (0, .ref (ad (.is L))), (1, .int a2)]) hx hb dJ7_fill_53178_4 rfl hl (by decide) rfl (fun ls hl => ?_)
  obtain ⟨t3, hL4, hF⟩ := ob hF
  have kx5 : ∀ (H : Heap) (locs : List Loc) (ls : Array Slot), va_P (dC, dI) vwCl (WC cy ad ks g (t3.2)) H → va_D A (WC cy ad ks g (t3.2)) → va_S A s.heap H locs → lv_has ls 4 [(2, .int (t3.1)), (3, .int 5), (0, .ref (ad (.is L))), (1, .int a2)] → W p l e (headSpec (wsg yJ7_fill_53178 cJ7_fill_53178 4 none) ({ frames := 7, cells := 0, slots := 0, locals := 200 })).room s m ([.ref (ad (.is L)), .int a2] : List Value).toArray below meth c H locs 0 0 Qn (F0 m 20 ls []) := by
    intro H locs ls hP hD hS hl
    have hZ := s1 hF
    have zuz : (t3.2) = uz := hZ
    have hP9 : va_P (dC, dI) vwCl (WC cy ad ks g uz) H := by rw [← zuz]; exact hP
    have hD9 : va_D A (WC cy ad ks g uz) := by rw [← zuz]; exact hD
    rw [hQ]
    exact W.vret hx hb hr (fun t ht hW => ⟨⟨(), rfl, trivial, by rw [ht]; exact hP9, hD9⟩, hS.F ht⟩) hS.2.2 dJ7_fill_53178_20
  clear hF
  have loop7 : ∀ (m8 : Nat) (y1 : Int32) (u2 : RS), C_J7_fill_53178_is_L5 L a2 g m8 y1 u2 = some t3 → ∀ (H : Heap) (locs : List Loc) (ls : Array Slot), va_P (dC, dI) vwCl (WC cy ad ks g u2) H → va_D A (WC cy ad ks g u2) → va_S A s.heap H locs → lv_has ls 4 [(2, .int y1), (3, .int 5), (0, .ref (ad (.is L))), (1, .int a2)] → W p l e (headSpec (wsg yJ7_fill_53178 cJ7_fill_53178 4 none) ({ frames := 7, cells := 0, slots := 0, locals := 200 })).room s m ([.ref (ad (.is L)), .int a2] : List Value).toArray below meth c H locs 0 0 Qn (F0 m 5 ls []) := by
    intro m8
    induction m8 with
    | zero => intro y1 u2 hF; cases hF
    | succ m8 ih =>
      intro y1 u2 hF H locs ls hP hD hS hl
      simp only [C_J7_fill_53178_is_L5] at hF
      refine lv_iload_n hx hb dJ7_fill_53178_5 rfl (lv_at hl 0 rfl) ?_
      refine lv_iload_n hx hb dJ7_fill_53178_6 rfl (lv_at hl 1 rfl) ?_
      refine lv_icmp_ge (tgt := 20) hx hb dJ7_fill_53178_7 (by decide) (fun c9 => ?_) (fun c9 => ?_)
      · rw [if_pos c9] at hF
        have ht := s1 hF
        subst ht
        exact kx5 _ _ _ hP hD hS (lv_sub hl [0, 1, 2, 3] rfl)
      · rw [if_neg c9] at hF
        refine lv_aload_n hx hb dJ7_fill_53178_10 rfl (lv_at hl 2 rfl) ?_
        refine lv_iload_n hx hb dJ7_fill_53178_11 rfl (lv_at hl 0 rfl) ?_
        refine lv_iload_n hx hb dJ7_fill_53178_12 rfl (lv_at hl 3 rfl) ?_
        obtain ⟨u10, e11, hF⟩ := ob hF
        obtain ⟨q9, h9, ez9⟩ := wc_set (cy := cy) (ad := ad) (ks := ks) (g := g) (u := u2) (κ := (.is L)) (r := (400 + L)) (i := (y1 : Int32).toNatClampNeg) (v := a2) hk.1 h_L (own_is (inl_lt h_L)) (sf_is)
        refine va_iast hx hb hK hP hD hS q9 1 h9 rfl (ws_in e11) dJ7_fill_53178_13 (fun H locs hP hD hS => ?_)
        have hP : va_P (dC, dI) vwCl (WC cy ad ks g u10) H := by rw [← ws_eq e11, ← ez9]; exact hP
        have hD : va_D A (WC cy ad ks g u10) := by rw [← ws_eq e11, ← ez9]; exact hD
        clear ez9 h9
        refine lv_iinc (v := (y1 + 1)) (lv' := [(2, .int (y1 + 1)), (3, .int 5), (0, .ref (ad (.is L))), (1, .int a2)]) hx hb dJ7_fill_53178_14 hl (k := 0) rfl (by rfl) (by decide) rfl (fun ls hl => ?_)
        refine lv_goto (tgt := 5) hx hb dJ7_fill_53178_17 (by decide) ?_
        exact ih _ _ hF _ _ _ hP hD hS (lv_sub hl [0, 1, 2, 3] rfl)
  exact loop7 FUEL _ _ hL4 _ _ _ hP hD hS (lv_sub hl [1, 0, 2, 3] rfl)
noncomputable def C_J7_fill_53178_tt_L5 (L : Nat) (a2 : Int32) (g : CG) : Nat → Int32 → RS → Option (Int32 × RS)
  | 0, _, _ => none
  | m8 + 1, y1, u2 => if 5 ≤ y1 then (some ((y1, u2))) else ((wso u2 (10 + L) 12 5 y1 a2).bind fun u10 => C_J7_fill_53178_tt_L5 L a2 g m8 ((y1 + 1)) u10)
noncomputable def C_J7_fill_53178_tt (g : CG) (u0 : RS) (L : Nat) (a2 : Int32) : Option (RS) := (C_J7_fill_53178_tt_L5 L a2 g FUEL (0 : Int32) u0).bind fun t3 => some (t3.2)
set_option maxHeartbeats 4000000 in
set_option maxRecDepth 100000 in
theorem c_J7_fill_53178_tt (l : Launch) (dC : Nat → ClassId) (dI : Nat → Nat → Nat) (cy : Nat → ClassId) (nb : Nat → Nat) (ad : CK → Nat) (ks : List CK) (g : CG) (hk : GA nb ad g ks) (u0 : RS) (L : Nat) (a2 : Int32) (uz : RS) (sz : Nat) (h_L : has g (.tt L)) (hF : C_J7_fill_53178_tt g u0 L a2 = some uz) : Met l yJ7_fill_53178 (wsg yJ7_fill_53178 cJ7_fill_53178 4 none) ({ frames := 7, cells := 0, slots := 0, locals := 200 }) (va_Pc [.ref (ad (.tt L)), .int a2] (fun U => U.heap.size = sz ∧ va_P (dC, dI) vwCl (WC cy ad ks g u0) U.heap ∧ va_K (dC, dI) vwCl (tyL cy) U ∧ va_D (fun _ => True) (WC cy ad ks g u0) ∧ GE nb (va_A (WC cy ad ks g u0) sz) U)) (va_Qv (fun (_ : Unit) => True) (fun _ t => va_P (dC, dI) vwCl (WC cy ad ks g uz) t.heap ∧ va_D (va_A (WC cy ad ks g u0) sz) (WC cy ad ks g uz)) (va_A (WC cy ad ks g u0) sz)) 0 0 (va_A (WC cy ad ks g u0) sz) := by
  refine Met.ofW (cc := cJ7_fill_53178) (maxL := 4) (ret := none) pn_J7 rfl ?_
  intro p e s m args below meth c s₁ B hml hv
  obtain ⟨rfl, hsz, hP, hK, hD0, hE⟩ := hv
  have hx := B.exec
  have hb := B.bytes
  have hr := B.returns
  have hts0 := atoms_spec (ws := (wsg yJ7_fill_53178 cJ7_fill_53178 4 none)) B.pre
  have hts : ∀ w ∈ wsL_law, w.before _ s = true := fun w h => hts0 w (List.mem_cons_of_mem _ h)
  have hown : s.vm.findClass RJ7 = some m.cls := by have h9 := findClass_of_methodNamed B.named; exact h9
  have hlocks := B.notSynchronized
  subst hsz
  have hD := hD0.self (sz := s.heap.size)
  generalize hAe : va_A (WC cy ad ks g u0) s.heap.size = A at hD hE ⊢
  have hA : ∀ q : Nat, s.heap.size ≤ q → A q := fun q h => by rw [← hAe]; exact Or.inr h
  have hS : va_S A s.heap s.heap [] := va_S.rf
  have hl := lv_entry ([.ref (ad (.tt L)), .int a2]) (n := 4) (Nat.le_of_ble_eq_true rfl)
  rw [lg_entry_eq]
  generalize (lg_sl ([.ref (ad (.tt L)), .int a2]) ++ List.replicate (4 - (lg_sl ([.ref (ad (.tt L)), .int a2])).length) Slot.unset).toArray = ls at hl ⊢
  have hl : lv_has ls 4 [(0, .ref (ad (.tt L))), (1, .int a2)] := hl
  generalize hHe : s.heap = H at hP hS ⊢
  have hS : va_S A s.heap H [] := by rw [hHe]; exact hS
  refine my_Q (fun Qn hQ => ?_)
  simp only [C_J7_fill_53178_tt] at hF
  refine lv_iconst (v := 0) hx hb dJ7_fill_53178_0 (by decide) ?_
  refine lv_istore_n (lv' := [(2, .int 0), (0, .ref (ad (.tt L))), (1, .int a2)]) hx hb dJ7_fill_53178_1 rfl hl (by decide) rfl (fun ls hl => ?_)
  refine lv_aload_n hx hb dJ7_fill_53178_2 rfl (lv_at hl 1 rfl) ?_
  obtain ⟨q9, h9⟩ := wc_at (cy := cy) (ad := ad) (ks := ks) (g := g) (u := u0) (κ := (.tt L)) hk.1 h_L
  refine va_alen (v := 5) hx hb hK hP q9 1 h9 rfl rfl dJ7_fill_53178_3 ?_
  clear h9
  refine lv_istore_n (lv' := [(3, .int 5), (2, .int 0), (0, .ref (ad (.tt L))), (1, .int a2)]) hx hb dJ7_fill_53178_4 rfl hl (by decide) rfl (fun ls hl => ?_)
  obtain ⟨t3, hL4, hF⟩ := ob hF
  have kx5 : ∀ (H : Heap) (locs : List Loc) (ls : Array Slot), va_P (dC, dI) vwCl (WC cy ad ks g (t3.2)) H → va_D A (WC cy ad ks g (t3.2)) → va_S A s.heap H locs → lv_has ls 4 [(2, .int (t3.1)), (3, .int 5), (0, .ref (ad (.tt L))), (1, .int a2)] → W p l e (headSpec (wsg yJ7_fill_53178 cJ7_fill_53178 4 none) ({ frames := 7, cells := 0, slots := 0, locals := 200 })).room s m ([.ref (ad (.tt L)), .int a2] : List Value).toArray below meth c H locs 0 0 Qn (F0 m 20 ls []) := by
    intro H locs ls hP hD hS hl
    have hZ := s1 hF
    have zuz : (t3.2) = uz := hZ
    have hP9 : va_P (dC, dI) vwCl (WC cy ad ks g uz) H := by rw [← zuz]; exact hP
    have hD9 : va_D A (WC cy ad ks g uz) := by rw [← zuz]; exact hD
    rw [hQ]
    exact W.vret hx hb hr (fun t ht hW => ⟨⟨(), rfl, trivial, by rw [ht]; exact hP9, hD9⟩, hS.F ht⟩) hS.2.2 dJ7_fill_53178_20
  clear hF
  have loop7 : ∀ (m8 : Nat) (y1 : Int32) (u2 : RS), C_J7_fill_53178_tt_L5 L a2 g m8 y1 u2 = some t3 → ∀ (H : Heap) (locs : List Loc) (ls : Array Slot), va_P (dC, dI) vwCl (WC cy ad ks g u2) H → va_D A (WC cy ad ks g u2) → va_S A s.heap H locs → lv_has ls 4 [(2, .int y1), (3, .int 5), (0, .ref (ad (.tt L))), (1, .int a2)] → W p l e (headSpec (wsg yJ7_fill_53178 cJ7_fill_53178 4 none) ({ frames := 7, cells := 0, slots := 0, locals := 200 })).room s m ([.ref (ad (.tt L)), .int a2] : List Value).toArray below meth c H locs 0 0 Qn (F0 m 5 ls []) := by
    intro m8
    induction m8 with
    | zero => intro y1 u2 hF; cases hF
    | succ m8 ih =>
      intro y1 u2 hF H locs ls hP hD hS hl
      simp only [C_J7_fill_53178_tt_L5] at hF
      refine lv_iload_n hx hb dJ7_fill_53178_5 rfl (lv_at hl 0 rfl) ?_
      refine lv_iload_n hx hb dJ7_fill_53178_6 rfl (lv_at hl 1 rfl) ?_
      refine lv_icmp_ge (tgt := 20) hx hb dJ7_fill_53178_7 (by decide) (fun c9 => ?_) (fun c9 => ?_)
      · rw [if_pos c9] at hF
        have ht := s1 hF
        subst ht
        exact kx5 _ _ _ hP hD hS (lv_sub hl [0, 1, 2, 3] rfl)
      · rw [if_neg c9] at hF
        refine lv_aload_n hx hb dJ7_fill_53178_10 rfl (lv_at hl 2 rfl) ?_
        refine lv_iload_n hx hb dJ7_fill_53178_11 rfl (lv_at hl 0 rfl) ?_
        refine lv_iload_n hx hb dJ7_fill_53178_12 rfl (lv_at hl 3 rfl) ?_
        obtain ⟨u10, e11, hF⟩ := ob hF
        obtain ⟨q9, h9, ez9⟩ := wc_set (cy := cy) (ad := ad) (ks := ks) (g := g) (u := u2) (κ := (.tt L)) (r := (10 + L)) (i := (12 + (y1 : Int32).toNatClampNeg)) (v := a2) hk.1 h_L (own_tt (inl_lt h_L) (vp_in_lt (wso_in e11))) (sf_tt (vp_in_lt (wso_in e11)))
        refine va_iast hx hb hK hP hD hS q9 1 h9 rfl (wso_in e11) dJ7_fill_53178_13 (fun H locs hP hD hS => ?_)
        have hP : va_P (dC, dI) vwCl (WC cy ad ks g u10) H := by rw [← wso_eq e11, ← ez9]; exact hP
        have hD : va_D A (WC cy ad ks g u10) := by rw [← wso_eq e11, ← ez9]; exact hD
        clear ez9 h9
        refine lv_iinc (v := (y1 + 1)) (lv' := [(2, .int (y1 + 1)), (3, .int 5), (0, .ref (ad (.tt L))), (1, .int a2)]) hx hb dJ7_fill_53178_14 hl (k := 0) rfl (by rfl) (by decide) rfl (fun ls hl => ?_)
        refine lv_goto (tgt := 5) hx hb dJ7_fill_53178_17 (by decide) ?_
        exact ih _ _ hF _ _ _ hP hD hS (lv_sub hl [0, 1, 2, 3] rfl)
  exact loop7 FUEL _ _ hL4 _ _ _ hP hD hS (lv_sub hl [1, 0, 2, 3] rfl)
noncomputable def C1_begin (g : CG) (u0 : RS) (L : Nat) (i : Nat) (a1 : Int32) (a2 : Int32) (a3 : Int32) : Option (RS) := (pt u0 (10 + L) (137 + 25 * i + 0) a1).bind fun u1 => (pt u1 (10 + L) (137 + 25 * i + 1) a2).bind fun u3 => (pt u3 (10 + L) (137 + 25 * i + 2) (a3)).bind fun u5 => (pt u5 (10 + L) (137 + 25 * i + 3) (0)).bind fun u7 => (pt u7 (10 + L) (137 + 25 * i + 4) (-1)).bind fun u9 => (pt u9 (10 + L) (137 + 25 * i + 5) (0)).bind fun u11 => (pt u11 (10 + L) (137 + 25 * i + 6) (0)).bind fun u13 => (pt u13 (10 + L) (137 + 25 * i + 7) (-1)).bind fun u15 => (pt u15 (10 + L) (137 + 25 * i + 8) (0)).bind fun u17 => some u17
set_option maxHeartbeats 4000000 in
set_option maxRecDepth 100000 in
theorem c_X1_begin (l : Launch) (dC : Nat → ClassId) (dI : Nat → Nat → Nat) (cy : Nat → ClassId) (nb : Nat → Nat) (ad : CK → Nat) (ks : List CK) (g : CG) (hk : GA nb ad g ks) (u0 : RS) (L : Nat) (i : Nat) (a1 : Int32) (a2 : Int32) (a3 : Int32) (uz : RS) (sz : Nat) (h_L_i : has g (.cd L i)) (hF : C1_begin g u0 L i a1 a2 a3 = some uz) : Met l yX1_begin (wsg yX1_begin cX1_begin 4 none) ({ frames := 7, cells := 0, slots := 0, locals := 200 }) (va_Pc [.ref (ad (.cd L i)), .int a1, .int a2, .ref (ad (.tx (a3).toNatClampNeg))] (fun U => U.heap.size = sz ∧ va_P (dC, dI) vwCl (WC cy ad ks g u0) U.heap ∧ va_K (dC, dI) vwCl (tyL cy) U ∧ va_D (fun _ => True) (WC cy ad ks g u0) ∧ GE nb (va_A (WC cy ad ks g u0) sz) U)) (va_Qv (fun (_ : Unit) => True) (fun _ t => va_P (dC, dI) vwCl (WC cy ad ks g uz) t.heap ∧ va_D (va_A (WC cy ad ks g u0) sz) (WC cy ad ks g uz)) (va_A (WC cy ad ks g u0) sz)) 0 0 (va_A (WC cy ad ks g u0) sz) := by
  refine Met.ofW (cc := cX1_begin) (maxL := 4) (ret := none) pn_X1 rfl ?_
  intro p e s m args below meth c s₁ B hml hv
  obtain ⟨rfl, hsz, hP, hK, hD0, hE⟩ := hv
  have hx := B.exec
  have hb := B.bytes
  have hr := B.returns
  have hts0 := atoms_spec (ws := (wsg yX1_begin cX1_begin 4 none)) B.pre
  have hts : ∀ w ∈ wsL_law, w.before _ s = true := fun w h => hts0 w (List.mem_cons_of_mem _ h)
  have hown : s.vm.findClass RX1 = some m.cls := by have h9 := findClass_of_methodNamed B.named; exact h9
  have hlocks := B.notSynchronized
  subst hsz
  have hD := hD0.self (sz := s.heap.size)
  generalize hAe : va_A (WC cy ad ks g u0) s.heap.size = A at hD hE ⊢
  have hA : ∀ q : Nat, s.heap.size ≤ q → A q := fun q h => by rw [← hAe]; exact Or.inr h
  have hS : va_S A s.heap s.heap [] := va_S.rf
  have hl := lv_entry ([.ref (ad (.cd L i)), .int a1, .int a2, .ref (ad (.tx (a3).toNatClampNeg))]) (n := 4) (Nat.le_of_ble_eq_true rfl)
  rw [lg_entry_eq]
  generalize (lg_sl ([.ref (ad (.cd L i)), .int a1, .int a2, .ref (ad (.tx (a3).toNatClampNeg))]) ++ List.replicate (4 - (lg_sl ([.ref (ad (.cd L i)), .int a1, .int a2, .ref (ad (.tx (a3).toNatClampNeg))])).length) Slot.unset).toArray = ls at hl ⊢
  have hl : lv_has ls 4 [(0, .ref (ad (.cd L i))), (1, .int a1), (2, .int a2), (3, .ref (ad (.tx (a3).toNatClampNeg)))] := hl
  generalize hHe : s.heap = H at hP hS ⊢
  have hS : va_S A s.heap H [] := by rw [hHe]; exact hS
  refine my_Q (fun Qn hQ => ?_)
  simp only [C1_begin] at hF
  refine lv_aload_n hx hb dX1_begin_0 rfl (lv_at hl 0 rfl) ?_
  refine lv_iload_n hx hb dX1_begin_1 rfl (lv_at hl 1 rfl) ?_
  obtain ⟨q9, h9, ez9⟩ := wc_set (cy := cy) (ad := ad) (ks := ks) (g := g) (u := u0) (κ := (.cd L i)) (r := (10 + L)) (i := (137 + 25 * i + 0)) (v := a1) hk.1 ⟨h_L_i.1, h_L_i.2⟩ (own_cd (inl_lt h_L_i.1) h_L_i.2 (by decide)) (sf_cd_0)
  refine va_put (D := (dC, dI)) (ci := 2) (v := .int a1) (ty := .int) (C := RX1) (T := TX1) (N := 9) hx hb hts inlX1 tyX1 tyX1_ok nmX1 hown hK hP hD hS q9 h9 rfl 0 (by decide) (hts _ mw_330) (fun _ h9 => h9) rfl (by decide +kernel) rfl rfl (Nat.le_of_ble_eq_true rfl) dX1_begin_2 (fun H locs hP hD hS => ?_)
  obtain ⟨u1, e2, hF⟩ := ob hF
  have hP : va_P (dC, dI) vwCl (WC cy ad ks g u1) H := by rw [← pt_eq e2, ← ez9]; exact hP
  have hD : va_D A (WC cy ad ks g u1) := by rw [← pt_eq e2, ← ez9]; exact hD
  clear ez9 h9
  refine lv_aload_n hx hb dX1_begin_5 rfl (lv_at hl 0 rfl) ?_
  refine lv_iload_n hx hb dX1_begin_6 rfl (lv_at hl 2 rfl) ?_
  obtain ⟨q9, h9, ez9⟩ := wc_set (cy := cy) (ad := ad) (ks := ks) (g := g) (u := u1) (κ := (.cd L i)) (r := (10 + L)) (i := (137 + 25 * i + 1)) (v := a2) hk.1 ⟨h_L_i.1, h_L_i.2⟩ (own_cd (inl_lt h_L_i.1) h_L_i.2 (by decide)) (sf_cd_1)
  refine va_put (D := (dC, dI)) (ci := 2) (v := .int a2) (ty := .int) (C := RX1) (T := TX1) (N := 9) hx hb hts inlX1 tyX1 tyX1_ok nmX1 hown hK hP hD hS q9 h9 rfl 1 (by decide) (hts _ mw_331) (fun _ h9 => h9) rfl (by decide +kernel) rfl rfl (Nat.le_of_ble_eq_true rfl) dX1_begin_7 (fun H locs hP hD hS => ?_)
  obtain ⟨u3, e4, hF⟩ := ob hF
  have hP : va_P (dC, dI) vwCl (WC cy ad ks g u3) H := by rw [← pt_eq e4, ← ez9]; exact hP
  have hD : va_D A (WC cy ad ks g u3) := by rw [← pt_eq e4, ← ez9]; exact hD
  clear ez9 h9
  refine lv_aload_n hx hb dX1_begin_10 rfl (lv_at hl 0 rfl) ?_
  refine lv_aload_n hx hb dX1_begin_11 rfl (lv_at hl 3 rfl) ?_
  obtain ⟨q9, h9, ez9⟩ := wc_set (cy := cy) (ad := ad) (ks := ks) (g := g) (u := u3) (κ := (.cd L i)) (r := (10 + L)) (i := (137 + 25 * i + 2)) (v := (a3)) hk.1 ⟨h_L_i.1, h_L_i.2⟩ (own_cd (inl_lt h_L_i.1) h_L_i.2 (by decide)) (sf_cd_2)
  refine va_put (D := (dC, dI)) (ci := 2) (v := .ref (ad (.tx (a3).toNatClampNeg))) (ty := (.array .byte)) (C := RX1) (T := TX1) (N := 9) hx hb hts inlX1 tyX1 tyX1_ok nmX1 hown hK hP hD hS q9 h9 rfl 2 (by decide) (hts _ mw_68) (fun _ h9 => h9) rfl (by decide +kernel) rfl rfl (Nat.le_of_ble_eq_true rfl) dX1_begin_12 (fun H locs hP hD hS => ?_)
  obtain ⟨u5, e6, hF⟩ := ob hF
  have hP : va_P (dC, dI) vwCl (WC cy ad ks g u5) H := by rw [← pt_eq e6, ← ez9]; exact hP
  have hD : va_D A (WC cy ad ks g u5) := by rw [← pt_eq e6, ← ez9]; exact hD
  clear ez9 h9
  refine lv_aload_n hx hb dX1_begin_15 rfl (lv_at hl 0 rfl) ?_
  refine lv_iconst (v := 0) hx hb dX1_begin_16 (by decide) ?_
  obtain ⟨q9, h9, ez9⟩ := wc_set (cy := cy) (ad := ad) (ks := ks) (g := g) (u := u5) (κ := (.cd L i)) (r := (10 + L)) (i := (137 + 25 * i + 3)) (v := (0)) hk.1 ⟨h_L_i.1, h_L_i.2⟩ (own_cd (inl_lt h_L_i.1) h_L_i.2 (by decide)) (sf_cd_3)
  refine va_put (D := (dC, dI)) (ci := 2) (v := .int 0) (ty := .int) (C := RX1) (T := TX1) (N := 9) hx hb hts inlX1 tyX1 tyX1_ok nmX1 hown hK hP hD hS q9 h9 rfl 3 (by decide) (hts _ mw_332) (fun _ h9 => h9) rfl (by decide +kernel) rfl rfl (Nat.le_of_ble_eq_true rfl) dX1_begin_17 (fun H locs hP hD hS => ?_)
  obtain ⟨u7, e8, hF⟩ := ob hF
  have hP : va_P (dC, dI) vwCl (WC cy ad ks g u7) H := by rw [← pt_eq e8, ← ez9]; exact hP
  have hD : va_D A (WC cy ad ks g u7) := by rw [← pt_eq e8, ← ez9]; exact hD
  clear ez9 h9
  refine lv_aload_n hx hb dX1_begin_20 rfl (lv_at hl 0 rfl) ?_
  refine lv_iconst (v := (-1)) hx hb dX1_begin_21 (by decide) ?_
  obtain ⟨q9, h9, ez9⟩ := wc_set (cy := cy) (ad := ad) (ks := ks) (g := g) (u := u7) (κ := (.cd L i)) (r := (10 + L)) (i := (137 + 25 * i + 4)) (v := (-1)) hk.1 ⟨h_L_i.1, h_L_i.2⟩ (own_cd (inl_lt h_L_i.1) h_L_i.2 (by decide)) (sf_cd_4)
  refine va_put (D := (dC, dI)) (ci := 2) (v := .int (-1)) (ty := .int) (C := RX1) (T := TX1) (N := 9) hx hb hts inlX1 tyX1 tyX1_ok nmX1 hown hK hP hD hS q9 h9 rfl 4 (by decide) (hts _ mw_333) (fun _ h9 => h9) rfl (by decide +kernel) rfl rfl (Nat.le_of_ble_eq_true rfl) dX1_begin_22 (fun H locs hP hD hS => ?_)
  obtain ⟨u9, e10, hF⟩ := ob hF
  have hP : va_P (dC, dI) vwCl (WC cy ad ks g u9) H := by rw [← pt_eq e10, ← ez9]; exact hP
  have hD : va_D A (WC cy ad ks g u9) := by rw [← pt_eq e10, ← ez9]; exact hD
  clear ez9 h9
  refine lv_aload_n hx hb dX1_begin_25 rfl (lv_at hl 0 rfl) ?_
  refine lv_iconst (v := 0) hx hb dX1_begin_26 (by decide) ?_
  obtain ⟨q9, h9, ez9⟩ := wc_set (cy := cy) (ad := ad) (ks := ks) (g := g) (u := u9) (κ := (.cd L i)) (r := (10 + L)) (i := (137 + 25 * i + 5)) (v := (0)) hk.1 ⟨h_L_i.1, h_L_i.2⟩ (own_cd (inl_lt h_L_i.1) h_L_i.2 (by decide)) (sf_cd_5)
  refine va_put (D := (dC, dI)) (ci := 2) (v := .int 0) (ty := .int) (C := RX1) (T := TX1) (N := 9) hx hb hts inlX1 tyX1 tyX1_ok nmX1 hown hK hP hD hS q9 h9 rfl 5 (by decide) (hts _ mw_334) (fun _ h9 => h9) rfl (by decide +kernel) rfl rfl (Nat.le_of_ble_eq_true rfl) dX1_begin_27 (fun H locs hP hD hS => ?_)
  obtain ⟨u11, e12, hF⟩ := ob hF
  have hP : va_P (dC, dI) vwCl (WC cy ad ks g u11) H := by rw [← pt_eq e12, ← ez9]; exact hP
  have hD : va_D A (WC cy ad ks g u11) := by rw [← pt_eq e12, ← ez9]; exact hD
  clear ez9 h9
  refine lv_aload_n hx hb dX1_begin_30 rfl (lv_at hl 0 rfl) ?_
  refine lv_iconst (v := 0) hx hb dX1_begin_31 (by decide) ?_
  obtain ⟨q9, h9, ez9⟩ := wc_set (cy := cy) (ad := ad) (ks := ks) (g := g) (u := u11) (κ := (.cd L i)) (r := (10 + L)) (i := (137 + 25 * i + 6)) (v := (0)) hk.1 ⟨h_L_i.1, h_L_i.2⟩ (own_cd (inl_lt h_L_i.1) h_L_i.2 (by decide)) (sf_cd_6)
  refine va_put (D := (dC, dI)) (ci := 2) (v := .int 0) (ty := .int) (C := RX1) (T := TX1) (N := 9) hx hb hts inlX1 tyX1 tyX1_ok nmX1 hown hK hP hD hS q9 h9 rfl 6 (by decide) (hts _ mw_335) (fun _ h9 => h9) rfl (by decide +kernel) rfl rfl (Nat.le_of_ble_eq_true rfl) dX1_begin_32 (fun H locs hP hD hS => ?_)
  obtain ⟨u13, e14, hF⟩ := ob hF
  have hP : va_P (dC, dI) vwCl (WC cy ad ks g u13) H := by rw [← pt_eq e14, ← ez9]; exact hP
  have hD : va_D A (WC cy ad ks g u13) := by rw [← pt_eq e14, ← ez9]; exact hD
  clear ez9 h9
  refine lv_aload_n hx hb dX1_begin_35 rfl (lv_at hl 0 rfl) ?_
  refine lv_iconst (v := (-1)) hx hb dX1_begin_36 (by decide) ?_
  obtain ⟨q9, h9, ez9⟩ := wc_set (cy := cy) (ad := ad) (ks := ks) (g := g) (u := u13) (κ := (.cd L i)) (r := (10 + L)) (i := (137 + 25 * i + 7)) (v := (-1)) hk.1 ⟨h_L_i.1, h_L_i.2⟩ (own_cd (inl_lt h_L_i.1) h_L_i.2 (by decide)) (sf_cd_7)
  refine va_put (D := (dC, dI)) (ci := 2) (v := .int (-1)) (ty := .int) (C := RX1) (T := TX1) (N := 9) hx hb hts inlX1 tyX1 tyX1_ok nmX1 hown hK hP hD hS q9 h9 rfl 7 (by decide) (hts _ mw_336) (fun _ h9 => h9) rfl (by decide +kernel) rfl rfl (Nat.le_of_ble_eq_true rfl) dX1_begin_37 (fun H locs hP hD hS => ?_)
  obtain ⟨u15, e16, hF⟩ := ob hF
  have hP : va_P (dC, dI) vwCl (WC cy ad ks g u15) H := by rw [← pt_eq e16, ← ez9]; exact hP
  have hD : va_D A (WC cy ad ks g u15) := by rw [← pt_eq e16, ← ez9]; exact hD
  clear ez9 h9
  refine lv_aload_n hx hb dX1_begin_40 rfl (lv_at hl 0 rfl) ?_
  refine lv_iconst (v := 0) hx hb dX1_begin_41 (by decide) ?_
  obtain ⟨q9, h9, ez9⟩ := wc_set (cy := cy) (ad := ad) (ks := ks) (g := g) (u := u15) (κ := (.cd L i)) (r := (10 + L)) (i := (137 + 25 * i + 8)) (v := (0)) hk.1 ⟨h_L_i.1, h_L_i.2⟩ (own_cd (inl_lt h_L_i.1) h_L_i.2 (by decide)) (sf_cd_8)
  refine va_put (D := (dC, dI)) (ci := 2) (v := .int 0) (ty := .boolean) (C := RX1) (T := TX1) (N := 9) hx hb hts inlX1 tyX1 tyX1_ok nmX1 hown hK hP hD hS q9 h9 rfl 8 (by decide) (hts _ mw_337) (fun _ h9 => h9) rfl (by decide +kernel) rfl rfl (Nat.le_of_ble_eq_true rfl) dX1_begin_42 (fun H locs hP hD hS => ?_)
  obtain ⟨u17, e18, hF⟩ := ob hF
  have hP : va_P (dC, dI) vwCl (WC cy ad ks g u17) H := by rw [← pt_eq e18, ← ez9]; exact hP
  have hD : va_D A (WC cy ad ks g u17) := by rw [← pt_eq e18, ← ez9]; exact hD
  clear ez9 h9
  have hZ := s1 hF
  have zuz : u17 = uz := hZ
  have hP9 : va_P (dC, dI) vwCl (WC cy ad ks g uz) H := by rw [← zuz]; exact hP
  have hD9 : va_D A (WC cy ad ks g uz) := by rw [← zuz]; exact hD
  rw [hQ]
  exact W.vret hx hb hr (fun t ht hW => ⟨⟨(), rfl, trivial, by rw [ht]; exact hP9, hD9⟩, hS.F ht⟩) hS.2.2 dX1_begin_45
noncomputable def C1_copyFrom (g : CG) (u0 : RS) (L : Nat) (i : Nat) (L2 : Nat) (i2 : Nat) : Option (RS) := (pt u0 (10 + L) (137 + 25 * i + 0) (u0 (10 + L2) (137 + 25 * i2 + 0))).bind fun u1 => (pt u1 (10 + L) (137 + 25 * i + 1) (u1 (10 + L2) (137 + 25 * i2 + 1))).bind fun u3 => (pt u3 (10 + L) (137 + 25 * i + 2) (u3 (10 + L2) (137 + 25 * i2 + 2))).bind fun u5 => (pt u5 (10 + L) (137 + 25 * i + 3) (u5 (10 + L2) (137 + 25 * i2 + 3))).bind fun u7 => (pt u7 (10 + L) (137 + 25 * i + 4) (u7 (10 + L2) (137 + 25 * i2 + 4))).bind fun u9 => (pt u9 (10 + L) (137 + 25 * i + 5) (u9 (10 + L2) (137 + 25 * i2 + 5))).bind fun u11 => (pt u11 (10 + L) (137 + 25 * i + 6) (u11 (10 + L2) (137 + 25 * i2 + 6))).bind fun u13 => (pt u13 (10 + L) (137 + 25 * i + 7) (u13 (10 + L2) (137 + 25 * i2 + 7))).bind fun u15 => (nz (u15 (10 + L2) (137 + 25 * i2 + 8))).bind fun x17 => (pt u15 (10 + L) (137 + 25 * i + 8) x17).bind fun u19 => some u19
set_option maxHeartbeats 4000000 in
set_option maxRecDepth 100000 in
theorem c_X1_copyFrom (l : Launch) (dC : Nat → ClassId) (dI : Nat → Nat → Nat) (cy : Nat → ClassId) (nb : Nat → Nat) (ad : CK → Nat) (ks : List CK) (g : CG) (hk : GA nb ad g ks) (u0 : RS) (L : Nat) (i : Nat) (L2 : Nat) (i2 : Nat) (uz : RS) (sz : Nat) (h_L_i : has g (.cd L i)) (h_L2_i2 : has g (.cd L2 i2)) (hF : C1_copyFrom g u0 L i L2 i2 = some uz) : Met l yX1_copyFrom (wsg yX1_copyFrom cX1_copyFrom 2 none) ({ frames := 7, cells := 0, slots := 0, locals := 200 }) (va_Pc [.ref (ad (.cd L i)), .ref (ad (.cd L2 i2))] (fun U => U.heap.size = sz ∧ va_P (dC, dI) vwCl (WC cy ad ks g u0) U.heap ∧ va_K (dC, dI) vwCl (tyL cy) U ∧ va_D (fun _ => True) (WC cy ad ks g u0) ∧ GE nb (va_A (WC cy ad ks g u0) sz) U)) (va_Qv (fun (_ : Unit) => True) (fun _ t => va_P (dC, dI) vwCl (WC cy ad ks g uz) t.heap ∧ va_D (va_A (WC cy ad ks g u0) sz) (WC cy ad ks g uz)) (va_A (WC cy ad ks g u0) sz)) 0 0 (va_A (WC cy ad ks g u0) sz) := by
  refine Met.ofW (cc := cX1_copyFrom) (maxL := 2) (ret := none) pn_X1 rfl ?_
  intro p e s m args below meth c s₁ B hml hv
  obtain ⟨rfl, hsz, hP, hK, hD0, hE⟩ := hv
  have hx := B.exec
  have hb := B.bytes
  have hr := B.returns
  have hts0 := atoms_spec (ws := (wsg yX1_copyFrom cX1_copyFrom 2 none)) B.pre
  have hts : ∀ w ∈ wsL_law, w.before _ s = true := fun w h => hts0 w (List.mem_cons_of_mem _ h)
  have hown : s.vm.findClass RX1 = some m.cls := by have h9 := findClass_of_methodNamed B.named; exact h9
  have hlocks := B.notSynchronized
  subst hsz
  have hD := hD0.self (sz := s.heap.size)
  generalize hAe : va_A (WC cy ad ks g u0) s.heap.size = A at hD hE ⊢
  have hA : ∀ q : Nat, s.heap.size ≤ q → A q := fun q h => by rw [← hAe]; exact Or.inr h
  have hS : va_S A s.heap s.heap [] := va_S.rf
  have hl := lv_entry ([.ref (ad (.cd L i)), .ref (ad (.cd L2 i2))]) (n := 2) (Nat.le_of_ble_eq_true rfl)
  rw [lg_entry_eq]
  generalize (lg_sl ([.ref (ad (.cd L i)), .ref (ad (.cd L2 i2))]) ++ List.replicate (2 - (lg_sl ([.ref (ad (.cd L i)), .ref (ad (.cd L2 i2))])).length) Slot.unset).toArray = ls at hl ⊢
  have hl : lv_has ls 2 [(0, .ref (ad (.cd L i))), (1, .ref (ad (.cd L2 i2)))] := hl
  generalize hHe : s.heap = H at hP hS ⊢
  have hS : va_S A s.heap H [] := by rw [hHe]; exact hS
  refine my_Q (fun Qn hQ => ?_)
  simp only [C1_copyFrom] at hF
  refine lv_aload_n hx hb dX1_copyFrom_0 rfl (lv_at hl 0 rfl) ?_
  refine lv_aload_n hx hb dX1_copyFrom_1 rfl (lv_at hl 1 rfl) ?_
  obtain ⟨q9, h9⟩ := wc_at (cy := cy) (ad := ad) (ks := ks) (g := g) (u := u0) (κ := (.cd L2 i2)) hk.1 ⟨h_L2_i2.1, h_L2_i2.2⟩
  refine va_get (D := (dC, dI)) (ci := 2) (v := .int (u0 (10 + L2) (137 + 25 * i2 + 0))) (C := RX1) (T := TX1) (N := 9) hx hb hts inlX1 hown hK hP q9 h9 rfl 0 (by decide) (hts _ mw_330) (fun _ h9 => h9) rfl dX1_copyFrom_2 ?_
  clear h9
  obtain ⟨q9, h9, ez9⟩ := wc_set (cy := cy) (ad := ad) (ks := ks) (g := g) (u := u0) (κ := (.cd L i)) (r := (10 + L)) (i := (137 + 25 * i + 0)) (v := (u0 (10 + L2) (137 + 25 * i2 + 0))) hk.1 ⟨h_L_i.1, h_L_i.2⟩ (own_cd (inl_lt h_L_i.1) h_L_i.2 (by decide)) (sf_cd_0)
  refine va_put (D := (dC, dI)) (ci := 2) (v := .int (u0 (10 + L2) (137 + 25 * i2 + 0))) (ty := .int) (C := RX1) (T := TX1) (N := 9) hx hb hts inlX1 tyX1 tyX1_ok nmX1 hown hK hP hD hS q9 h9 rfl 0 (by decide) (hts _ mw_330) (fun _ h9 => h9) rfl (by decide +kernel) rfl rfl (Nat.le_of_ble_eq_true rfl) dX1_copyFrom_5 (fun H locs hP hD hS => ?_)
  obtain ⟨u1, e2, hF⟩ := ob hF
  have hP : va_P (dC, dI) vwCl (WC cy ad ks g u1) H := by rw [← pt_eq e2, ← ez9]; exact hP
  have hD : va_D A (WC cy ad ks g u1) := by rw [← pt_eq e2, ← ez9]; exact hD
  clear ez9 h9
  refine lv_aload_n hx hb dX1_copyFrom_8 rfl (lv_at hl 0 rfl) ?_
  refine lv_aload_n hx hb dX1_copyFrom_9 rfl (lv_at hl 1 rfl) ?_
  obtain ⟨q9, h9⟩ := wc_at (cy := cy) (ad := ad) (ks := ks) (g := g) (u := u1) (κ := (.cd L2 i2)) hk.1 ⟨h_L2_i2.1, h_L2_i2.2⟩
  refine va_get (D := (dC, dI)) (ci := 2) (v := .int (u1 (10 + L2) (137 + 25 * i2 + 1))) (C := RX1) (T := TX1) (N := 9) hx hb hts inlX1 hown hK hP q9 h9 rfl 1 (by decide) (hts _ mw_331) (fun _ h9 => h9) rfl dX1_copyFrom_10 ?_
  clear h9
  obtain ⟨q9, h9, ez9⟩ := wc_set (cy := cy) (ad := ad) (ks := ks) (g := g) (u := u1) (κ := (.cd L i)) (r := (10 + L)) (i := (137 + 25 * i + 1)) (v := (u1 (10 + L2) (137 + 25 * i2 + 1))) hk.1 ⟨h_L_i.1, h_L_i.2⟩ (own_cd (inl_lt h_L_i.1) h_L_i.2 (by decide)) (sf_cd_1)
  refine va_put (D := (dC, dI)) (ci := 2) (v := .int (u1 (10 + L2) (137 + 25 * i2 + 1))) (ty := .int) (C := RX1) (T := TX1) (N := 9) hx hb hts inlX1 tyX1 tyX1_ok nmX1 hown hK hP hD hS q9 h9 rfl 1 (by decide) (hts _ mw_331) (fun _ h9 => h9) rfl (by decide +kernel) rfl rfl (Nat.le_of_ble_eq_true rfl) dX1_copyFrom_13 (fun H locs hP hD hS => ?_)
  obtain ⟨u3, e4, hF⟩ := ob hF
  have hP : va_P (dC, dI) vwCl (WC cy ad ks g u3) H := by rw [← pt_eq e4, ← ez9]; exact hP
  have hD : va_D A (WC cy ad ks g u3) := by rw [← pt_eq e4, ← ez9]; exact hD
  clear ez9 h9
  refine lv_aload_n hx hb dX1_copyFrom_16 rfl (lv_at hl 0 rfl) ?_
  refine lv_aload_n hx hb dX1_copyFrom_17 rfl (lv_at hl 1 rfl) ?_
  obtain ⟨q9, h9⟩ := wc_at (cy := cy) (ad := ad) (ks := ks) (g := g) (u := u3) (κ := (.cd L2 i2)) hk.1 ⟨h_L2_i2.1, h_L2_i2.2⟩
  refine va_get (D := (dC, dI)) (ci := 2) (v := .ref (ad (.tx (u3 (10 + L2) (137 + 25 * i2 + 2)).toNatClampNeg))) (C := RX1) (T := TX1) (N := 9) hx hb hts inlX1 hown hK hP q9 h9 rfl 2 (by decide) (hts _ mw_68) (fun _ h9 => h9) rfl dX1_copyFrom_18 ?_
  clear h9
  obtain ⟨q9, h9, ez9⟩ := wc_set (cy := cy) (ad := ad) (ks := ks) (g := g) (u := u3) (κ := (.cd L i)) (r := (10 + L)) (i := (137 + 25 * i + 2)) (v := (u3 (10 + L2) (137 + 25 * i2 + 2))) hk.1 ⟨h_L_i.1, h_L_i.2⟩ (own_cd (inl_lt h_L_i.1) h_L_i.2 (by decide)) (sf_cd_2)
  refine va_put (D := (dC, dI)) (ci := 2) (v := .ref (ad (.tx (u3 (10 + L2) (137 + 25 * i2 + 2)).toNatClampNeg))) (ty := (.array .byte)) (C := RX1) (T := TX1) (N := 9) hx hb hts inlX1 tyX1 tyX1_ok nmX1 hown hK hP hD hS q9 h9 rfl 2 (by decide) (hts _ mw_68) (fun _ h9 => h9) rfl (by decide +kernel) rfl rfl (Nat.le_of_ble_eq_true rfl) dX1_copyFrom_21 (fun H locs hP hD hS => ?_)
  obtain ⟨u5, e6, hF⟩ := ob hF
  have hP : va_P (dC, dI) vwCl (WC cy ad ks g u5) H := by rw [← pt_eq e6, ← ez9]; exact hP
  have hD : va_D A (WC cy ad ks g u5) := by rw [← pt_eq e6, ← ez9]; exact hD
  clear ez9 h9
  refine lv_aload_n hx hb dX1_copyFrom_24 rfl (lv_at hl 0 rfl) ?_
  refine lv_aload_n hx hb dX1_copyFrom_25 rfl (lv_at hl 1 rfl) ?_
  obtain ⟨q9, h9⟩ := wc_at (cy := cy) (ad := ad) (ks := ks) (g := g) (u := u5) (κ := (.cd L2 i2)) hk.1 ⟨h_L2_i2.1, h_L2_i2.2⟩
  refine va_get (D := (dC, dI)) (ci := 2) (v := .int (u5 (10 + L2) (137 + 25 * i2 + 3))) (C := RX1) (T := TX1) (N := 9) hx hb hts inlX1 hown hK hP q9 h9 rfl 3 (by decide) (hts _ mw_332) (fun _ h9 => h9) rfl dX1_copyFrom_26 ?_
  clear h9
  obtain ⟨q9, h9, ez9⟩ := wc_set (cy := cy) (ad := ad) (ks := ks) (g := g) (u := u5) (κ := (.cd L i)) (r := (10 + L)) (i := (137 + 25 * i + 3)) (v := (u5 (10 + L2) (137 + 25 * i2 + 3))) hk.1 ⟨h_L_i.1, h_L_i.2⟩ (own_cd (inl_lt h_L_i.1) h_L_i.2 (by decide)) (sf_cd_3)
  refine va_put (D := (dC, dI)) (ci := 2) (v := .int (u5 (10 + L2) (137 + 25 * i2 + 3))) (ty := .int) (C := RX1) (T := TX1) (N := 9) hx hb hts inlX1 tyX1 tyX1_ok nmX1 hown hK hP hD hS q9 h9 rfl 3 (by decide) (hts _ mw_332) (fun _ h9 => h9) rfl (by decide +kernel) rfl rfl (Nat.le_of_ble_eq_true rfl) dX1_copyFrom_29 (fun H locs hP hD hS => ?_)
  obtain ⟨u7, e8, hF⟩ := ob hF
  have hP : va_P (dC, dI) vwCl (WC cy ad ks g u7) H := by rw [← pt_eq e8, ← ez9]; exact hP
  have hD : va_D A (WC cy ad ks g u7) := by rw [← pt_eq e8, ← ez9]; exact hD
  clear ez9 h9
  refine lv_aload_n hx hb dX1_copyFrom_32 rfl (lv_at hl 0 rfl) ?_
  refine lv_aload_n hx hb dX1_copyFrom_33 rfl (lv_at hl 1 rfl) ?_
  obtain ⟨q9, h9⟩ := wc_at (cy := cy) (ad := ad) (ks := ks) (g := g) (u := u7) (κ := (.cd L2 i2)) hk.1 ⟨h_L2_i2.1, h_L2_i2.2⟩
  refine va_get (D := (dC, dI)) (ci := 2) (v := .int (u7 (10 + L2) (137 + 25 * i2 + 4))) (C := RX1) (T := TX1) (N := 9) hx hb hts inlX1 hown hK hP q9 h9 rfl 4 (by decide) (hts _ mw_333) (fun _ h9 => h9) rfl dX1_copyFrom_34 ?_
  clear h9
  obtain ⟨q9, h9, ez9⟩ := wc_set (cy := cy) (ad := ad) (ks := ks) (g := g) (u := u7) (κ := (.cd L i)) (r := (10 + L)) (i := (137 + 25 * i + 4)) (v := (u7 (10 + L2) (137 + 25 * i2 + 4))) hk.1 ⟨h_L_i.1, h_L_i.2⟩ (own_cd (inl_lt h_L_i.1) h_L_i.2 (by decide)) (sf_cd_4)
  refine va_put (D := (dC, dI)) (ci := 2) (v := .int (u7 (10 + L2) (137 + 25 * i2 + 4))) (ty := .int) (C := RX1) (T := TX1) (N := 9) hx hb hts inlX1 tyX1 tyX1_ok nmX1 hown hK hP hD hS q9 h9 rfl 4 (by decide) (hts _ mw_333) (fun _ h9 => h9) rfl (by decide +kernel) rfl rfl (Nat.le_of_ble_eq_true rfl) dX1_copyFrom_37 (fun H locs hP hD hS => ?_)
  obtain ⟨u9, e10, hF⟩ := ob hF
  have hP : va_P (dC, dI) vwCl (WC cy ad ks g u9) H := by rw [← pt_eq e10, ← ez9]; exact hP
  have hD : va_D A (WC cy ad ks g u9) := by rw [← pt_eq e10, ← ez9]; exact hD
  clear ez9 h9
  refine lv_aload_n hx hb dX1_copyFrom_40 rfl (lv_at hl 0 rfl) ?_
  refine lv_aload_n hx hb dX1_copyFrom_41 rfl (lv_at hl 1 rfl) ?_
  obtain ⟨q9, h9⟩ := wc_at (cy := cy) (ad := ad) (ks := ks) (g := g) (u := u9) (κ := (.cd L2 i2)) hk.1 ⟨h_L2_i2.1, h_L2_i2.2⟩
  refine va_get (D := (dC, dI)) (ci := 2) (v := .int (u9 (10 + L2) (137 + 25 * i2 + 5))) (C := RX1) (T := TX1) (N := 9) hx hb hts inlX1 hown hK hP q9 h9 rfl 5 (by decide) (hts _ mw_334) (fun _ h9 => h9) rfl dX1_copyFrom_42 ?_
  clear h9
  obtain ⟨q9, h9, ez9⟩ := wc_set (cy := cy) (ad := ad) (ks := ks) (g := g) (u := u9) (κ := (.cd L i)) (r := (10 + L)) (i := (137 + 25 * i + 5)) (v := (u9 (10 + L2) (137 + 25 * i2 + 5))) hk.1 ⟨h_L_i.1, h_L_i.2⟩ (own_cd (inl_lt h_L_i.1) h_L_i.2 (by decide)) (sf_cd_5)
  refine va_put (D := (dC, dI)) (ci := 2) (v := .int (u9 (10 + L2) (137 + 25 * i2 + 5))) (ty := .int) (C := RX1) (T := TX1) (N := 9) hx hb hts inlX1 tyX1 tyX1_ok nmX1 hown hK hP hD hS q9 h9 rfl 5 (by decide) (hts _ mw_334) (fun _ h9 => h9) rfl (by decide +kernel) rfl rfl (Nat.le_of_ble_eq_true rfl) dX1_copyFrom_45 (fun H locs hP hD hS => ?_)
  obtain ⟨u11, e12, hF⟩ := ob hF
  have hP : va_P (dC, dI) vwCl (WC cy ad ks g u11) H := by rw [← pt_eq e12, ← ez9]; exact hP
  have hD : va_D A (WC cy ad ks g u11) := by rw [← pt_eq e12, ← ez9]; exact hD
  clear ez9 h9
  refine lv_aload_n hx hb dX1_copyFrom_48 rfl (lv_at hl 0 rfl) ?_
  refine lv_aload_n hx hb dX1_copyFrom_49 rfl (lv_at hl 1 rfl) ?_
  obtain ⟨q9, h9⟩ := wc_at (cy := cy) (ad := ad) (ks := ks) (g := g) (u := u11) (κ := (.cd L2 i2)) hk.1 ⟨h_L2_i2.1, h_L2_i2.2⟩
  refine va_get (D := (dC, dI)) (ci := 2) (v := .int (u11 (10 + L2) (137 + 25 * i2 + 6))) (C := RX1) (T := TX1) (N := 9) hx hb hts inlX1 hown hK hP q9 h9 rfl 6 (by decide) (hts _ mw_335) (fun _ h9 => h9) rfl dX1_copyFrom_50 ?_
  clear h9
  obtain ⟨q9, h9, ez9⟩ := wc_set (cy := cy) (ad := ad) (ks := ks) (g := g) (u := u11) (κ := (.cd L i)) (r := (10 + L)) (i := (137 + 25 * i + 6)) (v := (u11 (10 + L2) (137 + 25 * i2 + 6))) hk.1 ⟨h_L_i.1, h_L_i.2⟩ (own_cd (inl_lt h_L_i.1) h_L_i.2 (by decide)) (sf_cd_6)
  refine va_put (D := (dC, dI)) (ci := 2) (v := .int (u11 (10 + L2) (137 + 25 * i2 + 6))) (ty := .int) (C := RX1) (T := TX1) (N := 9) hx hb hts inlX1 tyX1 tyX1_ok nmX1 hown hK hP hD hS q9 h9 rfl 6 (by decide) (hts _ mw_335) (fun _ h9 => h9) rfl (by decide +kernel) rfl rfl (Nat.le_of_ble_eq_true rfl) dX1_copyFrom_53 (fun H locs hP hD hS => ?_)
  obtain ⟨u13, e14, hF⟩ := ob hF
  have hP : va_P (dC, dI) vwCl (WC cy ad ks g u13) H := by rw [← pt_eq e14, ← ez9]; exact hP
  have hD : va_D A (WC cy ad ks g u13) := by rw [← pt_eq e14, ← ez9]; exact hD
  clear ez9 h9
  refine lv_aload_n hx hb dX1_copyFrom_56 rfl (lv_at hl 0 rfl) ?_
  refine lv_aload_n hx hb dX1_copyFrom_57 rfl (lv_at hl 1 rfl) ?_
  obtain ⟨q9, h9⟩ := wc_at (cy := cy) (ad := ad) (ks := ks) (g := g) (u := u13) (κ := (.cd L2 i2)) hk.1 ⟨h_L2_i2.1, h_L2_i2.2⟩
  refine va_get (D := (dC, dI)) (ci := 2) (v := .int (u13 (10 + L2) (137 + 25 * i2 + 7))) (C := RX1) (T := TX1) (N := 9) hx hb hts inlX1 hown hK hP q9 h9 rfl 7 (by decide) (hts _ mw_336) (fun _ h9 => h9) rfl dX1_copyFrom_58 ?_
  clear h9
  obtain ⟨q9, h9, ez9⟩ := wc_set (cy := cy) (ad := ad) (ks := ks) (g := g) (u := u13) (κ := (.cd L i)) (r := (10 + L)) (i := (137 + 25 * i + 7)) (v := (u13 (10 + L2) (137 + 25 * i2 + 7))) hk.1 ⟨h_L_i.1, h_L_i.2⟩ (own_cd (inl_lt h_L_i.1) h_L_i.2 (by decide)) (sf_cd_7)
  refine va_put (D := (dC, dI)) (ci := 2) (v := .int (u13 (10 + L2) (137 + 25 * i2 + 7))) (ty := .int) (C := RX1) (T := TX1) (N := 9) hx hb hts inlX1 tyX1 tyX1_ok nmX1 hown hK hP hD hS q9 h9 rfl 7 (by decide) (hts _ mw_336) (fun _ h9 => h9) rfl (by decide +kernel) rfl rfl (Nat.le_of_ble_eq_true rfl) dX1_copyFrom_61 (fun H locs hP hD hS => ?_)
  obtain ⟨u15, e16, hF⟩ := ob hF
  have hP : va_P (dC, dI) vwCl (WC cy ad ks g u15) H := by rw [← pt_eq e16, ← ez9]; exact hP
  have hD : va_D A (WC cy ad ks g u15) := by rw [← pt_eq e16, ← ez9]; exact hD
  clear ez9 h9
  refine lv_aload_n hx hb dX1_copyFrom_64 rfl (lv_at hl 0 rfl) ?_
  refine lv_aload_n hx hb dX1_copyFrom_65 rfl (lv_at hl 1 rfl) ?_
  obtain ⟨q9, h9⟩ := wc_at (cy := cy) (ad := ad) (ks := ks) (g := g) (u := u15) (κ := (.cd L2 i2)) hk.1 ⟨h_L2_i2.1, h_L2_i2.2⟩
  refine va_get (D := (dC, dI)) (ci := 2) (v := .int (u15 (10 + L2) (137 + 25 * i2 + 8))) (C := RX1) (T := TX1) (N := 9) hx hb hts inlX1 hown hK hP q9 h9 rfl 8 (by decide) (hts _ mw_337) (fun _ h9 => h9) rfl dX1_copyFrom_66 ?_
  clear h9
  obtain ⟨x17, e18, hF⟩ := ob hF
  refine my_topi (y := x17) (nz_e e18) ?_
  obtain ⟨q9, h9, ez9⟩ := wc_set (cy := cy) (ad := ad) (ks := ks) (g := g) (u := u15) (κ := (.cd L i)) (r := (10 + L)) (i := (137 + 25 * i + 8)) (v := x17) hk.1 ⟨h_L_i.1, h_L_i.2⟩ (own_cd (inl_lt h_L_i.1) h_L_i.2 (by decide)) (sf_cd_8)
  refine va_put (D := (dC, dI)) (ci := 2) (v := .int x17) (ty := .boolean) (C := RX1) (T := TX1) (N := 9) hx hb hts inlX1 tyX1 tyX1_ok nmX1 hown hK hP hD hS q9 h9 rfl 8 (by decide) (hts _ mw_337) (fun _ h9 => h9) rfl (by decide +kernel) (nz_n e18) (nz_f e18) (Nat.le_of_ble_eq_true rfl) dX1_copyFrom_69 (fun H locs hP hD hS => ?_)
  obtain ⟨u19, e20, hF⟩ := ob hF
  have hP : va_P (dC, dI) vwCl (WC cy ad ks g u19) H := by rw [← pt_eq e20, ← ez9]; exact hP
  have hD : va_D A (WC cy ad ks g u19) := by rw [← pt_eq e20, ← ez9]; exact hD
  clear ez9 h9
  have hZ := s1 hF
  have zuz : u19 = uz := hZ
  have hP9 : va_P (dC, dI) vwCl (WC cy ad ks g uz) H := by rw [← zuz]; exact hP
  have hD9 : va_D A (WC cy ad ks g uz) := by rw [← zuz]; exact hD
  rw [hQ]
  exact W.vret hx hb hr (fun t ht hW => ⟨⟨(), rfl, trivial, by rw [ht]; exact hP9, hD9⟩, hS.F ht⟩) hS.2.2 dX1_copyFrom_72
noncomputable def C1_isFinished (g : CG) (u0 : RS) (L : Nat) (i : Nat) : Option (Int32) := (if (u0 (10 + L) (137 + 25 * i + 3)) = 3 then (some (1 : Int32)) else (if (u0 (10 + L) (137 + 25 * i + 3)) = 4 then (some (1 : Int32)) else (some (0 : Int32))) : Option (Int32)).bind fun t2 => (nz t2).bind fun x5 => some x5
set_option maxHeartbeats 4000000 in
set_option maxRecDepth 100000 in
theorem c_X1_isFinished (l : Launch) (dC : Nat → ClassId) (dI : Nat → Nat → Nat) (cy : Nat → ClassId) (nb : Nat → Nat) (ad : CK → Nat) (ks : List CK) (g : CG) (hk : GA nb ad g ks) (u0 : RS) (L : Nat) (i : Nat) (ro : Int32) (sz : Nat) (h_L_i : has g (.cd L i)) (hF : C1_isFinished g u0 L i = some ro) : Met l yX1_isFinished (wsg yX1_isFinished cX1_isFinished 1 (some .boolean)) ({ frames := 7, cells := 0, slots := 0, locals := 200 }) (va_Pc [.ref (ad (.cd L i))] (fun U => U.heap.size = sz ∧ va_P (dC, dI) vwCl (WC cy ad ks g u0) U.heap ∧ va_K (dC, dI) vwCl (tyL cy) U ∧ va_D (fun _ => True) (WC cy ad ks g u0) ∧ GE nb (va_A (WC cy ad ks g u0) sz) U)) (va_Qi (fun (r : Int32) (_ : Unit) => r = ro) (fun _ t => va_P (dC, dI) vwCl (WC cy ad ks g u0) t.heap ∧ va_D (va_A (WC cy ad ks g u0) sz) (WC cy ad ks g u0)) (va_A (WC cy ad ks g u0) sz)) 0 0 (va_A (WC cy ad ks g u0) sz) := by
  refine Met.ofW (cc := cX1_isFinished) (maxL := 1) (ret := (some .boolean)) pn_X1 rfl ?_
  intro p e s m args below meth c s₁ B hml hv
  obtain ⟨rfl, hsz, hP, hK, hD0, hE⟩ := hv
  have hx := B.exec
  have hb := B.bytes
  have hr := B.returns
  have hts0 := atoms_spec (ws := (wsg yX1_isFinished cX1_isFinished 1 (some .boolean))) B.pre
  have hts : ∀ w ∈ wsL_law, w.before _ s = true := fun w h => hts0 w (List.mem_cons_of_mem _ h)
  have hown : s.vm.findClass RX1 = some m.cls := by have h9 := findClass_of_methodNamed B.named; exact h9
  have hlocks := B.notSynchronized
  subst hsz
  have hD := hD0.self (sz := s.heap.size)
  generalize hAe : va_A (WC cy ad ks g u0) s.heap.size = A at hD hE ⊢
  have hA : ∀ q : Nat, s.heap.size ≤ q → A q := fun q h => by rw [← hAe]; exact Or.inr h
  have hS : va_S A s.heap s.heap [] := va_S.rf
  have hl := lv_entry ([.ref (ad (.cd L i))]) (n := 1) (Nat.le_of_ble_eq_true rfl)
  rw [lg_entry_eq]
  generalize (lg_sl ([.ref (ad (.cd L i))]) ++ List.replicate (1 - (lg_sl ([.ref (ad (.cd L i))])).length) Slot.unset).toArray = ls at hl ⊢
  have hl : lv_has ls 1 [(0, .ref (ad (.cd L i)))] := hl
  generalize hHe : s.heap = H at hP hS ⊢
  have hS : va_S A s.heap H [] := by rw [hHe]; exact hS
  refine my_Q (fun Qn hQ => ?_)
  simp only [C1_isFinished] at hF
  refine lv_aload_n hx hb dX1_isFinished_0 rfl (lv_at hl 0 rfl) ?_
  obtain ⟨q9, h9⟩ := wc_at (cy := cy) (ad := ad) (ks := ks) (g := g) (u := u0) (κ := (.cd L i)) hk.1 ⟨h_L_i.1, h_L_i.2⟩
  refine va_get (D := (dC, dI)) (ci := 2) (v := .int (u0 (10 + L) (137 + 25 * i + 3))) (C := RX1) (T := TX1) (N := 9) hx hb hts inlX1 hown hK hP q9 h9 rfl 3 (by decide) (hts _ mw_332) (fun _ h9 => h9) rfl dX1_isFinished_1 ?_
  clear h9
  refine lv_iconst (v := 3) hx hb dX1_isFinished_4 (by decide) ?_
  obtain ⟨t2, hJ3, hF⟩ := ob hF
  have join4 : ∀ (H : Heap) (locs : List Loc) (ls : Array Slot), va_P (dC, dI) vwCl (WC cy ad ks g u0) H → va_D A (WC cy ad ks g u0) → va_S A s.heap H locs → lv_has ls 1 [(0, .ref (ad (.cd L i)))] → W p l e (headSpec (wsg yX1_isFinished cX1_isFinished 1 (some .boolean)) ({ frames := 7, cells := 0, slots := 0, locals := 200 })).room s m ([.ref (ad (.cd L i))] : List Value).toArray below meth c H locs 0 0 Qn (F0 m 21 ls [.int t2]) := by
    intro H locs ls hP hD hS hl
    obtain ⟨x5, e6, hF⟩ := ob hF
    refine my_topi (y := x5) (nz_e e6) ?_
    have hZ := s1 hF
    have zro : x5 = ro := hZ
    have hP9 : va_P (dC, dI) vwCl (WC cy ad ks g u0) H := by exact hP
    have hD9 : va_D A (WC cy ad ks g u0) := by exact hD
    rw [hQ]
    exact W.zret (v := x5) hx hb hr (nz_n e6) (fun t ht hW => ⟨⟨x5, (), rfl, zro, by rw [ht]; exact hP9, hD9⟩, hS.F ht⟩) hS.2.2 dX1_isFinished_21
  clear hF
  have hF := hJ3
  clear hJ3
  refine lv_icmp_eq (tgt := 16) hx hb dX1_isFinished_5 (by decide) (fun c1 => ?_) (fun c1 => ?_)
  · rw [if_pos c1] at hF
    refine lv_iconst (v := 1) hx hb dX1_isFinished_16 (by decide) ?_
    refine lv_goto (tgt := 21) hx hb dX1_isFinished_17 (by decide) ?_
    have ht := s1 hF
    subst ht
    exact join4 _ _ _ hP hD hS (lv_sub hl [0] rfl)
  · rw [if_neg c1] at hF
    refine lv_aload_n hx hb dX1_isFinished_8 rfl (lv_at hl 0 rfl) ?_
    obtain ⟨q9, h9⟩ := wc_at (cy := cy) (ad := ad) (ks := ks) (g := g) (u := u0) (κ := (.cd L i)) hk.1 ⟨h_L_i.1, h_L_i.2⟩
    refine va_get (D := (dC, dI)) (ci := 2) (v := .int (u0 (10 + L) (137 + 25 * i + 3))) (C := RX1) (T := TX1) (N := 9) hx hb hts inlX1 hown hK hP q9 h9 rfl 3 (by decide) (hts _ mw_332) (fun _ h9 => h9) rfl dX1_isFinished_9 ?_
    clear h9
    refine lv_iconst (v := 4) hx hb dX1_isFinished_12 (by decide) ?_
    refine lv_icmp_ne (tgt := 20) hx hb dX1_isFinished_13 (by decide) (fun c7 => ?_) (fun c7 => ?_)
    · rw [if_neg c7] at hF
      refine lv_iconst (v := 0) hx hb dX1_isFinished_20 (by decide) ?_
      have ht := s1 hF
      subst ht
      exact join4 _ _ _ hP hD hS (lv_sub hl [0] rfl)
    · rw [if_pos c7] at hF
      refine lv_iconst (v := 1) hx hb dX1_isFinished_16 (by decide) ?_
      refine lv_goto (tgt := 21) hx hb dX1_isFinished_17 (by decide) ?_
      have ht := s1 hF
      subst ht
      exact join4 _ _ _ hP hD hS (lv_sub hl [0] rfl)
noncomputable def C3_changeState (g : CG) (u0 : RS) (L : Nat) (i : Nat) (a2 : Int32) : Option (RS) := (rd u0 (400 + L) 5 (u0 (10 + L) (137 + 25 * i + 3))).bind fun x1 => (ws u0 (400 + L) 5 (u0 (10 + L) (137 + 25 * i + 3)) (x1 - 1)).bind fun u3 => (rd u3 (400 + L) 5 a2).bind fun x5 => (ws u3 (400 + L) 5 a2 (x5 + 1)).bind fun u7 => (pt u7 (10 + L) (137 + 25 * i + 3) a2).bind fun u9 => (pt u9 (10 + L) (137 + 25 * i + 4) (-1)).bind fun u11 => some u11
set_option maxHeartbeats 4000000 in
set_option maxRecDepth 100000 in
theorem c_X3_changeState (l : Launch) (dC : Nat → ClassId) (dI : Nat → Nat → Nat) (cy : Nat → ClassId) (nb : Nat → Nat) (ad : CK → Nat) (ks : List CK) (g : CG) (hk : GA nb ad g ks) (u0 : RS) (L : Nat) (i : Nat) (a2 : Int32) (uz : RS) (sz : Nat) (h_L : has g (.ln L)) (h_L_i : has g (.cd L i)) (hF : C3_changeState g u0 L i a2 = some uz) : Met l yX3_changeState (wsg yX3_changeState cX3_changeState 3 none) ({ frames := 7, cells := 0, slots := 0, locals := 200 }) (va_Pc [.ref (ad (.ln L)), .ref (ad (.cd L i)), .int a2] (fun U => U.heap.size = sz ∧ va_P (dC, dI) vwCl (WC cy ad ks g u0) U.heap ∧ va_K (dC, dI) vwCl (tyL cy) U ∧ va_D (fun _ => True) (WC cy ad ks g u0) ∧ GE nb (va_A (WC cy ad ks g u0) sz) U)) (va_Qv (fun (_ : Unit) => True) (fun _ t => va_P (dC, dI) vwCl (WC cy ad ks g uz) t.heap ∧ va_D (va_A (WC cy ad ks g u0) sz) (WC cy ad ks g uz)) (va_A (WC cy ad ks g u0) sz)) 0 0 (va_A (WC cy ad ks g u0) sz) := by
  refine Met.ofW (cc := cX3_changeState) (maxL := 3) (ret := none) pn_X3 rfl ?_
  intro p e s m args below meth c s₁ B hml hv
  obtain ⟨rfl, hsz, hP, hK, hD0, hE⟩ := hv
  have hx := B.exec
  have hb := B.bytes
  have hr := B.returns
  have hts0 := atoms_spec (ws := (wsg yX3_changeState cX3_changeState 3 none)) B.pre
  have hts : ∀ w ∈ wsL_law, w.before _ s = true := fun w h => hts0 w (List.mem_cons_of_mem _ h)
  have hown : s.vm.findClass RX3 = some m.cls := by have h9 := findClass_of_methodNamed B.named; exact h9
  have hlocks := B.notSynchronized
  subst hsz
  have hD := hD0.self (sz := s.heap.size)
  generalize hAe : va_A (WC cy ad ks g u0) s.heap.size = A at hD hE ⊢
  have hA : ∀ q : Nat, s.heap.size ≤ q → A q := fun q h => by rw [← hAe]; exact Or.inr h
  have hS : va_S A s.heap s.heap [] := va_S.rf
  have hl := lv_entry ([.ref (ad (.ln L)), .ref (ad (.cd L i)), .int a2]) (n := 3) (Nat.le_of_ble_eq_true rfl)
  rw [lg_entry_eq]
  generalize (lg_sl ([.ref (ad (.ln L)), .ref (ad (.cd L i)), .int a2]) ++ List.replicate (3 - (lg_sl ([.ref (ad (.ln L)), .ref (ad (.cd L i)), .int a2])).length) Slot.unset).toArray = ls at hl ⊢
  have hl : lv_has ls 3 [(0, .ref (ad (.ln L))), (1, .ref (ad (.cd L i))), (2, .int a2)] := hl
  generalize hHe : s.heap = H at hP hS ⊢
  have hS : va_S A s.heap H [] := by rw [hHe]; exact hS
  refine my_Q (fun Qn hQ => ?_)
  simp only [C3_changeState] at hF
  refine lv_aload_n hx hb dX3_changeState_0 rfl (lv_at hl 0 rfl) ?_
  obtain ⟨q9, h9⟩ := wc_at (cy := cy) (ad := ad) (ks := ks) (g := g) (u := u0) (κ := (.ln L)) hk.1 h_L_i.1
  refine va_get (D := (dC, dI)) (ci := 3) (v := .ref (ad (.is L))) (C := RX3) (T := TX3) (N := 17) hx hb hts inlX3 hown hK hP q9 h9 rfl 13 (by decide) (hts _ mw_46) (fun _ h9 => h9) rfl dX3_changeState_1 ?_
  clear h9
  refine lv_aload_n hx hb dX3_changeState_4 rfl (lv_at hl 1 rfl) ?_
  obtain ⟨q9, h9⟩ := wc_at (cy := cy) (ad := ad) (ks := ks) (g := g) (u := u0) (κ := (.cd L i)) hk.1 ⟨h_L_i.1, h_L_i.2⟩
  refine va_get (D := (dC, dI)) (ci := 2) (v := .int (u0 (10 + L) (137 + 25 * i + 3))) (C := RX1) (T := TX1) (N := 9) hx hb hts inlX1 hown hK hP q9 h9 rfl 3 (by decide) (hts _ mw_782) (fun _ h9 => h9) rfl dX3_changeState_5 ?_
  clear h9
  refine lv_dup2_11 hx hb dX3_changeState_8 rfl rfl ?_
  obtain ⟨x1, e2, hF⟩ := ob hF
  obtain ⟨q9, h9⟩ := wc_at (cy := cy) (ad := ad) (ks := ks) (g := g) (u := u0) (κ := (.is L)) hk.1 h_L_i.1
  refine va_iald hx hb hK hP q9 1 h9 rfl (rd_in e2) dX3_changeState_9 ?_
  refine my_topi (y := x1) (rd_eq e2) ?_
  clear h9
  refine lv_iconst (v := 1) hx hb dX3_changeState_10 (by decide) ?_
  refine lv_isub hx hb dX3_changeState_11 ?_
  obtain ⟨u3, e4, hF⟩ := ob hF
  obtain ⟨q9, h9, ez9⟩ := wc_set (cy := cy) (ad := ad) (ks := ks) (g := g) (u := u0) (κ := (.is L)) (r := (400 + L)) (i := ((u0 (10 + L) (137 + 25 * i + 3)) : Int32).toNatClampNeg) (v := (x1 - 1)) hk.1 h_L_i.1 (own_is (inl_lt h_L_i.1)) (sf_is)
  refine va_iast hx hb hK hP hD hS q9 1 h9 rfl (ws_in e4) dX3_changeState_12 (fun H locs hP hD hS => ?_)
  have hP : va_P (dC, dI) vwCl (WC cy ad ks g u3) H := by rw [← ws_eq e4, ← ez9]; exact hP
  have hD : va_D A (WC cy ad ks g u3) := by rw [← ws_eq e4, ← ez9]; exact hD
  clear ez9 h9
  refine lv_aload_n hx hb dX3_changeState_13 rfl (lv_at hl 0 rfl) ?_
  obtain ⟨q9, h9⟩ := wc_at (cy := cy) (ad := ad) (ks := ks) (g := g) (u := u3) (κ := (.ln L)) hk.1 h_L_i.1
  refine va_get (D := (dC, dI)) (ci := 3) (v := .ref (ad (.is L))) (C := RX3) (T := TX3) (N := 17) hx hb hts inlX3 hown hK hP q9 h9 rfl 13 (by decide) (hts _ mw_46) (fun _ h9 => h9) rfl dX3_changeState_14 ?_
  clear h9
  refine lv_iload_n hx hb dX3_changeState_17 rfl (lv_at hl 2 rfl) ?_
  refine lv_dup2_11 hx hb dX3_changeState_18 rfl rfl ?_
  obtain ⟨x5, e6, hF⟩ := ob hF
  obtain ⟨q9, h9⟩ := wc_at (cy := cy) (ad := ad) (ks := ks) (g := g) (u := u3) (κ := (.is L)) hk.1 h_L_i.1
  refine va_iald hx hb hK hP q9 1 h9 rfl (rd_in e6) dX3_changeState_19 ?_
  refine my_topi (y := x5) (rd_eq e6) ?_
  clear h9
  refine lv_iconst (v := 1) hx hb dX3_changeState_20 (by decide) ?_
  refine lv_iadd hx hb dX3_changeState_21 ?_
  obtain ⟨u7, e8, hF⟩ := ob hF
  obtain ⟨q9, h9, ez9⟩ := wc_set (cy := cy) (ad := ad) (ks := ks) (g := g) (u := u3) (κ := (.is L)) (r := (400 + L)) (i := (a2 : Int32).toNatClampNeg) (v := (x5 + 1)) hk.1 h_L_i.1 (own_is (inl_lt h_L_i.1)) (sf_is)
  refine va_iast hx hb hK hP hD hS q9 1 h9 rfl (ws_in e8) dX3_changeState_22 (fun H locs hP hD hS => ?_)
  have hP : va_P (dC, dI) vwCl (WC cy ad ks g u7) H := by rw [← ws_eq e8, ← ez9]; exact hP
  have hD : va_D A (WC cy ad ks g u7) := by rw [← ws_eq e8, ← ez9]; exact hD
  clear ez9 h9
  refine lv_aload_n hx hb dX3_changeState_23 rfl (lv_at hl 1 rfl) ?_
  refine lv_iload_n hx hb dX3_changeState_24 rfl (lv_at hl 2 rfl) ?_
  obtain ⟨q9, h9, ez9⟩ := wc_set (cy := cy) (ad := ad) (ks := ks) (g := g) (u := u7) (κ := (.cd L i)) (r := (10 + L)) (i := (137 + 25 * i + 3)) (v := a2) hk.1 ⟨h_L_i.1, h_L_i.2⟩ (own_cd (inl_lt h_L_i.1) h_L_i.2 (by decide)) (sf_cd_3)
  refine va_put (D := (dC, dI)) (ci := 2) (v := .int a2) (ty := .int) (C := RX1) (T := TX1) (N := 9) hx hb hts inlX1 tyX1 tyX1_ok nmX1 hown hK hP hD hS q9 h9 rfl 3 (by decide) (hts _ mw_782) (fun _ h9 => h9) rfl (by decide +kernel) rfl rfl (Nat.le_of_ble_eq_true rfl) dX3_changeState_25 (fun H locs hP hD hS => ?_)
  obtain ⟨u9, e10, hF⟩ := ob hF
  have hP : va_P (dC, dI) vwCl (WC cy ad ks g u9) H := by rw [← pt_eq e10, ← ez9]; exact hP
  have hD : va_D A (WC cy ad ks g u9) := by rw [← pt_eq e10, ← ez9]; exact hD
  clear ez9 h9
  refine lv_aload_n hx hb dX3_changeState_28 rfl (lv_at hl 1 rfl) ?_
  refine lv_iconst (v := (-1)) hx hb dX3_changeState_29 (by decide) ?_
  obtain ⟨q9, h9, ez9⟩ := wc_set (cy := cy) (ad := ad) (ks := ks) (g := g) (u := u9) (κ := (.cd L i)) (r := (10 + L)) (i := (137 + 25 * i + 4)) (v := (-1)) hk.1 ⟨h_L_i.1, h_L_i.2⟩ (own_cd (inl_lt h_L_i.1) h_L_i.2 (by decide)) (sf_cd_4)
  refine va_put (D := (dC, dI)) (ci := 2) (v := .int (-1)) (ty := .int) (C := RX1) (T := TX1) (N := 9) hx hb hts inlX1 tyX1 tyX1_ok nmX1 hown hK hP hD hS q9 h9 rfl 4 (by decide) (hts _ mw_1007) (fun _ h9 => h9) rfl (by decide +kernel) rfl rfl (Nat.le_of_ble_eq_true rfl) dX3_changeState_30 (fun H locs hP hD hS => ?_)
  obtain ⟨u11, e12, hF⟩ := ob hF
  have hP : va_P (dC, dI) vwCl (WC cy ad ks g u11) H := by rw [← pt_eq e12, ← ez9]; exact hP
  have hD : va_D A (WC cy ad ks g u11) := by rw [← pt_eq e12, ← ez9]; exact hD
  clear ez9 h9
  have hZ := s1 hF
  have zuz : u11 = uz := hZ
  have hP9 : va_P (dC, dI) vwCl (WC cy ad ks g uz) H := by rw [← zuz]; exact hP
  have hD9 : va_D A (WC cy ad ks g uz) := by rw [← zuz]; exact hD
  rw [hQ]
  exact W.vret hx hb hr (fun t ht hW => ⟨⟨(), rfl, trivial, by rw [ht]; exact hP9, hD9⟩, hS.F ht⟩) hS.2.2 dX3_changeState_33
noncomputable def C3_findNextCard_L0 (L : Nat) (i : Nat) (g : CG) : Nat → RS → Option (RS)
  | 0, _ => none
  | m7 + 1, u1 => if (u1 (10 + L) (113 + 4 * i + 1)) ≤ (u1 (10 + L) (1100 + 8 * i + 0)) then (some (u1)) else ((rd u1 (100 + 6 * L + i) 30 (u1 (10 + L) (1100 + 8 * i + 0))).bind fun x9 => (ix 30 x9).bind fun n11 => (C1_isFinished g u1 L n11).bind fun x13 => if x13 = 0 then (some (u1)) else ((pt u1 (10 + L) (1100 + 8 * i + 0) ((u1 (10 + L) (1100 + 8 * i + 0)) + 1)).bind fun u16 => C3_findNextCard_L0 L i g m7  u16))
noncomputable def C3_findNextCard (g : CG) (u0 : RS) (L : Nat) (i : Nat) : Option (RS) := (C3_findNextCard_L0 L i g FUEL  u0).bind fun t2 => some t2
set_option maxHeartbeats 4000000 in
set_option maxRecDepth 100000 in
theorem c_X3_findNextCard (l : Launch) (dC : Nat → ClassId) (dI : Nat → Nat → Nat) (cy : Nat → ClassId) (nb : Nat → Nat) (ad : CK → Nat) (ks : List CK) (g : CG) (hk : GA nb ad g ks) (u0 : RS) (L : Nat) (i : Nat) (uz : RS) (sz : Nat) (h_L : has g (.ln L)) (h_L_i : has g (.lo L i)) (hF : C3_findNextCard g u0 L i = some uz) : Met l yX3_findNextCard (wsg yX3_findNextCard cX3_findNextCard 2 none) ({ frames := 8, cells := 0, slots := 0, locals := 300 }) (va_Pc [.ref (ad (.ln L)), .ref (ad (.lo L i))] (fun U => U.heap.size = sz ∧ va_P (dC, dI) vwCl (WC cy ad ks g u0) U.heap ∧ va_K (dC, dI) vwCl (tyL cy) U ∧ va_D (fun _ => True) (WC cy ad ks g u0) ∧ GE nb (va_A (WC cy ad ks g u0) sz) U)) (va_Qv (fun (_ : Unit) => True) (fun _ t => va_P (dC, dI) vwCl (WC cy ad ks g uz) t.heap ∧ va_D (va_A (WC cy ad ks g u0) sz) (WC cy ad ks g uz)) (va_A (WC cy ad ks g u0) sz)) 0 0 (va_A (WC cy ad ks g u0) sz) := by
  refine Met.ofW (cc := cX3_findNextCard) (maxL := 2) (ret := none) pn_X3 rfl ?_
  intro p e s m args below meth c s₁ B hml hv
  obtain ⟨rfl, hsz, hP, hK, hD0, hE⟩ := hv
  have hx := B.exec
  have hb := B.bytes
  have hr := B.returns
  have hts0 := atoms_spec (ws := (wsg yX3_findNextCard cX3_findNextCard 2 none)) B.pre
  have hts : ∀ w ∈ wsL_law, w.before _ s = true := fun w h => hts0 w (List.mem_cons_of_mem _ h)
  have hown : s.vm.findClass RX3 = some m.cls := by have h9 := findClass_of_methodNamed B.named; exact h9
  have hlocks := B.notSynchronized
  subst hsz
  have hD := hD0.self (sz := s.heap.size)
  generalize hAe : va_A (WC cy ad ks g u0) s.heap.size = A at hD hE ⊢
  have hA : ∀ q : Nat, s.heap.size ≤ q → A q := fun q h => by rw [← hAe]; exact Or.inr h
  have hS : va_S A s.heap s.heap [] := va_S.rf
  have hl := lv_entry ([.ref (ad (.ln L)), .ref (ad (.lo L i))]) (n := 2) (Nat.le_of_ble_eq_true rfl)
  rw [lg_entry_eq]
  generalize (lg_sl ([.ref (ad (.ln L)), .ref (ad (.lo L i))]) ++ List.replicate (2 - (lg_sl ([.ref (ad (.ln L)), .ref (ad (.lo L i))])).length) Slot.unset).toArray = ls at hl ⊢
  have hl : lv_has ls 2 [(0, .ref (ad (.ln L))), (1, .ref (ad (.lo L i)))] := hl
  generalize hHe : s.heap = H at hP hS ⊢
  have hS : va_S A s.heap H [] := by rw [hHe]; exact hS
  refine my_Q (fun Qn hQ => ?_)
  simp only [C3_findNextCard] at hF
  obtain ⟨t2, hL3, hF⟩ := ob hF
  have kx4 : ∀ (H : Heap) (locs : List Loc) (ls : Array Slot), va_P (dC, dI) vwCl (WC cy ad ks g t2) H → va_D A (WC cy ad ks g t2) → va_S A s.heap H locs → lv_has ls 2 [(0, .ref (ad (.ln L))), (1, .ref (ad (.lo L i)))] → W p l e (headSpec (wsg yX3_findNextCard cX3_findNextCard 2 none) ({ frames := 8, cells := 0, slots := 0, locals := 300 })).room s m ([.ref (ad (.ln L)), .ref (ad (.lo L i))] : List Value).toArray below meth c H locs 0 0 Qn (F0 m 44 ls []) := by
    intro H locs ls hP hD hS hl
    have hZ := s1 hF
    have zuz : t2 = uz := hZ
    have hP9 : va_P (dC, dI) vwCl (WC cy ad ks g uz) H := by rw [← zuz]; exact hP
    have hD9 : va_D A (WC cy ad ks g uz) := by rw [← zuz]; exact hD
    rw [hQ]
    exact W.vret hx hb hr (fun t ht hW => ⟨⟨(), rfl, trivial, by rw [ht]; exact hP9, hD9⟩, hS.F ht⟩) hS.2.2 dX3_findNextCard_44
  clear hF
  have loop6 : ∀ (m7 : Nat)  (u1 : RS), C3_findNextCard_L0 L i g m7 u1 = some t2 → ∀ (H : Heap) (locs : List Loc) (ls : Array Slot), va_P (dC, dI) vwCl (WC cy ad ks g u1) H → va_D A (WC cy ad ks g u1) → va_S A s.heap H locs → lv_has ls 2 [(0, .ref (ad (.ln L))), (1, .ref (ad (.lo L i)))] → W p l e (headSpec (wsg yX3_findNextCard cX3_findNextCard 2 none) ({ frames := 8, cells := 0, slots := 0, locals := 300 })).room s m ([.ref (ad (.ln L)), .ref (ad (.lo L i))] : List Value).toArray below meth c H locs 0 0 Qn (F0 m 0 ls []) := by
    intro m7
    induction m7 with
    | zero => intro u1 hF; cases hF
    | succ m7 ih =>
      intro u1 hF H locs ls hP hD hS hl
      simp only [C3_findNextCard_L0] at hF
      refine lv_aload_n hx hb dX3_findNextCard_0 rfl (lv_at hl 1 rfl) ?_
      obtain ⟨q9, h9⟩ := wc_at (cy := cy) (ad := ad) (ks := ks) (g := g) (u := u1) (κ := (.lo L i)) hk.1 ⟨h_L_i.1, h_L_i.2⟩
      refine va_get (D := (dC, dI)) (ci := 4) (v := .int (u1 (10 + L) (1100 + 8 * i + 0))) (C := RX4) (T := TX4) (N := 12) hx hb hts inlX4 hown hK hP q9 h9 rfl 3 (by decide) (hts _ mw_1012) (fun _ h9 => h9) rfl dX3_findNextCard_1 ?_
      clear h9
      refine lv_aload_n hx hb dX3_findNextCard_4 rfl (lv_at hl 1 rfl) ?_
      obtain ⟨q9, h9⟩ := wc_at (cy := cy) (ad := ad) (ks := ks) (g := g) (u := u1) (κ := (.lo L i)) hk.1 ⟨h_L_i.1, h_L_i.2⟩
      refine va_get (D := (dC, dI)) (ci := 4) (v := .int (u1 (10 + L) (113 + 4 * i + 1))) (C := RX4) (T := TX4) (N := 12) hx hb hts inlX4 hown hK hP q9 h9 rfl 1 (by decide) (hts _ mw_324) (fun _ h9 => h9) rfl dX3_findNextCard_5 ?_
      clear h9
      refine lv_icmp_ge (tgt := 44) hx hb dX3_findNextCard_8 (by decide) (fun c8 => ?_) (fun c8 => ?_)
      · rw [if_pos c8] at hF
        have ht := s1 hF
        subst ht
        exact kx4 _ _ _ hP hD hS (lv_sub hl [0, 1] rfl)
      · rw [if_neg c8] at hF
        refine lv_aload_n hx hb dX3_findNextCard_11 rfl (lv_at hl 0 rfl) ?_
        obtain ⟨q9, h9⟩ := wc_at (cy := cy) (ad := ad) (ks := ks) (g := g) (u := u1) (κ := (.ln L)) hk.1 h_L_i.1
        refine va_get (D := (dC, dI)) (ci := 3) (v := .ref (ad (.cs L))) (C := RX3) (T := TX3) (N := 17) hx hb hts inlX3 hown hK hP q9 h9 rfl 12 (by decide) (hts _ mw_45) (fun _ h9 => h9) rfl dX3_findNextCard_12 ?_
        clear h9
        refine lv_aload_n hx hb dX3_findNextCard_15 rfl (lv_at hl 1 rfl) ?_
        obtain ⟨q9, h9⟩ := wc_at (cy := cy) (ad := ad) (ks := ks) (g := g) (u := u1) (κ := (.lo L i)) hk.1 ⟨h_L_i.1, h_L_i.2⟩
        refine va_get (D := (dC, dI)) (ci := 4) (v := .ref (ad (.bp L i))) (C := RX4) (T := TX4) (N := 12) hx hb hts inlX4 hown hK hP q9 h9 rfl 2 (by decide) (hts _ mw_325) (fun _ h9 => h9) rfl dX3_findNextCard_16 ?_
        clear h9
        refine lv_aload_n hx hb dX3_findNextCard_19 rfl (lv_at hl 1 rfl) ?_
        obtain ⟨q9, h9⟩ := wc_at (cy := cy) (ad := ad) (ks := ks) (g := g) (u := u1) (κ := (.lo L i)) hk.1 ⟨h_L_i.1, h_L_i.2⟩
        refine va_get (D := (dC, dI)) (ci := 4) (v := .int (u1 (10 + L) (1100 + 8 * i + 0))) (C := RX4) (T := TX4) (N := 12) hx hb hts inlX4 hown hK hP q9 h9 rfl 3 (by decide) (hts _ mw_1012) (fun _ h9 => h9) rfl dX3_findNextCard_20 ?_
        clear h9
        obtain ⟨x9, e10, hF⟩ := ob hF
        obtain ⟨q9, h9⟩ := wc_at (cy := cy) (ad := ad) (ks := ks) (g := g) (u := u1) (κ := (.bp L i)) hk.1 ⟨h_L_i.1, h_L_i.2⟩
        refine va_iald hx hb hK hP q9 1 h9 rfl (rd_in e10) dX3_findNextCard_23 ?_
        refine my_topi (y := x9) (rd_eq e10) ?_
        clear h9
        obtain ⟨n11, e12, hF⟩ := ob hF
        obtain ⟨q9, h9⟩ := wc_at (cy := cy) (ad := ad) (ks := ks) (g := g) (u := u1) (κ := (.cs L)) hk.1 h_L_i.1
        refine va_aldq hx hb hK hP q9 8 h9 rfl (ix_in e12) dX3_findNextCard_24 ?_
        refine my_top (y := .ref (ad (.cd L n11))) (ixv (F := fun j => ad (.cd L j)) e12) ?_
        clear h9
        obtain ⟨x13, e14, hF⟩ := ob hF
        have hPc := hP
        have hDc := hD
        have hFc := my_free hD hS hA
        obtain ⟨q8, h8⟩ := wc_at (cy := cy) (ad := ad) (ks := ks) (g := g) (u := u1) (κ := (.cd L n11)) hk.1 ⟨h_L_i.1, (ix_lt e12)⟩
        refine va_calli (va_runV (As := []) (rest := []) ⟨hx, hb, hml, hown, hts⟩ (c_X1_isFinished l dC dI cy nb ad ks g hk u1 L n11 (x13) H.size ⟨h_L_i.1, (ix_lt e12)⟩ e14) (cwV 0 hts (gV mw_950 mw_951 mw_952 mw_54 mw_953) rfl rfl rfl (by decide +kernel) ⟨Nat.le_of_ble_eq_true rfl, Nat.le_of_ble_eq_true rfl⟩) (my_preV hPc hK hDc hE hS hFc (va_recv (q := (RX1, TX1, 9)) hK hP (ci := 2) (q0 := q8) rfl h8)) rfl rfl hl.1 rfl (lv_room (Nat.le_of_ble_eq_true rfl)) dX3_findNextCard_25 ⟨Nat.le_of_ble_eq_true rfl, Nat.le_of_ble_eq_true rfl⟩) hS (fun q _ h => hFc q h) hFc (fun r u t H1 locs ht hvm hw hB hz1 hk1 hS => ?_)
        clear h8
        obtain ⟨hP1, hD1⟩ := hB
        rw [ht] at hP1
        have hP := hP1
        have hD := hD1.weaken (fun k q _ h => hFc q.1 h)
        generalize H1 = H at hP hS ⊢
        clear hP1 hD1 hPc hDc hFc hk1 hz1 hvm ht
        obtain rfl := hw.symm
        refine lv_if_eq (tgt := 44) hx hb dX3_findNextCard_28 (by decide) (fun c15 => ?_) (fun c15 => ?_)
        · rw [if_pos c15] at hF
          have ht := s1 hF
          subst ht
          exact kx4 _ _ _ hP hD hS (lv_sub hl [0, 1] rfl)
        · rw [if_neg c15] at hF
          refine lv_aload_n hx hb dX3_findNextCard_31 rfl (lv_at hl 1 rfl) ?_
          refine lv_dup hx hb dX3_findNextCard_32 rfl ?_
          obtain ⟨q9, h9⟩ := wc_at (cy := cy) (ad := ad) (ks := ks) (g := g) (u := u1) (κ := (.lo L i)) hk.1 ⟨h_L_i.1, h_L_i.2⟩
          refine va_get (D := (dC, dI)) (ci := 4) (v := .int (u1 (10 + L) (1100 + 8 * i + 0))) (C := RX4) (T := TX4) (N := 12) hx hb hts inlX4 hown hK hP q9 h9 rfl 3 (by decide) (hts _ mw_1012) (fun _ h9 => h9) rfl dX3_findNextCard_33 ?_
          clear h9
          refine lv_iconst (v := 1) hx hb dX3_findNextCard_36 (by decide) ?_
          refine lv_iadd hx hb dX3_findNextCard_37 ?_
          obtain ⟨q9, h9, ez9⟩ := wc_set (cy := cy) (ad := ad) (ks := ks) (g := g) (u := u1) (κ := (.lo L i)) (r := (10 + L)) (i := (1100 + 8 * i + 0)) (v := ((u1 (10 + L) (1100 + 8 * i + 0)) + 1)) hk.1 ⟨h_L_i.1, h_L_i.2⟩ (own_lq (inl_lt h_L_i.1) h_L_i.2 (by decide)) (sf_lo_3)
          refine va_put (D := (dC, dI)) (ci := 4) (v := .int ((u1 (10 + L) (1100 + 8 * i + 0)) + 1)) (ty := .int) (C := RX4) (T := TX4) (N := 12) hx hb hts inlX4 tyX4 tyX4_ok nmX4 hown hK hP hD hS q9 h9 rfl 3 (by decide) (hts _ mw_1012) (fun _ h9 => h9) rfl (by decide +kernel) rfl rfl (Nat.le_of_ble_eq_true rfl) dX3_findNextCard_38 (fun H locs hP hD hS => ?_)
          obtain ⟨u16, e17, hF⟩ := ob hF
          have hP : va_P (dC, dI) vwCl (WC cy ad ks g u16) H := by rw [← pt_eq e17, ← ez9]; exact hP
          have hD : va_D A (WC cy ad ks g u16) := by rw [← pt_eq e17, ← ez9]; exact hD
          clear ez9 h9
          refine lv_goto (tgt := 0) hx hb dX3_findNextCard_41 (by decide) ?_
          exact ih _ hF _ _ _ hP hD hS (lv_sub hl [0, 1] rfl)
  exact loop6 FUEL _ hL3 _ _ _ hP hD hS (lv_sub hl [0, 1] rfl)
noncomputable def C3_abandon (g : CG) (u0 : RS) (L : Nat) (a1 : Int32) : Option (RS) := (ix 30 a1).bind fun n1 => (pt u0 (10 + L) (137 + 25 * n1 + 8) (0)).bind fun u3 => (C3_changeState g u3 L n1 (4)).bind fun u5 => (ix 6 (u5 (10 + L) (137 + 25 * n1 + 0))).bind fun n7 => (pt u5 (10 + L) (1100 + 8 * n7 + 2) ((u5 (10 + L) (1100 + 8 * n7 + 2)) + 1)).bind fun u9 => (ix 6 (u9 (10 + L) (137 + 25 * n1 + 0))).bind fun n11 => (C3_findNextCard g u9 L n11).bind fun u13 => some u13
set_option maxHeartbeats 4000000 in
set_option maxRecDepth 100000 in
theorem c_X3_abandon (l : Launch) (dC : Nat → ClassId) (dI : Nat → Nat → Nat) (cy : Nat → ClassId) (nb : Nat → Nat) (ad : CK → Nat) (ks : List CK) (g : CG) (hk : GA nb ad g ks) (u0 : RS) (L : Nat) (a1 : Int32) (uz : RS) (sz : Nat) (h_L : has g (.ln L)) (hF : C3_abandon g u0 L a1 = some uz) : Met l yX3_abandon (wsg yX3_abandon cX3_abandon 3 none) ({ frames := 9, cells := 0, slots := 0, locals := 400 }) (va_Pc [.ref (ad (.ln L)), .int a1] (fun U => U.heap.size = sz ∧ va_P (dC, dI) vwCl (WC cy ad ks g u0) U.heap ∧ va_K (dC, dI) vwCl (tyL cy) U ∧ va_D (fun _ => True) (WC cy ad ks g u0) ∧ GE nb (va_A (WC cy ad ks g u0) sz) U)) (va_Qv (fun (_ : Unit) => True) (fun _ t => va_P (dC, dI) vwCl (WC cy ad ks g uz) t.heap ∧ va_D (va_A (WC cy ad ks g u0) sz) (WC cy ad ks g uz)) (va_A (WC cy ad ks g u0) sz)) 0 0 (va_A (WC cy ad ks g u0) sz) := by
  refine Met.ofW (cc := cX3_abandon) (maxL := 3) (ret := none) pn_X3 rfl ?_
  intro p e s m args below meth c s₁ B hml hv
  obtain ⟨rfl, hsz, hP, hK, hD0, hE⟩ := hv
  have hx := B.exec
  have hb := B.bytes
  have hr := B.returns
  have hts0 := atoms_spec (ws := (wsg yX3_abandon cX3_abandon 3 none)) B.pre
  have hts : ∀ w ∈ wsL_law, w.before _ s = true := fun w h => hts0 w (List.mem_cons_of_mem _ h)
  have hown : s.vm.findClass RX3 = some m.cls := by have h9 := findClass_of_methodNamed B.named; exact h9
  have hlocks := B.notSynchronized
  subst hsz
  have hD := hD0.self (sz := s.heap.size)
  generalize hAe : va_A (WC cy ad ks g u0) s.heap.size = A at hD hE ⊢
  have hA : ∀ q : Nat, s.heap.size ≤ q → A q := fun q h => by rw [← hAe]; exact Or.inr h
  have hS : va_S A s.heap s.heap [] := va_S.rf
  have hl := lv_entry ([.ref (ad (.ln L)), .int a1]) (n := 3) (Nat.le_of_ble_eq_true rfl)
  rw [lg_entry_eq]
  generalize (lg_sl ([.ref (ad (.ln L)), .int a1]) ++ List.replicate (3 - (lg_sl ([.ref (ad (.ln L)), .int a1])).length) Slot.unset).toArray = ls at hl ⊢
  have hl : lv_has ls 3 [(0, .ref (ad (.ln L))), (1, .int a1)] := hl
  generalize hHe : s.heap = H at hP hS ⊢
  have hS : va_S A s.heap H [] := by rw [hHe]; exact hS
  refine my_Q (fun Qn hQ => ?_)
  simp only [C3_abandon] at hF
  refine lv_aload_n hx hb dX3_abandon_0 rfl (lv_at hl 0 rfl) ?_
  obtain ⟨q9, h9⟩ := wc_at (cy := cy) (ad := ad) (ks := ks) (g := g) (u := u0) (κ := (.ln L)) hk.1 h_L
  refine va_get (D := (dC, dI)) (ci := 3) (v := .ref (ad (.cs L))) (C := RX3) (T := TX3) (N := 17) hx hb hts inlX3 hown hK hP q9 h9 rfl 12 (by decide) (hts _ mw_45) (fun _ h9 => h9) rfl dX3_abandon_1 ?_
  clear h9
  refine lv_iload_n hx hb dX3_abandon_4 rfl (lv_at hl 1 rfl) ?_
  obtain ⟨n1, e2, hF⟩ := ob hF
  obtain ⟨q9, h9⟩ := wc_at (cy := cy) (ad := ad) (ks := ks) (g := g) (u := u0) (κ := (.cs L)) hk.1 h_L
  refine va_aldq hx hb hK hP q9 8 h9 rfl (ix_in e2) dX3_abandon_5 ?_
  refine my_top (y := .ref (ad (.cd L n1))) (ixv (F := fun j => ad (.cd L j)) e2) ?_
  clear h9
  refine lv_astore_n (lv' := [(2, .ref (ad (.cd L n1))), (0, .ref (ad (.ln L))), (1, .int a1)]) hx hb dX3_abandon_6 rfl hl (by decide) rfl (fun ls hl => ?_)
  refine lv_aload_n hx hb dX3_abandon_7 rfl (lv_at hl 0 rfl) ?_
  refine lv_iconst (v := 0) hx hb dX3_abandon_8 (by decide) ?_
  obtain ⟨q9, h9, ez9⟩ := wc_set (cy := cy) (ad := ad) (ks := ks) (g := g) (u := u0) (κ := (.cd L n1)) (r := (10 + L)) (i := (137 + 25 * n1 + 8)) (v := (0)) hk.1 ⟨h_L, (ix_lt e2)⟩ (own_cd (inl_lt h_L) (ix_lt e2) (by decide)) (sf_cd_8)
  refine va_put (D := (dC, dI)) (ci := 2) (v := .int 0) (ty := .boolean) (C := RX1) (T := TX1) (N := 9) hx hb hts inlX1 tyX1 tyX1_ok nmX1 hown hK hP hD hS q9 h9 rfl 8 (by decide) (hts _ mw_783) (fun _ h9 => h9) rfl (by decide +kernel) rfl rfl (Nat.le_of_ble_eq_true rfl) dX3_abandon_9 (fun H locs hP hD hS => ?_)
  obtain ⟨u3, e4, hF⟩ := ob hF
  have hP : va_P (dC, dI) vwCl (WC cy ad ks g u3) H := by rw [← pt_eq e4, ← ez9]; exact hP
  have hD : va_D A (WC cy ad ks g u3) := by rw [← pt_eq e4, ← ez9]; exact hD
  clear ez9 h9
  refine lv_aload_n hx hb dX3_abandon_12 rfl (lv_at hl 1 rfl) ?_
  refine lv_aload_n hx hb dX3_abandon_13 rfl (lv_at hl 0 rfl) ?_
  refine lv_iconst (v := 4) hx hb dX3_abandon_14 (by decide) ?_
  obtain ⟨u5, e6, hF⟩ := ob hF
  have hPc := hP
  have hDc := hD
  have hFc := my_free hD hS hA
  obtain ⟨q8, h8⟩ := wc_at (cy := cy) (ad := ad) (ks := ks) (g := g) (u := u3) (κ := (.ln L)) hk.1 h_L
  refine va_callv (va_runV (As := [.ref (ad (.cd L n1)), .int 4]) (rest := []) ⟨hx, hb, hml, hown, hts⟩ (c_X3_changeState l dC dI cy nb ad ks g hk u3 L n1 (4) (u5) H.size h_L ⟨h_L, (ix_lt e2)⟩ e6) (cwV 2 hts (gV mw_1003 mw_1004 mw_1005 mw_17 mw_1006) rfl rfl rfl (by decide +kernel) ⟨Nat.le_of_ble_eq_true rfl, Nat.le_of_ble_eq_true rfl⟩) (my_preV hPc hK hDc hE hS hFc (va_recv (q := (RX3, TX3, 17)) hK hP (ci := 3) (q0 := q8) rfl h8)) rfl rfl hl.1 rfl (lv_room (Nat.le_of_ble_eq_true rfl)) dX3_abandon_15 ⟨Nat.le_of_ble_eq_true rfl, Nat.le_of_ble_eq_true rfl⟩) hS (fun q _ h => hFc q h) hFc (fun u t H1 locs ht hvm hw hB hz1 hk1 hS => ?_)
  clear h8
  obtain ⟨hP1, hD1⟩ := hB
  rw [ht] at hP1
  have hP := hP1
  have hD := hD1.weaken (fun k q _ h => hFc q.1 h)
  generalize H1 = H at hP hS ⊢
  clear hP1 hD1 hPc hDc hFc hk1 hz1 hvm ht
  refine lv_aload_n hx hb dX3_abandon_18 rfl (lv_at hl 1 rfl) ?_
  obtain ⟨q9, h9⟩ := wc_at (cy := cy) (ad := ad) (ks := ks) (g := g) (u := u5) (κ := (.ln L)) hk.1 h_L
  refine va_get (D := (dC, dI)) (ci := 3) (v := .ref (ad (.ls L))) (C := RX3) (T := TX3) (N := 17) hx hb hts inlX3 hown hK hP q9 h9 rfl 11 (by decide) (hts _ mw_43) (fun _ h9 => h9) rfl dX3_abandon_19 ?_
  clear h9
  refine lv_aload_n hx hb dX3_abandon_22 rfl (lv_at hl 0 rfl) ?_
  obtain ⟨q9, h9⟩ := wc_at (cy := cy) (ad := ad) (ks := ks) (g := g) (u := u5) (κ := (.cd L n1)) hk.1 ⟨h_L, (ix_lt e2)⟩
  refine va_get (D := (dC, dI)) (ci := 2) (v := .int (u5 (10 + L) (137 + 25 * n1 + 0))) (C := RX1) (T := TX1) (N := 9) hx hb hts inlX1 hown hK hP q9 h9 rfl 0 (by decide) (hts _ mw_786) (fun _ h9 => h9) rfl dX3_abandon_23 ?_
  clear h9
  obtain ⟨n7, e8, hF⟩ := ob hF
  obtain ⟨q9, h9⟩ := wc_at (cy := cy) (ad := ad) (ks := ks) (g := g) (u := u5) (κ := (.ls L)) hk.1 h_L
  refine va_aldq hx hb hK hP q9 7 h9 rfl (ix_in e8) dX3_abandon_26 ?_
  refine my_top (y := .ref (ad (.lo L n7))) (ixv (F := fun j => ad (.lo L j)) e8) ?_
  clear h9
  refine lv_dup hx hb dX3_abandon_27 rfl ?_
  obtain ⟨q9, h9⟩ := wc_at (cy := cy) (ad := ad) (ks := ks) (g := g) (u := u5) (κ := (.lo L n7)) hk.1 ⟨h_L, (ix_lt e8)⟩
  refine va_get (D := (dC, dI)) (ci := 4) (v := .int (u5 (10 + L) (1100 + 8 * n7 + 2))) (C := RX4) (T := TX4) (N := 12) hx hb hts inlX4 hown hK hP q9 h9 rfl 5 (by decide) (hts _ mw_1002) (fun _ h9 => h9) rfl dX3_abandon_28 ?_
  clear h9
  refine lv_iconst (v := 1) hx hb dX3_abandon_31 (by decide) ?_
  refine lv_iadd hx hb dX3_abandon_32 ?_
  obtain ⟨q9, h9, ez9⟩ := wc_set (cy := cy) (ad := ad) (ks := ks) (g := g) (u := u5) (κ := (.lo L n7)) (r := (10 + L)) (i := (1100 + 8 * n7 + 2)) (v := ((u5 (10 + L) (1100 + 8 * n7 + 2)) + 1)) hk.1 ⟨h_L, (ix_lt e8)⟩ (own_lq (inl_lt h_L) (ix_lt e8) (by decide)) (sf_lo_5)
  refine va_put (D := (dC, dI)) (ci := 4) (v := .int ((u5 (10 + L) (1100 + 8 * n7 + 2)) + 1)) (ty := .int) (C := RX4) (T := TX4) (N := 12) hx hb hts inlX4 tyX4 tyX4_ok nmX4 hown hK hP hD hS q9 h9 rfl 5 (by decide) (hts _ mw_1002) (fun _ h9 => h9) rfl (by decide +kernel) rfl rfl (Nat.le_of_ble_eq_true rfl) dX3_abandon_33 (fun H locs hP hD hS => ?_)
  obtain ⟨u9, e10, hF⟩ := ob hF
  have hP : va_P (dC, dI) vwCl (WC cy ad ks g u9) H := by rw [← pt_eq e10, ← ez9]; exact hP
  have hD : va_D A (WC cy ad ks g u9) := by rw [← pt_eq e10, ← ez9]; exact hD
  clear ez9 h9
  refine lv_aload_n hx hb dX3_abandon_36 rfl (lv_at hl 1 rfl) ?_
  refine lv_aload_n hx hb dX3_abandon_37 rfl (lv_at hl 1 rfl) ?_
  obtain ⟨q9, h9⟩ := wc_at (cy := cy) (ad := ad) (ks := ks) (g := g) (u := u9) (κ := (.ln L)) hk.1 h_L
  refine va_get (D := (dC, dI)) (ci := 3) (v := .ref (ad (.ls L))) (C := RX3) (T := TX3) (N := 17) hx hb hts inlX3 hown hK hP q9 h9 rfl 11 (by decide) (hts _ mw_43) (fun _ h9 => h9) rfl dX3_abandon_38 ?_
  clear h9
  refine lv_aload_n hx hb dX3_abandon_41 rfl (lv_at hl 0 rfl) ?_
  obtain ⟨q9, h9⟩ := wc_at (cy := cy) (ad := ad) (ks := ks) (g := g) (u := u9) (κ := (.cd L n1)) hk.1 ⟨h_L, (ix_lt e2)⟩
  refine va_get (D := (dC, dI)) (ci := 2) (v := .int (u9 (10 + L) (137 + 25 * n1 + 0))) (C := RX1) (T := TX1) (N := 9) hx hb hts inlX1 hown hK hP q9 h9 rfl 0 (by decide) (hts _ mw_786) (fun _ h9 => h9) rfl dX3_abandon_42 ?_
  clear h9
  obtain ⟨n11, e12, hF⟩ := ob hF
  obtain ⟨q9, h9⟩ := wc_at (cy := cy) (ad := ad) (ks := ks) (g := g) (u := u9) (κ := (.ls L)) hk.1 h_L
  refine va_aldq hx hb hK hP q9 7 h9 rfl (ix_in e12) dX3_abandon_45 ?_
  refine my_top (y := .ref (ad (.lo L n11))) (ixv (F := fun j => ad (.lo L j)) e12) ?_
  clear h9
  obtain ⟨u13, e14, hF⟩ := ob hF
  have hPc := hP
  have hDc := hD
  have hFc := my_free hD hS hA
  obtain ⟨q8, h8⟩ := wc_at (cy := cy) (ad := ad) (ks := ks) (g := g) (u := u9) (κ := (.ln L)) hk.1 h_L
  refine va_callv (va_runV (As := [.ref (ad (.lo L n11))]) (rest := []) ⟨hx, hb, hml, hown, hts⟩ (c_X3_findNextCard l dC dI cy nb ad ks g hk u9 L n11 (u13) H.size h_L ⟨h_L, (ix_lt e12)⟩ e14) (cwV 1 hts (gV mw_1008 mw_1009 mw_1010 mw_17 mw_1011) rfl rfl rfl (by decide +kernel) ⟨Nat.le_of_ble_eq_true rfl, Nat.le_of_ble_eq_true rfl⟩) (my_preV hPc hK hDc hE hS hFc (va_recv (q := (RX3, TX3, 17)) hK hP (ci := 3) (q0 := q8) rfl h8)) rfl rfl hl.1 rfl (lv_room (Nat.le_of_ble_eq_true rfl)) dX3_abandon_46 ⟨Nat.le_of_ble_eq_true rfl, Nat.le_of_ble_eq_true rfl⟩) hS (fun q _ h => hFc q h) hFc (fun u t H1 locs ht hvm hw hB hz1 hk1 hS => ?_)
  clear h8
  obtain ⟨hP1, hD1⟩ := hB
  rw [ht] at hP1
  have hP := hP1
  have hD := hD1.weaken (fun k q _ h => hFc q.1 h)
  generalize H1 = H at hP hS ⊢
  clear hP1 hD1 hPc hDc hFc hk1 hz1 hvm ht
  have hZ := s1 hF
  have zuz : u13 = uz := hZ
  have hP9 : va_P (dC, dI) vwCl (WC cy ad ks g uz) H := by rw [← zuz]; exact hP
  have hD9 : va_D A (WC cy ad ks g uz) := by rw [← zuz]; exact hD
  rw [hQ]
  exact W.vret hx hb hr (fun t ht hW => ⟨⟨(), rfl, trivial, by rw [ht]; exact hP9, hD9⟩, hS.F ht⟩) hS.2.2 dX3_abandon_49
noncomputable def C3_addCard (g : CG) (u0 : RS) (L : Nat) (a1 : Int32) (a2 : Int32) : Option (RS) := (if 30 ≤ (u0 (10 + L) 9) then (some u0) else ((ix 30 (u0 (10 + L) 9)).bind fun n5 => (ix 6 a1).bind fun n7 => (C1_begin g u0 L n5 (a1) ((u0 (10 + L) (113 + 4 * n7 + 1))) a2).bind fun u9 => (ix 6 a1).bind fun n11 => (ix 6 a1).bind fun n13 => (ws u9 (100 + 6 * L + n11) 30 (u9 (10 + L) (113 + 4 * n13 + 1)) (u9 (10 + L) 9)).bind fun u15 => (ix 6 a1).bind fun n17 => (pt u15 (10 + L) (113 + 4 * n17 + 1) ((u15 (10 + L) (113 + 4 * n17 + 1)) + 1)).bind fun u19 => (ws u19 (400 + L) 5 0 ((u19 (400 + L) 0) + 1)).bind fun u21 => (pt u21 (10 + L) 9 ((u21 (10 + L) 9) + 1)).bind fun u23 => some u23) : Option (RS)).bind fun t2 => some t2
set_option maxHeartbeats 4000000 in
set_option maxRecDepth 100000 in
theorem c_X3_addCard (l : Launch) (dC : Nat → ClassId) (dI : Nat → Nat → Nat) (cy : Nat → ClassId) (nb : Nat → Nat) (ad : CK → Nat) (ks : List CK) (g : CG) (hk : GA nb ad g ks) (u0 : RS) (L : Nat) (a1 : Int32) (a2 : Int32) (uz : RS) (sz : Nat) (h_L : has g (.ln L)) (hF : C3_addCard g u0 L a1 a2 = some uz) : Met l yX3_addCard (wsg yX3_addCard cX3_addCard 3 none) ({ frames := 8, cells := 0, slots := 0, locals := 300 }) (va_Pc [.ref (ad (.ln L)), .int a1, .ref (ad (.tx (a2).toNatClampNeg))] (fun U => U.heap.size = sz ∧ va_P (dC, dI) vwCl (WC cy ad ks g u0) U.heap ∧ va_K (dC, dI) vwCl (tyL cy) U ∧ va_D (fun _ => True) (WC cy ad ks g u0) ∧ GE nb (va_A (WC cy ad ks g u0) sz) U)) (va_Qv (fun (_ : Unit) => True) (fun _ t => va_P (dC, dI) vwCl (WC cy ad ks g uz) t.heap ∧ va_D (va_A (WC cy ad ks g u0) sz) (WC cy ad ks g uz)) (va_A (WC cy ad ks g u0) sz)) 0 0 (va_A (WC cy ad ks g u0) sz) := by
  refine Met.ofW (cc := cX3_addCard) (maxL := 3) (ret := none) pn_X3 rfl ?_
  intro p e s m args below meth c s₁ B hml hv
  obtain ⟨rfl, hsz, hP, hK, hD0, hE⟩ := hv
  have hx := B.exec
  have hb := B.bytes
  have hr := B.returns
  have hts0 := atoms_spec (ws := (wsg yX3_addCard cX3_addCard 3 none)) B.pre
  have hts : ∀ w ∈ wsL_law, w.before _ s = true := fun w h => hts0 w (List.mem_cons_of_mem _ h)
  have hown : s.vm.findClass RX3 = some m.cls := by have h9 := findClass_of_methodNamed B.named; exact h9
  have hlocks := B.notSynchronized
  subst hsz
  have hD := hD0.self (sz := s.heap.size)
  generalize hAe : va_A (WC cy ad ks g u0) s.heap.size = A at hD hE ⊢
  have hA : ∀ q : Nat, s.heap.size ≤ q → A q := fun q h => by rw [← hAe]; exact Or.inr h
  have hS : va_S A s.heap s.heap [] := va_S.rf
  have hl := lv_entry ([.ref (ad (.ln L)), .int a1, .ref (ad (.tx (a2).toNatClampNeg))]) (n := 3) (Nat.le_of_ble_eq_true rfl)
  rw [lg_entry_eq]
  generalize (lg_sl ([.ref (ad (.ln L)), .int a1, .ref (ad (.tx (a2).toNatClampNeg))]) ++ List.replicate (3 - (lg_sl ([.ref (ad (.ln L)), .int a1, .ref (ad (.tx (a2).toNatClampNeg))])).length) Slot.unset).toArray = ls at hl ⊢
  have hl : lv_has ls 3 [(0, .ref (ad (.ln L))), (1, .int a1), (2, .ref (ad (.tx (a2).toNatClampNeg)))] := hl
  generalize hHe : s.heap = H at hP hS ⊢
  have hS : va_S A s.heap H [] := by rw [hHe]; exact hS
  refine my_Q (fun Qn hQ => ?_)
  simp only [C3_addCard] at hF
  refine lv_aload_n hx hb dX3_addCard_0 rfl (lv_at hl 0 rfl) ?_
  obtain ⟨q9, h9⟩ := wc_at (cy := cy) (ad := ad) (ks := ks) (g := g) (u := u0) (κ := (.ln L)) hk.1 h_L
  refine va_get (D := (dC, dI)) (ci := 3) (v := .int (u0 (10 + L) 9)) (C := RX3) (T := TX3) (N := 17) hx hb hts inlX3 hown hK hP q9 h9 rfl 9 (by decide) (hts _ mw_88) (fun _ h9 => h9) rfl dX3_addCard_1 ?_
  clear h9
  refine lv_bipush (v := 30) hx hb dX3_addCard_4 (by decide) ?_
  obtain ⟨t2, hJ3, hF⟩ := ob hF
  have join4 : ∀ (H : Heap) (locs : List Loc) (ls : Array Slot), va_P (dC, dI) vwCl (WC cy ad ks g t2) H → va_D A (WC cy ad ks g t2) → va_S A s.heap H locs → lv_has ls 3 [(0, .ref (ad (.ln L))), (1, .int a1), (2, .ref (ad (.tx (a2).toNatClampNeg)))] → W p l e (headSpec (wsg yX3_addCard cX3_addCard 3 none) ({ frames := 8, cells := 0, slots := 0, locals := 300 })).room s m ([.ref (ad (.ln L)), .int a1, .ref (ad (.tx (a2).toNatClampNeg))] : List Value).toArray below meth c H locs 0 0 Qn (F0 m 90 ls []) := by
    intro H locs ls hP hD hS hl
    have hZ := s1 hF
    have zuz : t2 = uz := hZ
    have hP9 : va_P (dC, dI) vwCl (WC cy ad ks g uz) H := by rw [← zuz]; exact hP
    have hD9 : va_D A (WC cy ad ks g uz) := by rw [← zuz]; exact hD
    rw [hQ]
    exact W.vret hx hb hr (fun t ht hW => ⟨⟨(), rfl, trivial, by rw [ht]; exact hP9, hD9⟩, hS.F ht⟩) hS.2.2 dX3_addCard_90
  clear hF
  have hF := hJ3
  clear hJ3
  refine lv_icmp_ge (tgt := 90) hx hb dX3_addCard_6 (by decide) (fun c1 => ?_) (fun c1 => ?_)
  · rw [if_pos c1] at hF
    have ht := s1 hF
    subst ht
    exact join4 _ _ _ hP hD hS (lv_sub hl [0, 1, 2] rfl)
  · rw [if_neg c1] at hF
    refine lv_aload_n hx hb dX3_addCard_9 rfl (lv_at hl 0 rfl) ?_
    obtain ⟨q9, h9⟩ := wc_at (cy := cy) (ad := ad) (ks := ks) (g := g) (u := u0) (κ := (.ln L)) hk.1 h_L
    refine va_get (D := (dC, dI)) (ci := 3) (v := .ref (ad (.cs L))) (C := RX3) (T := TX3) (N := 17) hx hb hts inlX3 hown hK hP q9 h9 rfl 12 (by decide) (hts _ mw_45) (fun _ h9 => h9) rfl dX3_addCard_10 ?_
    clear h9
    refine lv_aload_n hx hb dX3_addCard_13 rfl (lv_at hl 0 rfl) ?_
    obtain ⟨q9, h9⟩ := wc_at (cy := cy) (ad := ad) (ks := ks) (g := g) (u := u0) (κ := (.ln L)) hk.1 h_L
    refine va_get (D := (dC, dI)) (ci := 3) (v := .int (u0 (10 + L) 9)) (C := RX3) (T := TX3) (N := 17) hx hb hts inlX3 hown hK hP q9 h9 rfl 9 (by decide) (hts _ mw_88) (fun _ h9 => h9) rfl dX3_addCard_14 ?_
    clear h9
    obtain ⟨n5, e6, hF⟩ := ob hF
    obtain ⟨q9, h9⟩ := wc_at (cy := cy) (ad := ad) (ks := ks) (g := g) (u := u0) (κ := (.cs L)) hk.1 h_L
    refine va_aldq hx hb hK hP q9 8 h9 rfl (ix_in e6) dX3_addCard_17 ?_
    refine my_top (y := .ref (ad (.cd L n5))) (ixv (F := fun j => ad (.cd L j)) e6) ?_
    clear h9
    refine lv_iload_n hx hb dX3_addCard_18 rfl (lv_at hl 1 rfl) ?_
    refine lv_aload_n hx hb dX3_addCard_19 rfl (lv_at hl 0 rfl) ?_
    obtain ⟨q9, h9⟩ := wc_at (cy := cy) (ad := ad) (ks := ks) (g := g) (u := u0) (κ := (.ln L)) hk.1 h_L
    refine va_get (D := (dC, dI)) (ci := 3) (v := .ref (ad (.ls L))) (C := RX3) (T := TX3) (N := 17) hx hb hts inlX3 hown hK hP q9 h9 rfl 11 (by decide) (hts _ mw_43) (fun _ h9 => h9) rfl dX3_addCard_20 ?_
    clear h9
    refine lv_iload_n hx hb dX3_addCard_23 rfl (lv_at hl 1 rfl) ?_
    obtain ⟨n7, e8, hF⟩ := ob hF
    obtain ⟨q9, h9⟩ := wc_at (cy := cy) (ad := ad) (ks := ks) (g := g) (u := u0) (κ := (.ls L)) hk.1 h_L
    refine va_aldq hx hb hK hP q9 7 h9 rfl (ix_in e8) dX3_addCard_24 ?_
    refine my_top (y := .ref (ad (.lo L n7))) (ixv (F := fun j => ad (.lo L j)) e8) ?_
    clear h9
    obtain ⟨q9, h9⟩ := wc_at (cy := cy) (ad := ad) (ks := ks) (g := g) (u := u0) (κ := (.lo L n7)) hk.1 ⟨h_L, (ix_lt e8)⟩
    refine va_get (D := (dC, dI)) (ci := 4) (v := .int (u0 (10 + L) (113 + 4 * n7 + 1))) (C := RX4) (T := TX4) (N := 12) hx hb hts inlX4 hown hK hP q9 h9 rfl 1 (by decide) (hts _ mw_324) (fun _ h9 => h9) rfl dX3_addCard_25 ?_
    clear h9
    refine lv_aload_n hx hb dX3_addCard_28 rfl (lv_at hl 2 rfl) ?_
    obtain ⟨u9, e10, hF⟩ := ob hF
    have hPc := hP
    have hDc := hD
    have hFc := my_free hD hS hA
    obtain ⟨q8, h8⟩ := wc_at (cy := cy) (ad := ad) (ks := ks) (g := g) (u := u0) (κ := (.cd L n5)) hk.1 ⟨h_L, (ix_lt e6)⟩
    refine va_callv (va_runV (As := [.int a1, .int (u0 (10 + L) (113 + 4 * n7 + 1)), .ref (ad (.tx (a2).toNatClampNeg))]) (rest := []) ⟨hx, hb, hml, hown, hts⟩ (c_X1_begin l dC dI cy nb ad ks g hk u0 L n5 (a1) ((u0 (10 + L) (113 + 4 * n7 + 1))) a2 (u9) H.size ⟨h_L, (ix_lt e6)⟩ e10) (cwV 3 hts (gV mw_326 mw_327 mw_328 mw_54 mw_329) rfl rfl rfl (by decide +kernel) ⟨Nat.le_of_ble_eq_true rfl, Nat.le_of_ble_eq_true rfl⟩) (my_preV hPc hK hDc hE hS hFc (va_recv (q := (RX1, TX1, 9)) hK hP (ci := 2) (q0 := q8) rfl h8)) rfl rfl hl.1 rfl (lv_room (Nat.le_of_ble_eq_true rfl)) dX3_addCard_29 ⟨Nat.le_of_ble_eq_true rfl, Nat.le_of_ble_eq_true rfl⟩) hS (fun q _ h => hFc q h) hFc (fun u t H1 locs ht hvm hw hB hz1 hk1 hS => ?_)
    clear h8
    obtain ⟨hP1, hD1⟩ := hB
    rw [ht] at hP1
    have hP := hP1
    have hD := hD1.weaken (fun k q _ h => hFc q.1 h)
    generalize H1 = H at hP hS ⊢
    clear hP1 hD1 hPc hDc hFc hk1 hz1 hvm ht
    refine lv_aload_n hx hb dX3_addCard_32 rfl (lv_at hl 0 rfl) ?_
    obtain ⟨q9, h9⟩ := wc_at (cy := cy) (ad := ad) (ks := ks) (g := g) (u := u9) (κ := (.ln L)) hk.1 h_L
    refine va_get (D := (dC, dI)) (ci := 3) (v := .ref (ad (.ls L))) (C := RX3) (T := TX3) (N := 17) hx hb hts inlX3 hown hK hP q9 h9 rfl 11 (by decide) (hts _ mw_43) (fun _ h9 => h9) rfl dX3_addCard_33 ?_
    clear h9
    refine lv_iload_n hx hb dX3_addCard_36 rfl (lv_at hl 1 rfl) ?_
    obtain ⟨n11, e12, hF⟩ := ob hF
    obtain ⟨q9, h9⟩ := wc_at (cy := cy) (ad := ad) (ks := ks) (g := g) (u := u9) (κ := (.ls L)) hk.1 h_L
    refine va_aldq hx hb hK hP q9 7 h9 rfl (ix_in e12) dX3_addCard_37 ?_
    refine my_top (y := .ref (ad (.lo L n11))) (ixv (F := fun j => ad (.lo L j)) e12) ?_
    clear h9
    obtain ⟨q9, h9⟩ := wc_at (cy := cy) (ad := ad) (ks := ks) (g := g) (u := u9) (κ := (.lo L n11)) hk.1 ⟨h_L, (ix_lt e12)⟩
    refine va_get (D := (dC, dI)) (ci := 4) (v := .ref (ad (.bp L n11))) (C := RX4) (T := TX4) (N := 12) hx hb hts inlX4 hown hK hP q9 h9 rfl 2 (by decide) (hts _ mw_325) (fun _ h9 => h9) rfl dX3_addCard_38 ?_
    clear h9
    refine lv_aload_n hx hb dX3_addCard_41 rfl (lv_at hl 0 rfl) ?_
    obtain ⟨q9, h9⟩ := wc_at (cy := cy) (ad := ad) (ks := ks) (g := g) (u := u9) (κ := (.ln L)) hk.1 h_L
    refine va_get (D := (dC, dI)) (ci := 3) (v := .ref (ad (.ls L))) (C := RX3) (T := TX3) (N := 17) hx hb hts inlX3 hown hK hP q9 h9 rfl 11 (by decide) (hts _ mw_43) (fun _ h9 => h9) rfl dX3_addCard_42 ?_
    clear h9
    refine lv_iload_n hx hb dX3_addCard_45 rfl (lv_at hl 1 rfl) ?_
    obtain ⟨n13, e14, hF⟩ := ob hF
    obtain ⟨q9, h9⟩ := wc_at (cy := cy) (ad := ad) (ks := ks) (g := g) (u := u9) (κ := (.ls L)) hk.1 h_L
    refine va_aldq hx hb hK hP q9 7 h9 rfl (ix_in e14) dX3_addCard_46 ?_
    refine my_top (y := .ref (ad (.lo L n13))) (ixv (F := fun j => ad (.lo L j)) e14) ?_
    clear h9
    obtain ⟨q9, h9⟩ := wc_at (cy := cy) (ad := ad) (ks := ks) (g := g) (u := u9) (κ := (.lo L n13)) hk.1 ⟨h_L, (ix_lt e14)⟩
    refine va_get (D := (dC, dI)) (ci := 4) (v := .int (u9 (10 + L) (113 + 4 * n13 + 1))) (C := RX4) (T := TX4) (N := 12) hx hb hts inlX4 hown hK hP q9 h9 rfl 1 (by decide) (hts _ mw_324) (fun _ h9 => h9) rfl dX3_addCard_47 ?_
    clear h9
    refine lv_aload_n hx hb dX3_addCard_50 rfl (lv_at hl 0 rfl) ?_
    obtain ⟨q9, h9⟩ := wc_at (cy := cy) (ad := ad) (ks := ks) (g := g) (u := u9) (κ := (.ln L)) hk.1 h_L
    refine va_get (D := (dC, dI)) (ci := 3) (v := .int (u9 (10 + L) 9)) (C := RX3) (T := TX3) (N := 17) hx hb hts inlX3 hown hK hP q9 h9 rfl 9 (by decide) (hts _ mw_88) (fun _ h9 => h9) rfl dX3_addCard_51 ?_
    clear h9
    obtain ⟨u15, e16, hF⟩ := ob hF
    obtain ⟨q9, h9, ez9⟩ := wc_set (cy := cy) (ad := ad) (ks := ks) (g := g) (u := u9) (κ := (.bp L n11)) (r := (100 + 6 * L + n11)) (i := ((u9 (10 + L) (113 + 4 * n13 + 1)) : Int32).toNatClampNeg) (v := (u9 (10 + L) 9)) hk.1 ⟨h_L, (ix_lt e12)⟩ (own_bp (inl_lt h_L) (ix_lt e12)) (sf_bp)
    refine va_iast hx hb hK hP hD hS q9 1 h9 rfl (ws_in e16) dX3_addCard_54 (fun H locs hP hD hS => ?_)
    have hP : va_P (dC, dI) vwCl (WC cy ad ks g u15) H := by rw [← ws_eq e16, ← ez9]; exact hP
    have hD : va_D A (WC cy ad ks g u15) := by rw [← ws_eq e16, ← ez9]; exact hD
    clear ez9 h9
    refine lv_aload_n hx hb dX3_addCard_55 rfl (lv_at hl 0 rfl) ?_
    obtain ⟨q9, h9⟩ := wc_at (cy := cy) (ad := ad) (ks := ks) (g := g) (u := u15) (κ := (.ln L)) hk.1 h_L
    refine va_get (D := (dC, dI)) (ci := 3) (v := .ref (ad (.ls L))) (C := RX3) (T := TX3) (N := 17) hx hb hts inlX3 hown hK hP q9 h9 rfl 11 (by decide) (hts _ mw_43) (fun _ h9 => h9) rfl dX3_addCard_56 ?_
    clear h9
    refine lv_iload_n hx hb dX3_addCard_59 rfl (lv_at hl 1 rfl) ?_
    obtain ⟨n17, e18, hF⟩ := ob hF
    obtain ⟨q9, h9⟩ := wc_at (cy := cy) (ad := ad) (ks := ks) (g := g) (u := u15) (κ := (.ls L)) hk.1 h_L
    refine va_aldq hx hb hK hP q9 7 h9 rfl (ix_in e18) dX3_addCard_60 ?_
    refine my_top (y := .ref (ad (.lo L n17))) (ixv (F := fun j => ad (.lo L j)) e18) ?_
    clear h9
    refine lv_dup hx hb dX3_addCard_61 rfl ?_
    obtain ⟨q9, h9⟩ := wc_at (cy := cy) (ad := ad) (ks := ks) (g := g) (u := u15) (κ := (.lo L n17)) hk.1 ⟨h_L, (ix_lt e18)⟩
    refine va_get (D := (dC, dI)) (ci := 4) (v := .int (u15 (10 + L) (113 + 4 * n17 + 1))) (C := RX4) (T := TX4) (N := 12) hx hb hts inlX4 hown hK hP q9 h9 rfl 1 (by decide) (hts _ mw_324) (fun _ h9 => h9) rfl dX3_addCard_62 ?_
    clear h9
    refine lv_iconst (v := 1) hx hb dX3_addCard_65 (by decide) ?_
    refine lv_iadd hx hb dX3_addCard_66 ?_
    obtain ⟨q9, h9, ez9⟩ := wc_set (cy := cy) (ad := ad) (ks := ks) (g := g) (u := u15) (κ := (.lo L n17)) (r := (10 + L)) (i := (113 + 4 * n17 + 1)) (v := ((u15 (10 + L) (113 + 4 * n17 + 1)) + 1)) hk.1 ⟨h_L, (ix_lt e18)⟩ (own_lo (inl_lt h_L) (ix_lt e18) (by decide)) (sf_lo_1)
    refine va_put (D := (dC, dI)) (ci := 4) (v := .int ((u15 (10 + L) (113 + 4 * n17 + 1)) + 1)) (ty := .int) (C := RX4) (T := TX4) (N := 12) hx hb hts inlX4 tyX4 tyX4_ok nmX4 hown hK hP hD hS q9 h9 rfl 1 (by decide) (hts _ mw_324) (fun _ h9 => h9) rfl (by decide +kernel) rfl rfl (Nat.le_of_ble_eq_true rfl) dX3_addCard_67 (fun H locs hP hD hS => ?_)
    obtain ⟨u19, e20, hF⟩ := ob hF
    have hP : va_P (dC, dI) vwCl (WC cy ad ks g u19) H := by rw [← pt_eq e20, ← ez9]; exact hP
    have hD : va_D A (WC cy ad ks g u19) := by rw [← pt_eq e20, ← ez9]; exact hD
    clear ez9 h9
    refine lv_aload_n hx hb dX3_addCard_70 rfl (lv_at hl 0 rfl) ?_
    obtain ⟨q9, h9⟩ := wc_at (cy := cy) (ad := ad) (ks := ks) (g := g) (u := u19) (κ := (.ln L)) hk.1 h_L
    refine va_get (D := (dC, dI)) (ci := 3) (v := .ref (ad (.is L))) (C := RX3) (T := TX3) (N := 17) hx hb hts inlX3 hown hK hP q9 h9 rfl 13 (by decide) (hts _ mw_46) (fun _ h9 => h9) rfl dX3_addCard_71 ?_
    clear h9
    refine lv_iconst (v := 0) hx hb dX3_addCard_74 (by decide) ?_
    refine lv_dup2_11 hx hb dX3_addCard_75 rfl rfl ?_
    obtain ⟨q9, h9⟩ := wc_at (cy := cy) (ad := ad) (ks := ks) (g := g) (u := u19) (κ := (.is L)) hk.1 h_L
    refine va_iald hx hb hK hP q9 1 h9 rfl (vp_in_nI (n := 0) (by decide) (by decide)) dX3_addCard_76 ?_
    refine my_topi (y := (u19 (400 + L) 0)) (by rfl) ?_
    clear h9
    refine lv_iconst (v := 1) hx hb dX3_addCard_77 (by decide) ?_
    refine lv_iadd hx hb dX3_addCard_78 ?_
    obtain ⟨u21, e22, hF⟩ := ob hF
    obtain ⟨q9, h9, ez9⟩ := wc_set (cy := cy) (ad := ad) (ks := ks) (g := g) (u := u19) (κ := (.is L)) (r := (400 + L)) (i := (0 : Int32).toNatClampNeg) (v := ((u19 (400 + L) 0) + 1)) hk.1 h_L (own_is (inl_lt h_L)) (sf_is)
    refine va_iast hx hb hK hP hD hS q9 1 h9 rfl (ws_in e22) dX3_addCard_79 (fun H locs hP hD hS => ?_)
    have hP : va_P (dC, dI) vwCl (WC cy ad ks g u21) H := by rw [← ws_eq e22, ← ez9]; exact hP
    have hD : va_D A (WC cy ad ks g u21) := by rw [← ws_eq e22, ← ez9]; exact hD
    clear ez9 h9
    refine lv_aload_n hx hb dX3_addCard_80 rfl (lv_at hl 0 rfl) ?_
    refine lv_dup hx hb dX3_addCard_81 rfl ?_
    obtain ⟨q9, h9⟩ := wc_at (cy := cy) (ad := ad) (ks := ks) (g := g) (u := u21) (κ := (.ln L)) hk.1 h_L
    refine va_get (D := (dC, dI)) (ci := 3) (v := .int (u21 (10 + L) 9)) (C := RX3) (T := TX3) (N := 17) hx hb hts inlX3 hown hK hP q9 h9 rfl 9 (by decide) (hts _ mw_88) (fun _ h9 => h9) rfl dX3_addCard_82 ?_
    clear h9
    refine lv_iconst (v := 1) hx hb dX3_addCard_85 (by decide) ?_
    refine lv_iadd hx hb dX3_addCard_86 ?_
    obtain ⟨q9, h9, ez9⟩ := wc_set (cy := cy) (ad := ad) (ks := ks) (g := g) (u := u21) (κ := (.ln L)) (r := (10 + L)) (i := 9) (v := ((u21 (10 + L) 9) + 1)) hk.1 h_L (own_ln (inl_lt h_L) (by decide)) (sf_ln_9)
    refine va_put (D := (dC, dI)) (ci := 3) (v := .int ((u21 (10 + L) 9) + 1)) (ty := .int) (C := RX3) (T := TX3) (N := 17) hx hb hts inlX3 tyX3 tyX3_ok nmX3 hown hK hP hD hS q9 h9 rfl 9 (by decide) (hts _ mw_88) (fun _ h9 => h9) rfl (by decide +kernel) rfl rfl (Nat.le_of_ble_eq_true rfl) dX3_addCard_87 (fun H locs hP hD hS => ?_)
    obtain ⟨u23, e24, hF⟩ := ob hF
    have hP : va_P (dC, dI) vwCl (WC cy ad ks g u23) H := by rw [← pt_eq e24, ← ez9]; exact hP
    have hD : va_D A (WC cy ad ks g u23) := by rw [← pt_eq e24, ← ez9]; exact hD
    clear ez9 h9
    have ht := s1 hF
    subst ht
    exact join4 _ _ _ hP hD hS (lv_sub hl [0, 1, 2] rfl)
noncomputable def C4_begin (g : CG) (u0 : RS) (L : Nat) (i : Nat) (a1 : Int32) : Option (RS) := (pt u0 (10 + L) (113 + 4 * i + 0) a1).bind fun u1 => (pt u1 (10 + L) (113 + 4 * i + 1) (0)).bind fun u3 => (pt u3 (10 + L) (1100 + 8 * i + 0) (0)).bind fun u5 => (pt u5 (10 + L) (1100 + 8 * i + 1) (0)).bind fun u7 => (pt u7 (10 + L) (1100 + 8 * i + 2) (0)).bind fun u9 => (pt u9 (10 + L) (1100 + 8 * i + 3) (0)).bind fun u11 => (pt u11 (10 + L) (1100 + 8 * i + 4) (0)).bind fun u13 => (pt u13 (10 + L) (113 + 4 * i + 2) (0)).bind fun u15 => (pt u15 (10 + L) (113 + 4 * i + 3) (0)).bind fun u17 => some u17
set_option maxHeartbeats 4000000 in
set_option maxRecDepth 100000 in
theorem c_X4_begin (l : Launch) (dC : Nat → ClassId) (dI : Nat → Nat → Nat) (cy : Nat → ClassId) (nb : Nat → Nat) (ad : CK → Nat) (ks : List CK) (g : CG) (hk : GA nb ad g ks) (u0 : RS) (L : Nat) (i : Nat) (a1 : Int32) (uz : RS) (sz : Nat) (h_L_i : has g (.lo L i)) (hF : C4_begin g u0 L i a1 = some uz) : Met l yX4_begin (wsg yX4_begin cX4_begin 2 none) ({ frames := 7, cells := 0, slots := 0, locals := 200 }) (va_Pc [.ref (ad (.lo L i)), .int a1] (fun U => U.heap.size = sz ∧ va_P (dC, dI) vwCl (WC cy ad ks g u0) U.heap ∧ va_K (dC, dI) vwCl (tyL cy) U ∧ va_D (fun _ => True) (WC cy ad ks g u0) ∧ GE nb (va_A (WC cy ad ks g u0) sz) U)) (va_Qv (fun (_ : Unit) => True) (fun _ t => va_P (dC, dI) vwCl (WC cy ad ks g uz) t.heap ∧ va_D (va_A (WC cy ad ks g u0) sz) (WC cy ad ks g uz)) (va_A (WC cy ad ks g u0) sz)) 0 0 (va_A (WC cy ad ks g u0) sz) := by
  refine Met.ofW (cc := cX4_begin) (maxL := 2) (ret := none) pn_X4 rfl ?_
  intro p e s m args below meth c s₁ B hml hv
  obtain ⟨rfl, hsz, hP, hK, hD0, hE⟩ := hv
  have hx := B.exec
  have hb := B.bytes
  have hr := B.returns
  have hts0 := atoms_spec (ws := (wsg yX4_begin cX4_begin 2 none)) B.pre
  have hts : ∀ w ∈ wsL_law, w.before _ s = true := fun w h => hts0 w (List.mem_cons_of_mem _ h)
  have hown : s.vm.findClass RX4 = some m.cls := by have h9 := findClass_of_methodNamed B.named; exact h9
  have hlocks := B.notSynchronized
  subst hsz
  have hD := hD0.self (sz := s.heap.size)
  generalize hAe : va_A (WC cy ad ks g u0) s.heap.size = A at hD hE ⊢
  have hA : ∀ q : Nat, s.heap.size ≤ q → A q := fun q h => by rw [← hAe]; exact Or.inr h
  have hS : va_S A s.heap s.heap [] := va_S.rf
  have hl := lv_entry ([.ref (ad (.lo L i)), .int a1]) (n := 2) (Nat.le_of_ble_eq_true rfl)
  rw [lg_entry_eq]
  generalize (lg_sl ([.ref (ad (.lo L i)), .int a1]) ++ List.replicate (2 - (lg_sl ([.ref (ad (.lo L i)), .int a1])).length) Slot.unset).toArray = ls at hl ⊢
  have hl : lv_has ls 2 [(0, .ref (ad (.lo L i))), (1, .int a1)] := hl
  generalize hHe : s.heap = H at hP hS ⊢
  have hS : va_S A s.heap H [] := by rw [hHe]; exact hS
  refine my_Q (fun Qn hQ => ?_)
  simp only [C4_begin] at hF
  refine lv_aload_n hx hb dX4_begin_0 rfl (lv_at hl 0 rfl) ?_
  refine lv_iload_n hx hb dX4_begin_1 rfl (lv_at hl 1 rfl) ?_
  obtain ⟨q9, h9, ez9⟩ := wc_set (cy := cy) (ad := ad) (ks := ks) (g := g) (u := u0) (κ := (.lo L i)) (r := (10 + L)) (i := (113 + 4 * i + 0)) (v := a1) hk.1 ⟨h_L_i.1, h_L_i.2⟩ (own_lo (inl_lt h_L_i.1) h_L_i.2 (by decide)) (sf_lo_0)
  refine va_put (D := (dC, dI)) (ci := 4) (v := .int a1) (ty := .int) (C := RX4) (T := TX4) (N := 12) hx hb hts inlX4 tyX4 tyX4_ok nmX4 hown hK hP hD hS q9 h9 rfl 0 (by decide) (hts _ mw_265) (fun _ h9 => h9) rfl (by decide +kernel) rfl rfl (Nat.le_of_ble_eq_true rfl) dX4_begin_2 (fun H locs hP hD hS => ?_)
  obtain ⟨u1, e2, hF⟩ := ob hF
  have hP : va_P (dC, dI) vwCl (WC cy ad ks g u1) H := by rw [← pt_eq e2, ← ez9]; exact hP
  have hD : va_D A (WC cy ad ks g u1) := by rw [← pt_eq e2, ← ez9]; exact hD
  clear ez9 h9
  refine lv_aload_n hx hb dX4_begin_5 rfl (lv_at hl 0 rfl) ?_
  refine lv_iconst (v := 0) hx hb dX4_begin_6 (by decide) ?_
  obtain ⟨q9, h9, ez9⟩ := wc_set (cy := cy) (ad := ad) (ks := ks) (g := g) (u := u1) (κ := (.lo L i)) (r := (10 + L)) (i := (113 + 4 * i + 1)) (v := (0)) hk.1 ⟨h_L_i.1, h_L_i.2⟩ (own_lo (inl_lt h_L_i.1) h_L_i.2 (by decide)) (sf_lo_1)
  refine va_put (D := (dC, dI)) (ci := 4) (v := .int 0) (ty := .int) (C := RX4) (T := TX4) (N := 12) hx hb hts inlX4 tyX4 tyX4_ok nmX4 hown hK hP hD hS q9 h9 rfl 1 (by decide) (hts _ mw_266) (fun _ h9 => h9) rfl (by decide +kernel) rfl rfl (Nat.le_of_ble_eq_true rfl) dX4_begin_7 (fun H locs hP hD hS => ?_)
  obtain ⟨u3, e4, hF⟩ := ob hF
  have hP : va_P (dC, dI) vwCl (WC cy ad ks g u3) H := by rw [← pt_eq e4, ← ez9]; exact hP
  have hD : va_D A (WC cy ad ks g u3) := by rw [← pt_eq e4, ← ez9]; exact hD
  clear ez9 h9
  refine lv_aload_n hx hb dX4_begin_10 rfl (lv_at hl 0 rfl) ?_
  refine lv_iconst (v := 0) hx hb dX4_begin_11 (by decide) ?_
  obtain ⟨q9, h9, ez9⟩ := wc_set (cy := cy) (ad := ad) (ks := ks) (g := g) (u := u3) (κ := (.lo L i)) (r := (10 + L)) (i := (1100 + 8 * i + 0)) (v := (0)) hk.1 ⟨h_L_i.1, h_L_i.2⟩ (own_lq (inl_lt h_L_i.1) h_L_i.2 (by decide)) (sf_lo_3)
  refine va_put (D := (dC, dI)) (ci := 4) (v := .int 0) (ty := .int) (C := RX4) (T := TX4) (N := 12) hx hb hts inlX4 tyX4 tyX4_ok nmX4 hown hK hP hD hS q9 h9 rfl 3 (by decide) (hts _ mw_267) (fun _ h9 => h9) rfl (by decide +kernel) rfl rfl (Nat.le_of_ble_eq_true rfl) dX4_begin_12 (fun H locs hP hD hS => ?_)
  obtain ⟨u5, e6, hF⟩ := ob hF
  have hP : va_P (dC, dI) vwCl (WC cy ad ks g u5) H := by rw [← pt_eq e6, ← ez9]; exact hP
  have hD : va_D A (WC cy ad ks g u5) := by rw [← pt_eq e6, ← ez9]; exact hD
  clear ez9 h9
  refine lv_aload_n hx hb dX4_begin_15 rfl (lv_at hl 0 rfl) ?_
  refine lv_iconst (v := 0) hx hb dX4_begin_16 (by decide) ?_
  obtain ⟨q9, h9, ez9⟩ := wc_set (cy := cy) (ad := ad) (ks := ks) (g := g) (u := u5) (κ := (.lo L i)) (r := (10 + L)) (i := (1100 + 8 * i + 1)) (v := (0)) hk.1 ⟨h_L_i.1, h_L_i.2⟩ (own_lq (inl_lt h_L_i.1) h_L_i.2 (by decide)) (sf_lo_4)
  refine va_put (D := (dC, dI)) (ci := 4) (v := .int 0) (ty := .int) (C := RX4) (T := TX4) (N := 12) hx hb hts inlX4 tyX4 tyX4_ok nmX4 hown hK hP hD hS q9 h9 rfl 4 (by decide) (hts _ mw_268) (fun _ h9 => h9) rfl (by decide +kernel) rfl rfl (Nat.le_of_ble_eq_true rfl) dX4_begin_17 (fun H locs hP hD hS => ?_)
  obtain ⟨u7, e8, hF⟩ := ob hF
  have hP : va_P (dC, dI) vwCl (WC cy ad ks g u7) H := by rw [← pt_eq e8, ← ez9]; exact hP
  have hD : va_D A (WC cy ad ks g u7) := by rw [← pt_eq e8, ← ez9]; exact hD
  clear ez9 h9
  refine lv_aload_n hx hb dX4_begin_20 rfl (lv_at hl 0 rfl) ?_
  refine lv_iconst (v := 0) hx hb dX4_begin_21 (by decide) ?_
  obtain ⟨q9, h9, ez9⟩ := wc_set (cy := cy) (ad := ad) (ks := ks) (g := g) (u := u7) (κ := (.lo L i)) (r := (10 + L)) (i := (1100 + 8 * i + 2)) (v := (0)) hk.1 ⟨h_L_i.1, h_L_i.2⟩ (own_lq (inl_lt h_L_i.1) h_L_i.2 (by decide)) (sf_lo_5)
  refine va_put (D := (dC, dI)) (ci := 4) (v := .int 0) (ty := .int) (C := RX4) (T := TX4) (N := 12) hx hb hts inlX4 tyX4 tyX4_ok nmX4 hown hK hP hD hS q9 h9 rfl 5 (by decide) (hts _ mw_269) (fun _ h9 => h9) rfl (by decide +kernel) rfl rfl (Nat.le_of_ble_eq_true rfl) dX4_begin_22 (fun H locs hP hD hS => ?_)
  obtain ⟨u9, e10, hF⟩ := ob hF
  have hP : va_P (dC, dI) vwCl (WC cy ad ks g u9) H := by rw [← pt_eq e10, ← ez9]; exact hP
  have hD : va_D A (WC cy ad ks g u9) := by rw [← pt_eq e10, ← ez9]; exact hD
  clear ez9 h9
  refine lv_aload_n hx hb dX4_begin_25 rfl (lv_at hl 0 rfl) ?_
  refine lv_iconst (v := 0) hx hb dX4_begin_26 (by decide) ?_
  obtain ⟨q9, h9, ez9⟩ := wc_set (cy := cy) (ad := ad) (ks := ks) (g := g) (u := u9) (κ := (.lo L i)) (r := (10 + L)) (i := (1100 + 8 * i + 3)) (v := (0)) hk.1 ⟨h_L_i.1, h_L_i.2⟩ (own_lq (inl_lt h_L_i.1) h_L_i.2 (by decide)) (sf_lo_6)
  refine va_put (D := (dC, dI)) (ci := 4) (v := .int 0) (ty := .int) (C := RX4) (T := TX4) (N := 12) hx hb hts inlX4 tyX4 tyX4_ok nmX4 hown hK hP hD hS q9 h9 rfl 6 (by decide) (hts _ mw_270) (fun _ h9 => h9) rfl (by decide +kernel) rfl rfl (Nat.le_of_ble_eq_true rfl) dX4_begin_27 (fun H locs hP hD hS => ?_)
  obtain ⟨u11, e12, hF⟩ := ob hF
  have hP : va_P (dC, dI) vwCl (WC cy ad ks g u11) H := by rw [← pt_eq e12, ← ez9]; exact hP
  have hD : va_D A (WC cy ad ks g u11) := by rw [← pt_eq e12, ← ez9]; exact hD
  clear ez9 h9
  refine lv_aload_n hx hb dX4_begin_30 rfl (lv_at hl 0 rfl) ?_
  refine lv_iconst (v := 0) hx hb dX4_begin_31 (by decide) ?_
  obtain ⟨q9, h9, ez9⟩ := wc_set (cy := cy) (ad := ad) (ks := ks) (g := g) (u := u11) (κ := (.lo L i)) (r := (10 + L)) (i := (1100 + 8 * i + 4)) (v := (0)) hk.1 ⟨h_L_i.1, h_L_i.2⟩ (own_lq (inl_lt h_L_i.1) h_L_i.2 (by decide)) (sf_lo_7)
  refine va_put (D := (dC, dI)) (ci := 4) (v := .int 0) (ty := .int) (C := RX4) (T := TX4) (N := 12) hx hb hts inlX4 tyX4 tyX4_ok nmX4 hown hK hP hD hS q9 h9 rfl 7 (by decide) (hts _ mw_271) (fun _ h9 => h9) rfl (by decide +kernel) rfl rfl (Nat.le_of_ble_eq_true rfl) dX4_begin_32 (fun H locs hP hD hS => ?_)
  obtain ⟨u13, e14, hF⟩ := ob hF
  have hP : va_P (dC, dI) vwCl (WC cy ad ks g u13) H := by rw [← pt_eq e14, ← ez9]; exact hP
  have hD : va_D A (WC cy ad ks g u13) := by rw [← pt_eq e14, ← ez9]; exact hD
  clear ez9 h9
  refine lv_aload_n hx hb dX4_begin_35 rfl (lv_at hl 0 rfl) ?_
  refine lv_iconst (v := 0) hx hb dX4_begin_36 (by decide) ?_
  obtain ⟨q9, h9, ez9⟩ := wc_set (cy := cy) (ad := ad) (ks := ks) (g := g) (u := u13) (κ := (.lo L i)) (r := (10 + L)) (i := (113 + 4 * i + 2)) (v := (0)) hk.1 ⟨h_L_i.1, h_L_i.2⟩ (own_lo (inl_lt h_L_i.1) h_L_i.2 (by decide)) (sf_lo_8)
  refine va_put (D := (dC, dI)) (ci := 4) (v := .int 0) (ty := .int) (C := RX4) (T := TX4) (N := 12) hx hb hts inlX4 tyX4 tyX4_ok nmX4 hown hK hP hD hS q9 h9 rfl 8 (by decide) (hts _ mw_272) (fun _ h9 => h9) rfl (by decide +kernel) rfl rfl (Nat.le_of_ble_eq_true rfl) dX4_begin_37 (fun H locs hP hD hS => ?_)
  obtain ⟨u15, e16, hF⟩ := ob hF
  have hP : va_P (dC, dI) vwCl (WC cy ad ks g u15) H := by rw [← pt_eq e16, ← ez9]; exact hP
  have hD : va_D A (WC cy ad ks g u15) := by rw [← pt_eq e16, ← ez9]; exact hD
  clear ez9 h9
  refine lv_aload_n hx hb dX4_begin_40 rfl (lv_at hl 0 rfl) ?_
  refine lv_iconst (v := 0) hx hb dX4_begin_41 (by decide) ?_
  obtain ⟨q9, h9, ez9⟩ := wc_set (cy := cy) (ad := ad) (ks := ks) (g := g) (u := u15) (κ := (.lo L i)) (r := (10 + L)) (i := (113 + 4 * i + 3)) (v := (0)) hk.1 ⟨h_L_i.1, h_L_i.2⟩ (own_lo (inl_lt h_L_i.1) h_L_i.2 (by decide)) (sf_lo_9)
  refine va_put (D := (dC, dI)) (ci := 4) (v := .int 0) (ty := .int) (C := RX4) (T := TX4) (N := 12) hx hb hts inlX4 tyX4 tyX4_ok nmX4 hown hK hP hD hS q9 h9 rfl 9 (by decide) (hts _ mw_273) (fun _ h9 => h9) rfl (by decide +kernel) rfl rfl (Nat.le_of_ble_eq_true rfl) dX4_begin_42 (fun H locs hP hD hS => ?_)
  obtain ⟨u17, e18, hF⟩ := ob hF
  have hP : va_P (dC, dI) vwCl (WC cy ad ks g u17) H := by rw [← pt_eq e18, ← ez9]; exact hP
  have hD : va_D A (WC cy ad ks g u17) := by rw [← pt_eq e18, ← ez9]; exact hD
  clear ez9 h9
  have hZ := s1 hF
  have zuz : u17 = uz := hZ
  have hP9 : va_P (dC, dI) vwCl (WC cy ad ks g uz) H := by rw [← zuz]; exact hP
  have hD9 : va_D A (WC cy ad ks g uz) := by rw [← zuz]; exact hD
  rw [hQ]
  exact W.vret hx hb hr (fun t ht hW => ⟨⟨(), rfl, trivial, by rw [ht]; exact hP9, hD9⟩, hS.F ht⟩) hS.2.2 dX4_begin_45
noncomputable def C3_addLot (g : CG) (u0 : RS) (L : Nat) (a1 : Int32) : Option (RS) := (if 6 ≤ (u0 (10 + L) 8) then (some u0) else ((ix 6 (u0 (10 + L) 8)).bind fun n5 => (C4_begin g u0 L n5 (a1)).bind fun u7 => (pt u7 (10 + L) 8 ((u7 (10 + L) 8) + 1)).bind fun u9 => some u9) : Option (RS)).bind fun t2 => some t2
set_option maxHeartbeats 4000000 in
set_option maxRecDepth 100000 in
theorem c_X3_addLot (l : Launch) (dC : Nat → ClassId) (dI : Nat → Nat → Nat) (cy : Nat → ClassId) (nb : Nat → Nat) (ad : CK → Nat) (ks : List CK) (g : CG) (hk : GA nb ad g ks) (u0 : RS) (L : Nat) (a1 : Int32) (uz : RS) (sz : Nat) (h_L : has g (.ln L)) (hF : C3_addLot g u0 L a1 = some uz) : Met l yX3_addLot (wsg yX3_addLot cX3_addLot 2 none) ({ frames := 8, cells := 0, slots := 0, locals := 300 }) (va_Pc [.ref (ad (.ln L)), .int a1] (fun U => U.heap.size = sz ∧ va_P (dC, dI) vwCl (WC cy ad ks g u0) U.heap ∧ va_K (dC, dI) vwCl (tyL cy) U ∧ va_D (fun _ => True) (WC cy ad ks g u0) ∧ GE nb (va_A (WC cy ad ks g u0) sz) U)) (va_Qv (fun (_ : Unit) => True) (fun _ t => va_P (dC, dI) vwCl (WC cy ad ks g uz) t.heap ∧ va_D (va_A (WC cy ad ks g u0) sz) (WC cy ad ks g uz)) (va_A (WC cy ad ks g u0) sz)) 0 0 (va_A (WC cy ad ks g u0) sz) := by
  refine Met.ofW (cc := cX3_addLot) (maxL := 2) (ret := none) pn_X3 rfl ?_
  intro p e s m args below meth c s₁ B hml hv
  obtain ⟨rfl, hsz, hP, hK, hD0, hE⟩ := hv
  have hx := B.exec
  have hb := B.bytes
  have hr := B.returns
  have hts0 := atoms_spec (ws := (wsg yX3_addLot cX3_addLot 2 none)) B.pre
  have hts : ∀ w ∈ wsL_law, w.before _ s = true := fun w h => hts0 w (List.mem_cons_of_mem _ h)
  have hown : s.vm.findClass RX3 = some m.cls := by have h9 := findClass_of_methodNamed B.named; exact h9
  have hlocks := B.notSynchronized
  subst hsz
  have hD := hD0.self (sz := s.heap.size)
  generalize hAe : va_A (WC cy ad ks g u0) s.heap.size = A at hD hE ⊢
  have hA : ∀ q : Nat, s.heap.size ≤ q → A q := fun q h => by rw [← hAe]; exact Or.inr h
  have hS : va_S A s.heap s.heap [] := va_S.rf
  have hl := lv_entry ([.ref (ad (.ln L)), .int a1]) (n := 2) (Nat.le_of_ble_eq_true rfl)
  rw [lg_entry_eq]
  generalize (lg_sl ([.ref (ad (.ln L)), .int a1]) ++ List.replicate (2 - (lg_sl ([.ref (ad (.ln L)), .int a1])).length) Slot.unset).toArray = ls at hl ⊢
  have hl : lv_has ls 2 [(0, .ref (ad (.ln L))), (1, .int a1)] := hl
  generalize hHe : s.heap = H at hP hS ⊢
  have hS : va_S A s.heap H [] := by rw [hHe]; exact hS
  refine my_Q (fun Qn hQ => ?_)
  simp only [C3_addLot] at hF
  refine lv_aload_n hx hb dX3_addLot_0 rfl (lv_at hl 0 rfl) ?_
  obtain ⟨q9, h9⟩ := wc_at (cy := cy) (ad := ad) (ks := ks) (g := g) (u := u0) (κ := (.ln L)) hk.1 h_L
  refine va_get (D := (dC, dI)) (ci := 3) (v := .int (u0 (10 + L) 8)) (C := RX3) (T := TX3) (N := 17) hx hb hts inlX3 hown hK hP q9 h9 rfl 8 (by decide) (hts _ mw_87) (fun _ h9 => h9) rfl dX3_addLot_1 ?_
  clear h9
  refine lv_bipush (v := 6) hx hb dX3_addLot_4 (by decide) ?_
  obtain ⟨t2, hJ3, hF⟩ := ob hF
  have join4 : ∀ (H : Heap) (locs : List Loc) (ls : Array Slot), va_P (dC, dI) vwCl (WC cy ad ks g t2) H → va_D A (WC cy ad ks g t2) → va_S A s.heap H locs → lv_has ls 2 [(0, .ref (ad (.ln L))), (1, .int a1)] → W p l e (headSpec (wsg yX3_addLot cX3_addLot 2 none) ({ frames := 8, cells := 0, slots := 0, locals := 300 })).room s m ([.ref (ad (.ln L)), .int a1] : List Value).toArray below meth c H locs 0 0 Qn (F0 m 32 ls []) := by
    intro H locs ls hP hD hS hl
    have hZ := s1 hF
    have zuz : t2 = uz := hZ
    have hP9 : va_P (dC, dI) vwCl (WC cy ad ks g uz) H := by rw [← zuz]; exact hP
    have hD9 : va_D A (WC cy ad ks g uz) := by rw [← zuz]; exact hD
    rw [hQ]
    exact W.vret hx hb hr (fun t ht hW => ⟨⟨(), rfl, trivial, by rw [ht]; exact hP9, hD9⟩, hS.F ht⟩) hS.2.2 dX3_addLot_32
  clear hF
  have hF := hJ3
  clear hJ3
  refine lv_icmp_ge (tgt := 32) hx hb dX3_addLot_6 (by decide) (fun c1 => ?_) (fun c1 => ?_)
  · rw [if_pos c1] at hF
    have ht := s1 hF
    subst ht
    exact join4 _ _ _ hP hD hS (lv_sub hl [0, 1] rfl)
  · rw [if_neg c1] at hF
    refine lv_aload_n hx hb dX3_addLot_9 rfl (lv_at hl 0 rfl) ?_
    obtain ⟨q9, h9⟩ := wc_at (cy := cy) (ad := ad) (ks := ks) (g := g) (u := u0) (κ := (.ln L)) hk.1 h_L
    refine va_get (D := (dC, dI)) (ci := 3) (v := .ref (ad (.ls L))) (C := RX3) (T := TX3) (N := 17) hx hb hts inlX3 hown hK hP q9 h9 rfl 11 (by decide) (hts _ mw_43) (fun _ h9 => h9) rfl dX3_addLot_10 ?_
    clear h9
    refine lv_aload_n hx hb dX3_addLot_13 rfl (lv_at hl 0 rfl) ?_
    obtain ⟨q9, h9⟩ := wc_at (cy := cy) (ad := ad) (ks := ks) (g := g) (u := u0) (κ := (.ln L)) hk.1 h_L
    refine va_get (D := (dC, dI)) (ci := 3) (v := .int (u0 (10 + L) 8)) (C := RX3) (T := TX3) (N := 17) hx hb hts inlX3 hown hK hP q9 h9 rfl 8 (by decide) (hts _ mw_87) (fun _ h9 => h9) rfl dX3_addLot_14 ?_
    clear h9
    obtain ⟨n5, e6, hF⟩ := ob hF
    obtain ⟨q9, h9⟩ := wc_at (cy := cy) (ad := ad) (ks := ks) (g := g) (u := u0) (κ := (.ls L)) hk.1 h_L
    refine va_aldq hx hb hK hP q9 7 h9 rfl (ix_in e6) dX3_addLot_17 ?_
    refine my_top (y := .ref (ad (.lo L n5))) (ixv (F := fun j => ad (.lo L j)) e6) ?_
    clear h9
    refine lv_iload_n hx hb dX3_addLot_18 rfl (lv_at hl 1 rfl) ?_
    obtain ⟨u7, e8, hF⟩ := ob hF
    have hPc := hP
    have hDc := hD
    have hFc := my_free hD hS hA
    obtain ⟨q8, h8⟩ := wc_at (cy := cy) (ad := ad) (ks := ks) (g := g) (u := u0) (κ := (.lo L n5)) hk.1 ⟨h_L, (ix_lt e6)⟩
    refine va_callv (va_runV (As := [.int a1]) (rest := []) ⟨hx, hb, hml, hown, hts⟩ (c_X4_begin l dC dI cy nb ad ks g hk u0 L n5 (a1) (u7) H.size ⟨h_L, (ix_lt e6)⟩ e8) (cwV 1 hts (gV mw_261 mw_262 mw_263 mw_52 mw_264) rfl rfl rfl (by decide +kernel) ⟨Nat.le_of_ble_eq_true rfl, Nat.le_of_ble_eq_true rfl⟩) (my_preV hPc hK hDc hE hS hFc (va_recv (q := (RX4, TX4, 12)) hK hP (ci := 4) (q0 := q8) rfl h8)) rfl rfl hl.1 rfl (lv_room (Nat.le_of_ble_eq_true rfl)) dX3_addLot_19 ⟨Nat.le_of_ble_eq_true rfl, Nat.le_of_ble_eq_true rfl⟩) hS (fun q _ h => hFc q h) hFc (fun u t H1 locs ht hvm hw hB hz1 hk1 hS => ?_)
    clear h8
    obtain ⟨hP1, hD1⟩ := hB
    rw [ht] at hP1
    have hP := hP1
    have hD := hD1.weaken (fun k q _ h => hFc q.1 h)
    generalize H1 = H at hP hS ⊢
    clear hP1 hD1 hPc hDc hFc hk1 hz1 hvm ht
    refine lv_aload_n hx hb dX3_addLot_22 rfl (lv_at hl 0 rfl) ?_
    refine lv_dup hx hb dX3_addLot_23 rfl ?_
    obtain ⟨q9, h9⟩ := wc_at (cy := cy) (ad := ad) (ks := ks) (g := g) (u := u7) (κ := (.ln L)) hk.1 h_L
    refine va_get (D := (dC, dI)) (ci := 3) (v := .int (u7 (10 + L) 8)) (C := RX3) (T := TX3) (N := 17) hx hb hts inlX3 hown hK hP q9 h9 rfl 8 (by decide) (hts _ mw_87) (fun _ h9 => h9) rfl dX3_addLot_24 ?_
    clear h9
    refine lv_iconst (v := 1) hx hb dX3_addLot_27 (by decide) ?_
    refine lv_iadd hx hb dX3_addLot_28 ?_
    obtain ⟨q9, h9, ez9⟩ := wc_set (cy := cy) (ad := ad) (ks := ks) (g := g) (u := u7) (κ := (.ln L)) (r := (10 + L)) (i := 8) (v := ((u7 (10 + L) 8) + 1)) hk.1 h_L (own_ln (inl_lt h_L) (by decide)) (sf_ln_8)
    refine va_put (D := (dC, dI)) (ci := 3) (v := .int ((u7 (10 + L) 8) + 1)) (ty := .int) (C := RX3) (T := TX3) (N := 17) hx hb hts inlX3 tyX3 tyX3_ok nmX3 hown hK hP hD hS q9 h9 rfl 8 (by decide) (hts _ mw_87) (fun _ h9 => h9) rfl (by decide +kernel) rfl rfl (Nat.le_of_ble_eq_true rfl) dX3_addLot_29 (fun H locs hP hD hS => ?_)
    obtain ⟨u9, e10, hF⟩ := ob hF
    have hP : va_P (dC, dI) vwCl (WC cy ad ks g u9) H := by rw [← pt_eq e10, ← ez9]; exact hP
    have hD : va_D A (WC cy ad ks g u9) := by rw [← pt_eq e10, ← ez9]; exact hD
    clear ez9 h9
    have ht := s1 hF
    subst ht
    exact join4 _ _ _ hP hD hS (lv_sub hl [0, 1] rfl)
noncomputable def C6_begin (g : CG) (u0 : RS) (L : Nat) (i : Nat) (a1 : Int32) (a2 : Int32) (a3 : Int32) : Option (RS) := (pt u0 (10 + L) (17 + 16 * i + 0) a1).bind fun u1 => (pt u1 (10 + L) (17 + 16 * i + 1) a2).bind fun u3 => (pt u3 (10 + L) (17 + 16 * i + 14) (a3)).bind fun u5 => (pt u5 (10 + L) (17 + 16 * i + 2) (-1)).bind fun u7 => (pt u7 (10 + L) (17 + 16 * i + 3) (0)).bind fun u9 => (pt u9 (10 + L) (17 + 16 * i + 4) (0)).bind fun u11 => (pt u11 (10 + L) (17 + 16 * i + 13) (0)).bind fun u13 => (pt u13 (10 + L) (17 + 16 * i + 5) (0)).bind fun u15 => (pt u15 (10 + L) (17 + 16 * i + 6) (0)).bind fun u17 => (pt u17 (10 + L) (17 + 16 * i + 7) (0)).bind fun u19 => (pt u19 (10 + L) (17 + 16 * i + 8) (0)).bind fun u21 => (pt u21 (10 + L) (17 + 16 * i + 9) (0)).bind fun u23 => (pt u23 (10 + L) (17 + 16 * i + 10) (0)).bind fun u25 => (pt u25 (10 + L) (17 + 16 * i + 11) (0)).bind fun u27 => (pt u27 (10 + L) (17 + 16 * i + 12) (0)).bind fun u29 => some u29
set_option maxHeartbeats 4000000 in
set_option maxRecDepth 100000 in
theorem c_X6_begin (l : Launch) (dC : Nat → ClassId) (dI : Nat → Nat → Nat) (cy : Nat → ClassId) (nb : Nat → Nat) (ad : CK → Nat) (ks : List CK) (g : CG) (hk : GA nb ad g ks) (u0 : RS) (L : Nat) (i : Nat) (a1 : Int32) (a2 : Int32) (a3 : Int32) (uz : RS) (sz : Nat) (h_L_i : has g (.st L i)) (hF : C6_begin g u0 L i a1 a2 a3 = some uz) : Met l yX6_begin (wsg yX6_begin cX6_begin 4 none) ({ frames := 7, cells := 0, slots := 0, locals := 200 }) (va_Pc [.ref (ad (.st L i)), .int a1, .int a2, .ref (ad (.tx (a3).toNatClampNeg))] (fun U => U.heap.size = sz ∧ va_P (dC, dI) vwCl (WC cy ad ks g u0) U.heap ∧ va_K (dC, dI) vwCl (tyL cy) U ∧ va_D (fun _ => True) (WC cy ad ks g u0) ∧ GE nb (va_A (WC cy ad ks g u0) sz) U)) (va_Qv (fun (_ : Unit) => True) (fun _ t => va_P (dC, dI) vwCl (WC cy ad ks g uz) t.heap ∧ va_D (va_A (WC cy ad ks g u0) sz) (WC cy ad ks g uz)) (va_A (WC cy ad ks g u0) sz)) 0 0 (va_A (WC cy ad ks g u0) sz) := by
  refine Met.ofW (cc := cX6_begin) (maxL := 4) (ret := none) pn_X6 rfl ?_
  intro p e s m args below meth c s₁ B hml hv
  obtain ⟨rfl, hsz, hP, hK, hD0, hE⟩ := hv
  have hx := B.exec
  have hb := B.bytes
  have hr := B.returns
  have hts0 := atoms_spec (ws := (wsg yX6_begin cX6_begin 4 none)) B.pre
  have hts : ∀ w ∈ wsL_law, w.before _ s = true := fun w h => hts0 w (List.mem_cons_of_mem _ h)
  have hown : s.vm.findClass RX6 = some m.cls := by have h9 := findClass_of_methodNamed B.named; exact h9
  have hlocks := B.notSynchronized
  subst hsz
  have hD := hD0.self (sz := s.heap.size)
  generalize hAe : va_A (WC cy ad ks g u0) s.heap.size = A at hD hE ⊢
  have hA : ∀ q : Nat, s.heap.size ≤ q → A q := fun q h => by rw [← hAe]; exact Or.inr h
  have hS : va_S A s.heap s.heap [] := va_S.rf
  have hl := lv_entry ([.ref (ad (.st L i)), .int a1, .int a2, .ref (ad (.tx (a3).toNatClampNeg))]) (n := 4) (Nat.le_of_ble_eq_true rfl)
  rw [lg_entry_eq]
  generalize (lg_sl ([.ref (ad (.st L i)), .int a1, .int a2, .ref (ad (.tx (a3).toNatClampNeg))]) ++ List.replicate (4 - (lg_sl ([.ref (ad (.st L i)), .int a1, .int a2, .ref (ad (.tx (a3).toNatClampNeg))])).length) Slot.unset).toArray = ls at hl ⊢
  have hl : lv_has ls 4 [(0, .ref (ad (.st L i))), (1, .int a1), (2, .int a2), (3, .ref (ad (.tx (a3).toNatClampNeg)))] := hl
  generalize hHe : s.heap = H at hP hS ⊢
  have hS : va_S A s.heap H [] := by rw [hHe]; exact hS
  refine my_Q (fun Qn hQ => ?_)
  simp only [C6_begin] at hF
  refine lv_aload_n hx hb dX6_begin_0 rfl (lv_at hl 0 rfl) ?_
  refine lv_iload_n hx hb dX6_begin_1 rfl (lv_at hl 1 rfl) ?_
  obtain ⟨q9, h9, ez9⟩ := wc_set (cy := cy) (ad := ad) (ks := ks) (g := g) (u := u0) (κ := (.st L i)) (r := (10 + L)) (i := (17 + 16 * i + 0)) (v := a1) hk.1 ⟨h_L_i.1, h_L_i.2⟩ (own_st (inl_lt h_L_i.1) h_L_i.2 (by decide)) (sf_st_0)
  refine va_put (D := (dC, dI)) (ci := 6) (v := .int a1) (ty := .int) (C := RX6) (T := TX6) (N := 15) hx hb hts inlX6 tyX6 tyX6_ok nmX6 hown hK hP hD hS q9 h9 rfl 0 (by decide) (hts _ mw_368) (fun _ h9 => h9) rfl (by decide +kernel) rfl rfl (Nat.le_of_ble_eq_true rfl) dX6_begin_2 (fun H locs hP hD hS => ?_)
  obtain ⟨u1, e2, hF⟩ := ob hF
  have hP : va_P (dC, dI) vwCl (WC cy ad ks g u1) H := by rw [← pt_eq e2, ← ez9]; exact hP
  have hD : va_D A (WC cy ad ks g u1) := by rw [← pt_eq e2, ← ez9]; exact hD
  clear ez9 h9
  refine lv_aload_n hx hb dX6_begin_5 rfl (lv_at hl 0 rfl) ?_
  refine lv_iload_n hx hb dX6_begin_6 rfl (lv_at hl 2 rfl) ?_
  obtain ⟨q9, h9, ez9⟩ := wc_set (cy := cy) (ad := ad) (ks := ks) (g := g) (u := u1) (κ := (.st L i)) (r := (10 + L)) (i := (17 + 16 * i + 1)) (v := a2) hk.1 ⟨h_L_i.1, h_L_i.2⟩ (own_st (inl_lt h_L_i.1) h_L_i.2 (by decide)) (sf_st_1)
  refine va_put (D := (dC, dI)) (ci := 6) (v := .int a2) (ty := .int) (C := RX6) (T := TX6) (N := 15) hx hb hts inlX6 tyX6 tyX6_ok nmX6 hown hK hP hD hS q9 h9 rfl 1 (by decide) (hts _ mw_369) (fun _ h9 => h9) rfl (by decide +kernel) rfl rfl (Nat.le_of_ble_eq_true rfl) dX6_begin_7 (fun H locs hP hD hS => ?_)
  obtain ⟨u3, e4, hF⟩ := ob hF
  have hP : va_P (dC, dI) vwCl (WC cy ad ks g u3) H := by rw [← pt_eq e4, ← ez9]; exact hP
  have hD : va_D A (WC cy ad ks g u3) := by rw [← pt_eq e4, ← ez9]; exact hD
  clear ez9 h9
  refine lv_aload_n hx hb dX6_begin_10 rfl (lv_at hl 0 rfl) ?_
  refine lv_aload_n hx hb dX6_begin_11 rfl (lv_at hl 3 rfl) ?_
  obtain ⟨q9, h9, ez9⟩ := wc_set (cy := cy) (ad := ad) (ks := ks) (g := g) (u := u3) (κ := (.st L i)) (r := (10 + L)) (i := (17 + 16 * i + 14)) (v := (a3)) hk.1 ⟨h_L_i.1, h_L_i.2⟩ (own_st (inl_lt h_L_i.1) h_L_i.2 (by decide)) (sf_st_2)
  refine va_put (D := (dC, dI)) (ci := 6) (v := .ref (ad (.tx (a3).toNatClampNeg))) (ty := (.array .byte)) (C := RX6) (T := TX6) (N := 15) hx hb hts inlX6 tyX6 tyX6_ok nmX6 hown hK hP hD hS q9 h9 rfl 2 (by decide) (hts _ mw_58) (fun _ h9 => h9) rfl (by decide +kernel) rfl rfl (Nat.le_of_ble_eq_true rfl) dX6_begin_12 (fun H locs hP hD hS => ?_)
  obtain ⟨u5, e6, hF⟩ := ob hF
  have hP : va_P (dC, dI) vwCl (WC cy ad ks g u5) H := by rw [← pt_eq e6, ← ez9]; exact hP
  have hD : va_D A (WC cy ad ks g u5) := by rw [← pt_eq e6, ← ez9]; exact hD
  clear ez9 h9
  refine lv_aload_n hx hb dX6_begin_15 rfl (lv_at hl 0 rfl) ?_
  refine lv_iconst (v := (-1)) hx hb dX6_begin_16 (by decide) ?_
  obtain ⟨q9, h9, ez9⟩ := wc_set (cy := cy) (ad := ad) (ks := ks) (g := g) (u := u5) (κ := (.st L i)) (r := (10 + L)) (i := (17 + 16 * i + 2)) (v := (-1)) hk.1 ⟨h_L_i.1, h_L_i.2⟩ (own_st (inl_lt h_L_i.1) h_L_i.2 (by decide)) (sf_st_3)
  refine va_put (D := (dC, dI)) (ci := 6) (v := .int (-1)) (ty := .int) (C := RX6) (T := TX6) (N := 15) hx hb hts inlX6 tyX6 tyX6_ok nmX6 hown hK hP hD hS q9 h9 rfl 3 (by decide) (hts _ mw_370) (fun _ h9 => h9) rfl (by decide +kernel) rfl rfl (Nat.le_of_ble_eq_true rfl) dX6_begin_17 (fun H locs hP hD hS => ?_)
  obtain ⟨u7, e8, hF⟩ := ob hF
  have hP : va_P (dC, dI) vwCl (WC cy ad ks g u7) H := by rw [← pt_eq e8, ← ez9]; exact hP
  have hD : va_D A (WC cy ad ks g u7) := by rw [← pt_eq e8, ← ez9]; exact hD
  clear ez9 h9
  refine lv_aload_n hx hb dX6_begin_20 rfl (lv_at hl 0 rfl) ?_
  refine lv_iconst (v := 0) hx hb dX6_begin_21 (by decide) ?_
  obtain ⟨q9, h9, ez9⟩ := wc_set (cy := cy) (ad := ad) (ks := ks) (g := g) (u := u7) (κ := (.st L i)) (r := (10 + L)) (i := (17 + 16 * i + 3)) (v := (0)) hk.1 ⟨h_L_i.1, h_L_i.2⟩ (own_st (inl_lt h_L_i.1) h_L_i.2 (by decide)) (sf_st_4)
  refine va_put (D := (dC, dI)) (ci := 6) (v := .int 0) (ty := .int) (C := RX6) (T := TX6) (N := 15) hx hb hts inlX6 tyX6 tyX6_ok nmX6 hown hK hP hD hS q9 h9 rfl 4 (by decide) (hts _ mw_371) (fun _ h9 => h9) rfl (by decide +kernel) rfl rfl (Nat.le_of_ble_eq_true rfl) dX6_begin_22 (fun H locs hP hD hS => ?_)
  obtain ⟨u9, e10, hF⟩ := ob hF
  have hP : va_P (dC, dI) vwCl (WC cy ad ks g u9) H := by rw [← pt_eq e10, ← ez9]; exact hP
  have hD : va_D A (WC cy ad ks g u9) := by rw [← pt_eq e10, ← ez9]; exact hD
  clear ez9 h9
  refine lv_aload_n hx hb dX6_begin_25 rfl (lv_at hl 0 rfl) ?_
  refine lv_iconst (v := 0) hx hb dX6_begin_26 (by decide) ?_
  obtain ⟨q9, h9, ez9⟩ := wc_set (cy := cy) (ad := ad) (ks := ks) (g := g) (u := u9) (κ := (.st L i)) (r := (10 + L)) (i := (17 + 16 * i + 4)) (v := (0)) hk.1 ⟨h_L_i.1, h_L_i.2⟩ (own_st (inl_lt h_L_i.1) h_L_i.2 (by decide)) (sf_st_5)
  refine va_put (D := (dC, dI)) (ci := 6) (v := .int 0) (ty := .int) (C := RX6) (T := TX6) (N := 15) hx hb hts inlX6 tyX6 tyX6_ok nmX6 hown hK hP hD hS q9 h9 rfl 5 (by decide) (hts _ mw_372) (fun _ h9 => h9) rfl (by decide +kernel) rfl rfl (Nat.le_of_ble_eq_true rfl) dX6_begin_27 (fun H locs hP hD hS => ?_)
  obtain ⟨u11, e12, hF⟩ := ob hF
  have hP : va_P (dC, dI) vwCl (WC cy ad ks g u11) H := by rw [← pt_eq e12, ← ez9]; exact hP
  have hD : va_D A (WC cy ad ks g u11) := by rw [← pt_eq e12, ← ez9]; exact hD
  clear ez9 h9
  refine lv_aload_n hx hb dX6_begin_30 rfl (lv_at hl 0 rfl) ?_
  refine lv_iconst (v := 0) hx hb dX6_begin_31 (by decide) ?_
  obtain ⟨q9, h9, ez9⟩ := wc_set (cy := cy) (ad := ad) (ks := ks) (g := g) (u := u11) (κ := (.st L i)) (r := (10 + L)) (i := (17 + 16 * i + 13)) (v := (0)) hk.1 ⟨h_L_i.1, h_L_i.2⟩ (own_st (inl_lt h_L_i.1) h_L_i.2 (by decide)) (sf_st_6)
  refine va_put (D := (dC, dI)) (ci := 6) (v := .int 0) (ty := .int) (C := RX6) (T := TX6) (N := 15) hx hb hts inlX6 tyX6 tyX6_ok nmX6 hown hK hP hD hS q9 h9 rfl 6 (by decide) (hts _ mw_373) (fun _ h9 => h9) rfl (by decide +kernel) rfl rfl (Nat.le_of_ble_eq_true rfl) dX6_begin_32 (fun H locs hP hD hS => ?_)
  obtain ⟨u13, e14, hF⟩ := ob hF
  have hP : va_P (dC, dI) vwCl (WC cy ad ks g u13) H := by rw [← pt_eq e14, ← ez9]; exact hP
  have hD : va_D A (WC cy ad ks g u13) := by rw [← pt_eq e14, ← ez9]; exact hD
  clear ez9 h9
  refine lv_aload_n hx hb dX6_begin_35 rfl (lv_at hl 0 rfl) ?_
  refine lv_iconst (v := 0) hx hb dX6_begin_36 (by decide) ?_
  obtain ⟨q9, h9, ez9⟩ := wc_set (cy := cy) (ad := ad) (ks := ks) (g := g) (u := u13) (κ := (.st L i)) (r := (10 + L)) (i := (17 + 16 * i + 5)) (v := (0)) hk.1 ⟨h_L_i.1, h_L_i.2⟩ (own_st (inl_lt h_L_i.1) h_L_i.2 (by decide)) (sf_st_7)
  refine va_put (D := (dC, dI)) (ci := 6) (v := .int 0) (ty := .int) (C := RX6) (T := TX6) (N := 15) hx hb hts inlX6 tyX6 tyX6_ok nmX6 hown hK hP hD hS q9 h9 rfl 7 (by decide) (hts _ mw_374) (fun _ h9 => h9) rfl (by decide +kernel) rfl rfl (Nat.le_of_ble_eq_true rfl) dX6_begin_37 (fun H locs hP hD hS => ?_)
  obtain ⟨u15, e16, hF⟩ := ob hF
  have hP : va_P (dC, dI) vwCl (WC cy ad ks g u15) H := by rw [← pt_eq e16, ← ez9]; exact hP
  have hD : va_D A (WC cy ad ks g u15) := by rw [← pt_eq e16, ← ez9]; exact hD
  clear ez9 h9
  refine lv_aload_n hx hb dX6_begin_40 rfl (lv_at hl 0 rfl) ?_
  refine lv_iconst (v := 0) hx hb dX6_begin_41 (by decide) ?_
  obtain ⟨q9, h9, ez9⟩ := wc_set (cy := cy) (ad := ad) (ks := ks) (g := g) (u := u15) (κ := (.st L i)) (r := (10 + L)) (i := (17 + 16 * i + 6)) (v := (0)) hk.1 ⟨h_L_i.1, h_L_i.2⟩ (own_st (inl_lt h_L_i.1) h_L_i.2 (by decide)) (sf_st_8)
  refine va_put (D := (dC, dI)) (ci := 6) (v := .int 0) (ty := .int) (C := RX6) (T := TX6) (N := 15) hx hb hts inlX6 tyX6 tyX6_ok nmX6 hown hK hP hD hS q9 h9 rfl 8 (by decide) (hts _ mw_375) (fun _ h9 => h9) rfl (by decide +kernel) rfl rfl (Nat.le_of_ble_eq_true rfl) dX6_begin_42 (fun H locs hP hD hS => ?_)
  obtain ⟨u17, e18, hF⟩ := ob hF
  have hP : va_P (dC, dI) vwCl (WC cy ad ks g u17) H := by rw [← pt_eq e18, ← ez9]; exact hP
  have hD : va_D A (WC cy ad ks g u17) := by rw [← pt_eq e18, ← ez9]; exact hD
  clear ez9 h9
  refine lv_aload_n hx hb dX6_begin_45 rfl (lv_at hl 0 rfl) ?_
  refine lv_iconst (v := 0) hx hb dX6_begin_46 (by decide) ?_
  obtain ⟨q9, h9, ez9⟩ := wc_set (cy := cy) (ad := ad) (ks := ks) (g := g) (u := u17) (κ := (.st L i)) (r := (10 + L)) (i := (17 + 16 * i + 7)) (v := (0)) hk.1 ⟨h_L_i.1, h_L_i.2⟩ (own_st (inl_lt h_L_i.1) h_L_i.2 (by decide)) (sf_st_9)
  refine va_put (D := (dC, dI)) (ci := 6) (v := .int 0) (ty := .boolean) (C := RX6) (T := TX6) (N := 15) hx hb hts inlX6 tyX6 tyX6_ok nmX6 hown hK hP hD hS q9 h9 rfl 9 (by decide) (hts _ mw_376) (fun _ h9 => h9) rfl (by decide +kernel) rfl rfl (Nat.le_of_ble_eq_true rfl) dX6_begin_47 (fun H locs hP hD hS => ?_)
  obtain ⟨u19, e20, hF⟩ := ob hF
  have hP : va_P (dC, dI) vwCl (WC cy ad ks g u19) H := by rw [← pt_eq e20, ← ez9]; exact hP
  have hD : va_D A (WC cy ad ks g u19) := by rw [← pt_eq e20, ← ez9]; exact hD
  clear ez9 h9
  refine lv_aload_n hx hb dX6_begin_50 rfl (lv_at hl 0 rfl) ?_
  refine lv_iconst (v := 0) hx hb dX6_begin_51 (by decide) ?_
  obtain ⟨q9, h9, ez9⟩ := wc_set (cy := cy) (ad := ad) (ks := ks) (g := g) (u := u19) (κ := (.st L i)) (r := (10 + L)) (i := (17 + 16 * i + 8)) (v := (0)) hk.1 ⟨h_L_i.1, h_L_i.2⟩ (own_st (inl_lt h_L_i.1) h_L_i.2 (by decide)) (sf_st_10)
  refine va_put (D := (dC, dI)) (ci := 6) (v := .int 0) (ty := .int) (C := RX6) (T := TX6) (N := 15) hx hb hts inlX6 tyX6 tyX6_ok nmX6 hown hK hP hD hS q9 h9 rfl 10 (by decide) (hts _ mw_377) (fun _ h9 => h9) rfl (by decide +kernel) rfl rfl (Nat.le_of_ble_eq_true rfl) dX6_begin_52 (fun H locs hP hD hS => ?_)
  obtain ⟨u21, e22, hF⟩ := ob hF
  have hP : va_P (dC, dI) vwCl (WC cy ad ks g u21) H := by rw [← pt_eq e22, ← ez9]; exact hP
  have hD : va_D A (WC cy ad ks g u21) := by rw [← pt_eq e22, ← ez9]; exact hD
  clear ez9 h9
  refine lv_aload_n hx hb dX6_begin_55 rfl (lv_at hl 0 rfl) ?_
  refine lv_iconst (v := 0) hx hb dX6_begin_56 (by decide) ?_
  obtain ⟨q9, h9, ez9⟩ := wc_set (cy := cy) (ad := ad) (ks := ks) (g := g) (u := u21) (κ := (.st L i)) (r := (10 + L)) (i := (17 + 16 * i + 9)) (v := (0)) hk.1 ⟨h_L_i.1, h_L_i.2⟩ (own_st (inl_lt h_L_i.1) h_L_i.2 (by decide)) (sf_st_11)
  refine va_put (D := (dC, dI)) (ci := 6) (v := .int 0) (ty := .int) (C := RX6) (T := TX6) (N := 15) hx hb hts inlX6 tyX6 tyX6_ok nmX6 hown hK hP hD hS q9 h9 rfl 11 (by decide) (hts _ mw_378) (fun _ h9 => h9) rfl (by decide +kernel) rfl rfl (Nat.le_of_ble_eq_true rfl) dX6_begin_57 (fun H locs hP hD hS => ?_)
  obtain ⟨u23, e24, hF⟩ := ob hF
  have hP : va_P (dC, dI) vwCl (WC cy ad ks g u23) H := by rw [← pt_eq e24, ← ez9]; exact hP
  have hD : va_D A (WC cy ad ks g u23) := by rw [← pt_eq e24, ← ez9]; exact hD
  clear ez9 h9
  refine lv_aload_n hx hb dX6_begin_60 rfl (lv_at hl 0 rfl) ?_
  refine lv_iconst (v := 0) hx hb dX6_begin_61 (by decide) ?_
  obtain ⟨q9, h9, ez9⟩ := wc_set (cy := cy) (ad := ad) (ks := ks) (g := g) (u := u23) (κ := (.st L i)) (r := (10 + L)) (i := (17 + 16 * i + 10)) (v := (0)) hk.1 ⟨h_L_i.1, h_L_i.2⟩ (own_st (inl_lt h_L_i.1) h_L_i.2 (by decide)) (sf_st_12)
  refine va_put (D := (dC, dI)) (ci := 6) (v := .int 0) (ty := .int) (C := RX6) (T := TX6) (N := 15) hx hb hts inlX6 tyX6 tyX6_ok nmX6 hown hK hP hD hS q9 h9 rfl 12 (by decide) (hts _ mw_379) (fun _ h9 => h9) rfl (by decide +kernel) rfl rfl (Nat.le_of_ble_eq_true rfl) dX6_begin_62 (fun H locs hP hD hS => ?_)
  obtain ⟨u25, e26, hF⟩ := ob hF
  have hP : va_P (dC, dI) vwCl (WC cy ad ks g u25) H := by rw [← pt_eq e26, ← ez9]; exact hP
  have hD : va_D A (WC cy ad ks g u25) := by rw [← pt_eq e26, ← ez9]; exact hD
  clear ez9 h9
  refine lv_aload_n hx hb dX6_begin_65 rfl (lv_at hl 0 rfl) ?_
  refine lv_iconst (v := 0) hx hb dX6_begin_66 (by decide) ?_
  obtain ⟨q9, h9, ez9⟩ := wc_set (cy := cy) (ad := ad) (ks := ks) (g := g) (u := u25) (κ := (.st L i)) (r := (10 + L)) (i := (17 + 16 * i + 11)) (v := (0)) hk.1 ⟨h_L_i.1, h_L_i.2⟩ (own_st (inl_lt h_L_i.1) h_L_i.2 (by decide)) (sf_st_13)
  refine va_put (D := (dC, dI)) (ci := 6) (v := .int 0) (ty := .int) (C := RX6) (T := TX6) (N := 15) hx hb hts inlX6 tyX6 tyX6_ok nmX6 hown hK hP hD hS q9 h9 rfl 13 (by decide) (hts _ mw_380) (fun _ h9 => h9) rfl (by decide +kernel) rfl rfl (Nat.le_of_ble_eq_true rfl) dX6_begin_67 (fun H locs hP hD hS => ?_)
  obtain ⟨u27, e28, hF⟩ := ob hF
  have hP : va_P (dC, dI) vwCl (WC cy ad ks g u27) H := by rw [← pt_eq e28, ← ez9]; exact hP
  have hD : va_D A (WC cy ad ks g u27) := by rw [← pt_eq e28, ← ez9]; exact hD
  clear ez9 h9
  refine lv_aload_n hx hb dX6_begin_70 rfl (lv_at hl 0 rfl) ?_
  refine lv_iconst (v := 0) hx hb dX6_begin_71 (by decide) ?_
  obtain ⟨q9, h9, ez9⟩ := wc_set (cy := cy) (ad := ad) (ks := ks) (g := g) (u := u27) (κ := (.st L i)) (r := (10 + L)) (i := (17 + 16 * i + 12)) (v := (0)) hk.1 ⟨h_L_i.1, h_L_i.2⟩ (own_st (inl_lt h_L_i.1) h_L_i.2 (by decide)) (sf_st_14)
  refine va_put (D := (dC, dI)) (ci := 6) (v := .int 0) (ty := .int) (C := RX6) (T := TX6) (N := 15) hx hb hts inlX6 tyX6 tyX6_ok nmX6 hown hK hP hD hS q9 h9 rfl 14 (by decide) (hts _ mw_381) (fun _ h9 => h9) rfl (by decide +kernel) rfl rfl (Nat.le_of_ble_eq_true rfl) dX6_begin_72 (fun H locs hP hD hS => ?_)
  obtain ⟨u29, e30, hF⟩ := ob hF
  have hP : va_P (dC, dI) vwCl (WC cy ad ks g u29) H := by rw [← pt_eq e30, ← ez9]; exact hP
  have hD : va_D A (WC cy ad ks g u29) := by rw [← pt_eq e30, ← ez9]; exact hD
  clear ez9 h9
  have hZ := s1 hF
  have zuz : u29 = uz := hZ
  have hP9 : va_P (dC, dI) vwCl (WC cy ad ks g uz) H := by rw [← zuz]; exact hP
  have hD9 : va_D A (WC cy ad ks g uz) := by rw [← zuz]; exact hD
  rw [hQ]
  exact W.vret hx hb hr (fun t ht hW => ⟨⟨(), rfl, trivial, by rw [ht]; exact hP9, hD9⟩, hS.F ht⟩) hS.2.2 dX6_begin_75
noncomputable def C3_addStation (g : CG) (u0 : RS) (L : Nat) (a1 : Int32) (a2 : Int32) (a3 : Int32) : Option (RS) := (if 6 ≤ (u0 (10 + L) 7) then (some u0) else ((ix 6 (u0 (10 + L) 7)).bind fun n5 => (C6_begin g u0 L n5 (a1) (a2) a3).bind fun u7 => (pt u7 (10 + L) 7 ((u7 (10 + L) 7) + 1)).bind fun u9 => some u9) : Option (RS)).bind fun t2 => some t2
set_option maxHeartbeats 4000000 in
set_option maxRecDepth 100000 in
theorem c_X3_addStation (l : Launch) (dC : Nat → ClassId) (dI : Nat → Nat → Nat) (cy : Nat → ClassId) (nb : Nat → Nat) (ad : CK → Nat) (ks : List CK) (g : CG) (hk : GA nb ad g ks) (u0 : RS) (L : Nat) (a1 : Int32) (a2 : Int32) (a3 : Int32) (uz : RS) (sz : Nat) (h_L : has g (.ln L)) (hF : C3_addStation g u0 L a1 a2 a3 = some uz) : Met l yX3_addStation (wsg yX3_addStation cX3_addStation 4 none) ({ frames := 8, cells := 0, slots := 0, locals := 300 }) (va_Pc [.ref (ad (.ln L)), .int a1, .int a2, .ref (ad (.tx (a3).toNatClampNeg))] (fun U => U.heap.size = sz ∧ va_P (dC, dI) vwCl (WC cy ad ks g u0) U.heap ∧ va_K (dC, dI) vwCl (tyL cy) U ∧ va_D (fun _ => True) (WC cy ad ks g u0) ∧ GE nb (va_A (WC cy ad ks g u0) sz) U)) (va_Qv (fun (_ : Unit) => True) (fun _ t => va_P (dC, dI) vwCl (WC cy ad ks g uz) t.heap ∧ va_D (va_A (WC cy ad ks g u0) sz) (WC cy ad ks g uz)) (va_A (WC cy ad ks g u0) sz)) 0 0 (va_A (WC cy ad ks g u0) sz) := by
  refine Met.ofW (cc := cX3_addStation) (maxL := 4) (ret := none) pn_X3 rfl ?_
  intro p e s m args below meth c s₁ B hml hv
  obtain ⟨rfl, hsz, hP, hK, hD0, hE⟩ := hv
  have hx := B.exec
  have hb := B.bytes
  have hr := B.returns
  have hts0 := atoms_spec (ws := (wsg yX3_addStation cX3_addStation 4 none)) B.pre
  have hts : ∀ w ∈ wsL_law, w.before _ s = true := fun w h => hts0 w (List.mem_cons_of_mem _ h)
  have hown : s.vm.findClass RX3 = some m.cls := by have h9 := findClass_of_methodNamed B.named; exact h9
  have hlocks := B.notSynchronized
  subst hsz
  have hD := hD0.self (sz := s.heap.size)
  generalize hAe : va_A (WC cy ad ks g u0) s.heap.size = A at hD hE ⊢
  have hA : ∀ q : Nat, s.heap.size ≤ q → A q := fun q h => by rw [← hAe]; exact Or.inr h
  have hS : va_S A s.heap s.heap [] := va_S.rf
  have hl := lv_entry ([.ref (ad (.ln L)), .int a1, .int a2, .ref (ad (.tx (a3).toNatClampNeg))]) (n := 4) (Nat.le_of_ble_eq_true rfl)
  rw [lg_entry_eq]
  generalize (lg_sl ([.ref (ad (.ln L)), .int a1, .int a2, .ref (ad (.tx (a3).toNatClampNeg))]) ++ List.replicate (4 - (lg_sl ([.ref (ad (.ln L)), .int a1, .int a2, .ref (ad (.tx (a3).toNatClampNeg))])).length) Slot.unset).toArray = ls at hl ⊢
  have hl : lv_has ls 4 [(0, .ref (ad (.ln L))), (1, .int a1), (2, .int a2), (3, .ref (ad (.tx (a3).toNatClampNeg)))] := hl
  generalize hHe : s.heap = H at hP hS ⊢
  have hS : va_S A s.heap H [] := by rw [hHe]; exact hS
  refine my_Q (fun Qn hQ => ?_)
  simp only [C3_addStation] at hF
  refine lv_aload_n hx hb dX3_addStation_0 rfl (lv_at hl 0 rfl) ?_
  obtain ⟨q9, h9⟩ := wc_at (cy := cy) (ad := ad) (ks := ks) (g := g) (u := u0) (κ := (.ln L)) hk.1 h_L
  refine va_get (D := (dC, dI)) (ci := 3) (v := .int (u0 (10 + L) 7)) (C := RX3) (T := TX3) (N := 17) hx hb hts inlX3 hown hK hP q9 h9 rfl 7 (by decide) (hts _ mw_86) (fun _ h9 => h9) rfl dX3_addStation_1 ?_
  clear h9
  refine lv_bipush (v := 6) hx hb dX3_addStation_4 (by decide) ?_
  obtain ⟨t2, hJ3, hF⟩ := ob hF
  have join4 : ∀ (H : Heap) (locs : List Loc) (ls : Array Slot), va_P (dC, dI) vwCl (WC cy ad ks g t2) H → va_D A (WC cy ad ks g t2) → va_S A s.heap H locs → lv_has ls 4 [(0, .ref (ad (.ln L))), (1, .int a1), (2, .int a2), (3, .ref (ad (.tx (a3).toNatClampNeg)))] → W p l e (headSpec (wsg yX3_addStation cX3_addStation 4 none) ({ frames := 8, cells := 0, slots := 0, locals := 300 })).room s m ([.ref (ad (.ln L)), .int a1, .int a2, .ref (ad (.tx (a3).toNatClampNeg))] : List Value).toArray below meth c H locs 0 0 Qn (F0 m 34 ls []) := by
    intro H locs ls hP hD hS hl
    have hZ := s1 hF
    have zuz : t2 = uz := hZ
    have hP9 : va_P (dC, dI) vwCl (WC cy ad ks g uz) H := by rw [← zuz]; exact hP
    have hD9 : va_D A (WC cy ad ks g uz) := by rw [← zuz]; exact hD
    rw [hQ]
    exact W.vret hx hb hr (fun t ht hW => ⟨⟨(), rfl, trivial, by rw [ht]; exact hP9, hD9⟩, hS.F ht⟩) hS.2.2 dX3_addStation_34
  clear hF
  have hF := hJ3
  clear hJ3
  refine lv_icmp_ge (tgt := 34) hx hb dX3_addStation_6 (by decide) (fun c1 => ?_) (fun c1 => ?_)
  · rw [if_pos c1] at hF
    have ht := s1 hF
    subst ht
    exact join4 _ _ _ hP hD hS (lv_sub hl [0, 1, 2, 3] rfl)
  · rw [if_neg c1] at hF
    refine lv_aload_n hx hb dX3_addStation_9 rfl (lv_at hl 0 rfl) ?_
    obtain ⟨q9, h9⟩ := wc_at (cy := cy) (ad := ad) (ks := ks) (g := g) (u := u0) (κ := (.ln L)) hk.1 h_L
    refine va_get (D := (dC, dI)) (ci := 3) (v := .ref (ad (.ss L))) (C := RX3) (T := TX3) (N := 17) hx hb hts inlX3 hown hK hP q9 h9 rfl 10 (by decide) (hts _ mw_41) (fun _ h9 => h9) rfl dX3_addStation_10 ?_
    clear h9
    refine lv_aload_n hx hb dX3_addStation_13 rfl (lv_at hl 0 rfl) ?_
    obtain ⟨q9, h9⟩ := wc_at (cy := cy) (ad := ad) (ks := ks) (g := g) (u := u0) (κ := (.ln L)) hk.1 h_L
    refine va_get (D := (dC, dI)) (ci := 3) (v := .int (u0 (10 + L) 7)) (C := RX3) (T := TX3) (N := 17) hx hb hts inlX3 hown hK hP q9 h9 rfl 7 (by decide) (hts _ mw_86) (fun _ h9 => h9) rfl dX3_addStation_14 ?_
    clear h9
    obtain ⟨n5, e6, hF⟩ := ob hF
    obtain ⟨q9, h9⟩ := wc_at (cy := cy) (ad := ad) (ks := ks) (g := g) (u := u0) (κ := (.ss L)) hk.1 h_L
    refine va_aldq hx hb hK hP q9 6 h9 rfl (ix_in e6) dX3_addStation_17 ?_
    refine my_top (y := .ref (ad (.st L n5))) (ixv (F := fun j => ad (.st L j)) e6) ?_
    clear h9
    refine lv_iload_n hx hb dX3_addStation_18 rfl (lv_at hl 1 rfl) ?_
    refine lv_iload_n hx hb dX3_addStation_19 rfl (lv_at hl 2 rfl) ?_
    refine lv_aload_n hx hb dX3_addStation_20 rfl (lv_at hl 3 rfl) ?_
    obtain ⟨u7, e8, hF⟩ := ob hF
    have hPc := hP
    have hDc := hD
    have hFc := my_free hD hS hA
    obtain ⟨q8, h8⟩ := wc_at (cy := cy) (ad := ad) (ks := ks) (g := g) (u := u0) (κ := (.st L n5)) hk.1 ⟨h_L, (ix_lt e6)⟩
    refine va_callv (va_runV (As := [.int a1, .int a2, .ref (ad (.tx (a3).toNatClampNeg))]) (rest := []) ⟨hx, hb, hml, hown, hts⟩ (c_X6_begin l dC dI cy nb ad ks g hk u0 L n5 (a1) (a2) a3 (u7) H.size ⟨h_L, (ix_lt e6)⟩ e8) (cwV 3 hts (gV mw_364 mw_365 mw_366 mw_50 mw_367) rfl rfl rfl (by decide +kernel) ⟨Nat.le_of_ble_eq_true rfl, Nat.le_of_ble_eq_true rfl⟩) (my_preV hPc hK hDc hE hS hFc (va_recv (q := (RX6, TX6, 15)) hK hP (ci := 6) (q0 := q8) rfl h8)) rfl rfl hl.1 rfl (lv_room (Nat.le_of_ble_eq_true rfl)) dX3_addStation_21 ⟨Nat.le_of_ble_eq_true rfl, Nat.le_of_ble_eq_true rfl⟩) hS (fun q _ h => hFc q h) hFc (fun u t H1 locs ht hvm hw hB hz1 hk1 hS => ?_)
    clear h8
    obtain ⟨hP1, hD1⟩ := hB
    rw [ht] at hP1
    have hP := hP1
    have hD := hD1.weaken (fun k q _ h => hFc q.1 h)
    generalize H1 = H at hP hS ⊢
    clear hP1 hD1 hPc hDc hFc hk1 hz1 hvm ht
    refine lv_aload_n hx hb dX3_addStation_24 rfl (lv_at hl 0 rfl) ?_
    refine lv_dup hx hb dX3_addStation_25 rfl ?_
    obtain ⟨q9, h9⟩ := wc_at (cy := cy) (ad := ad) (ks := ks) (g := g) (u := u7) (κ := (.ln L)) hk.1 h_L
    refine va_get (D := (dC, dI)) (ci := 3) (v := .int (u7 (10 + L) 7)) (C := RX3) (T := TX3) (N := 17) hx hb hts inlX3 hown hK hP q9 h9 rfl 7 (by decide) (hts _ mw_86) (fun _ h9 => h9) rfl dX3_addStation_26 ?_
    clear h9
    refine lv_iconst (v := 1) hx hb dX3_addStation_29 (by decide) ?_
    refine lv_iadd hx hb dX3_addStation_30 ?_
    obtain ⟨q9, h9, ez9⟩ := wc_set (cy := cy) (ad := ad) (ks := ks) (g := g) (u := u7) (κ := (.ln L)) (r := (10 + L)) (i := 7) (v := ((u7 (10 + L) 7) + 1)) hk.1 h_L (own_ln (inl_lt h_L) (by decide)) (sf_ln_7)
    refine va_put (D := (dC, dI)) (ci := 3) (v := .int ((u7 (10 + L) 7) + 1)) (ty := .int) (C := RX3) (T := TX3) (N := 17) hx hb hts inlX3 tyX3 tyX3_ok nmX3 hown hK hP hD hS q9 h9 rfl 7 (by decide) (hts _ mw_86) (fun _ h9 => h9) rfl (by decide +kernel) rfl rfl (Nat.le_of_ble_eq_true rfl) dX3_addStation_31 (fun H locs hP hD hS => ?_)
    obtain ⟨u9, e10, hF⟩ := ob hF
    have hP : va_P (dC, dI) vwCl (WC cy ad ks g u9) H := by rw [← pt_eq e10, ← ez9]; exact hP
    have hD : va_D A (WC cy ad ks g u9) := by rw [← pt_eq e10, ← ez9]; exact hD
    clear ez9 h9
    have ht := s1 hF
    subst ht
    exact join4 _ _ _ hP hD hS (lv_sub hl [0, 1, 2, 3] rfl)
noncomputable def C3_begin (g : CG) (u0 : RS) (L : Nat) (a1 : Int32) (a2 : Int32) (a3 : Int32) (a4 : Int32) : Option (RS) := (pt u0 (10 + L) 0 a1).bind fun u1 => (pt u1 (10 + L) 3 a2).bind fun u3 => (pt u3 (10 + L) 4 (0)).bind fun u5 => (pt u5 (10 + L) 5 a2).bind fun u7 => (pt u7 (10 + L) 1 a3).bind fun u9 => (pt u9 (10 + L) 2 a4).bind fun u11 => (pt u11 (10 + L) 6 (0)).bind fun u13 => (pt u13 (10 + L) 7 (0)).bind fun u15 => (pt u15 (10 + L) 8 (0)).bind fun u17 => (pt u17 (10 + L) 9 (0)).bind fun u19 => (C_J7_fill_53178_is g u19 L (0)).bind fun u21 => (C_J7_fill_53178_tt g u21 L (0)).bind fun u23 => some u23
set_option maxHeartbeats 4000000 in
set_option maxRecDepth 100000 in
theorem c_X3_begin (l : Launch) (dC : Nat → ClassId) (dI : Nat → Nat → Nat) (cy : Nat → ClassId) (nb : Nat → Nat) (ad : CK → Nat) (ks : List CK) (g : CG) (hk : GA nb ad g ks) (u0 : RS) (L : Nat) (a1 : Int32) (a2 : Int32) (a3 : Int32) (a4 : Int32) (uz : RS) (sz : Nat) (h_L : has g (.ln L)) (hF : C3_begin g u0 L a1 a2 a3 a4 = some uz) : Met l yX3_begin (wsg yX3_begin cX3_begin 5 none) ({ frames := 8, cells := 0, slots := 0, locals := 300 }) (va_Pc [.ref (ad (.ln L)), .int a1, .int a2, .int a3, .int a4] (fun U => U.heap.size = sz ∧ va_P (dC, dI) vwCl (WC cy ad ks g u0) U.heap ∧ va_K (dC, dI) vwCl (tyL cy) U ∧ va_D (fun _ => True) (WC cy ad ks g u0) ∧ GE nb (va_A (WC cy ad ks g u0) sz) U)) (va_Qv (fun (_ : Unit) => True) (fun _ t => va_P (dC, dI) vwCl (WC cy ad ks g uz) t.heap ∧ va_D (va_A (WC cy ad ks g u0) sz) (WC cy ad ks g uz)) (va_A (WC cy ad ks g u0) sz)) 0 0 (va_A (WC cy ad ks g u0) sz) := by
  refine Met.ofW (cc := cX3_begin) (maxL := 5) (ret := none) pn_X3 rfl ?_
  intro p e s m args below meth c s₁ B hml hv
  obtain ⟨rfl, hsz, hP, hK, hD0, hE⟩ := hv
  have hx := B.exec
  have hb := B.bytes
  have hr := B.returns
  have hts0 := atoms_spec (ws := (wsg yX3_begin cX3_begin 5 none)) B.pre
  have hts : ∀ w ∈ wsL_law, w.before _ s = true := fun w h => hts0 w (List.mem_cons_of_mem _ h)
  have hown : s.vm.findClass RX3 = some m.cls := by have h9 := findClass_of_methodNamed B.named; exact h9
  have hlocks := B.notSynchronized
  subst hsz
  have hD := hD0.self (sz := s.heap.size)
  generalize hAe : va_A (WC cy ad ks g u0) s.heap.size = A at hD hE ⊢
  have hA : ∀ q : Nat, s.heap.size ≤ q → A q := fun q h => by rw [← hAe]; exact Or.inr h
  have hS : va_S A s.heap s.heap [] := va_S.rf
  have hl := lv_entry ([.ref (ad (.ln L)), .int a1, .int a2, .int a3, .int a4]) (n := 5) (Nat.le_of_ble_eq_true rfl)
  rw [lg_entry_eq]
  generalize (lg_sl ([.ref (ad (.ln L)), .int a1, .int a2, .int a3, .int a4]) ++ List.replicate (5 - (lg_sl ([.ref (ad (.ln L)), .int a1, .int a2, .int a3, .int a4])).length) Slot.unset).toArray = ls at hl ⊢
  have hl : lv_has ls 5 [(0, .ref (ad (.ln L))), (1, .int a1), (2, .int a2), (3, .int a3), (4, .int a4)] := hl
  generalize hHe : s.heap = H at hP hS ⊢
  have hS : va_S A s.heap H [] := by rw [hHe]; exact hS
  refine my_Q (fun Qn hQ => ?_)
  simp only [C3_begin] at hF
  refine lv_aload_n hx hb dX3_begin_0 rfl (lv_at hl 0 rfl) ?_
  refine lv_iload_n hx hb dX3_begin_1 rfl (lv_at hl 1 rfl) ?_
  obtain ⟨q9, h9, ez9⟩ := wc_set (cy := cy) (ad := ad) (ks := ks) (g := g) (u := u0) (κ := (.ln L)) (r := (10 + L)) (i := 0) (v := a1) hk.1 h_L (own_ln (inl_lt h_L) (by decide)) (sf_ln_0)
  refine va_put (D := (dC, dI)) (ci := 3) (v := .int a1) (ty := .int) (C := RX3) (T := TX3) (N := 17) hx hb hts inlX3 tyX3 tyX3_ok nmX3 hown hK hP hD hS q9 h9 rfl 0 (by decide) (hts _ mw_39) (fun _ h9 => h9) rfl (by decide +kernel) rfl rfl (Nat.le_of_ble_eq_true rfl) dX3_begin_2 (fun H locs hP hD hS => ?_)
  obtain ⟨u1, e2, hF⟩ := ob hF
  have hP : va_P (dC, dI) vwCl (WC cy ad ks g u1) H := by rw [← pt_eq e2, ← ez9]; exact hP
  have hD : va_D A (WC cy ad ks g u1) := by rw [← pt_eq e2, ← ez9]; exact hD
  clear ez9 h9
  refine lv_aload_n hx hb dX3_begin_5 rfl (lv_at hl 0 rfl) ?_
  refine lv_iload_n hx hb dX3_begin_6 rfl (lv_at hl 2 rfl) ?_
  obtain ⟨q9, h9, ez9⟩ := wc_set (cy := cy) (ad := ad) (ks := ks) (g := g) (u := u1) (κ := (.ln L)) (r := (10 + L)) (i := 3) (v := a2) hk.1 h_L (own_ln (inl_lt h_L) (by decide)) (sf_ln_3)
  refine va_put (D := (dC, dI)) (ci := 3) (v := .int a2) (ty := .int) (C := RX3) (T := TX3) (N := 17) hx hb hts inlX3 tyX3 tyX3_ok nmX3 hown hK hP hD hS q9 h9 rfl 3 (by decide) (hts _ mw_80) (fun _ h9 => h9) rfl (by decide +kernel) rfl rfl (Nat.le_of_ble_eq_true rfl) dX3_begin_7 (fun H locs hP hD hS => ?_)
  obtain ⟨u3, e4, hF⟩ := ob hF
  have hP : va_P (dC, dI) vwCl (WC cy ad ks g u3) H := by rw [← pt_eq e4, ← ez9]; exact hP
  have hD : va_D A (WC cy ad ks g u3) := by rw [← pt_eq e4, ← ez9]; exact hD
  clear ez9 h9
  refine lv_aload_n hx hb dX3_begin_10 rfl (lv_at hl 0 rfl) ?_
  refine lv_iconst (v := 0) hx hb dX3_begin_11 (by decide) ?_
  obtain ⟨q9, h9, ez9⟩ := wc_set (cy := cy) (ad := ad) (ks := ks) (g := g) (u := u3) (κ := (.ln L)) (r := (10 + L)) (i := 4) (v := (0)) hk.1 h_L (own_ln (inl_lt h_L) (by decide)) (sf_ln_4)
  refine va_put (D := (dC, dI)) (ci := 3) (v := .int 0) (ty := .int) (C := RX3) (T := TX3) (N := 17) hx hb hts inlX3 tyX3 tyX3_ok nmX3 hown hK hP hD hS q9 h9 rfl 4 (by decide) (hts _ mw_81) (fun _ h9 => h9) rfl (by decide +kernel) rfl rfl (Nat.le_of_ble_eq_true rfl) dX3_begin_12 (fun H locs hP hD hS => ?_)
  obtain ⟨u5, e6, hF⟩ := ob hF
  have hP : va_P (dC, dI) vwCl (WC cy ad ks g u5) H := by rw [← pt_eq e6, ← ez9]; exact hP
  have hD : va_D A (WC cy ad ks g u5) := by rw [← pt_eq e6, ← ez9]; exact hD
  clear ez9 h9
  refine lv_aload_n hx hb dX3_begin_15 rfl (lv_at hl 0 rfl) ?_
  refine lv_iload_n hx hb dX3_begin_16 rfl (lv_at hl 2 rfl) ?_
  obtain ⟨q9, h9, ez9⟩ := wc_set (cy := cy) (ad := ad) (ks := ks) (g := g) (u := u5) (κ := (.ln L)) (r := (10 + L)) (i := 5) (v := a2) hk.1 h_L (own_ln (inl_lt h_L) (by decide)) (sf_ln_5)
  refine va_put (D := (dC, dI)) (ci := 3) (v := .int a2) (ty := .int) (C := RX3) (T := TX3) (N := 17) hx hb hts inlX3 tyX3 tyX3_ok nmX3 hown hK hP hD hS q9 h9 rfl 5 (by decide) (hts _ mw_82) (fun _ h9 => h9) rfl (by decide +kernel) rfl rfl (Nat.le_of_ble_eq_true rfl) dX3_begin_17 (fun H locs hP hD hS => ?_)
  obtain ⟨u7, e8, hF⟩ := ob hF
  have hP : va_P (dC, dI) vwCl (WC cy ad ks g u7) H := by rw [← pt_eq e8, ← ez9]; exact hP
  have hD : va_D A (WC cy ad ks g u7) := by rw [← pt_eq e8, ← ez9]; exact hD
  clear ez9 h9
  refine lv_aload_n hx hb dX3_begin_20 rfl (lv_at hl 0 rfl) ?_
  refine lv_iload_n hx hb dX3_begin_21 rfl (lv_at hl 3 rfl) ?_
  obtain ⟨q9, h9, ez9⟩ := wc_set (cy := cy) (ad := ad) (ks := ks) (g := g) (u := u7) (κ := (.ln L)) (r := (10 + L)) (i := 1) (v := a3) hk.1 h_L (own_ln (inl_lt h_L) (by decide)) (sf_ln_1)
  refine va_put (D := (dC, dI)) (ci := 3) (v := .int a3) (ty := .int) (C := RX3) (T := TX3) (N := 17) hx hb hts inlX3 tyX3 tyX3_ok nmX3 hown hK hP hD hS q9 h9 rfl 1 (by decide) (hts _ mw_83) (fun _ h9 => h9) rfl (by decide +kernel) rfl rfl (Nat.le_of_ble_eq_true rfl) dX3_begin_22 (fun H locs hP hD hS => ?_)
  obtain ⟨u9, e10, hF⟩ := ob hF
  have hP : va_P (dC, dI) vwCl (WC cy ad ks g u9) H := by rw [← pt_eq e10, ← ez9]; exact hP
  have hD : va_D A (WC cy ad ks g u9) := by rw [← pt_eq e10, ← ez9]; exact hD
  clear ez9 h9
  refine lv_aload_n hx hb dX3_begin_25 rfl (lv_at hl 0 rfl) ?_
  refine lv_iload hx hb dX3_begin_26 (lv_at hl 4 rfl) ?_
  obtain ⟨q9, h9, ez9⟩ := wc_set (cy := cy) (ad := ad) (ks := ks) (g := g) (u := u9) (κ := (.ln L)) (r := (10 + L)) (i := 2) (v := a4) hk.1 h_L (own_ln (inl_lt h_L) (by decide)) (sf_ln_2)
  refine va_put (D := (dC, dI)) (ci := 3) (v := .int a4) (ty := .int) (C := RX3) (T := TX3) (N := 17) hx hb hts inlX3 tyX3 tyX3_ok nmX3 hown hK hP hD hS q9 h9 rfl 2 (by decide) (hts _ mw_84) (fun _ h9 => h9) rfl (by decide +kernel) rfl rfl (Nat.le_of_ble_eq_true rfl) dX3_begin_28 (fun H locs hP hD hS => ?_)
  obtain ⟨u11, e12, hF⟩ := ob hF
  have hP : va_P (dC, dI) vwCl (WC cy ad ks g u11) H := by rw [← pt_eq e12, ← ez9]; exact hP
  have hD : va_D A (WC cy ad ks g u11) := by rw [← pt_eq e12, ← ez9]; exact hD
  clear ez9 h9
  refine lv_aload_n hx hb dX3_begin_31 rfl (lv_at hl 0 rfl) ?_
  refine lv_iconst (v := 0) hx hb dX3_begin_32 (by decide) ?_
  obtain ⟨q9, h9, ez9⟩ := wc_set (cy := cy) (ad := ad) (ks := ks) (g := g) (u := u11) (κ := (.ln L)) (r := (10 + L)) (i := 6) (v := (0)) hk.1 h_L (own_ln (inl_lt h_L) (by decide)) (sf_ln_6)
  refine va_put (D := (dC, dI)) (ci := 3) (v := .int 0) (ty := .int) (C := RX3) (T := TX3) (N := 17) hx hb hts inlX3 tyX3 tyX3_ok nmX3 hown hK hP hD hS q9 h9 rfl 6 (by decide) (hts _ mw_85) (fun _ h9 => h9) rfl (by decide +kernel) rfl rfl (Nat.le_of_ble_eq_true rfl) dX3_begin_33 (fun H locs hP hD hS => ?_)
  obtain ⟨u13, e14, hF⟩ := ob hF
  have hP : va_P (dC, dI) vwCl (WC cy ad ks g u13) H := by rw [← pt_eq e14, ← ez9]; exact hP
  have hD : va_D A (WC cy ad ks g u13) := by rw [← pt_eq e14, ← ez9]; exact hD
  clear ez9 h9
  refine lv_aload_n hx hb dX3_begin_36 rfl (lv_at hl 0 rfl) ?_
  refine lv_iconst (v := 0) hx hb dX3_begin_37 (by decide) ?_
  obtain ⟨q9, h9, ez9⟩ := wc_set (cy := cy) (ad := ad) (ks := ks) (g := g) (u := u13) (κ := (.ln L)) (r := (10 + L)) (i := 7) (v := (0)) hk.1 h_L (own_ln (inl_lt h_L) (by decide)) (sf_ln_7)
  refine va_put (D := (dC, dI)) (ci := 3) (v := .int 0) (ty := .int) (C := RX3) (T := TX3) (N := 17) hx hb hts inlX3 tyX3 tyX3_ok nmX3 hown hK hP hD hS q9 h9 rfl 7 (by decide) (hts _ mw_86) (fun _ h9 => h9) rfl (by decide +kernel) rfl rfl (Nat.le_of_ble_eq_true rfl) dX3_begin_38 (fun H locs hP hD hS => ?_)
  obtain ⟨u15, e16, hF⟩ := ob hF
  have hP : va_P (dC, dI) vwCl (WC cy ad ks g u15) H := by rw [← pt_eq e16, ← ez9]; exact hP
  have hD : va_D A (WC cy ad ks g u15) := by rw [← pt_eq e16, ← ez9]; exact hD
  clear ez9 h9
  refine lv_aload_n hx hb dX3_begin_41 rfl (lv_at hl 0 rfl) ?_
  refine lv_iconst (v := 0) hx hb dX3_begin_42 (by decide) ?_
  obtain ⟨q9, h9, ez9⟩ := wc_set (cy := cy) (ad := ad) (ks := ks) (g := g) (u := u15) (κ := (.ln L)) (r := (10 + L)) (i := 8) (v := (0)) hk.1 h_L (own_ln (inl_lt h_L) (by decide)) (sf_ln_8)
  refine va_put (D := (dC, dI)) (ci := 3) (v := .int 0) (ty := .int) (C := RX3) (T := TX3) (N := 17) hx hb hts inlX3 tyX3 tyX3_ok nmX3 hown hK hP hD hS q9 h9 rfl 8 (by decide) (hts _ mw_87) (fun _ h9 => h9) rfl (by decide +kernel) rfl rfl (Nat.le_of_ble_eq_true rfl) dX3_begin_43 (fun H locs hP hD hS => ?_)
  obtain ⟨u17, e18, hF⟩ := ob hF
  have hP : va_P (dC, dI) vwCl (WC cy ad ks g u17) H := by rw [← pt_eq e18, ← ez9]; exact hP
  have hD : va_D A (WC cy ad ks g u17) := by rw [← pt_eq e18, ← ez9]; exact hD
  clear ez9 h9
  refine lv_aload_n hx hb dX3_begin_46 rfl (lv_at hl 0 rfl) ?_
  refine lv_iconst (v := 0) hx hb dX3_begin_47 (by decide) ?_
  obtain ⟨q9, h9, ez9⟩ := wc_set (cy := cy) (ad := ad) (ks := ks) (g := g) (u := u17) (κ := (.ln L)) (r := (10 + L)) (i := 9) (v := (0)) hk.1 h_L (own_ln (inl_lt h_L) (by decide)) (sf_ln_9)
  refine va_put (D := (dC, dI)) (ci := 3) (v := .int 0) (ty := .int) (C := RX3) (T := TX3) (N := 17) hx hb hts inlX3 tyX3 tyX3_ok nmX3 hown hK hP hD hS q9 h9 rfl 9 (by decide) (hts _ mw_88) (fun _ h9 => h9) rfl (by decide +kernel) rfl rfl (Nat.le_of_ble_eq_true rfl) dX3_begin_48 (fun H locs hP hD hS => ?_)
  obtain ⟨u19, e20, hF⟩ := ob hF
  have hP : va_P (dC, dI) vwCl (WC cy ad ks g u19) H := by rw [← pt_eq e20, ← ez9]; exact hP
  have hD : va_D A (WC cy ad ks g u19) := by rw [← pt_eq e20, ← ez9]; exact hD
  clear ez9 h9
  refine lv_aload_n hx hb dX3_begin_51 rfl (lv_at hl 0 rfl) ?_
  obtain ⟨q9, h9⟩ := wc_at (cy := cy) (ad := ad) (ks := ks) (g := g) (u := u19) (κ := (.ln L)) hk.1 h_L
  refine va_get (D := (dC, dI)) (ci := 3) (v := .ref (ad (.is L))) (C := RX3) (T := TX3) (N := 17) hx hb hts inlX3 hown hK hP q9 h9 rfl 13 (by decide) (hts _ mw_46) (fun _ h9 => h9) rfl dX3_begin_52 ?_
  clear h9
  refine lv_iconst (v := 0) hx hb dX3_begin_55 (by decide) ?_
  obtain ⟨u21, e22, hF⟩ := ob hF
  have hPc := hP
  have hDc := hD
  have hFc := my_free hD hS hA
  refine va_callv (va_runS (As := [.ref (ad (.is L)), .int 0]) (rest := []) ⟨hx, hb, hml, hown, hts⟩ (c_J7_fill_53178_is l dC dI cy nb ad ks g hk u19 L (0) (u21) H.size h_L e22) (va_cwS 2 hts (gS mw_89 mw_90 mw_91 mw_92) rfl rfl rfl (by decide +kernel) ⟨Nat.le_of_ble_eq_true rfl, Nat.le_of_ble_eq_true rfl⟩) (my_preS hPc hK hDc hE hS hFc) rfl rfl hl.1 rfl (lv_room (Nat.le_of_ble_eq_true rfl)) dX3_begin_56 ⟨Nat.le_of_ble_eq_true rfl, Nat.le_of_ble_eq_true rfl⟩) hS (fun q _ h => hFc q h) hFc (fun u t H1 locs ht hvm hw hB hz1 hk1 hS => ?_)
  obtain ⟨hP1, hD1⟩ := hB
  rw [ht] at hP1
  have hP := hP1
  have hD := hD1.weaken (fun k q _ h => hFc q.1 h)
  generalize H1 = H at hP hS ⊢
  clear hP1 hD1 hPc hDc hFc hk1 hz1 hvm ht
  refine lv_aload_n hx hb dX3_begin_59 rfl (lv_at hl 0 rfl) ?_
  obtain ⟨q9, h9⟩ := wc_at (cy := cy) (ad := ad) (ks := ks) (g := g) (u := u21) (κ := (.ln L)) hk.1 h_L
  refine va_get (D := (dC, dI)) (ci := 3) (v := .ref (ad (.tt L))) (C := RX3) (T := TX3) (N := 17) hx hb hts inlX3 hown hK hP q9 h9 rfl 15 (by decide) (hts _ mw_48) (fun _ h9 => h9) rfl dX3_begin_60 ?_
  clear h9
  refine lv_iconst (v := 0) hx hb dX3_begin_63 (by decide) ?_
  obtain ⟨u23, e24, hF⟩ := ob hF
  have hPc := hP
  have hDc := hD
  have hFc := my_free hD hS hA
  refine va_callv (va_runS (As := [.ref (ad (.tt L)), .int 0]) (rest := []) ⟨hx, hb, hml, hown, hts⟩ (c_J7_fill_53178_tt l dC dI cy nb ad ks g hk u21 L (0) (u23) H.size h_L e24) (va_cwS 2 hts (gS mw_89 mw_90 mw_91 mw_92) rfl rfl rfl (by decide +kernel) ⟨Nat.le_of_ble_eq_true rfl, Nat.le_of_ble_eq_true rfl⟩) (my_preS hPc hK hDc hE hS hFc) rfl rfl hl.1 rfl (lv_room (Nat.le_of_ble_eq_true rfl)) dX3_begin_64 ⟨Nat.le_of_ble_eq_true rfl, Nat.le_of_ble_eq_true rfl⟩) hS (fun q _ h => hFc q h) hFc (fun u t H1 locs ht hvm hw hB hz1 hk1 hS => ?_)
  obtain ⟨hP1, hD1⟩ := hB
  rw [ht] at hP1
  have hP := hP1
  have hD := hD1.weaken (fun k q _ h => hFc q.1 h)
  generalize H1 = H at hP hS ⊢
  clear hP1 hD1 hPc hDc hFc hk1 hz1 hvm ht
  have hZ := s1 hF
  have zuz : u23 = uz := hZ
  have hP9 : va_P (dC, dI) vwCl (WC cy ad ks g uz) H := by rw [← zuz]; exact hP
  have hD9 : va_D A (WC cy ad ks g uz) := by rw [← zuz]; exact hD
  rw [hQ]
  exact W.vret hx hb hr (fun t ht hW => ⟨⟨(), rfl, trivial, by rw [ht]; exact hP9, hD9⟩, hS.F ht⟩) hS.2.2 dX3_begin_67
noncomputable def C6_letGoOn (g : CG) (u0 : RS) (L : Nat) (i : Nat) : Option (RS) := (pt u0 (10 + L) (17 + 16 * i + 2) (-1)).bind fun u1 => (pt u1 (10 + L) (17 + 16 * i + 6) ((u1 (10 + L) (17 + 16 * i + 6)) + 1)).bind fun u3 => some u3
set_option maxHeartbeats 4000000 in
set_option maxRecDepth 100000 in
theorem c_X6_letGoOn (l : Launch) (dC : Nat → ClassId) (dI : Nat → Nat → Nat) (cy : Nat → ClassId) (nb : Nat → Nat) (ad : CK → Nat) (ks : List CK) (g : CG) (hk : GA nb ad g ks) (u0 : RS) (L : Nat) (i : Nat) (uz : RS) (sz : Nat) (h_L_i : has g (.st L i)) (hF : C6_letGoOn g u0 L i = some uz) : Met l yX6_letGoOn (wsg yX6_letGoOn cX6_letGoOn 1 none) ({ frames := 7, cells := 0, slots := 0, locals := 200 }) (va_Pc [.ref (ad (.st L i))] (fun U => U.heap.size = sz ∧ va_P (dC, dI) vwCl (WC cy ad ks g u0) U.heap ∧ va_K (dC, dI) vwCl (tyL cy) U ∧ va_D (fun _ => True) (WC cy ad ks g u0) ∧ GE nb (va_A (WC cy ad ks g u0) sz) U)) (va_Qv (fun (_ : Unit) => True) (fun _ t => va_P (dC, dI) vwCl (WC cy ad ks g uz) t.heap ∧ va_D (va_A (WC cy ad ks g u0) sz) (WC cy ad ks g uz)) (va_A (WC cy ad ks g u0) sz)) 0 0 (va_A (WC cy ad ks g u0) sz) := by
  refine Met.ofW (cc := cX6_letGoOn) (maxL := 1) (ret := none) pn_X6 rfl ?_
  intro p e s m args below meth c s₁ B hml hv
  obtain ⟨rfl, hsz, hP, hK, hD0, hE⟩ := hv
  have hx := B.exec
  have hb := B.bytes
  have hr := B.returns
  have hts0 := atoms_spec (ws := (wsg yX6_letGoOn cX6_letGoOn 1 none)) B.pre
  have hts : ∀ w ∈ wsL_law, w.before _ s = true := fun w h => hts0 w (List.mem_cons_of_mem _ h)
  have hown : s.vm.findClass RX6 = some m.cls := by have h9 := findClass_of_methodNamed B.named; exact h9
  have hlocks := B.notSynchronized
  subst hsz
  have hD := hD0.self (sz := s.heap.size)
  generalize hAe : va_A (WC cy ad ks g u0) s.heap.size = A at hD hE ⊢
  have hA : ∀ q : Nat, s.heap.size ≤ q → A q := fun q h => by rw [← hAe]; exact Or.inr h
  have hS : va_S A s.heap s.heap [] := va_S.rf
  have hl := lv_entry ([.ref (ad (.st L i))]) (n := 1) (Nat.le_of_ble_eq_true rfl)
  rw [lg_entry_eq]
  generalize (lg_sl ([.ref (ad (.st L i))]) ++ List.replicate (1 - (lg_sl ([.ref (ad (.st L i))])).length) Slot.unset).toArray = ls at hl ⊢
  have hl : lv_has ls 1 [(0, .ref (ad (.st L i)))] := hl
  generalize hHe : s.heap = H at hP hS ⊢
  have hS : va_S A s.heap H [] := by rw [hHe]; exact hS
  refine my_Q (fun Qn hQ => ?_)
  simp only [C6_letGoOn] at hF
  refine lv_aload_n hx hb dX6_letGoOn_0 rfl (lv_at hl 0 rfl) ?_
  refine lv_iconst (v := (-1)) hx hb dX6_letGoOn_1 (by decide) ?_
  obtain ⟨q9, h9, ez9⟩ := wc_set (cy := cy) (ad := ad) (ks := ks) (g := g) (u := u0) (κ := (.st L i)) (r := (10 + L)) (i := (17 + 16 * i + 2)) (v := (-1)) hk.1 ⟨h_L_i.1, h_L_i.2⟩ (own_st (inl_lt h_L_i.1) h_L_i.2 (by decide)) (sf_st_3)
  refine va_put (D := (dC, dI)) (ci := 6) (v := .int (-1)) (ty := .int) (C := RX6) (T := TX6) (N := 15) hx hb hts inlX6 tyX6 tyX6_ok nmX6 hown hK hP hD hS q9 h9 rfl 3 (by decide) (hts _ mw_370) (fun _ h9 => h9) rfl (by decide +kernel) rfl rfl (Nat.le_of_ble_eq_true rfl) dX6_letGoOn_2 (fun H locs hP hD hS => ?_)
  obtain ⟨u1, e2, hF⟩ := ob hF
  have hP : va_P (dC, dI) vwCl (WC cy ad ks g u1) H := by rw [← pt_eq e2, ← ez9]; exact hP
  have hD : va_D A (WC cy ad ks g u1) := by rw [← pt_eq e2, ← ez9]; exact hD
  clear ez9 h9
  refine lv_aload_n hx hb dX6_letGoOn_5 rfl (lv_at hl 0 rfl) ?_
  refine lv_dup hx hb dX6_letGoOn_6 rfl ?_
  obtain ⟨q9, h9⟩ := wc_at (cy := cy) (ad := ad) (ks := ks) (g := g) (u := u1) (κ := (.st L i)) hk.1 ⟨h_L_i.1, h_L_i.2⟩
  refine va_get (D := (dC, dI)) (ci := 6) (v := .int (u1 (10 + L) (17 + 16 * i + 6))) (C := RX6) (T := TX6) (N := 15) hx hb hts inlX6 hown hK hP q9 h9 rfl 8 (by decide) (hts _ mw_375) (fun _ h9 => h9) rfl dX6_letGoOn_7 ?_
  clear h9
  refine lv_iconst (v := 1) hx hb dX6_letGoOn_10 (by decide) ?_
  refine lv_iadd hx hb dX6_letGoOn_11 ?_
  obtain ⟨q9, h9, ez9⟩ := wc_set (cy := cy) (ad := ad) (ks := ks) (g := g) (u := u1) (κ := (.st L i)) (r := (10 + L)) (i := (17 + 16 * i + 6)) (v := ((u1 (10 + L) (17 + 16 * i + 6)) + 1)) hk.1 ⟨h_L_i.1, h_L_i.2⟩ (own_st (inl_lt h_L_i.1) h_L_i.2 (by decide)) (sf_st_8)
  refine va_put (D := (dC, dI)) (ci := 6) (v := .int ((u1 (10 + L) (17 + 16 * i + 6)) + 1)) (ty := .int) (C := RX6) (T := TX6) (N := 15) hx hb hts inlX6 tyX6 tyX6_ok nmX6 hown hK hP hD hS q9 h9 rfl 8 (by decide) (hts _ mw_375) (fun _ h9 => h9) rfl (by decide +kernel) rfl rfl (Nat.le_of_ble_eq_true rfl) dX6_letGoOn_12 (fun H locs hP hD hS => ?_)
  obtain ⟨u3, e4, hF⟩ := ob hF
  have hP : va_P (dC, dI) vwCl (WC cy ad ks g u3) H := by rw [← pt_eq e4, ← ez9]; exact hP
  have hD : va_D A (WC cy ad ks g u3) := by rw [← pt_eq e4, ← ez9]; exact hD
  clear ez9 h9
  have hZ := s1 hF
  have zuz : u3 = uz := hZ
  have hP9 : va_P (dC, dI) vwCl (WC cy ad ks g uz) H := by rw [← zuz]; exact hP
  have hD9 : va_D A (WC cy ad ks g uz) := by rw [← zuz]; exact hD
  rw [hQ]
  exact W.vret hx hb hr (fun t ht hW => ⟨⟨(), rfl, trivial, by rw [ht]; exact hP9, hD9⟩, hS.F ht⟩) hS.2.2 dX6_letGoOn_15
noncomputable def C4_cardAt (g : CG) (u0 : RS) (L : Nat) (i : Nat) (a1 : Int32) : Option (Int32) := (if a1 < 0 then (some (-1 : Int32)) else (if (u0 (10 + L) (113 + 4 * i + 1)) ≤ a1 then (some (-1 : Int32)) else ((rd u0 (100 + 6 * L + i) 30 a1).bind fun x6 => some x6)) : Option (Int32)).bind fun t2 => some t2
set_option maxHeartbeats 4000000 in
set_option maxRecDepth 100000 in
theorem c_X4_cardAt (l : Launch) (dC : Nat → ClassId) (dI : Nat → Nat → Nat) (cy : Nat → ClassId) (nb : Nat → Nat) (ad : CK → Nat) (ks : List CK) (g : CG) (hk : GA nb ad g ks) (u0 : RS) (L : Nat) (i : Nat) (a1 : Int32) (ro : Int32) (sz : Nat) (h_L_i : has g (.lo L i)) (hF : C4_cardAt g u0 L i a1 = some ro) : Met l yX4_cardAt (wsg yX4_cardAt cX4_cardAt 2 (some .int)) ({ frames := 7, cells := 0, slots := 0, locals := 200 }) (va_Pc [.ref (ad (.lo L i)), .int a1] (fun U => U.heap.size = sz ∧ va_P (dC, dI) vwCl (WC cy ad ks g u0) U.heap ∧ va_K (dC, dI) vwCl (tyL cy) U ∧ va_D (fun _ => True) (WC cy ad ks g u0) ∧ GE nb (va_A (WC cy ad ks g u0) sz) U)) (va_Qi (fun (r : Int32) (_ : Unit) => r = ro) (fun _ t => va_P (dC, dI) vwCl (WC cy ad ks g u0) t.heap ∧ va_D (va_A (WC cy ad ks g u0) sz) (WC cy ad ks g u0)) (va_A (WC cy ad ks g u0) sz)) 0 0 (va_A (WC cy ad ks g u0) sz) := by
  refine Met.ofW (cc := cX4_cardAt) (maxL := 2) (ret := (some .int)) pn_X4 rfl ?_
  intro p e s m args below meth c s₁ B hml hv
  obtain ⟨rfl, hsz, hP, hK, hD0, hE⟩ := hv
  have hx := B.exec
  have hb := B.bytes
  have hr := B.returns
  have hts0 := atoms_spec (ws := (wsg yX4_cardAt cX4_cardAt 2 (some .int))) B.pre
  have hts : ∀ w ∈ wsL_law, w.before _ s = true := fun w h => hts0 w (List.mem_cons_of_mem _ h)
  have hown : s.vm.findClass RX4 = some m.cls := by have h9 := findClass_of_methodNamed B.named; exact h9
  have hlocks := B.notSynchronized
  subst hsz
  have hD := hD0.self (sz := s.heap.size)
  generalize hAe : va_A (WC cy ad ks g u0) s.heap.size = A at hD hE ⊢
  have hA : ∀ q : Nat, s.heap.size ≤ q → A q := fun q h => by rw [← hAe]; exact Or.inr h
  have hS : va_S A s.heap s.heap [] := va_S.rf
  have hl := lv_entry ([.ref (ad (.lo L i)), .int a1]) (n := 2) (Nat.le_of_ble_eq_true rfl)
  rw [lg_entry_eq]
  generalize (lg_sl ([.ref (ad (.lo L i)), .int a1]) ++ List.replicate (2 - (lg_sl ([.ref (ad (.lo L i)), .int a1])).length) Slot.unset).toArray = ls at hl ⊢
  have hl : lv_has ls 2 [(0, .ref (ad (.lo L i))), (1, .int a1)] := hl
  generalize hHe : s.heap = H at hP hS ⊢
  have hS : va_S A s.heap H [] := by rw [hHe]; exact hS
  refine my_Q (fun Qn hQ => ?_)
  simp only [C4_cardAt] at hF
  refine lv_iload_n hx hb dX4_cardAt_0 rfl (lv_at hl 1 rfl) ?_
  obtain ⟨t2, hJ3, hF⟩ := ob hF
  have join4 : ∀ (H : Heap) (locs : List Loc) (ls : Array Slot), va_P (dC, dI) vwCl (WC cy ad ks g u0) H → va_D A (WC cy ad ks g u0) → va_S A s.heap H locs → lv_has ls 2 [(0, .ref (ad (.lo L i))), (1, .int a1)] → W p l e (headSpec (wsg yX4_cardAt cX4_cardAt 2 (some .int)) ({ frames := 7, cells := 0, slots := 0, locals := 200 })).room s m ([.ref (ad (.lo L i)), .int a1] : List Value).toArray below meth c H locs 0 0 Qn (F0 m 22 ls [.int t2]) := by
    intro H locs ls hP hD hS hl
    have hZ := s1 hF
    have zro : t2 = ro := hZ
    have hP9 : va_P (dC, dI) vwCl (WC cy ad ks g u0) H := by exact hP
    have hD9 : va_D A (WC cy ad ks g u0) := by exact hD
    rw [hQ]
    exact W.iret (v := t2) hx hb hr (fun t ht hW => ⟨⟨t2, (), rfl, zro, by rw [ht]; exact hP9, hD9⟩, hS.F ht⟩) hS.2.2 dX4_cardAt_22
  clear hF
  have hF := hJ3
  clear hJ3
  refine lv_if_lt (tgt := 21) hx hb dX4_cardAt_1 (by decide) (fun c1 => ?_) (fun c1 => ?_)
  · rw [if_pos c1] at hF
    refine lv_iconst (v := (-1)) hx hb dX4_cardAt_21 (by decide) ?_
    have ht := s1 hF
    subst ht
    exact join4 _ _ _ hP hD hS (lv_sub hl [0, 1] rfl)
  · rw [if_neg c1] at hF
    refine lv_iload_n hx hb dX4_cardAt_4 rfl (lv_at hl 1 rfl) ?_
    refine lv_aload_n hx hb dX4_cardAt_5 rfl (lv_at hl 0 rfl) ?_
    obtain ⟨q9, h9⟩ := wc_at (cy := cy) (ad := ad) (ks := ks) (g := g) (u := u0) (κ := (.lo L i)) hk.1 ⟨h_L_i.1, h_L_i.2⟩
    refine va_get (D := (dC, dI)) (ci := 4) (v := .int (u0 (10 + L) (113 + 4 * i + 1))) (C := RX4) (T := TX4) (N := 12) hx hb hts inlX4 hown hK hP q9 h9 rfl 1 (by decide) (hts _ mw_266) (fun _ h9 => h9) rfl dX4_cardAt_6 ?_
    clear h9
    refine lv_icmp_ge (tgt := 21) hx hb dX4_cardAt_9 (by decide) (fun c5 => ?_) (fun c5 => ?_)
    · rw [if_pos c5] at hF
      refine lv_iconst (v := (-1)) hx hb dX4_cardAt_21 (by decide) ?_
      have ht := s1 hF
      subst ht
      exact join4 _ _ _ hP hD hS (lv_sub hl [0, 1] rfl)
    · rw [if_neg c5] at hF
      refine lv_aload_n hx hb dX4_cardAt_12 rfl (lv_at hl 0 rfl) ?_
      obtain ⟨q9, h9⟩ := wc_at (cy := cy) (ad := ad) (ks := ks) (g := g) (u := u0) (κ := (.lo L i)) hk.1 ⟨h_L_i.1, h_L_i.2⟩
      refine va_get (D := (dC, dI)) (ci := 4) (v := .ref (ad (.bp L i))) (C := RX4) (T := TX4) (N := 12) hx hb hts inlX4 hown hK hP q9 h9 rfl 2 (by decide) (hts _ mw_62) (fun _ h9 => h9) rfl dX4_cardAt_13 ?_
      clear h9
      refine lv_iload_n hx hb dX4_cardAt_16 rfl (lv_at hl 1 rfl) ?_
      obtain ⟨x6, e7, hF⟩ := ob hF
      obtain ⟨q9, h9⟩ := wc_at (cy := cy) (ad := ad) (ks := ks) (g := g) (u := u0) (κ := (.bp L i)) hk.1 ⟨h_L_i.1, h_L_i.2⟩
      refine va_iald hx hb hK hP q9 1 h9 rfl (rd_in e7) dX4_cardAt_17 ?_
      refine my_topi (y := x6) (rd_eq e7) ?_
      clear h9
      refine lv_goto (tgt := 22) hx hb dX4_cardAt_18 (by decide) ?_
      have ht := s1 hF
      subst ht
      exact join4 _ _ _ hP hD hS (lv_sub hl [0, 1] rfl)
noncomputable def C4_nextCard (g : CG) (u0 : RS) (L : Nat) (i : Nat) : Option (Int32) := (C4_cardAt g u0 L i ((u0 (10 + L) (1100 + 8 * i + 0)))).bind fun x1 => some x1
set_option maxHeartbeats 4000000 in
set_option maxRecDepth 100000 in
theorem c_X4_nextCard (l : Launch) (dC : Nat → ClassId) (dI : Nat → Nat → Nat) (cy : Nat → ClassId) (nb : Nat → Nat) (ad : CK → Nat) (ks : List CK) (g : CG) (hk : GA nb ad g ks) (u0 : RS) (L : Nat) (i : Nat) (ro : Int32) (sz : Nat) (h_L_i : has g (.lo L i)) (hF : C4_nextCard g u0 L i = some ro) : Met l yX4_nextCard (wsg yX4_nextCard cX4_nextCard 1 (some .int)) ({ frames := 8, cells := 0, slots := 0, locals := 300 }) (va_Pc [.ref (ad (.lo L i))] (fun U => U.heap.size = sz ∧ va_P (dC, dI) vwCl (WC cy ad ks g u0) U.heap ∧ va_K (dC, dI) vwCl (tyL cy) U ∧ va_D (fun _ => True) (WC cy ad ks g u0) ∧ GE nb (va_A (WC cy ad ks g u0) sz) U)) (va_Qi (fun (r : Int32) (_ : Unit) => r = ro) (fun _ t => va_P (dC, dI) vwCl (WC cy ad ks g u0) t.heap ∧ va_D (va_A (WC cy ad ks g u0) sz) (WC cy ad ks g u0)) (va_A (WC cy ad ks g u0) sz)) 0 0 (va_A (WC cy ad ks g u0) sz) := by
  refine Met.ofW (cc := cX4_nextCard) (maxL := 1) (ret := (some .int)) pn_X4 rfl ?_
  intro p e s m args below meth c s₁ B hml hv
  obtain ⟨rfl, hsz, hP, hK, hD0, hE⟩ := hv
  have hx := B.exec
  have hb := B.bytes
  have hr := B.returns
  have hts0 := atoms_spec (ws := (wsg yX4_nextCard cX4_nextCard 1 (some .int))) B.pre
  have hts : ∀ w ∈ wsL_law, w.before _ s = true := fun w h => hts0 w (List.mem_cons_of_mem _ h)
  have hown : s.vm.findClass RX4 = some m.cls := by have h9 := findClass_of_methodNamed B.named; exact h9
  have hlocks := B.notSynchronized
  subst hsz
  have hD := hD0.self (sz := s.heap.size)
  generalize hAe : va_A (WC cy ad ks g u0) s.heap.size = A at hD hE ⊢
  have hA : ∀ q : Nat, s.heap.size ≤ q → A q := fun q h => by rw [← hAe]; exact Or.inr h
  have hS : va_S A s.heap s.heap [] := va_S.rf
  have hl := lv_entry ([.ref (ad (.lo L i))]) (n := 1) (Nat.le_of_ble_eq_true rfl)
  rw [lg_entry_eq]
  generalize (lg_sl ([.ref (ad (.lo L i))]) ++ List.replicate (1 - (lg_sl ([.ref (ad (.lo L i))])).length) Slot.unset).toArray = ls at hl ⊢
  have hl : lv_has ls 1 [(0, .ref (ad (.lo L i)))] := hl
  generalize hHe : s.heap = H at hP hS ⊢
  have hS : va_S A s.heap H [] := by rw [hHe]; exact hS
  refine my_Q (fun Qn hQ => ?_)
  simp only [C4_nextCard] at hF
  refine lv_aload_n hx hb dX4_nextCard_0 rfl (lv_at hl 0 rfl) ?_
  refine lv_aload_n hx hb dX4_nextCard_1 rfl (lv_at hl 0 rfl) ?_
  obtain ⟨q9, h9⟩ := wc_at (cy := cy) (ad := ad) (ks := ks) (g := g) (u := u0) (κ := (.lo L i)) hk.1 ⟨h_L_i.1, h_L_i.2⟩
  refine va_get (D := (dC, dI)) (ci := 4) (v := .int (u0 (10 + L) (1100 + 8 * i + 0))) (C := RX4) (T := TX4) (N := 12) hx hb hts inlX4 hown hK hP q9 h9 rfl 3 (by decide) (hts _ mw_267) (fun _ h9 => h9) rfl dX4_nextCard_2 ?_
  clear h9
  obtain ⟨x1, e2, hF⟩ := ob hF
  have hPc := hP
  have hDc := hD
  have hFc := my_free hD hS hA
  obtain ⟨q8, h8⟩ := wc_at (cy := cy) (ad := ad) (ks := ks) (g := g) (u := u0) (κ := (.lo L i)) hk.1 ⟨h_L_i.1, h_L_i.2⟩
  refine va_calli (va_runV (As := [.int (u0 (10 + L) (1100 + 8 * i + 0))]) (rest := []) ⟨hx, hb, hml, hown, hts⟩ (c_X4_cardAt l dC dI cy nb ad ks g hk u0 L i ((u0 (10 + L) (1100 + 8 * i + 0))) (x1) H.size ⟨h_L_i.1, h_L_i.2⟩ e2) (cwV 1 hts (gV mw_712 mw_713 mw_714 mw_52 mw_715) rfl rfl rfl (by decide +kernel) ⟨Nat.le_of_ble_eq_true rfl, Nat.le_of_ble_eq_true rfl⟩) (my_preV hPc hK hDc hE hS hFc (va_recv (q := (RX4, TX4, 12)) hK hP (ci := 4) (q0 := q8) rfl h8)) rfl rfl hl.1 rfl (lv_room (Nat.le_of_ble_eq_true rfl)) dX4_nextCard_5 ⟨Nat.le_of_ble_eq_true rfl, Nat.le_of_ble_eq_true rfl⟩) hS (fun q _ h => hFc q h) hFc (fun r u t H1 locs ht hvm hw hB hz1 hk1 hS => ?_)
  clear h8
  obtain ⟨hP1, hD1⟩ := hB
  rw [ht] at hP1
  have hP := hP1
  have hD := hD1.weaken (fun k q _ h => hFc q.1 h)
  generalize H1 = H at hP hS ⊢
  clear hP1 hD1 hPc hDc hFc hk1 hz1 hvm ht
  obtain rfl := hw.symm
  have hZ := s1 hF
  have zro : x1 = ro := hZ
  have hP9 : va_P (dC, dI) vwCl (WC cy ad ks g u0) H := by exact hP
  have hD9 : va_D A (WC cy ad ks g u0) := by exact hD
  rw [hQ]
  exact W.iret (v := x1) hx hb hr (fun t ht hW => ⟨⟨x1, (), rfl, zro, by rw [ht]; exact hP9, hD9⟩, hS.F ht⟩) hS.2.2 dX4_nextCard_8
noncomputable def C3_leave (g : CG) (u0 : RS) (L : Nat) (a1 : Int32) : Option (RS) := (ix 30 a1).bind fun n1 => (wso u0 (10 + L) 887 30 (u0 (400 + L) 3) a1).bind fun u3 => (pt u3 (10 + L) (137 + 25 * n1 + 7) (u3 (10 + L) 6)).bind fun u5 => (C3_changeState g u5 L n1 (3)).bind fun u7 => (ix 6 (u7 (10 + L) (137 + 25 * n1 + 0))).bind fun n9 => (pt u7 (10 + L) (1100 + 8 * n9 + 1) ((u7 (10 + L) (1100 + 8 * n9 + 1)) + 1)).bind fun u11 => (ix 6 (u11 (10 + L) (137 + 25 * n1 + 0))).bind fun n13 => (pt u11 (10 + L) (113 + 4 * n13 + 2) ((u11 (10 + L) (113 + 4 * n13 + 2)) + 1)).bind fun u15 => (ix 6 (u15 (10 + L) (137 + 25 * n1 + 0))).bind fun n17 => (C3_findNextCard g u15 L n17).bind fun u19 => some u19
set_option maxHeartbeats 4000000 in
set_option maxRecDepth 100000 in
theorem c_X3_leave (l : Launch) (dC : Nat → ClassId) (dI : Nat → Nat → Nat) (cy : Nat → ClassId) (nb : Nat → Nat) (ad : CK → Nat) (ks : List CK) (g : CG) (hk : GA nb ad g ks) (u0 : RS) (L : Nat) (a1 : Int32) (uz : RS) (sz : Nat) (h_L : has g (.ln L)) (hF : C3_leave g u0 L a1 = some uz) : Met l yX3_leave (wsg yX3_leave cX3_leave 3 none) ({ frames := 9, cells := 0, slots := 0, locals := 400 }) (va_Pc [.ref (ad (.ln L)), .int a1] (fun U => U.heap.size = sz ∧ va_P (dC, dI) vwCl (WC cy ad ks g u0) U.heap ∧ va_K (dC, dI) vwCl (tyL cy) U ∧ va_D (fun _ => True) (WC cy ad ks g u0) ∧ GE nb (va_A (WC cy ad ks g u0) sz) U)) (va_Qv (fun (_ : Unit) => True) (fun _ t => va_P (dC, dI) vwCl (WC cy ad ks g uz) t.heap ∧ va_D (va_A (WC cy ad ks g u0) sz) (WC cy ad ks g uz)) (va_A (WC cy ad ks g u0) sz)) 0 0 (va_A (WC cy ad ks g u0) sz) := by
  refine Met.ofW (cc := cX3_leave) (maxL := 3) (ret := none) pn_X3 rfl ?_
  intro p e s m args below meth c s₁ B hml hv
  obtain ⟨rfl, hsz, hP, hK, hD0, hE⟩ := hv
  have hx := B.exec
  have hb := B.bytes
  have hr := B.returns
  have hts0 := atoms_spec (ws := (wsg yX3_leave cX3_leave 3 none)) B.pre
  have hts : ∀ w ∈ wsL_law, w.before _ s = true := fun w h => hts0 w (List.mem_cons_of_mem _ h)
  have hown : s.vm.findClass RX3 = some m.cls := by have h9 := findClass_of_methodNamed B.named; exact h9
  have hlocks := B.notSynchronized
  subst hsz
  have hD := hD0.self (sz := s.heap.size)
  generalize hAe : va_A (WC cy ad ks g u0) s.heap.size = A at hD hE ⊢
  have hA : ∀ q : Nat, s.heap.size ≤ q → A q := fun q h => by rw [← hAe]; exact Or.inr h
  have hS : va_S A s.heap s.heap [] := va_S.rf
  have hl := lv_entry ([.ref (ad (.ln L)), .int a1]) (n := 3) (Nat.le_of_ble_eq_true rfl)
  rw [lg_entry_eq]
  generalize (lg_sl ([.ref (ad (.ln L)), .int a1]) ++ List.replicate (3 - (lg_sl ([.ref (ad (.ln L)), .int a1])).length) Slot.unset).toArray = ls at hl ⊢
  have hl : lv_has ls 3 [(0, .ref (ad (.ln L))), (1, .int a1)] := hl
  generalize hHe : s.heap = H at hP hS ⊢
  have hS : va_S A s.heap H [] := by rw [hHe]; exact hS
  refine my_Q (fun Qn hQ => ?_)
  simp only [C3_leave] at hF
  refine lv_aload_n hx hb dX3_leave_0 rfl (lv_at hl 0 rfl) ?_
  obtain ⟨q9, h9⟩ := wc_at (cy := cy) (ad := ad) (ks := ks) (g := g) (u := u0) (κ := (.ln L)) hk.1 h_L
  refine va_get (D := (dC, dI)) (ci := 3) (v := .ref (ad (.cs L))) (C := RX3) (T := TX3) (N := 17) hx hb hts inlX3 hown hK hP q9 h9 rfl 12 (by decide) (hts _ mw_45) (fun _ h9 => h9) rfl dX3_leave_1 ?_
  clear h9
  refine lv_iload_n hx hb dX3_leave_4 rfl (lv_at hl 1 rfl) ?_
  obtain ⟨n1, e2, hF⟩ := ob hF
  obtain ⟨q9, h9⟩ := wc_at (cy := cy) (ad := ad) (ks := ks) (g := g) (u := u0) (κ := (.cs L)) hk.1 h_L
  refine va_aldq hx hb hK hP q9 8 h9 rfl (ix_in e2) dX3_leave_5 ?_
  refine my_top (y := .ref (ad (.cd L n1))) (ixv (F := fun j => ad (.cd L j)) e2) ?_
  clear h9
  refine lv_astore_n (lv' := [(2, .ref (ad (.cd L n1))), (0, .ref (ad (.ln L))), (1, .int a1)]) hx hb dX3_leave_6 rfl hl (by decide) rfl (fun ls hl => ?_)
  refine lv_aload_n hx hb dX3_leave_7 rfl (lv_at hl 1 rfl) ?_
  obtain ⟨q9, h9⟩ := wc_at (cy := cy) (ad := ad) (ks := ks) (g := g) (u := u0) (κ := (.ln L)) hk.1 h_L
  refine va_get (D := (dC, dI)) (ci := 3) (v := .ref (ad (.lc L))) (C := RX3) (T := TX3) (N := 17) hx hb hts inlX3 hown hK hP q9 h9 rfl 14 (by decide) (hts _ mw_47) (fun _ h9 => h9) rfl dX3_leave_8 ?_
  clear h9
  refine lv_aload_n hx hb dX3_leave_11 rfl (lv_at hl 1 rfl) ?_
  obtain ⟨q9, h9⟩ := wc_at (cy := cy) (ad := ad) (ks := ks) (g := g) (u := u0) (κ := (.ln L)) hk.1 h_L
  refine va_get (D := (dC, dI)) (ci := 3) (v := .ref (ad (.is L))) (C := RX3) (T := TX3) (N := 17) hx hb hts inlX3 hown hK hP q9 h9 rfl 13 (by decide) (hts _ mw_46) (fun _ h9 => h9) rfl dX3_leave_12 ?_
  clear h9
  refine lv_iconst (v := 3) hx hb dX3_leave_15 (by decide) ?_
  obtain ⟨q9, h9⟩ := wc_at (cy := cy) (ad := ad) (ks := ks) (g := g) (u := u0) (κ := (.is L)) hk.1 h_L
  refine va_iald hx hb hK hP q9 1 h9 rfl (vp_in_nI (n := 3) (by decide) (by decide)) dX3_leave_16 ?_
  refine my_topi (y := (u0 (400 + L) 3)) (by rfl) ?_
  clear h9
  refine lv_iload_n hx hb dX3_leave_17 rfl (lv_at hl 2 rfl) ?_
  obtain ⟨u3, e4, hF⟩ := ob hF
  obtain ⟨q9, h9, ez9⟩ := wc_set (cy := cy) (ad := ad) (ks := ks) (g := g) (u := u0) (κ := (.lc L)) (r := (10 + L)) (i := (887 + ((u0 (400 + L) 3) : Int32).toNatClampNeg)) (v := a1) hk.1 h_L (own_lc (inl_lt h_L) (vp_in_lt (wso_in e4))) (sf_lc (vp_in_lt (wso_in e4)))
  refine va_iast hx hb hK hP hD hS q9 1 h9 rfl (wso_in e4) dX3_leave_18 (fun H locs hP hD hS => ?_)
  have hP : va_P (dC, dI) vwCl (WC cy ad ks g u3) H := by rw [← wso_eq e4, ← ez9]; exact hP
  have hD : va_D A (WC cy ad ks g u3) := by rw [← wso_eq e4, ← ez9]; exact hD
  clear ez9 h9
  refine lv_aload_n hx hb dX3_leave_19 rfl (lv_at hl 0 rfl) ?_
  refine lv_aload_n hx hb dX3_leave_20 rfl (lv_at hl 1 rfl) ?_
  obtain ⟨q9, h9⟩ := wc_at (cy := cy) (ad := ad) (ks := ks) (g := g) (u := u3) (κ := (.ln L)) hk.1 h_L
  refine va_get (D := (dC, dI)) (ci := 3) (v := .int (u3 (10 + L) 6)) (C := RX3) (T := TX3) (N := 17) hx hb hts inlX3 hown hK hP q9 h9 rfl 6 (by decide) (hts _ mw_85) (fun _ h9 => h9) rfl dX3_leave_21 ?_
  clear h9
  obtain ⟨q9, h9, ez9⟩ := wc_set (cy := cy) (ad := ad) (ks := ks) (g := g) (u := u3) (κ := (.cd L n1)) (r := (10 + L)) (i := (137 + 25 * n1 + 7)) (v := (u3 (10 + L) 6)) hk.1 ⟨h_L, (ix_lt e2)⟩ (own_cd (inl_lt h_L) (ix_lt e2) (by decide)) (sf_cd_7)
  refine va_put (D := (dC, dI)) (ci := 2) (v := .int (u3 (10 + L) 6)) (ty := .int) (C := RX1) (T := TX1) (N := 9) hx hb hts inlX1 tyX1 tyX1_ok nmX1 hown hK hP hD hS q9 h9 rfl 7 (by decide) (hts _ mw_1184) (fun _ h9 => h9) rfl (by decide +kernel) rfl rfl (Nat.le_of_ble_eq_true rfl) dX3_leave_24 (fun H locs hP hD hS => ?_)
  obtain ⟨u5, e6, hF⟩ := ob hF
  have hP : va_P (dC, dI) vwCl (WC cy ad ks g u5) H := by rw [← pt_eq e6, ← ez9]; exact hP
  have hD : va_D A (WC cy ad ks g u5) := by rw [← pt_eq e6, ← ez9]; exact hD
  clear ez9 h9
  refine lv_aload_n hx hb dX3_leave_27 rfl (lv_at hl 1 rfl) ?_
  refine lv_aload_n hx hb dX3_leave_28 rfl (lv_at hl 0 rfl) ?_
  refine lv_iconst (v := 3) hx hb dX3_leave_29 (by decide) ?_
  obtain ⟨u7, e8, hF⟩ := ob hF
  have hPc := hP
  have hDc := hD
  have hFc := my_free hD hS hA
  obtain ⟨q8, h8⟩ := wc_at (cy := cy) (ad := ad) (ks := ks) (g := g) (u := u5) (κ := (.ln L)) hk.1 h_L
  refine va_callv (va_runV (As := [.ref (ad (.cd L n1)), .int 3]) (rest := []) ⟨hx, hb, hml, hown, hts⟩ (c_X3_changeState l dC dI cy nb ad ks g hk u5 L n1 (3) (u7) H.size h_L ⟨h_L, (ix_lt e2)⟩ e8) (cwV 2 hts (gV mw_1003 mw_1004 mw_1005 mw_17 mw_1006) rfl rfl rfl (by decide +kernel) ⟨Nat.le_of_ble_eq_true rfl, Nat.le_of_ble_eq_true rfl⟩) (my_preV hPc hK hDc hE hS hFc (va_recv (q := (RX3, TX3, 17)) hK hP (ci := 3) (q0 := q8) rfl h8)) rfl rfl hl.1 rfl (lv_room (Nat.le_of_ble_eq_true rfl)) dX3_leave_30 ⟨Nat.le_of_ble_eq_true rfl, Nat.le_of_ble_eq_true rfl⟩) hS (fun q _ h => hFc q h) hFc (fun u t H1 locs ht hvm hw hB hz1 hk1 hS => ?_)
  clear h8
  obtain ⟨hP1, hD1⟩ := hB
  rw [ht] at hP1
  have hP := hP1
  have hD := hD1.weaken (fun k q _ h => hFc q.1 h)
  generalize H1 = H at hP hS ⊢
  clear hP1 hD1 hPc hDc hFc hk1 hz1 hvm ht
  refine lv_aload_n hx hb dX3_leave_33 rfl (lv_at hl 1 rfl) ?_
  obtain ⟨q9, h9⟩ := wc_at (cy := cy) (ad := ad) (ks := ks) (g := g) (u := u7) (κ := (.ln L)) hk.1 h_L
  refine va_get (D := (dC, dI)) (ci := 3) (v := .ref (ad (.ls L))) (C := RX3) (T := TX3) (N := 17) hx hb hts inlX3 hown hK hP q9 h9 rfl 11 (by decide) (hts _ mw_43) (fun _ h9 => h9) rfl dX3_leave_34 ?_
  clear h9
  refine lv_aload_n hx hb dX3_leave_37 rfl (lv_at hl 0 rfl) ?_
  obtain ⟨q9, h9⟩ := wc_at (cy := cy) (ad := ad) (ks := ks) (g := g) (u := u7) (κ := (.cd L n1)) hk.1 ⟨h_L, (ix_lt e2)⟩
  refine va_get (D := (dC, dI)) (ci := 2) (v := .int (u7 (10 + L) (137 + 25 * n1 + 0))) (C := RX1) (T := TX1) (N := 9) hx hb hts inlX1 hown hK hP q9 h9 rfl 0 (by decide) (hts _ mw_786) (fun _ h9 => h9) rfl dX3_leave_38 ?_
  clear h9
  obtain ⟨n9, e10, hF⟩ := ob hF
  obtain ⟨q9, h9⟩ := wc_at (cy := cy) (ad := ad) (ks := ks) (g := g) (u := u7) (κ := (.ls L)) hk.1 h_L
  refine va_aldq hx hb hK hP q9 7 h9 rfl (ix_in e10) dX3_leave_41 ?_
  refine my_top (y := .ref (ad (.lo L n9))) (ixv (F := fun j => ad (.lo L j)) e10) ?_
  clear h9
  refine lv_dup hx hb dX3_leave_42 rfl ?_
  obtain ⟨q9, h9⟩ := wc_at (cy := cy) (ad := ad) (ks := ks) (g := g) (u := u7) (κ := (.lo L n9)) hk.1 ⟨h_L, (ix_lt e10)⟩
  refine va_get (D := (dC, dI)) (ci := 4) (v := .int (u7 (10 + L) (1100 + 8 * n9 + 1))) (C := RX4) (T := TX4) (N := 12) hx hb hts inlX4 hown hK hP q9 h9 rfl 4 (by decide) (hts _ mw_1185) (fun _ h9 => h9) rfl dX3_leave_43 ?_
  clear h9
  refine lv_iconst (v := 1) hx hb dX3_leave_46 (by decide) ?_
  refine lv_iadd hx hb dX3_leave_47 ?_
  obtain ⟨q9, h9, ez9⟩ := wc_set (cy := cy) (ad := ad) (ks := ks) (g := g) (u := u7) (κ := (.lo L n9)) (r := (10 + L)) (i := (1100 + 8 * n9 + 1)) (v := ((u7 (10 + L) (1100 + 8 * n9 + 1)) + 1)) hk.1 ⟨h_L, (ix_lt e10)⟩ (own_lq (inl_lt h_L) (ix_lt e10) (by decide)) (sf_lo_4)
  refine va_put (D := (dC, dI)) (ci := 4) (v := .int ((u7 (10 + L) (1100 + 8 * n9 + 1)) + 1)) (ty := .int) (C := RX4) (T := TX4) (N := 12) hx hb hts inlX4 tyX4 tyX4_ok nmX4 hown hK hP hD hS q9 h9 rfl 4 (by decide) (hts _ mw_1185) (fun _ h9 => h9) rfl (by decide +kernel) rfl rfl (Nat.le_of_ble_eq_true rfl) dX3_leave_48 (fun H locs hP hD hS => ?_)
  obtain ⟨u11, e12, hF⟩ := ob hF
  have hP : va_P (dC, dI) vwCl (WC cy ad ks g u11) H := by rw [← pt_eq e12, ← ez9]; exact hP
  have hD : va_D A (WC cy ad ks g u11) := by rw [← pt_eq e12, ← ez9]; exact hD
  clear ez9 h9
  refine lv_aload_n hx hb dX3_leave_51 rfl (lv_at hl 1 rfl) ?_
  obtain ⟨q9, h9⟩ := wc_at (cy := cy) (ad := ad) (ks := ks) (g := g) (u := u11) (κ := (.ln L)) hk.1 h_L
  refine va_get (D := (dC, dI)) (ci := 3) (v := .ref (ad (.ls L))) (C := RX3) (T := TX3) (N := 17) hx hb hts inlX3 hown hK hP q9 h9 rfl 11 (by decide) (hts _ mw_43) (fun _ h9 => h9) rfl dX3_leave_52 ?_
  clear h9
  refine lv_aload_n hx hb dX3_leave_55 rfl (lv_at hl 0 rfl) ?_
  obtain ⟨q9, h9⟩ := wc_at (cy := cy) (ad := ad) (ks := ks) (g := g) (u := u11) (κ := (.cd L n1)) hk.1 ⟨h_L, (ix_lt e2)⟩
  refine va_get (D := (dC, dI)) (ci := 2) (v := .int (u11 (10 + L) (137 + 25 * n1 + 0))) (C := RX1) (T := TX1) (N := 9) hx hb hts inlX1 hown hK hP q9 h9 rfl 0 (by decide) (hts _ mw_786) (fun _ h9 => h9) rfl dX3_leave_56 ?_
  clear h9
  obtain ⟨n13, e14, hF⟩ := ob hF
  obtain ⟨q9, h9⟩ := wc_at (cy := cy) (ad := ad) (ks := ks) (g := g) (u := u11) (κ := (.ls L)) hk.1 h_L
  refine va_aldq hx hb hK hP q9 7 h9 rfl (ix_in e14) dX3_leave_59 ?_
  refine my_top (y := .ref (ad (.lo L n13))) (ixv (F := fun j => ad (.lo L j)) e14) ?_
  clear h9
  refine lv_dup hx hb dX3_leave_60 rfl ?_
  obtain ⟨q9, h9⟩ := wc_at (cy := cy) (ad := ad) (ks := ks) (g := g) (u := u11) (κ := (.lo L n13)) hk.1 ⟨h_L, (ix_lt e14)⟩
  refine va_get (D := (dC, dI)) (ci := 4) (v := .int (u11 (10 + L) (113 + 4 * n13 + 2))) (C := RX4) (T := TX4) (N := 12) hx hb hts inlX4 hown hK hP q9 h9 rfl 8 (by decide) (hts _ mw_1186) (fun _ h9 => h9) rfl dX3_leave_61 ?_
  clear h9
  refine lv_iconst (v := 1) hx hb dX3_leave_64 (by decide) ?_
  refine lv_iadd hx hb dX3_leave_65 ?_
  obtain ⟨q9, h9, ez9⟩ := wc_set (cy := cy) (ad := ad) (ks := ks) (g := g) (u := u11) (κ := (.lo L n13)) (r := (10 + L)) (i := (113 + 4 * n13 + 2)) (v := ((u11 (10 + L) (113 + 4 * n13 + 2)) + 1)) hk.1 ⟨h_L, (ix_lt e14)⟩ (own_lo (inl_lt h_L) (ix_lt e14) (by decide)) (sf_lo_8)
  refine va_put (D := (dC, dI)) (ci := 4) (v := .int ((u11 (10 + L) (113 + 4 * n13 + 2)) + 1)) (ty := .int) (C := RX4) (T := TX4) (N := 12) hx hb hts inlX4 tyX4 tyX4_ok nmX4 hown hK hP hD hS q9 h9 rfl 8 (by decide) (hts _ mw_1186) (fun _ h9 => h9) rfl (by decide +kernel) rfl rfl (Nat.le_of_ble_eq_true rfl) dX3_leave_66 (fun H locs hP hD hS => ?_)
  obtain ⟨u15, e16, hF⟩ := ob hF
  have hP : va_P (dC, dI) vwCl (WC cy ad ks g u15) H := by rw [← pt_eq e16, ← ez9]; exact hP
  have hD : va_D A (WC cy ad ks g u15) := by rw [← pt_eq e16, ← ez9]; exact hD
  clear ez9 h9
  refine lv_aload_n hx hb dX3_leave_69 rfl (lv_at hl 1 rfl) ?_
  refine lv_aload_n hx hb dX3_leave_70 rfl (lv_at hl 1 rfl) ?_
  obtain ⟨q9, h9⟩ := wc_at (cy := cy) (ad := ad) (ks := ks) (g := g) (u := u15) (κ := (.ln L)) hk.1 h_L
  refine va_get (D := (dC, dI)) (ci := 3) (v := .ref (ad (.ls L))) (C := RX3) (T := TX3) (N := 17) hx hb hts inlX3 hown hK hP q9 h9 rfl 11 (by decide) (hts _ mw_43) (fun _ h9 => h9) rfl dX3_leave_71 ?_
  clear h9
  refine lv_aload_n hx hb dX3_leave_74 rfl (lv_at hl 0 rfl) ?_
  obtain ⟨q9, h9⟩ := wc_at (cy := cy) (ad := ad) (ks := ks) (g := g) (u := u15) (κ := (.cd L n1)) hk.1 ⟨h_L, (ix_lt e2)⟩
  refine va_get (D := (dC, dI)) (ci := 2) (v := .int (u15 (10 + L) (137 + 25 * n1 + 0))) (C := RX1) (T := TX1) (N := 9) hx hb hts inlX1 hown hK hP q9 h9 rfl 0 (by decide) (hts _ mw_786) (fun _ h9 => h9) rfl dX3_leave_75 ?_
  clear h9
  obtain ⟨n17, e18, hF⟩ := ob hF
  obtain ⟨q9, h9⟩ := wc_at (cy := cy) (ad := ad) (ks := ks) (g := g) (u := u15) (κ := (.ls L)) hk.1 h_L
  refine va_aldq hx hb hK hP q9 7 h9 rfl (ix_in e18) dX3_leave_78 ?_
  refine my_top (y := .ref (ad (.lo L n17))) (ixv (F := fun j => ad (.lo L j)) e18) ?_
  clear h9
  obtain ⟨u19, e20, hF⟩ := ob hF
  have hPc := hP
  have hDc := hD
  have hFc := my_free hD hS hA
  obtain ⟨q8, h8⟩ := wc_at (cy := cy) (ad := ad) (ks := ks) (g := g) (u := u15) (κ := (.ln L)) hk.1 h_L
  refine va_callv (va_runV (As := [.ref (ad (.lo L n17))]) (rest := []) ⟨hx, hb, hml, hown, hts⟩ (c_X3_findNextCard l dC dI cy nb ad ks g hk u15 L n17 (u19) H.size h_L ⟨h_L, (ix_lt e18)⟩ e20) (cwV 1 hts (gV mw_1008 mw_1009 mw_1010 mw_17 mw_1011) rfl rfl rfl (by decide +kernel) ⟨Nat.le_of_ble_eq_true rfl, Nat.le_of_ble_eq_true rfl⟩) (my_preV hPc hK hDc hE hS hFc (va_recv (q := (RX3, TX3, 17)) hK hP (ci := 3) (q0 := q8) rfl h8)) rfl rfl hl.1 rfl (lv_room (Nat.le_of_ble_eq_true rfl)) dX3_leave_79 ⟨Nat.le_of_ble_eq_true rfl, Nat.le_of_ble_eq_true rfl⟩) hS (fun q _ h => hFc q h) hFc (fun u t H1 locs ht hvm hw hB hz1 hk1 hS => ?_)
  clear h8
  obtain ⟨hP1, hD1⟩ := hB
  rw [ht] at hP1
  have hP := hP1
  have hD := hD1.weaken (fun k q _ h => hFc q.1 h)
  generalize H1 = H at hP hS ⊢
  clear hP1 hD1 hPc hDc hFc hk1 hz1 hvm ht
  have hZ := s1 hF
  have zuz : u19 = uz := hZ
  have hP9 : va_P (dC, dI) vwCl (WC cy ad ks g uz) H := by rw [← zuz]; exact hP
  have hD9 : va_D A (WC cy ad ks g uz) := by rw [← zuz]; exact hD
  rw [hQ]
  exact W.vret hx hb hr (fun t ht hW => ⟨⟨(), rfl, trivial, by rw [ht]; exact hP9, hD9⟩, hS.F ht⟩) hS.2.2 dX3_leave_82
noncomputable def C3_comeOut (g : CG) (u0 : RS) (L : Nat) (i : Nat) : Option (RS) := (ix 30 (u0 (10 + L) (17 + 16 * i + 2))).bind fun n1 => (C6_letGoOn g u0 L i).bind fun u3 => (pt u3 (10 + L) 1060 (1)).bind fun u5 => (ix 6 (u5 (10 + L) (137 + 25 * n1 + 0))).bind fun n7 => (C4_nextCard g u5 L n7).bind fun x9 => (if x9 = (u0 (10 + L) (17 + 16 * i + 2)) then ((C3_leave g u5 L ((u0 (10 + L) (17 + 16 * i + 2)))).bind fun u28 => some u28) else (if (u5 (10 + L) 1) ≤ (u5 (400 + L) 2) then ((pt u5 (10 + L) (137 + 25 * n1 + 6) ((u5 (10 + L) (137 + 25 * n1 + 6)) + 1)).bind fun u16 => (ix 6 (u16 (10 + L) (137 + 25 * n1 + 0))).bind fun n18 => (pt u16 (10 + L) (1100 + 8 * n18 + 4) ((u16 (10 + L) (1100 + 8 * n18 + 4)) + 1)).bind fun u20 => (wso u20 (10 + L) 12 5 2 ((u20 (10 + L) (12 + 2)) + 1)).bind fun u22 => (C3_changeState g u22 L n1 (0)).bind fun u24 => some u24) else ((C3_changeState g u5 L n1 (2)).bind fun u26 => some u26)) : Option (RS)).bind fun t12 => some t12
set_option maxHeartbeats 4000000 in
set_option maxRecDepth 100000 in
theorem c_X3_comeOut (l : Launch) (dC : Nat → ClassId) (dI : Nat → Nat → Nat) (cy : Nat → ClassId) (nb : Nat → Nat) (ad : CK → Nat) (ks : List CK) (g : CG) (hk : GA nb ad g ks) (u0 : RS) (L : Nat) (i : Nat) (uz : RS) (sz : Nat) (h_L : has g (.ln L)) (h_L_i : has g (.st L i)) (hF : C3_comeOut g u0 L i = some uz) : Met l yX3_comeOut (wsg yX3_comeOut cX3_comeOut 4 none) ({ frames := 10, cells := 0, slots := 0, locals := 500 }) (va_Pc [.ref (ad (.ln L)), .ref (ad (.st L i))] (fun U => U.heap.size = sz ∧ va_P (dC, dI) vwCl (WC cy ad ks g u0) U.heap ∧ va_K (dC, dI) vwCl (tyL cy) U ∧ va_D (fun _ => True) (WC cy ad ks g u0) ∧ GE nb (va_A (WC cy ad ks g u0) sz) U)) (va_Qv (fun (_ : Unit) => True) (fun _ t => va_P (dC, dI) vwCl (WC cy ad ks g uz) t.heap ∧ va_D (va_A (WC cy ad ks g u0) sz) (WC cy ad ks g uz)) (va_A (WC cy ad ks g u0) sz)) 0 0 (va_A (WC cy ad ks g u0) sz) := by
  refine Met.ofW (cc := cX3_comeOut) (maxL := 4) (ret := none) pn_X3 rfl ?_
  intro p e s m args below meth c s₁ B hml hv
  obtain ⟨rfl, hsz, hP, hK, hD0, hE⟩ := hv
  have hx := B.exec
  have hb := B.bytes
  have hr := B.returns
  have hts0 := atoms_spec (ws := (wsg yX3_comeOut cX3_comeOut 4 none)) B.pre
  have hts : ∀ w ∈ wsL_law, w.before _ s = true := fun w h => hts0 w (List.mem_cons_of_mem _ h)
  have hown : s.vm.findClass RX3 = some m.cls := by have h9 := findClass_of_methodNamed B.named; exact h9
  have hlocks := B.notSynchronized
  subst hsz
  have hD := hD0.self (sz := s.heap.size)
  generalize hAe : va_A (WC cy ad ks g u0) s.heap.size = A at hD hE ⊢
  have hA : ∀ q : Nat, s.heap.size ≤ q → A q := fun q h => by rw [← hAe]; exact Or.inr h
  have hS : va_S A s.heap s.heap [] := va_S.rf
  have hl := lv_entry ([.ref (ad (.ln L)), .ref (ad (.st L i))]) (n := 4) (Nat.le_of_ble_eq_true rfl)
  rw [lg_entry_eq]
  generalize (lg_sl ([.ref (ad (.ln L)), .ref (ad (.st L i))]) ++ List.replicate (4 - (lg_sl ([.ref (ad (.ln L)), .ref (ad (.st L i))])).length) Slot.unset).toArray = ls at hl ⊢
  have hl : lv_has ls 4 [(0, .ref (ad (.ln L))), (1, .ref (ad (.st L i)))] := hl
  generalize hHe : s.heap = H at hP hS ⊢
  have hS : va_S A s.heap H [] := by rw [hHe]; exact hS
  refine my_Q (fun Qn hQ => ?_)
  simp only [C3_comeOut] at hF
  refine lv_aload_n hx hb dX3_comeOut_0 rfl (lv_at hl 1 rfl) ?_
  obtain ⟨q9, h9⟩ := wc_at (cy := cy) (ad := ad) (ks := ks) (g := g) (u := u0) (κ := (.st L i)) hk.1 ⟨h_L_i.1, h_L_i.2⟩
  refine va_get (D := (dC, dI)) (ci := 6) (v := .int (u0 (10 + L) (17 + 16 * i + 2))) (C := RX6) (T := TX6) (N := 15) hx hb hts inlX6 hown hK hP q9 h9 rfl 3 (by decide) (hts _ mw_1142) (fun _ h9 => h9) rfl dX3_comeOut_1 ?_
  clear h9
  refine lv_istore_n (lv' := [(2, .int (u0 (10 + L) (17 + 16 * i + 2))), (0, .ref (ad (.ln L))), (1, .ref (ad (.st L i)))]) hx hb dX3_comeOut_4 rfl hl (by decide) rfl (fun ls hl => ?_)
  refine lv_aload_n hx hb dX3_comeOut_5 rfl (lv_at hl 1 rfl) ?_
  obtain ⟨q9, h9⟩ := wc_at (cy := cy) (ad := ad) (ks := ks) (g := g) (u := u0) (κ := (.ln L)) hk.1 h_L_i.1
  refine va_get (D := (dC, dI)) (ci := 3) (v := .ref (ad (.cs L))) (C := RX3) (T := TX3) (N := 17) hx hb hts inlX3 hown hK hP q9 h9 rfl 12 (by decide) (hts _ mw_45) (fun _ h9 => h9) rfl dX3_comeOut_6 ?_
  clear h9
  refine lv_iload_n hx hb dX3_comeOut_9 rfl (lv_at hl 0 rfl) ?_
  obtain ⟨n1, e2, hF⟩ := ob hF
  obtain ⟨q9, h9⟩ := wc_at (cy := cy) (ad := ad) (ks := ks) (g := g) (u := u0) (κ := (.cs L)) hk.1 h_L_i.1
  refine va_aldq hx hb hK hP q9 8 h9 rfl (ix_in e2) dX3_comeOut_10 ?_
  refine my_top (y := .ref (ad (.cd L n1))) (ixv (F := fun j => ad (.cd L j)) e2) ?_
  clear h9
  refine lv_astore_n (lv' := [(3, .ref (ad (.cd L n1))), (2, .int (u0 (10 + L) (17 + 16 * i + 2))), (0, .ref (ad (.ln L))), (1, .ref (ad (.st L i)))]) hx hb dX3_comeOut_11 rfl hl (by decide) rfl (fun ls hl => ?_)
  refine lv_aload_n hx hb dX3_comeOut_12 rfl (lv_at hl 3 rfl) ?_
  obtain ⟨u3, e4, hF⟩ := ob hF
  have hPc := hP
  have hDc := hD
  have hFc := my_free hD hS hA
  obtain ⟨q8, h8⟩ := wc_at (cy := cy) (ad := ad) (ks := ks) (g := g) (u := u0) (κ := (.st L i)) hk.1 ⟨h_L_i.1, h_L_i.2⟩
  refine va_callv (va_runV (As := []) (rest := []) ⟨hx, hb, hml, hown, hts⟩ (c_X6_letGoOn l dC dI cy nb ad ks g hk u0 L i (u3) H.size ⟨h_L_i.1, h_L_i.2⟩ e4) (cwV 0 hts (gV mw_1175 mw_1176 mw_1177 mw_50 mw_1178) rfl rfl rfl (by decide +kernel) ⟨Nat.le_of_ble_eq_true rfl, Nat.le_of_ble_eq_true rfl⟩) (my_preV hPc hK hDc hE hS hFc (va_recv (q := (RX6, TX6, 15)) hK hP (ci := 6) (q0 := q8) rfl h8)) rfl rfl hl.1 rfl (lv_room (Nat.le_of_ble_eq_true rfl)) dX3_comeOut_13 ⟨Nat.le_of_ble_eq_true rfl, Nat.le_of_ble_eq_true rfl⟩) hS (fun q _ h => hFc q h) hFc (fun u t H1 locs ht hvm hw hB hz1 hk1 hS => ?_)
  clear h8
  obtain ⟨hP1, hD1⟩ := hB
  rw [ht] at hP1
  have hP := hP1
  have hD := hD1.weaken (fun k q _ h => hFc q.1 h)
  generalize H1 = H at hP hS ⊢
  clear hP1 hD1 hPc hDc hFc hk1 hz1 hvm ht
  refine lv_aload_n hx hb dX3_comeOut_16 rfl (lv_at hl 2 rfl) ?_
  refine lv_iconst (v := 1) hx hb dX3_comeOut_17 (by decide) ?_
  obtain ⟨q9, h9, ez9⟩ := wc_set (cy := cy) (ad := ad) (ks := ks) (g := g) (u := u3) (κ := (.ln L)) (r := (10 + L)) (i := 1060) (v := (1)) hk.1 h_L_i.1 (own_mv (inl_lt h_L_i.1)) (sf_ln_16)
  refine va_put (D := (dC, dI)) (ci := 3) (v := .int 1) (ty := .boolean) (C := RX3) (T := TX3) (N := 17) hx hb hts inlX3 tyX3 tyX3_ok nmX3 hown hK hP hD hS q9 h9 rfl 16 (by decide) (hts _ mw_1141) (fun _ h9 => h9) rfl (by decide +kernel) rfl rfl (Nat.le_of_ble_eq_true rfl) dX3_comeOut_18 (fun H locs hP hD hS => ?_)
  obtain ⟨u5, e6, hF⟩ := ob hF
  have hP : va_P (dC, dI) vwCl (WC cy ad ks g u5) H := by rw [← pt_eq e6, ← ez9]; exact hP
  have hD : va_D A (WC cy ad ks g u5) := by rw [← pt_eq e6, ← ez9]; exact hD
  clear ez9 h9
  refine lv_aload_n hx hb dX3_comeOut_21 rfl (lv_at hl 2 rfl) ?_
  obtain ⟨q9, h9⟩ := wc_at (cy := cy) (ad := ad) (ks := ks) (g := g) (u := u5) (κ := (.ln L)) hk.1 h_L_i.1
  refine va_get (D := (dC, dI)) (ci := 3) (v := .ref (ad (.ls L))) (C := RX3) (T := TX3) (N := 17) hx hb hts inlX3 hown hK hP q9 h9 rfl 11 (by decide) (hts _ mw_43) (fun _ h9 => h9) rfl dX3_comeOut_22 ?_
  clear h9
  refine lv_aload_n hx hb dX3_comeOut_25 rfl (lv_at hl 0 rfl) ?_
  obtain ⟨q9, h9⟩ := wc_at (cy := cy) (ad := ad) (ks := ks) (g := g) (u := u5) (κ := (.cd L n1)) hk.1 ⟨h_L_i.1, (ix_lt e2)⟩
  refine va_get (D := (dC, dI)) (ci := 2) (v := .int (u5 (10 + L) (137 + 25 * n1 + 0))) (C := RX1) (T := TX1) (N := 9) hx hb hts inlX1 hown hK hP q9 h9 rfl 0 (by decide) (hts _ mw_786) (fun _ h9 => h9) rfl dX3_comeOut_26 ?_
  clear h9
  obtain ⟨n7, e8, hF⟩ := ob hF
  obtain ⟨q9, h9⟩ := wc_at (cy := cy) (ad := ad) (ks := ks) (g := g) (u := u5) (κ := (.ls L)) hk.1 h_L_i.1
  refine va_aldq hx hb hK hP q9 7 h9 rfl (ix_in e8) dX3_comeOut_29 ?_
  refine my_top (y := .ref (ad (.lo L n7))) (ixv (F := fun j => ad (.lo L j)) e8) ?_
  clear h9
  obtain ⟨x9, e10, hF⟩ := ob hF
  have hPc := hP
  have hDc := hD
  have hFc := my_free hD hS hA
  obtain ⟨q8, h8⟩ := wc_at (cy := cy) (ad := ad) (ks := ks) (g := g) (u := u5) (κ := (.lo L n7)) hk.1 ⟨h_L_i.1, (ix_lt e8)⟩
  refine va_calli (va_runV (As := []) (rest := []) ⟨hx, hb, hml, hown, hts⟩ (c_X4_nextCard l dC dI cy nb ad ks g hk u5 L n7 (x9) H.size ⟨h_L_i.1, (ix_lt e8)⟩ e10) (cwV 0 hts (gV mw_1179 mw_709 mw_710 mw_52 mw_711) rfl rfl rfl (by decide +kernel) ⟨Nat.le_of_ble_eq_true rfl, Nat.le_of_ble_eq_true rfl⟩) (my_preV hPc hK hDc hE hS hFc (va_recv (q := (RX4, TX4, 12)) hK hP (ci := 4) (q0 := q8) rfl h8)) rfl rfl hl.1 rfl (lv_room (Nat.le_of_ble_eq_true rfl)) dX3_comeOut_30 ⟨Nat.le_of_ble_eq_true rfl, Nat.le_of_ble_eq_true rfl⟩) hS (fun q _ h => hFc q h) hFc (fun r u t H1 locs ht hvm hw hB hz1 hk1 hS => ?_)
  clear h8
  obtain ⟨hP1, hD1⟩ := hB
  rw [ht] at hP1
  have hP := hP1
  have hD := hD1.weaken (fun k q _ h => hFc q.1 h)
  generalize H1 = H at hP hS ⊢
  clear hP1 hD1 hPc hDc hFc hk1 hz1 hvm ht
  obtain rfl := hw.symm
  refine lv_iload_n hx hb dX3_comeOut_33 rfl (lv_at hl 1 rfl) ?_
  obtain ⟨t12, hJ13, hF⟩ := ob hF
  have join14 : ∀ (H : Heap) (locs : List Loc) (ls : Array Slot), va_P (dC, dI) vwCl (WC cy ad ks g t12) H → va_D A (WC cy ad ks g t12) → va_S A s.heap H locs → lv_has ls 4 [(3, .ref (ad (.cd L n1))), (2, .int (u0 (10 + L) (17 + 16 * i + 2))), (0, .ref (ad (.ln L))), (1, .ref (ad (.st L i)))] → W p l e (headSpec (wsg yX3_comeOut cX3_comeOut 4 none) ({ frames := 10, cells := 0, slots := 0, locals := 500 })).room s m ([.ref (ad (.ln L)), .ref (ad (.st L i))] : List Value).toArray below meth c H locs 0 0 Qn (F0 m 111 ls []) := by
    intro H locs ls hP hD hS hl
    have hZ := s1 hF
    have zuz : t12 = uz := hZ
    have hP9 : va_P (dC, dI) vwCl (WC cy ad ks g uz) H := by rw [← zuz]; exact hP
    have hD9 : va_D A (WC cy ad ks g uz) := by rw [← zuz]; exact hD
    rw [hQ]
    exact W.vret hx hb hr (fun t ht hW => ⟨⟨(), rfl, trivial, by rw [ht]; exact hP9, hD9⟩, hS.F ht⟩) hS.2.2 dX3_comeOut_111
  clear hF
  have hF := hJ13
  clear hJ13
  refine lv_icmp_ne (tgt := 45) hx hb dX3_comeOut_34 (by decide) (fun c11 => ?_) (fun c11 => ?_)
  · rw [if_neg c11] at hF
    refine lv_aload_n hx hb dX3_comeOut_45 rfl (lv_at hl 2 rfl) ?_
    obtain ⟨q9, h9⟩ := wc_at (cy := cy) (ad := ad) (ks := ks) (g := g) (u := u5) (κ := (.ln L)) hk.1 h_L_i.1
    refine va_get (D := (dC, dI)) (ci := 3) (v := .ref (ad (.is L))) (C := RX3) (T := TX3) (N := 17) hx hb hts inlX3 hown hK hP q9 h9 rfl 13 (by decide) (hts _ mw_46) (fun _ h9 => h9) rfl dX3_comeOut_46 ?_
    clear h9
    refine lv_iconst (v := 2) hx hb dX3_comeOut_49 (by decide) ?_
    obtain ⟨q9, h9⟩ := wc_at (cy := cy) (ad := ad) (ks := ks) (g := g) (u := u5) (κ := (.is L)) hk.1 h_L_i.1
    refine va_iald hx hb hK hP q9 1 h9 rfl (vp_in_nI (n := 2) (by decide) (by decide)) dX3_comeOut_50 ?_
    refine my_topi (y := (u5 (400 + L) 2)) (by rfl) ?_
    clear h9
    refine lv_aload_n hx hb dX3_comeOut_51 rfl (lv_at hl 2 rfl) ?_
    obtain ⟨q9, h9⟩ := wc_at (cy := cy) (ad := ad) (ks := ks) (g := g) (u := u5) (κ := (.ln L)) hk.1 h_L_i.1
    refine va_get (D := (dC, dI)) (ci := 3) (v := .int (u5 (10 + L) 1)) (C := RX3) (T := TX3) (N := 17) hx hb hts inlX3 hown hK hP q9 h9 rfl 1 (by decide) (hts _ mw_83) (fun _ h9 => h9) rfl dX3_comeOut_52 ?_
    clear h9
    refine lv_icmp_ge (tgt := 67) hx hb dX3_comeOut_55 (by decide) (fun c15 => ?_) (fun c15 => ?_)
    · rw [if_pos c15] at hF
      refine lv_aload_n hx hb dX3_comeOut_67 rfl (lv_at hl 0 rfl) ?_
      refine lv_dup hx hb dX3_comeOut_68 rfl ?_
      obtain ⟨q9, h9⟩ := wc_at (cy := cy) (ad := ad) (ks := ks) (g := g) (u := u5) (κ := (.cd L n1)) hk.1 ⟨h_L_i.1, (ix_lt e2)⟩
      refine va_get (D := (dC, dI)) (ci := 2) (v := .int (u5 (10 + L) (137 + 25 * n1 + 6))) (C := RX1) (T := TX1) (N := 9) hx hb hts inlX1 hown hK hP q9 h9 rfl 6 (by decide) (hts _ mw_785) (fun _ h9 => h9) rfl dX3_comeOut_69 ?_
      clear h9
      refine lv_iconst (v := 1) hx hb dX3_comeOut_72 (by decide) ?_
      refine lv_iadd hx hb dX3_comeOut_73 ?_
      obtain ⟨q9, h9, ez9⟩ := wc_set (cy := cy) (ad := ad) (ks := ks) (g := g) (u := u5) (κ := (.cd L n1)) (r := (10 + L)) (i := (137 + 25 * n1 + 6)) (v := ((u5 (10 + L) (137 + 25 * n1 + 6)) + 1)) hk.1 ⟨h_L_i.1, (ix_lt e2)⟩ (own_cd (inl_lt h_L_i.1) (ix_lt e2) (by decide)) (sf_cd_6)
      refine va_put (D := (dC, dI)) (ci := 2) (v := .int ((u5 (10 + L) (137 + 25 * n1 + 6)) + 1)) (ty := .int) (C := RX1) (T := TX1) (N := 9) hx hb hts inlX1 tyX1 tyX1_ok nmX1 hown hK hP hD hS q9 h9 rfl 6 (by decide) (hts _ mw_785) (fun _ h9 => h9) rfl (by decide +kernel) rfl rfl (Nat.le_of_ble_eq_true rfl) dX3_comeOut_74 (fun H locs hP hD hS => ?_)
      obtain ⟨u16, e17, hF⟩ := ob hF
      have hP : va_P (dC, dI) vwCl (WC cy ad ks g u16) H := by rw [← pt_eq e17, ← ez9]; exact hP
      have hD : va_D A (WC cy ad ks g u16) := by rw [← pt_eq e17, ← ez9]; exact hD
      clear ez9 h9
      refine lv_aload_n hx hb dX3_comeOut_77 rfl (lv_at hl 2 rfl) ?_
      obtain ⟨q9, h9⟩ := wc_at (cy := cy) (ad := ad) (ks := ks) (g := g) (u := u16) (κ := (.ln L)) hk.1 h_L_i.1
      refine va_get (D := (dC, dI)) (ci := 3) (v := .ref (ad (.ls L))) (C := RX3) (T := TX3) (N := 17) hx hb hts inlX3 hown hK hP q9 h9 rfl 11 (by decide) (hts _ mw_43) (fun _ h9 => h9) rfl dX3_comeOut_78 ?_
      clear h9
      refine lv_aload_n hx hb dX3_comeOut_81 rfl (lv_at hl 0 rfl) ?_
      obtain ⟨q9, h9⟩ := wc_at (cy := cy) (ad := ad) (ks := ks) (g := g) (u := u16) (κ := (.cd L n1)) hk.1 ⟨h_L_i.1, (ix_lt e2)⟩
      refine va_get (D := (dC, dI)) (ci := 2) (v := .int (u16 (10 + L) (137 + 25 * n1 + 0))) (C := RX1) (T := TX1) (N := 9) hx hb hts inlX1 hown hK hP q9 h9 rfl 0 (by decide) (hts _ mw_786) (fun _ h9 => h9) rfl dX3_comeOut_82 ?_
      clear h9
      obtain ⟨n18, e19, hF⟩ := ob hF
      obtain ⟨q9, h9⟩ := wc_at (cy := cy) (ad := ad) (ks := ks) (g := g) (u := u16) (κ := (.ls L)) hk.1 h_L_i.1
      refine va_aldq hx hb hK hP q9 7 h9 rfl (ix_in e19) dX3_comeOut_85 ?_
      refine my_top (y := .ref (ad (.lo L n18))) (ixv (F := fun j => ad (.lo L j)) e19) ?_
      clear h9
      refine lv_dup hx hb dX3_comeOut_86 rfl ?_
      obtain ⟨q9, h9⟩ := wc_at (cy := cy) (ad := ad) (ks := ks) (g := g) (u := u16) (κ := (.lo L n18)) hk.1 ⟨h_L_i.1, (ix_lt e19)⟩
      refine va_get (D := (dC, dI)) (ci := 4) (v := .int (u16 (10 + L) (1100 + 8 * n18 + 4))) (C := RX4) (T := TX4) (N := 12) hx hb hts inlX4 hown hK hP q9 h9 rfl 7 (by decide) (hts _ mw_1174) (fun _ h9 => h9) rfl dX3_comeOut_87 ?_
      clear h9
      refine lv_iconst (v := 1) hx hb dX3_comeOut_90 (by decide) ?_
      refine lv_iadd hx hb dX3_comeOut_91 ?_
      obtain ⟨q9, h9, ez9⟩ := wc_set (cy := cy) (ad := ad) (ks := ks) (g := g) (u := u16) (κ := (.lo L n18)) (r := (10 + L)) (i := (1100 + 8 * n18 + 4)) (v := ((u16 (10 + L) (1100 + 8 * n18 + 4)) + 1)) hk.1 ⟨h_L_i.1, (ix_lt e19)⟩ (own_lq (inl_lt h_L_i.1) (ix_lt e19) (by decide)) (sf_lo_7)
      refine va_put (D := (dC, dI)) (ci := 4) (v := .int ((u16 (10 + L) (1100 + 8 * n18 + 4)) + 1)) (ty := .int) (C := RX4) (T := TX4) (N := 12) hx hb hts inlX4 tyX4 tyX4_ok nmX4 hown hK hP hD hS q9 h9 rfl 7 (by decide) (hts _ mw_1174) (fun _ h9 => h9) rfl (by decide +kernel) rfl rfl (Nat.le_of_ble_eq_true rfl) dX3_comeOut_92 (fun H locs hP hD hS => ?_)
      obtain ⟨u20, e21, hF⟩ := ob hF
      have hP : va_P (dC, dI) vwCl (WC cy ad ks g u20) H := by rw [← pt_eq e21, ← ez9]; exact hP
      have hD : va_D A (WC cy ad ks g u20) := by rw [← pt_eq e21, ← ez9]; exact hD
      clear ez9 h9
      refine lv_aload_n hx hb dX3_comeOut_95 rfl (lv_at hl 2 rfl) ?_
      obtain ⟨q9, h9⟩ := wc_at (cy := cy) (ad := ad) (ks := ks) (g := g) (u := u20) (κ := (.ln L)) hk.1 h_L_i.1
      refine va_get (D := (dC, dI)) (ci := 3) (v := .ref (ad (.tt L))) (C := RX3) (T := TX3) (N := 17) hx hb hts inlX3 hown hK hP q9 h9 rfl 15 (by decide) (hts _ mw_48) (fun _ h9 => h9) rfl dX3_comeOut_96 ?_
      clear h9
      refine lv_iconst (v := 2) hx hb dX3_comeOut_99 (by decide) ?_
      refine lv_dup2_11 hx hb dX3_comeOut_100 rfl rfl ?_
      obtain ⟨q9, h9⟩ := wc_at (cy := cy) (ad := ad) (ks := ks) (g := g) (u := u20) (κ := (.tt L)) hk.1 h_L_i.1
      refine va_iald hx hb hK hP q9 1 h9 rfl (vp_in_nI (n := 2) (by decide) (by decide)) dX3_comeOut_101 ?_
      refine my_topi (y := (u20 (10 + L) (12 + 2))) (by rfl) ?_
      clear h9
      refine lv_iconst (v := 1) hx hb dX3_comeOut_102 (by decide) ?_
      refine lv_iadd hx hb dX3_comeOut_103 ?_
      obtain ⟨u22, e23, hF⟩ := ob hF
      obtain ⟨q9, h9, ez9⟩ := wc_set (cy := cy) (ad := ad) (ks := ks) (g := g) (u := u20) (κ := (.tt L)) (r := (10 + L)) (i := (12 + (2 : Int32).toNatClampNeg)) (v := ((u20 (10 + L) (12 + 2)) + 1)) hk.1 h_L_i.1 (own_tt (inl_lt h_L_i.1) (vp_in_lt (wso_in e23))) (sf_tt (vp_in_lt (wso_in e23)))
      refine va_iast hx hb hK hP hD hS q9 1 h9 rfl (wso_in e23) dX3_comeOut_104 (fun H locs hP hD hS => ?_)
      have hP : va_P (dC, dI) vwCl (WC cy ad ks g u22) H := by rw [← wso_eq e23, ← ez9]; exact hP
      have hD : va_D A (WC cy ad ks g u22) := by rw [← wso_eq e23, ← ez9]; exact hD
      clear ez9 h9
      refine lv_aload_n hx hb dX3_comeOut_105 rfl (lv_at hl 2 rfl) ?_
      refine lv_aload_n hx hb dX3_comeOut_106 rfl (lv_at hl 0 rfl) ?_
      refine lv_iconst (v := 0) hx hb dX3_comeOut_107 (by decide) ?_
      obtain ⟨u24, e25, hF⟩ := ob hF
      have hPc := hP
      have hDc := hD
      have hFc := my_free hD hS hA
      obtain ⟨q8, h8⟩ := wc_at (cy := cy) (ad := ad) (ks := ks) (g := g) (u := u22) (κ := (.ln L)) hk.1 h_L_i.1
      refine va_callv (va_runV (As := [.ref (ad (.cd L n1)), .int 0]) (rest := []) ⟨hx, hb, hml, hown, hts⟩ (c_X3_changeState l dC dI cy nb ad ks g hk u22 L n1 (0) (u24) H.size h_L_i.1 ⟨h_L_i.1, (ix_lt e2)⟩ e25) (cwV 2 hts (gV mw_1003 mw_1004 mw_1005 mw_17 mw_1006) rfl rfl rfl (by decide +kernel) ⟨Nat.le_of_ble_eq_true rfl, Nat.le_of_ble_eq_true rfl⟩) (my_preV hPc hK hDc hE hS hFc (va_recv (q := (RX3, TX3, 17)) hK hP (ci := 3) (q0 := q8) rfl h8)) rfl rfl hl.1 rfl (lv_room (Nat.le_of_ble_eq_true rfl)) dX3_comeOut_108 ⟨Nat.le_of_ble_eq_true rfl, Nat.le_of_ble_eq_true rfl⟩) hS (fun q _ h => hFc q h) hFc (fun u t H1 locs ht hvm hw hB hz1 hk1 hS => ?_)
      clear h8
      obtain ⟨hP1, hD1⟩ := hB
      rw [ht] at hP1
      have hP := hP1
      have hD := hD1.weaken (fun k q _ h => hFc q.1 h)
      generalize H1 = H at hP hS ⊢
      clear hP1 hD1 hPc hDc hFc hk1 hz1 hvm ht
      have ht := s1 hF
      subst ht
      exact join14 _ _ _ hP hD hS (lv_sub hl [0, 1, 2, 3] rfl)
    · rw [if_neg c15] at hF
      refine lv_aload_n hx hb dX3_comeOut_58 rfl (lv_at hl 2 rfl) ?_
      refine lv_aload_n hx hb dX3_comeOut_59 rfl (lv_at hl 0 rfl) ?_
      refine lv_iconst (v := 2) hx hb dX3_comeOut_60 (by decide) ?_
      obtain ⟨u26, e27, hF⟩ := ob hF
      have hPc := hP
      have hDc := hD
      have hFc := my_free hD hS hA
      obtain ⟨q8, h8⟩ := wc_at (cy := cy) (ad := ad) (ks := ks) (g := g) (u := u5) (κ := (.ln L)) hk.1 h_L_i.1
      refine va_callv (va_runV (As := [.ref (ad (.cd L n1)), .int 2]) (rest := []) ⟨hx, hb, hml, hown, hts⟩ (c_X3_changeState l dC dI cy nb ad ks g hk u5 L n1 (2) (u26) H.size h_L_i.1 ⟨h_L_i.1, (ix_lt e2)⟩ e27) (cwV 2 hts (gV mw_1003 mw_1004 mw_1005 mw_17 mw_1006) rfl rfl rfl (by decide +kernel) ⟨Nat.le_of_ble_eq_true rfl, Nat.le_of_ble_eq_true rfl⟩) (my_preV hPc hK hDc hE hS hFc (va_recv (q := (RX3, TX3, 17)) hK hP (ci := 3) (q0 := q8) rfl h8)) rfl rfl hl.1 rfl (lv_room (Nat.le_of_ble_eq_true rfl)) dX3_comeOut_61 ⟨Nat.le_of_ble_eq_true rfl, Nat.le_of_ble_eq_true rfl⟩) hS (fun q _ h => hFc q h) hFc (fun u t H1 locs ht hvm hw hB hz1 hk1 hS => ?_)
      clear h8
      obtain ⟨hP1, hD1⟩ := hB
      rw [ht] at hP1
      have hP := hP1
      have hD := hD1.weaken (fun k q _ h => hFc q.1 h)
      generalize H1 = H at hP hS ⊢
      clear hP1 hD1 hPc hDc hFc hk1 hz1 hvm ht
      refine lv_goto (tgt := 111) hx hb dX3_comeOut_64 (by decide) ?_
      have ht := s1 hF
      subst ht
      exact join14 _ _ _ hP hD hS (lv_sub hl [0, 1, 2, 3] rfl)
  · rw [if_pos c11] at hF
    refine lv_aload_n hx hb dX3_comeOut_37 rfl (lv_at hl 2 rfl) ?_
    refine lv_iload_n hx hb dX3_comeOut_38 rfl (lv_at hl 1 rfl) ?_
    obtain ⟨u28, e29, hF⟩ := ob hF
    have hPc := hP
    have hDc := hD
    have hFc := my_free hD hS hA
    obtain ⟨q8, h8⟩ := wc_at (cy := cy) (ad := ad) (ks := ks) (g := g) (u := u5) (κ := (.ln L)) hk.1 h_L_i.1
    refine va_callv (va_runV (As := [.int (u0 (10 + L) (17 + 16 * i + 2))]) (rest := []) ⟨hx, hb, hml, hown, hts⟩ (c_X3_leave l dC dI cy nb ad ks g hk u5 L ((u0 (10 + L) (17 + 16 * i + 2))) (u28) H.size h_L_i.1 e29) (cwV 1 hts (gV mw_1180 mw_1181 mw_1182 mw_17 mw_1183) rfl rfl rfl (by decide +kernel) ⟨Nat.le_of_ble_eq_true rfl, Nat.le_of_ble_eq_true rfl⟩) (my_preV hPc hK hDc hE hS hFc (va_recv (q := (RX3, TX3, 17)) hK hP (ci := 3) (q0 := q8) rfl h8)) rfl rfl hl.1 rfl (lv_room (Nat.le_of_ble_eq_true rfl)) dX3_comeOut_39 ⟨Nat.le_of_ble_eq_true rfl, Nat.le_of_ble_eq_true rfl⟩) hS (fun q _ h => hFc q h) hFc (fun u t H1 locs ht hvm hw hB hz1 hk1 hS => ?_)
    clear h8
    obtain ⟨hP1, hD1⟩ := hB
    rw [ht] at hP1
    have hP := hP1
    have hD := hD1.weaken (fun k q _ h => hFc q.1 h)
    generalize H1 = H at hP hS ⊢
    clear hP1 hD1 hPc hDc hFc hk1 hz1 hvm ht
    refine lv_goto (tgt := 111) hx hb dX3_comeOut_42 (by decide) ?_
    have ht := s1 hF
    subst ht
    exact join14 _ _ _ hP hD hS (lv_sub hl [0, 1, 2, 3] rfl)
noncomputable def C6_copyFrom (g : CG) (u0 : RS) (L : Nat) (i : Nat) (L2 : Nat) (i2 : Nat) : Option (RS) := (pt u0 (10 + L) (17 + 16 * i + 0) (u0 (10 + L2) (17 + 16 * i2 + 0))).bind fun u1 => (pt u1 (10 + L) (17 + 16 * i + 1) (u1 (10 + L2) (17 + 16 * i2 + 1))).bind fun u3 => (pt u3 (10 + L) (17 + 16 * i + 14) (u3 (10 + L2) (17 + 16 * i2 + 14))).bind fun u5 => (pt u5 (10 + L) (17 + 16 * i + 2) (u5 (10 + L2) (17 + 16 * i2 + 2))).bind fun u7 => (pt u7 (10 + L) (17 + 16 * i + 3) (u7 (10 + L2) (17 + 16 * i2 + 3))).bind fun u9 => (pt u9 (10 + L) (17 + 16 * i + 4) (u9 (10 + L2) (17 + 16 * i2 + 4))).bind fun u11 => (pt u11 (10 + L) (17 + 16 * i + 13) (u11 (10 + L2) (17 + 16 * i2 + 13))).bind fun u13 => (pt u13 (10 + L) (17 + 16 * i + 5) (u13 (10 + L2) (17 + 16 * i2 + 5))).bind fun u15 => (pt u15 (10 + L) (17 + 16 * i + 6) (u15 (10 + L2) (17 + 16 * i2 + 6))).bind fun u17 => (nz (u17 (10 + L2) (17 + 16 * i2 + 7))).bind fun x19 => (pt u17 (10 + L) (17 + 16 * i + 7) x19).bind fun u21 => (pt u21 (10 + L) (17 + 16 * i + 8) (u21 (10 + L2) (17 + 16 * i2 + 8))).bind fun u23 => (pt u23 (10 + L) (17 + 16 * i + 9) (u23 (10 + L2) (17 + 16 * i2 + 9))).bind fun u25 => (pt u25 (10 + L) (17 + 16 * i + 10) (u25 (10 + L2) (17 + 16 * i2 + 10))).bind fun u27 => (pt u27 (10 + L) (17 + 16 * i + 11) (u27 (10 + L2) (17 + 16 * i2 + 11))).bind fun u29 => (pt u29 (10 + L) (17 + 16 * i + 12) (u29 (10 + L2) (17 + 16 * i2 + 12))).bind fun u31 => some u31
set_option maxHeartbeats 4000000 in
set_option maxRecDepth 100000 in
theorem c_X6_copyFrom (l : Launch) (dC : Nat → ClassId) (dI : Nat → Nat → Nat) (cy : Nat → ClassId) (nb : Nat → Nat) (ad : CK → Nat) (ks : List CK) (g : CG) (hk : GA nb ad g ks) (u0 : RS) (L : Nat) (i : Nat) (L2 : Nat) (i2 : Nat) (uz : RS) (sz : Nat) (h_L_i : has g (.st L i)) (h_L2_i2 : has g (.st L2 i2)) (hF : C6_copyFrom g u0 L i L2 i2 = some uz) : Met l yX6_copyFrom (wsg yX6_copyFrom cX6_copyFrom 2 none) ({ frames := 7, cells := 0, slots := 0, locals := 200 }) (va_Pc [.ref (ad (.st L i)), .ref (ad (.st L2 i2))] (fun U => U.heap.size = sz ∧ va_P (dC, dI) vwCl (WC cy ad ks g u0) U.heap ∧ va_K (dC, dI) vwCl (tyL cy) U ∧ va_D (fun _ => True) (WC cy ad ks g u0) ∧ GE nb (va_A (WC cy ad ks g u0) sz) U)) (va_Qv (fun (_ : Unit) => True) (fun _ t => va_P (dC, dI) vwCl (WC cy ad ks g uz) t.heap ∧ va_D (va_A (WC cy ad ks g u0) sz) (WC cy ad ks g uz)) (va_A (WC cy ad ks g u0) sz)) 0 0 (va_A (WC cy ad ks g u0) sz) := by
  refine Met.ofW (cc := cX6_copyFrom) (maxL := 2) (ret := none) pn_X6 rfl ?_
  intro p e s m args below meth c s₁ B hml hv
  obtain ⟨rfl, hsz, hP, hK, hD0, hE⟩ := hv
  have hx := B.exec
  have hb := B.bytes
  have hr := B.returns
  have hts0 := atoms_spec (ws := (wsg yX6_copyFrom cX6_copyFrom 2 none)) B.pre
  have hts : ∀ w ∈ wsL_law, w.before _ s = true := fun w h => hts0 w (List.mem_cons_of_mem _ h)
  have hown : s.vm.findClass RX6 = some m.cls := by have h9 := findClass_of_methodNamed B.named; exact h9
  have hlocks := B.notSynchronized
  subst hsz
  have hD := hD0.self (sz := s.heap.size)
  generalize hAe : va_A (WC cy ad ks g u0) s.heap.size = A at hD hE ⊢
  have hA : ∀ q : Nat, s.heap.size ≤ q → A q := fun q h => by rw [← hAe]; exact Or.inr h
  have hS : va_S A s.heap s.heap [] := va_S.rf
  have hl := lv_entry ([.ref (ad (.st L i)), .ref (ad (.st L2 i2))]) (n := 2) (Nat.le_of_ble_eq_true rfl)
  rw [lg_entry_eq]
  generalize (lg_sl ([.ref (ad (.st L i)), .ref (ad (.st L2 i2))]) ++ List.replicate (2 - (lg_sl ([.ref (ad (.st L i)), .ref (ad (.st L2 i2))])).length) Slot.unset).toArray = ls at hl ⊢
  have hl : lv_has ls 2 [(0, .ref (ad (.st L i))), (1, .ref (ad (.st L2 i2)))] := hl
  generalize hHe : s.heap = H at hP hS ⊢
  have hS : va_S A s.heap H [] := by rw [hHe]; exact hS
  refine my_Q (fun Qn hQ => ?_)
  simp only [C6_copyFrom] at hF
  refine lv_aload_n hx hb dX6_copyFrom_0 rfl (lv_at hl 0 rfl) ?_
  refine lv_aload_n hx hb dX6_copyFrom_1 rfl (lv_at hl 1 rfl) ?_
  obtain ⟨q9, h9⟩ := wc_at (cy := cy) (ad := ad) (ks := ks) (g := g) (u := u0) (κ := (.st L2 i2)) hk.1 ⟨h_L2_i2.1, h_L2_i2.2⟩
  refine va_get (D := (dC, dI)) (ci := 6) (v := .int (u0 (10 + L2) (17 + 16 * i2 + 0))) (C := RX6) (T := TX6) (N := 15) hx hb hts inlX6 hown hK hP q9 h9 rfl 0 (by decide) (hts _ mw_368) (fun _ h9 => h9) rfl dX6_copyFrom_2 ?_
  clear h9
  obtain ⟨q9, h9, ez9⟩ := wc_set (cy := cy) (ad := ad) (ks := ks) (g := g) (u := u0) (κ := (.st L i)) (r := (10 + L)) (i := (17 + 16 * i + 0)) (v := (u0 (10 + L2) (17 + 16 * i2 + 0))) hk.1 ⟨h_L_i.1, h_L_i.2⟩ (own_st (inl_lt h_L_i.1) h_L_i.2 (by decide)) (sf_st_0)
  refine va_put (D := (dC, dI)) (ci := 6) (v := .int (u0 (10 + L2) (17 + 16 * i2 + 0))) (ty := .int) (C := RX6) (T := TX6) (N := 15) hx hb hts inlX6 tyX6 tyX6_ok nmX6 hown hK hP hD hS q9 h9 rfl 0 (by decide) (hts _ mw_368) (fun _ h9 => h9) rfl (by decide +kernel) rfl rfl (Nat.le_of_ble_eq_true rfl) dX6_copyFrom_5 (fun H locs hP hD hS => ?_)
  obtain ⟨u1, e2, hF⟩ := ob hF
  have hP : va_P (dC, dI) vwCl (WC cy ad ks g u1) H := by rw [← pt_eq e2, ← ez9]; exact hP
  have hD : va_D A (WC cy ad ks g u1) := by rw [← pt_eq e2, ← ez9]; exact hD
  clear ez9 h9
  refine lv_aload_n hx hb dX6_copyFrom_8 rfl (lv_at hl 0 rfl) ?_
  refine lv_aload_n hx hb dX6_copyFrom_9 rfl (lv_at hl 1 rfl) ?_
  obtain ⟨q9, h9⟩ := wc_at (cy := cy) (ad := ad) (ks := ks) (g := g) (u := u1) (κ := (.st L2 i2)) hk.1 ⟨h_L2_i2.1, h_L2_i2.2⟩
  refine va_get (D := (dC, dI)) (ci := 6) (v := .int (u1 (10 + L2) (17 + 16 * i2 + 1))) (C := RX6) (T := TX6) (N := 15) hx hb hts inlX6 hown hK hP q9 h9 rfl 1 (by decide) (hts _ mw_369) (fun _ h9 => h9) rfl dX6_copyFrom_10 ?_
  clear h9
  obtain ⟨q9, h9, ez9⟩ := wc_set (cy := cy) (ad := ad) (ks := ks) (g := g) (u := u1) (κ := (.st L i)) (r := (10 + L)) (i := (17 + 16 * i + 1)) (v := (u1 (10 + L2) (17 + 16 * i2 + 1))) hk.1 ⟨h_L_i.1, h_L_i.2⟩ (own_st (inl_lt h_L_i.1) h_L_i.2 (by decide)) (sf_st_1)
  refine va_put (D := (dC, dI)) (ci := 6) (v := .int (u1 (10 + L2) (17 + 16 * i2 + 1))) (ty := .int) (C := RX6) (T := TX6) (N := 15) hx hb hts inlX6 tyX6 tyX6_ok nmX6 hown hK hP hD hS q9 h9 rfl 1 (by decide) (hts _ mw_369) (fun _ h9 => h9) rfl (by decide +kernel) rfl rfl (Nat.le_of_ble_eq_true rfl) dX6_copyFrom_13 (fun H locs hP hD hS => ?_)
  obtain ⟨u3, e4, hF⟩ := ob hF
  have hP : va_P (dC, dI) vwCl (WC cy ad ks g u3) H := by rw [← pt_eq e4, ← ez9]; exact hP
  have hD : va_D A (WC cy ad ks g u3) := by rw [← pt_eq e4, ← ez9]; exact hD
  clear ez9 h9
  refine lv_aload_n hx hb dX6_copyFrom_16 rfl (lv_at hl 0 rfl) ?_
  refine lv_aload_n hx hb dX6_copyFrom_17 rfl (lv_at hl 1 rfl) ?_
  obtain ⟨q9, h9⟩ := wc_at (cy := cy) (ad := ad) (ks := ks) (g := g) (u := u3) (κ := (.st L2 i2)) hk.1 ⟨h_L2_i2.1, h_L2_i2.2⟩
  refine va_get (D := (dC, dI)) (ci := 6) (v := .ref (ad (.tx (u3 (10 + L2) (17 + 16 * i2 + 14)).toNatClampNeg))) (C := RX6) (T := TX6) (N := 15) hx hb hts inlX6 hown hK hP q9 h9 rfl 2 (by decide) (hts _ mw_58) (fun _ h9 => h9) rfl dX6_copyFrom_18 ?_
  clear h9
  obtain ⟨q9, h9, ez9⟩ := wc_set (cy := cy) (ad := ad) (ks := ks) (g := g) (u := u3) (κ := (.st L i)) (r := (10 + L)) (i := (17 + 16 * i + 14)) (v := (u3 (10 + L2) (17 + 16 * i2 + 14))) hk.1 ⟨h_L_i.1, h_L_i.2⟩ (own_st (inl_lt h_L_i.1) h_L_i.2 (by decide)) (sf_st_2)
  refine va_put (D := (dC, dI)) (ci := 6) (v := .ref (ad (.tx (u3 (10 + L2) (17 + 16 * i2 + 14)).toNatClampNeg))) (ty := (.array .byte)) (C := RX6) (T := TX6) (N := 15) hx hb hts inlX6 tyX6 tyX6_ok nmX6 hown hK hP hD hS q9 h9 rfl 2 (by decide) (hts _ mw_58) (fun _ h9 => h9) rfl (by decide +kernel) rfl rfl (Nat.le_of_ble_eq_true rfl) dX6_copyFrom_21 (fun H locs hP hD hS => ?_)
  obtain ⟨u5, e6, hF⟩ := ob hF
  have hP : va_P (dC, dI) vwCl (WC cy ad ks g u5) H := by rw [← pt_eq e6, ← ez9]; exact hP
  have hD : va_D A (WC cy ad ks g u5) := by rw [← pt_eq e6, ← ez9]; exact hD
  clear ez9 h9
  refine lv_aload_n hx hb dX6_copyFrom_24 rfl (lv_at hl 0 rfl) ?_
  refine lv_aload_n hx hb dX6_copyFrom_25 rfl (lv_at hl 1 rfl) ?_
  obtain ⟨q9, h9⟩ := wc_at (cy := cy) (ad := ad) (ks := ks) (g := g) (u := u5) (κ := (.st L2 i2)) hk.1 ⟨h_L2_i2.1, h_L2_i2.2⟩
  refine va_get (D := (dC, dI)) (ci := 6) (v := .int (u5 (10 + L2) (17 + 16 * i2 + 2))) (C := RX6) (T := TX6) (N := 15) hx hb hts inlX6 hown hK hP q9 h9 rfl 3 (by decide) (hts _ mw_370) (fun _ h9 => h9) rfl dX6_copyFrom_26 ?_
  clear h9
  obtain ⟨q9, h9, ez9⟩ := wc_set (cy := cy) (ad := ad) (ks := ks) (g := g) (u := u5) (κ := (.st L i)) (r := (10 + L)) (i := (17 + 16 * i + 2)) (v := (u5 (10 + L2) (17 + 16 * i2 + 2))) hk.1 ⟨h_L_i.1, h_L_i.2⟩ (own_st (inl_lt h_L_i.1) h_L_i.2 (by decide)) (sf_st_3)
  refine va_put (D := (dC, dI)) (ci := 6) (v := .int (u5 (10 + L2) (17 + 16 * i2 + 2))) (ty := .int) (C := RX6) (T := TX6) (N := 15) hx hb hts inlX6 tyX6 tyX6_ok nmX6 hown hK hP hD hS q9 h9 rfl 3 (by decide) (hts _ mw_370) (fun _ h9 => h9) rfl (by decide +kernel) rfl rfl (Nat.le_of_ble_eq_true rfl) dX6_copyFrom_29 (fun H locs hP hD hS => ?_)
  obtain ⟨u7, e8, hF⟩ := ob hF
  have hP : va_P (dC, dI) vwCl (WC cy ad ks g u7) H := by rw [← pt_eq e8, ← ez9]; exact hP
  have hD : va_D A (WC cy ad ks g u7) := by rw [← pt_eq e8, ← ez9]; exact hD
  clear ez9 h9
  refine lv_aload_n hx hb dX6_copyFrom_32 rfl (lv_at hl 0 rfl) ?_
  refine lv_aload_n hx hb dX6_copyFrom_33 rfl (lv_at hl 1 rfl) ?_
  obtain ⟨q9, h9⟩ := wc_at (cy := cy) (ad := ad) (ks := ks) (g := g) (u := u7) (κ := (.st L2 i2)) hk.1 ⟨h_L2_i2.1, h_L2_i2.2⟩
  refine va_get (D := (dC, dI)) (ci := 6) (v := .int (u7 (10 + L2) (17 + 16 * i2 + 3))) (C := RX6) (T := TX6) (N := 15) hx hb hts inlX6 hown hK hP q9 h9 rfl 4 (by decide) (hts _ mw_371) (fun _ h9 => h9) rfl dX6_copyFrom_34 ?_
  clear h9
  obtain ⟨q9, h9, ez9⟩ := wc_set (cy := cy) (ad := ad) (ks := ks) (g := g) (u := u7) (κ := (.st L i)) (r := (10 + L)) (i := (17 + 16 * i + 3)) (v := (u7 (10 + L2) (17 + 16 * i2 + 3))) hk.1 ⟨h_L_i.1, h_L_i.2⟩ (own_st (inl_lt h_L_i.1) h_L_i.2 (by decide)) (sf_st_4)
  refine va_put (D := (dC, dI)) (ci := 6) (v := .int (u7 (10 + L2) (17 + 16 * i2 + 3))) (ty := .int) (C := RX6) (T := TX6) (N := 15) hx hb hts inlX6 tyX6 tyX6_ok nmX6 hown hK hP hD hS q9 h9 rfl 4 (by decide) (hts _ mw_371) (fun _ h9 => h9) rfl (by decide +kernel) rfl rfl (Nat.le_of_ble_eq_true rfl) dX6_copyFrom_37 (fun H locs hP hD hS => ?_)
  obtain ⟨u9, e10, hF⟩ := ob hF
  have hP : va_P (dC, dI) vwCl (WC cy ad ks g u9) H := by rw [← pt_eq e10, ← ez9]; exact hP
  have hD : va_D A (WC cy ad ks g u9) := by rw [← pt_eq e10, ← ez9]; exact hD
  clear ez9 h9
  refine lv_aload_n hx hb dX6_copyFrom_40 rfl (lv_at hl 0 rfl) ?_
  refine lv_aload_n hx hb dX6_copyFrom_41 rfl (lv_at hl 1 rfl) ?_
  obtain ⟨q9, h9⟩ := wc_at (cy := cy) (ad := ad) (ks := ks) (g := g) (u := u9) (κ := (.st L2 i2)) hk.1 ⟨h_L2_i2.1, h_L2_i2.2⟩
  refine va_get (D := (dC, dI)) (ci := 6) (v := .int (u9 (10 + L2) (17 + 16 * i2 + 4))) (C := RX6) (T := TX6) (N := 15) hx hb hts inlX6 hown hK hP q9 h9 rfl 5 (by decide) (hts _ mw_372) (fun _ h9 => h9) rfl dX6_copyFrom_42 ?_
  clear h9
  obtain ⟨q9, h9, ez9⟩ := wc_set (cy := cy) (ad := ad) (ks := ks) (g := g) (u := u9) (κ := (.st L i)) (r := (10 + L)) (i := (17 + 16 * i + 4)) (v := (u9 (10 + L2) (17 + 16 * i2 + 4))) hk.1 ⟨h_L_i.1, h_L_i.2⟩ (own_st (inl_lt h_L_i.1) h_L_i.2 (by decide)) (sf_st_5)
  refine va_put (D := (dC, dI)) (ci := 6) (v := .int (u9 (10 + L2) (17 + 16 * i2 + 4))) (ty := .int) (C := RX6) (T := TX6) (N := 15) hx hb hts inlX6 tyX6 tyX6_ok nmX6 hown hK hP hD hS q9 h9 rfl 5 (by decide) (hts _ mw_372) (fun _ h9 => h9) rfl (by decide +kernel) rfl rfl (Nat.le_of_ble_eq_true rfl) dX6_copyFrom_45 (fun H locs hP hD hS => ?_)
  obtain ⟨u11, e12, hF⟩ := ob hF
  have hP : va_P (dC, dI) vwCl (WC cy ad ks g u11) H := by rw [← pt_eq e12, ← ez9]; exact hP
  have hD : va_D A (WC cy ad ks g u11) := by rw [← pt_eq e12, ← ez9]; exact hD
  clear ez9 h9
  refine lv_aload_n hx hb dX6_copyFrom_48 rfl (lv_at hl 0 rfl) ?_
  refine lv_aload_n hx hb dX6_copyFrom_49 rfl (lv_at hl 1 rfl) ?_
  obtain ⟨q9, h9⟩ := wc_at (cy := cy) (ad := ad) (ks := ks) (g := g) (u := u11) (κ := (.st L2 i2)) hk.1 ⟨h_L2_i2.1, h_L2_i2.2⟩
  refine va_get (D := (dC, dI)) (ci := 6) (v := .int (u11 (10 + L2) (17 + 16 * i2 + 13))) (C := RX6) (T := TX6) (N := 15) hx hb hts inlX6 hown hK hP q9 h9 rfl 6 (by decide) (hts _ mw_373) (fun _ h9 => h9) rfl dX6_copyFrom_50 ?_
  clear h9
  obtain ⟨q9, h9, ez9⟩ := wc_set (cy := cy) (ad := ad) (ks := ks) (g := g) (u := u11) (κ := (.st L i)) (r := (10 + L)) (i := (17 + 16 * i + 13)) (v := (u11 (10 + L2) (17 + 16 * i2 + 13))) hk.1 ⟨h_L_i.1, h_L_i.2⟩ (own_st (inl_lt h_L_i.1) h_L_i.2 (by decide)) (sf_st_6)
  refine va_put (D := (dC, dI)) (ci := 6) (v := .int (u11 (10 + L2) (17 + 16 * i2 + 13))) (ty := .int) (C := RX6) (T := TX6) (N := 15) hx hb hts inlX6 tyX6 tyX6_ok nmX6 hown hK hP hD hS q9 h9 rfl 6 (by decide) (hts _ mw_373) (fun _ h9 => h9) rfl (by decide +kernel) rfl rfl (Nat.le_of_ble_eq_true rfl) dX6_copyFrom_53 (fun H locs hP hD hS => ?_)
  obtain ⟨u13, e14, hF⟩ := ob hF
  have hP : va_P (dC, dI) vwCl (WC cy ad ks g u13) H := by rw [← pt_eq e14, ← ez9]; exact hP
  have hD : va_D A (WC cy ad ks g u13) := by rw [← pt_eq e14, ← ez9]; exact hD
  clear ez9 h9
  refine lv_aload_n hx hb dX6_copyFrom_56 rfl (lv_at hl 0 rfl) ?_
  refine lv_aload_n hx hb dX6_copyFrom_57 rfl (lv_at hl 1 rfl) ?_
  obtain ⟨q9, h9⟩ := wc_at (cy := cy) (ad := ad) (ks := ks) (g := g) (u := u13) (κ := (.st L2 i2)) hk.1 ⟨h_L2_i2.1, h_L2_i2.2⟩
  refine va_get (D := (dC, dI)) (ci := 6) (v := .int (u13 (10 + L2) (17 + 16 * i2 + 5))) (C := RX6) (T := TX6) (N := 15) hx hb hts inlX6 hown hK hP q9 h9 rfl 7 (by decide) (hts _ mw_374) (fun _ h9 => h9) rfl dX6_copyFrom_58 ?_
  clear h9
  obtain ⟨q9, h9, ez9⟩ := wc_set (cy := cy) (ad := ad) (ks := ks) (g := g) (u := u13) (κ := (.st L i)) (r := (10 + L)) (i := (17 + 16 * i + 5)) (v := (u13 (10 + L2) (17 + 16 * i2 + 5))) hk.1 ⟨h_L_i.1, h_L_i.2⟩ (own_st (inl_lt h_L_i.1) h_L_i.2 (by decide)) (sf_st_7)
  refine va_put (D := (dC, dI)) (ci := 6) (v := .int (u13 (10 + L2) (17 + 16 * i2 + 5))) (ty := .int) (C := RX6) (T := TX6) (N := 15) hx hb hts inlX6 tyX6 tyX6_ok nmX6 hown hK hP hD hS q9 h9 rfl 7 (by decide) (hts _ mw_374) (fun _ h9 => h9) rfl (by decide +kernel) rfl rfl (Nat.le_of_ble_eq_true rfl) dX6_copyFrom_61 (fun H locs hP hD hS => ?_)
  obtain ⟨u15, e16, hF⟩ := ob hF
  have hP : va_P (dC, dI) vwCl (WC cy ad ks g u15) H := by rw [← pt_eq e16, ← ez9]; exact hP
  have hD : va_D A (WC cy ad ks g u15) := by rw [← pt_eq e16, ← ez9]; exact hD
  clear ez9 h9
  refine lv_aload_n hx hb dX6_copyFrom_64 rfl (lv_at hl 0 rfl) ?_
  refine lv_aload_n hx hb dX6_copyFrom_65 rfl (lv_at hl 1 rfl) ?_
  obtain ⟨q9, h9⟩ := wc_at (cy := cy) (ad := ad) (ks := ks) (g := g) (u := u15) (κ := (.st L2 i2)) hk.1 ⟨h_L2_i2.1, h_L2_i2.2⟩
  refine va_get (D := (dC, dI)) (ci := 6) (v := .int (u15 (10 + L2) (17 + 16 * i2 + 6))) (C := RX6) (T := TX6) (N := 15) hx hb hts inlX6 hown hK hP q9 h9 rfl 8 (by decide) (hts _ mw_375) (fun _ h9 => h9) rfl dX6_copyFrom_66 ?_
  clear h9
  obtain ⟨q9, h9, ez9⟩ := wc_set (cy := cy) (ad := ad) (ks := ks) (g := g) (u := u15) (κ := (.st L i)) (r := (10 + L)) (i := (17 + 16 * i + 6)) (v := (u15 (10 + L2) (17 + 16 * i2 + 6))) hk.1 ⟨h_L_i.1, h_L_i.2⟩ (own_st (inl_lt h_L_i.1) h_L_i.2 (by decide)) (sf_st_8)
  refine va_put (D := (dC, dI)) (ci := 6) (v := .int (u15 (10 + L2) (17 + 16 * i2 + 6))) (ty := .int) (C := RX6) (T := TX6) (N := 15) hx hb hts inlX6 tyX6 tyX6_ok nmX6 hown hK hP hD hS q9 h9 rfl 8 (by decide) (hts _ mw_375) (fun _ h9 => h9) rfl (by decide +kernel) rfl rfl (Nat.le_of_ble_eq_true rfl) dX6_copyFrom_69 (fun H locs hP hD hS => ?_)
  obtain ⟨u17, e18, hF⟩ := ob hF
  have hP : va_P (dC, dI) vwCl (WC cy ad ks g u17) H := by rw [← pt_eq e18, ← ez9]; exact hP
  have hD : va_D A (WC cy ad ks g u17) := by rw [← pt_eq e18, ← ez9]; exact hD
  clear ez9 h9
  refine lv_aload_n hx hb dX6_copyFrom_72 rfl (lv_at hl 0 rfl) ?_
  refine lv_aload_n hx hb dX6_copyFrom_73 rfl (lv_at hl 1 rfl) ?_
  obtain ⟨q9, h9⟩ := wc_at (cy := cy) (ad := ad) (ks := ks) (g := g) (u := u17) (κ := (.st L2 i2)) hk.1 ⟨h_L2_i2.1, h_L2_i2.2⟩
  refine va_get (D := (dC, dI)) (ci := 6) (v := .int (u17 (10 + L2) (17 + 16 * i2 + 7))) (C := RX6) (T := TX6) (N := 15) hx hb hts inlX6 hown hK hP q9 h9 rfl 9 (by decide) (hts _ mw_376) (fun _ h9 => h9) rfl dX6_copyFrom_74 ?_
  clear h9
  obtain ⟨x19, e20, hF⟩ := ob hF
  refine my_topi (y := x19) (nz_e e20) ?_
  obtain ⟨q9, h9, ez9⟩ := wc_set (cy := cy) (ad := ad) (ks := ks) (g := g) (u := u17) (κ := (.st L i)) (r := (10 + L)) (i := (17 + 16 * i + 7)) (v := x19) hk.1 ⟨h_L_i.1, h_L_i.2⟩ (own_st (inl_lt h_L_i.1) h_L_i.2 (by decide)) (sf_st_9)
  refine va_put (D := (dC, dI)) (ci := 6) (v := .int x19) (ty := .boolean) (C := RX6) (T := TX6) (N := 15) hx hb hts inlX6 tyX6 tyX6_ok nmX6 hown hK hP hD hS q9 h9 rfl 9 (by decide) (hts _ mw_376) (fun _ h9 => h9) rfl (by decide +kernel) (nz_n e20) (nz_f e20) (Nat.le_of_ble_eq_true rfl) dX6_copyFrom_77 (fun H locs hP hD hS => ?_)
  obtain ⟨u21, e22, hF⟩ := ob hF
  have hP : va_P (dC, dI) vwCl (WC cy ad ks g u21) H := by rw [← pt_eq e22, ← ez9]; exact hP
  have hD : va_D A (WC cy ad ks g u21) := by rw [← pt_eq e22, ← ez9]; exact hD
  clear ez9 h9
  refine lv_aload_n hx hb dX6_copyFrom_80 rfl (lv_at hl 0 rfl) ?_
  refine lv_aload_n hx hb dX6_copyFrom_81 rfl (lv_at hl 1 rfl) ?_
  obtain ⟨q9, h9⟩ := wc_at (cy := cy) (ad := ad) (ks := ks) (g := g) (u := u21) (κ := (.st L2 i2)) hk.1 ⟨h_L2_i2.1, h_L2_i2.2⟩
  refine va_get (D := (dC, dI)) (ci := 6) (v := .int (u21 (10 + L2) (17 + 16 * i2 + 8))) (C := RX6) (T := TX6) (N := 15) hx hb hts inlX6 hown hK hP q9 h9 rfl 10 (by decide) (hts _ mw_377) (fun _ h9 => h9) rfl dX6_copyFrom_82 ?_
  clear h9
  obtain ⟨q9, h9, ez9⟩ := wc_set (cy := cy) (ad := ad) (ks := ks) (g := g) (u := u21) (κ := (.st L i)) (r := (10 + L)) (i := (17 + 16 * i + 8)) (v := (u21 (10 + L2) (17 + 16 * i2 + 8))) hk.1 ⟨h_L_i.1, h_L_i.2⟩ (own_st (inl_lt h_L_i.1) h_L_i.2 (by decide)) (sf_st_10)
  refine va_put (D := (dC, dI)) (ci := 6) (v := .int (u21 (10 + L2) (17 + 16 * i2 + 8))) (ty := .int) (C := RX6) (T := TX6) (N := 15) hx hb hts inlX6 tyX6 tyX6_ok nmX6 hown hK hP hD hS q9 h9 rfl 10 (by decide) (hts _ mw_377) (fun _ h9 => h9) rfl (by decide +kernel) rfl rfl (Nat.le_of_ble_eq_true rfl) dX6_copyFrom_85 (fun H locs hP hD hS => ?_)
  obtain ⟨u23, e24, hF⟩ := ob hF
  have hP : va_P (dC, dI) vwCl (WC cy ad ks g u23) H := by rw [← pt_eq e24, ← ez9]; exact hP
  have hD : va_D A (WC cy ad ks g u23) := by rw [← pt_eq e24, ← ez9]; exact hD
  clear ez9 h9
  refine lv_aload_n hx hb dX6_copyFrom_88 rfl (lv_at hl 0 rfl) ?_
  refine lv_aload_n hx hb dX6_copyFrom_89 rfl (lv_at hl 1 rfl) ?_
  obtain ⟨q9, h9⟩ := wc_at (cy := cy) (ad := ad) (ks := ks) (g := g) (u := u23) (κ := (.st L2 i2)) hk.1 ⟨h_L2_i2.1, h_L2_i2.2⟩
  refine va_get (D := (dC, dI)) (ci := 6) (v := .int (u23 (10 + L2) (17 + 16 * i2 + 9))) (C := RX6) (T := TX6) (N := 15) hx hb hts inlX6 hown hK hP q9 h9 rfl 11 (by decide) (hts _ mw_378) (fun _ h9 => h9) rfl dX6_copyFrom_90 ?_
  clear h9
  obtain ⟨q9, h9, ez9⟩ := wc_set (cy := cy) (ad := ad) (ks := ks) (g := g) (u := u23) (κ := (.st L i)) (r := (10 + L)) (i := (17 + 16 * i + 9)) (v := (u23 (10 + L2) (17 + 16 * i2 + 9))) hk.1 ⟨h_L_i.1, h_L_i.2⟩ (own_st (inl_lt h_L_i.1) h_L_i.2 (by decide)) (sf_st_11)
  refine va_put (D := (dC, dI)) (ci := 6) (v := .int (u23 (10 + L2) (17 + 16 * i2 + 9))) (ty := .int) (C := RX6) (T := TX6) (N := 15) hx hb hts inlX6 tyX6 tyX6_ok nmX6 hown hK hP hD hS q9 h9 rfl 11 (by decide) (hts _ mw_378) (fun _ h9 => h9) rfl (by decide +kernel) rfl rfl (Nat.le_of_ble_eq_true rfl) dX6_copyFrom_93 (fun H locs hP hD hS => ?_)
  obtain ⟨u25, e26, hF⟩ := ob hF
  have hP : va_P (dC, dI) vwCl (WC cy ad ks g u25) H := by rw [← pt_eq e26, ← ez9]; exact hP
  have hD : va_D A (WC cy ad ks g u25) := by rw [← pt_eq e26, ← ez9]; exact hD
  clear ez9 h9
  refine lv_aload_n hx hb dX6_copyFrom_96 rfl (lv_at hl 0 rfl) ?_
  refine lv_aload_n hx hb dX6_copyFrom_97 rfl (lv_at hl 1 rfl) ?_
  obtain ⟨q9, h9⟩ := wc_at (cy := cy) (ad := ad) (ks := ks) (g := g) (u := u25) (κ := (.st L2 i2)) hk.1 ⟨h_L2_i2.1, h_L2_i2.2⟩
  refine va_get (D := (dC, dI)) (ci := 6) (v := .int (u25 (10 + L2) (17 + 16 * i2 + 10))) (C := RX6) (T := TX6) (N := 15) hx hb hts inlX6 hown hK hP q9 h9 rfl 12 (by decide) (hts _ mw_379) (fun _ h9 => h9) rfl dX6_copyFrom_98 ?_
  clear h9
  obtain ⟨q9, h9, ez9⟩ := wc_set (cy := cy) (ad := ad) (ks := ks) (g := g) (u := u25) (κ := (.st L i)) (r := (10 + L)) (i := (17 + 16 * i + 10)) (v := (u25 (10 + L2) (17 + 16 * i2 + 10))) hk.1 ⟨h_L_i.1, h_L_i.2⟩ (own_st (inl_lt h_L_i.1) h_L_i.2 (by decide)) (sf_st_12)
  refine va_put (D := (dC, dI)) (ci := 6) (v := .int (u25 (10 + L2) (17 + 16 * i2 + 10))) (ty := .int) (C := RX6) (T := TX6) (N := 15) hx hb hts inlX6 tyX6 tyX6_ok nmX6 hown hK hP hD hS q9 h9 rfl 12 (by decide) (hts _ mw_379) (fun _ h9 => h9) rfl (by decide +kernel) rfl rfl (Nat.le_of_ble_eq_true rfl) dX6_copyFrom_101 (fun H locs hP hD hS => ?_)
  obtain ⟨u27, e28, hF⟩ := ob hF
  have hP : va_P (dC, dI) vwCl (WC cy ad ks g u27) H := by rw [← pt_eq e28, ← ez9]; exact hP
  have hD : va_D A (WC cy ad ks g u27) := by rw [← pt_eq e28, ← ez9]; exact hD
  clear ez9 h9
  refine lv_aload_n hx hb dX6_copyFrom_104 rfl (lv_at hl 0 rfl) ?_
  refine lv_aload_n hx hb dX6_copyFrom_105 rfl (lv_at hl 1 rfl) ?_
  obtain ⟨q9, h9⟩ := wc_at (cy := cy) (ad := ad) (ks := ks) (g := g) (u := u27) (κ := (.st L2 i2)) hk.1 ⟨h_L2_i2.1, h_L2_i2.2⟩
  refine va_get (D := (dC, dI)) (ci := 6) (v := .int (u27 (10 + L2) (17 + 16 * i2 + 11))) (C := RX6) (T := TX6) (N := 15) hx hb hts inlX6 hown hK hP q9 h9 rfl 13 (by decide) (hts _ mw_380) (fun _ h9 => h9) rfl dX6_copyFrom_106 ?_
  clear h9
  obtain ⟨q9, h9, ez9⟩ := wc_set (cy := cy) (ad := ad) (ks := ks) (g := g) (u := u27) (κ := (.st L i)) (r := (10 + L)) (i := (17 + 16 * i + 11)) (v := (u27 (10 + L2) (17 + 16 * i2 + 11))) hk.1 ⟨h_L_i.1, h_L_i.2⟩ (own_st (inl_lt h_L_i.1) h_L_i.2 (by decide)) (sf_st_13)
  refine va_put (D := (dC, dI)) (ci := 6) (v := .int (u27 (10 + L2) (17 + 16 * i2 + 11))) (ty := .int) (C := RX6) (T := TX6) (N := 15) hx hb hts inlX6 tyX6 tyX6_ok nmX6 hown hK hP hD hS q9 h9 rfl 13 (by decide) (hts _ mw_380) (fun _ h9 => h9) rfl (by decide +kernel) rfl rfl (Nat.le_of_ble_eq_true rfl) dX6_copyFrom_109 (fun H locs hP hD hS => ?_)
  obtain ⟨u29, e30, hF⟩ := ob hF
  have hP : va_P (dC, dI) vwCl (WC cy ad ks g u29) H := by rw [← pt_eq e30, ← ez9]; exact hP
  have hD : va_D A (WC cy ad ks g u29) := by rw [← pt_eq e30, ← ez9]; exact hD
  clear ez9 h9
  refine lv_aload_n hx hb dX6_copyFrom_112 rfl (lv_at hl 0 rfl) ?_
  refine lv_aload_n hx hb dX6_copyFrom_113 rfl (lv_at hl 1 rfl) ?_
  obtain ⟨q9, h9⟩ := wc_at (cy := cy) (ad := ad) (ks := ks) (g := g) (u := u29) (κ := (.st L2 i2)) hk.1 ⟨h_L2_i2.1, h_L2_i2.2⟩
  refine va_get (D := (dC, dI)) (ci := 6) (v := .int (u29 (10 + L2) (17 + 16 * i2 + 12))) (C := RX6) (T := TX6) (N := 15) hx hb hts inlX6 hown hK hP q9 h9 rfl 14 (by decide) (hts _ mw_381) (fun _ h9 => h9) rfl dX6_copyFrom_114 ?_
  clear h9
  obtain ⟨q9, h9, ez9⟩ := wc_set (cy := cy) (ad := ad) (ks := ks) (g := g) (u := u29) (κ := (.st L i)) (r := (10 + L)) (i := (17 + 16 * i + 12)) (v := (u29 (10 + L2) (17 + 16 * i2 + 12))) hk.1 ⟨h_L_i.1, h_L_i.2⟩ (own_st (inl_lt h_L_i.1) h_L_i.2 (by decide)) (sf_st_14)
  refine va_put (D := (dC, dI)) (ci := 6) (v := .int (u29 (10 + L2) (17 + 16 * i2 + 12))) (ty := .int) (C := RX6) (T := TX6) (N := 15) hx hb hts inlX6 tyX6 tyX6_ok nmX6 hown hK hP hD hS q9 h9 rfl 14 (by decide) (hts _ mw_381) (fun _ h9 => h9) rfl (by decide +kernel) rfl rfl (Nat.le_of_ble_eq_true rfl) dX6_copyFrom_117 (fun H locs hP hD hS => ?_)
  obtain ⟨u31, e32, hF⟩ := ob hF
  have hP : va_P (dC, dI) vwCl (WC cy ad ks g u31) H := by rw [← pt_eq e32, ← ez9]; exact hP
  have hD : va_D A (WC cy ad ks g u31) := by rw [← pt_eq e32, ← ez9]; exact hD
  clear ez9 h9
  have hZ := s1 hF
  have zuz : u31 = uz := hZ
  have hP9 : va_P (dC, dI) vwCl (WC cy ad ks g uz) H := by rw [← zuz]; exact hP
  have hD9 : va_D A (WC cy ad ks g uz) := by rw [← zuz]; exact hD
  rw [hQ]
  exact W.vret hx hb hr (fun t ht hW => ⟨⟨(), rfl, trivial, by rw [ht]; exact hP9, hD9⟩, hS.F ht⟩) hS.2.2 dX6_copyFrom_120
noncomputable def C4_copyFrom (g : CG) (u0 : RS) (L : Nat) (i : Nat) (L2 : Nat) (i2 : Nat) : Option (RS) := (pt u0 (10 + L) (113 + 4 * i + 0) (u0 (10 + L2) (113 + 4 * i2 + 0))).bind fun u1 => (pt u1 (10 + L) (113 + 4 * i + 1) (u1 (10 + L2) (113 + 4 * i2 + 1))).bind fun u3 => (cpo 30 30 (u3 (100 + 6 * L2 + i2)) false (0) (0) (30)).bind fun n5 => (some (cpR u3 (100 + 6 * L + i) ((0) : Int32).toNatClampNeg (u3 (100 + 6 * L2 + i2)) ((0) : Int32).toNatClampNeg n5)).bind fun u7 => (pt u7 (10 + L) (1100 + 8 * i + 0) (u7 (10 + L2) (1100 + 8 * i2 + 0))).bind fun u9 => (pt u9 (10 + L) (1100 + 8 * i + 1) (u9 (10 + L2) (1100 + 8 * i2 + 1))).bind fun u11 => (pt u11 (10 + L) (1100 + 8 * i + 2) (u11 (10 + L2) (1100 + 8 * i2 + 2))).bind fun u13 => (pt u13 (10 + L) (1100 + 8 * i + 3) (u13 (10 + L2) (1100 + 8 * i2 + 3))).bind fun u15 => (pt u15 (10 + L) (1100 + 8 * i + 4) (u15 (10 + L2) (1100 + 8 * i2 + 4))).bind fun u17 => (pt u17 (10 + L) (113 + 4 * i + 2) (u17 (10 + L2) (113 + 4 * i2 + 2))).bind fun u19 => (pt u19 (10 + L) (113 + 4 * i + 3) (u19 (10 + L2) (113 + 4 * i2 + 3))).bind fun u21 => (cpo 10 10 (u21 (200 + 6 * L2 + i2)) false (0) (0) (10)).bind fun n23 => (some (cpR u21 (200 + 6 * L + i) ((0) : Int32).toNatClampNeg (u21 (200 + 6 * L2 + i2)) ((0) : Int32).toNatClampNeg n23)).bind fun u25 => (cpo 10 10 (u25 (300 + 6 * L2 + i2)) false (0) (0) (10)).bind fun n27 => (some (cpR u25 (300 + 6 * L + i) ((0) : Int32).toNatClampNeg (u25 (300 + 6 * L2 + i2)) ((0) : Int32).toNatClampNeg n27)).bind fun u29 => some u29
set_option maxHeartbeats 4000000 in
set_option maxRecDepth 100000 in
theorem c_X4_copyFrom (l : Launch) (dC : Nat → ClassId) (dI : Nat → Nat → Nat) (cy : Nat → ClassId) (nb : Nat → Nat) (ad : CK → Nat) (ks : List CK) (g : CG) (hk : GA nb ad g ks) (u0 : RS) (L : Nat) (i : Nat) (L2 : Nat) (i2 : Nat) (uz : RS) (sz : Nat) (h_L_i : has g (.lo L i)) (h_L2_i2 : has g (.lo L2 i2)) (hF : C4_copyFrom g u0 L i L2 i2 = some uz) : Met l yX4_copyFrom (wsg yX4_copyFrom cX4_copyFrom 2 none) ({ frames := 7, cells := 0, slots := 0, locals := 200 }) (va_Pc [.ref (ad (.lo L i)), .ref (ad (.lo L2 i2))] (fun U => U.heap.size = sz ∧ va_P (dC, dI) vwCl (WC cy ad ks g u0) U.heap ∧ va_K (dC, dI) vwCl (tyL cy) U ∧ va_D (fun _ => True) (WC cy ad ks g u0) ∧ GE nb (va_A (WC cy ad ks g u0) sz) U)) (va_Qv (fun (_ : Unit) => True) (fun _ t => va_P (dC, dI) vwCl (WC cy ad ks g uz) t.heap ∧ va_D (va_A (WC cy ad ks g u0) sz) (WC cy ad ks g uz)) (va_A (WC cy ad ks g u0) sz)) 0 0 (va_A (WC cy ad ks g u0) sz) := by
  refine Met.ofW (cc := cX4_copyFrom) (maxL := 2) (ret := none) pn_X4 rfl ?_
  intro p e s m args below meth c s₁ B hml hv
  obtain ⟨rfl, hsz, hP, hK, hD0, hE⟩ := hv
  have hx := B.exec
  have hb := B.bytes
  have hr := B.returns
  have hts0 := atoms_spec (ws := (wsg yX4_copyFrom cX4_copyFrom 2 none)) B.pre
  have hts : ∀ w ∈ wsL_law, w.before _ s = true := fun w h => hts0 w (List.mem_cons_of_mem _ h)
  have hown : s.vm.findClass RX4 = some m.cls := by have h9 := findClass_of_methodNamed B.named; exact h9
  have hlocks := B.notSynchronized
  subst hsz
  have hD := hD0.self (sz := s.heap.size)
  generalize hAe : va_A (WC cy ad ks g u0) s.heap.size = A at hD hE ⊢
  have hA : ∀ q : Nat, s.heap.size ≤ q → A q := fun q h => by rw [← hAe]; exact Or.inr h
  have hS : va_S A s.heap s.heap [] := va_S.rf
  have hl := lv_entry ([.ref (ad (.lo L i)), .ref (ad (.lo L2 i2))]) (n := 2) (Nat.le_of_ble_eq_true rfl)
  rw [lg_entry_eq]
  generalize (lg_sl ([.ref (ad (.lo L i)), .ref (ad (.lo L2 i2))]) ++ List.replicate (2 - (lg_sl ([.ref (ad (.lo L i)), .ref (ad (.lo L2 i2))])).length) Slot.unset).toArray = ls at hl ⊢
  have hl : lv_has ls 2 [(0, .ref (ad (.lo L i))), (1, .ref (ad (.lo L2 i2)))] := hl
  generalize hHe : s.heap = H at hP hS ⊢
  have hS : va_S A s.heap H [] := by rw [hHe]; exact hS
  refine my_Q (fun Qn hQ => ?_)
  simp only [C4_copyFrom] at hF
  refine lv_aload_n hx hb dX4_copyFrom_0 rfl (lv_at hl 0 rfl) ?_
  refine lv_aload_n hx hb dX4_copyFrom_1 rfl (lv_at hl 1 rfl) ?_
  obtain ⟨q9, h9⟩ := wc_at (cy := cy) (ad := ad) (ks := ks) (g := g) (u := u0) (κ := (.lo L2 i2)) hk.1 ⟨h_L2_i2.1, h_L2_i2.2⟩
  refine va_get (D := (dC, dI)) (ci := 4) (v := .int (u0 (10 + L2) (113 + 4 * i2 + 0))) (C := RX4) (T := TX4) (N := 12) hx hb hts inlX4 hown hK hP q9 h9 rfl 0 (by decide) (hts _ mw_265) (fun _ h9 => h9) rfl dX4_copyFrom_2 ?_
  clear h9
  obtain ⟨q9, h9, ez9⟩ := wc_set (cy := cy) (ad := ad) (ks := ks) (g := g) (u := u0) (κ := (.lo L i)) (r := (10 + L)) (i := (113 + 4 * i + 0)) (v := (u0 (10 + L2) (113 + 4 * i2 + 0))) hk.1 ⟨h_L_i.1, h_L_i.2⟩ (own_lo (inl_lt h_L_i.1) h_L_i.2 (by decide)) (sf_lo_0)
  refine va_put (D := (dC, dI)) (ci := 4) (v := .int (u0 (10 + L2) (113 + 4 * i2 + 0))) (ty := .int) (C := RX4) (T := TX4) (N := 12) hx hb hts inlX4 tyX4 tyX4_ok nmX4 hown hK hP hD hS q9 h9 rfl 0 (by decide) (hts _ mw_265) (fun _ h9 => h9) rfl (by decide +kernel) rfl rfl (Nat.le_of_ble_eq_true rfl) dX4_copyFrom_5 (fun H locs hP hD hS => ?_)
  obtain ⟨u1, e2, hF⟩ := ob hF
  have hP : va_P (dC, dI) vwCl (WC cy ad ks g u1) H := by rw [← pt_eq e2, ← ez9]; exact hP
  have hD : va_D A (WC cy ad ks g u1) := by rw [← pt_eq e2, ← ez9]; exact hD
  clear ez9 h9
  refine lv_aload_n hx hb dX4_copyFrom_8 rfl (lv_at hl 0 rfl) ?_
  refine lv_aload_n hx hb dX4_copyFrom_9 rfl (lv_at hl 1 rfl) ?_
  obtain ⟨q9, h9⟩ := wc_at (cy := cy) (ad := ad) (ks := ks) (g := g) (u := u1) (κ := (.lo L2 i2)) hk.1 ⟨h_L2_i2.1, h_L2_i2.2⟩
  refine va_get (D := (dC, dI)) (ci := 4) (v := .int (u1 (10 + L2) (113 + 4 * i2 + 1))) (C := RX4) (T := TX4) (N := 12) hx hb hts inlX4 hown hK hP q9 h9 rfl 1 (by decide) (hts _ mw_266) (fun _ h9 => h9) rfl dX4_copyFrom_10 ?_
  clear h9
  obtain ⟨q9, h9, ez9⟩ := wc_set (cy := cy) (ad := ad) (ks := ks) (g := g) (u := u1) (κ := (.lo L i)) (r := (10 + L)) (i := (113 + 4 * i + 1)) (v := (u1 (10 + L2) (113 + 4 * i2 + 1))) hk.1 ⟨h_L_i.1, h_L_i.2⟩ (own_lo (inl_lt h_L_i.1) h_L_i.2 (by decide)) (sf_lo_1)
  refine va_put (D := (dC, dI)) (ci := 4) (v := .int (u1 (10 + L2) (113 + 4 * i2 + 1))) (ty := .int) (C := RX4) (T := TX4) (N := 12) hx hb hts inlX4 tyX4 tyX4_ok nmX4 hown hK hP hD hS q9 h9 rfl 1 (by decide) (hts _ mw_266) (fun _ h9 => h9) rfl (by decide +kernel) rfl rfl (Nat.le_of_ble_eq_true rfl) dX4_copyFrom_13 (fun H locs hP hD hS => ?_)
  obtain ⟨u3, e4, hF⟩ := ob hF
  have hP : va_P (dC, dI) vwCl (WC cy ad ks g u3) H := by rw [← pt_eq e4, ← ez9]; exact hP
  have hD : va_D A (WC cy ad ks g u3) := by rw [← pt_eq e4, ← ez9]; exact hD
  clear ez9 h9
  refine lv_aload_n hx hb dX4_copyFrom_16 rfl (lv_at hl 1 rfl) ?_
  obtain ⟨q9, h9⟩ := wc_at (cy := cy) (ad := ad) (ks := ks) (g := g) (u := u3) (κ := (.lo L2 i2)) hk.1 ⟨h_L2_i2.1, h_L2_i2.2⟩
  refine va_get (D := (dC, dI)) (ci := 4) (v := .ref (ad (.bp L2 i2))) (C := RX4) (T := TX4) (N := 12) hx hb hts inlX4 hown hK hP q9 h9 rfl 2 (by decide) (hts _ mw_62) (fun _ h9 => h9) rfl dX4_copyFrom_17 ?_
  clear h9
  refine lv_iconst (v := 0) hx hb dX4_copyFrom_20 (by decide) ?_
  refine lv_aload_n hx hb dX4_copyFrom_21 rfl (lv_at hl 0 rfl) ?_
  obtain ⟨q9, h9⟩ := wc_at (cy := cy) (ad := ad) (ks := ks) (g := g) (u := u3) (κ := (.lo L i)) hk.1 ⟨h_L_i.1, h_L_i.2⟩
  refine va_get (D := (dC, dI)) (ci := 4) (v := .ref (ad (.bp L i))) (C := RX4) (T := TX4) (N := 12) hx hb hts inlX4 hown hK hP q9 h9 rfl 2 (by decide) (hts _ mw_62) (fun _ h9 => h9) rfl dX4_copyFrom_22 ?_
  clear h9
  refine lv_iconst (v := 0) hx hb dX4_copyFrom_25 (by decide) ?_
  refine lv_bipush (v := 30) hx hb dX4_copyFrom_26 (by decide) ?_
  obtain ⟨n5, e6, hF⟩ := ob hF
  obtain ⟨u7, e8, hF⟩ := ob hF
  obtain ⟨⟨⟨c1, c2, c3, c4, c5⟩, c6⟩, c7⟩ := cpo_s e6
  obtain ⟨q9, h9, ez9⟩ := wc_gen (cy := cy) (ad := ad) (ks := ks) (g := g) (u := u3) (u2 := cpR u3 (100 + 6 * L + i) ((0) : Int32).toNatClampNeg (u3 (100 + 6 * L2 + i2)) ((0) : Int32).toNatClampNeg n5) (κ := (.bp L i)) hk.1 ⟨h_L_i.1, h_L_i.2⟩ (cd_bp (inl_lt h_L_i.1) h_L_i.2) sc_bp
  obtain ⟨q7, h7⟩ := wc_at (cy := cy) (ad := ad) (ks := ks) (g := g) (u := u3) (κ := (.bp L2 i2)) hk.1 ⟨h_L2_i2.1, h_L2_i2.2⟩
  refine va_copyi hx hb (hml.trans hl.1.symm) hown (hts _ mw_405) (hts _ mw_302) (hts _ mw_303) (hts _ mw_304) hK hP hD hS q7 q9 1 1 h7 h9 rfl rfl rfl (nn_of c1) (nn_of c2) (nn_of c3) c4 c5 (fun _ _ => rfl) (Nat.le_of_ble_eq_true rfl) (Nat.le_of_ble_eq_true rfl) dX4_copyFrom_28 (fun H locs hP hD hS => ?_)
  rw [show ((30) : Int32).toNatClampNeg = n5 from c7] at hP hD
  have hP : va_P (dC, dI) vwCl (WC cy ad ks g u7) H := by rw [← s1 e8, ← ez9]; exact hP
  have hD : va_D A (WC cy ad ks g u7) := by rw [← s1 e8, ← ez9]; exact hD
  clear ez9 h9
  clear h7 c1 c2 c3 c4 c5 c6 c7
  refine lv_aload_n hx hb dX4_copyFrom_31 rfl (lv_at hl 0 rfl) ?_
  refine lv_aload_n hx hb dX4_copyFrom_32 rfl (lv_at hl 1 rfl) ?_
  obtain ⟨q9, h9⟩ := wc_at (cy := cy) (ad := ad) (ks := ks) (g := g) (u := u7) (κ := (.lo L2 i2)) hk.1 ⟨h_L2_i2.1, h_L2_i2.2⟩
  refine va_get (D := (dC, dI)) (ci := 4) (v := .int (u7 (10 + L2) (1100 + 8 * i2 + 0))) (C := RX4) (T := TX4) (N := 12) hx hb hts inlX4 hown hK hP q9 h9 rfl 3 (by decide) (hts _ mw_267) (fun _ h9 => h9) rfl dX4_copyFrom_33 ?_
  clear h9
  obtain ⟨q9, h9, ez9⟩ := wc_set (cy := cy) (ad := ad) (ks := ks) (g := g) (u := u7) (κ := (.lo L i)) (r := (10 + L)) (i := (1100 + 8 * i + 0)) (v := (u7 (10 + L2) (1100 + 8 * i2 + 0))) hk.1 ⟨h_L_i.1, h_L_i.2⟩ (own_lq (inl_lt h_L_i.1) h_L_i.2 (by decide)) (sf_lo_3)
  refine va_put (D := (dC, dI)) (ci := 4) (v := .int (u7 (10 + L2) (1100 + 8 * i2 + 0))) (ty := .int) (C := RX4) (T := TX4) (N := 12) hx hb hts inlX4 tyX4 tyX4_ok nmX4 hown hK hP hD hS q9 h9 rfl 3 (by decide) (hts _ mw_267) (fun _ h9 => h9) rfl (by decide +kernel) rfl rfl (Nat.le_of_ble_eq_true rfl) dX4_copyFrom_36 (fun H locs hP hD hS => ?_)
  obtain ⟨u9, e10, hF⟩ := ob hF
  have hP : va_P (dC, dI) vwCl (WC cy ad ks g u9) H := by rw [← pt_eq e10, ← ez9]; exact hP
  have hD : va_D A (WC cy ad ks g u9) := by rw [← pt_eq e10, ← ez9]; exact hD
  clear ez9 h9
  refine lv_aload_n hx hb dX4_copyFrom_39 rfl (lv_at hl 0 rfl) ?_
  refine lv_aload_n hx hb dX4_copyFrom_40 rfl (lv_at hl 1 rfl) ?_
  obtain ⟨q9, h9⟩ := wc_at (cy := cy) (ad := ad) (ks := ks) (g := g) (u := u9) (κ := (.lo L2 i2)) hk.1 ⟨h_L2_i2.1, h_L2_i2.2⟩
  refine va_get (D := (dC, dI)) (ci := 4) (v := .int (u9 (10 + L2) (1100 + 8 * i2 + 1))) (C := RX4) (T := TX4) (N := 12) hx hb hts inlX4 hown hK hP q9 h9 rfl 4 (by decide) (hts _ mw_268) (fun _ h9 => h9) rfl dX4_copyFrom_41 ?_
  clear h9
  obtain ⟨q9, h9, ez9⟩ := wc_set (cy := cy) (ad := ad) (ks := ks) (g := g) (u := u9) (κ := (.lo L i)) (r := (10 + L)) (i := (1100 + 8 * i + 1)) (v := (u9 (10 + L2) (1100 + 8 * i2 + 1))) hk.1 ⟨h_L_i.1, h_L_i.2⟩ (own_lq (inl_lt h_L_i.1) h_L_i.2 (by decide)) (sf_lo_4)
  refine va_put (D := (dC, dI)) (ci := 4) (v := .int (u9 (10 + L2) (1100 + 8 * i2 + 1))) (ty := .int) (C := RX4) (T := TX4) (N := 12) hx hb hts inlX4 tyX4 tyX4_ok nmX4 hown hK hP hD hS q9 h9 rfl 4 (by decide) (hts _ mw_268) (fun _ h9 => h9) rfl (by decide +kernel) rfl rfl (Nat.le_of_ble_eq_true rfl) dX4_copyFrom_44 (fun H locs hP hD hS => ?_)
  obtain ⟨u11, e12, hF⟩ := ob hF
  have hP : va_P (dC, dI) vwCl (WC cy ad ks g u11) H := by rw [← pt_eq e12, ← ez9]; exact hP
  have hD : va_D A (WC cy ad ks g u11) := by rw [← pt_eq e12, ← ez9]; exact hD
  clear ez9 h9
  refine lv_aload_n hx hb dX4_copyFrom_47 rfl (lv_at hl 0 rfl) ?_
  refine lv_aload_n hx hb dX4_copyFrom_48 rfl (lv_at hl 1 rfl) ?_
  obtain ⟨q9, h9⟩ := wc_at (cy := cy) (ad := ad) (ks := ks) (g := g) (u := u11) (κ := (.lo L2 i2)) hk.1 ⟨h_L2_i2.1, h_L2_i2.2⟩
  refine va_get (D := (dC, dI)) (ci := 4) (v := .int (u11 (10 + L2) (1100 + 8 * i2 + 2))) (C := RX4) (T := TX4) (N := 12) hx hb hts inlX4 hown hK hP q9 h9 rfl 5 (by decide) (hts _ mw_269) (fun _ h9 => h9) rfl dX4_copyFrom_49 ?_
  clear h9
  obtain ⟨q9, h9, ez9⟩ := wc_set (cy := cy) (ad := ad) (ks := ks) (g := g) (u := u11) (κ := (.lo L i)) (r := (10 + L)) (i := (1100 + 8 * i + 2)) (v := (u11 (10 + L2) (1100 + 8 * i2 + 2))) hk.1 ⟨h_L_i.1, h_L_i.2⟩ (own_lq (inl_lt h_L_i.1) h_L_i.2 (by decide)) (sf_lo_5)
  refine va_put (D := (dC, dI)) (ci := 4) (v := .int (u11 (10 + L2) (1100 + 8 * i2 + 2))) (ty := .int) (C := RX4) (T := TX4) (N := 12) hx hb hts inlX4 tyX4 tyX4_ok nmX4 hown hK hP hD hS q9 h9 rfl 5 (by decide) (hts _ mw_269) (fun _ h9 => h9) rfl (by decide +kernel) rfl rfl (Nat.le_of_ble_eq_true rfl) dX4_copyFrom_52 (fun H locs hP hD hS => ?_)
  obtain ⟨u13, e14, hF⟩ := ob hF
  have hP : va_P (dC, dI) vwCl (WC cy ad ks g u13) H := by rw [← pt_eq e14, ← ez9]; exact hP
  have hD : va_D A (WC cy ad ks g u13) := by rw [← pt_eq e14, ← ez9]; exact hD
  clear ez9 h9
  refine lv_aload_n hx hb dX4_copyFrom_55 rfl (lv_at hl 0 rfl) ?_
  refine lv_aload_n hx hb dX4_copyFrom_56 rfl (lv_at hl 1 rfl) ?_
  obtain ⟨q9, h9⟩ := wc_at (cy := cy) (ad := ad) (ks := ks) (g := g) (u := u13) (κ := (.lo L2 i2)) hk.1 ⟨h_L2_i2.1, h_L2_i2.2⟩
  refine va_get (D := (dC, dI)) (ci := 4) (v := .int (u13 (10 + L2) (1100 + 8 * i2 + 3))) (C := RX4) (T := TX4) (N := 12) hx hb hts inlX4 hown hK hP q9 h9 rfl 6 (by decide) (hts _ mw_270) (fun _ h9 => h9) rfl dX4_copyFrom_57 ?_
  clear h9
  obtain ⟨q9, h9, ez9⟩ := wc_set (cy := cy) (ad := ad) (ks := ks) (g := g) (u := u13) (κ := (.lo L i)) (r := (10 + L)) (i := (1100 + 8 * i + 3)) (v := (u13 (10 + L2) (1100 + 8 * i2 + 3))) hk.1 ⟨h_L_i.1, h_L_i.2⟩ (own_lq (inl_lt h_L_i.1) h_L_i.2 (by decide)) (sf_lo_6)
  refine va_put (D := (dC, dI)) (ci := 4) (v := .int (u13 (10 + L2) (1100 + 8 * i2 + 3))) (ty := .int) (C := RX4) (T := TX4) (N := 12) hx hb hts inlX4 tyX4 tyX4_ok nmX4 hown hK hP hD hS q9 h9 rfl 6 (by decide) (hts _ mw_270) (fun _ h9 => h9) rfl (by decide +kernel) rfl rfl (Nat.le_of_ble_eq_true rfl) dX4_copyFrom_60 (fun H locs hP hD hS => ?_)
  obtain ⟨u15, e16, hF⟩ := ob hF
  have hP : va_P (dC, dI) vwCl (WC cy ad ks g u15) H := by rw [← pt_eq e16, ← ez9]; exact hP
  have hD : va_D A (WC cy ad ks g u15) := by rw [← pt_eq e16, ← ez9]; exact hD
  clear ez9 h9
  refine lv_aload_n hx hb dX4_copyFrom_63 rfl (lv_at hl 0 rfl) ?_
  refine lv_aload_n hx hb dX4_copyFrom_64 rfl (lv_at hl 1 rfl) ?_
  obtain ⟨q9, h9⟩ := wc_at (cy := cy) (ad := ad) (ks := ks) (g := g) (u := u15) (κ := (.lo L2 i2)) hk.1 ⟨h_L2_i2.1, h_L2_i2.2⟩
  refine va_get (D := (dC, dI)) (ci := 4) (v := .int (u15 (10 + L2) (1100 + 8 * i2 + 4))) (C := RX4) (T := TX4) (N := 12) hx hb hts inlX4 hown hK hP q9 h9 rfl 7 (by decide) (hts _ mw_271) (fun _ h9 => h9) rfl dX4_copyFrom_65 ?_
  clear h9
  obtain ⟨q9, h9, ez9⟩ := wc_set (cy := cy) (ad := ad) (ks := ks) (g := g) (u := u15) (κ := (.lo L i)) (r := (10 + L)) (i := (1100 + 8 * i + 4)) (v := (u15 (10 + L2) (1100 + 8 * i2 + 4))) hk.1 ⟨h_L_i.1, h_L_i.2⟩ (own_lq (inl_lt h_L_i.1) h_L_i.2 (by decide)) (sf_lo_7)
  refine va_put (D := (dC, dI)) (ci := 4) (v := .int (u15 (10 + L2) (1100 + 8 * i2 + 4))) (ty := .int) (C := RX4) (T := TX4) (N := 12) hx hb hts inlX4 tyX4 tyX4_ok nmX4 hown hK hP hD hS q9 h9 rfl 7 (by decide) (hts _ mw_271) (fun _ h9 => h9) rfl (by decide +kernel) rfl rfl (Nat.le_of_ble_eq_true rfl) dX4_copyFrom_68 (fun H locs hP hD hS => ?_)
  obtain ⟨u17, e18, hF⟩ := ob hF
  have hP : va_P (dC, dI) vwCl (WC cy ad ks g u17) H := by rw [← pt_eq e18, ← ez9]; exact hP
  have hD : va_D A (WC cy ad ks g u17) := by rw [← pt_eq e18, ← ez9]; exact hD
  clear ez9 h9
  refine lv_aload_n hx hb dX4_copyFrom_71 rfl (lv_at hl 0 rfl) ?_
  refine lv_aload_n hx hb dX4_copyFrom_72 rfl (lv_at hl 1 rfl) ?_
  obtain ⟨q9, h9⟩ := wc_at (cy := cy) (ad := ad) (ks := ks) (g := g) (u := u17) (κ := (.lo L2 i2)) hk.1 ⟨h_L2_i2.1, h_L2_i2.2⟩
  refine va_get (D := (dC, dI)) (ci := 4) (v := .int (u17 (10 + L2) (113 + 4 * i2 + 2))) (C := RX4) (T := TX4) (N := 12) hx hb hts inlX4 hown hK hP q9 h9 rfl 8 (by decide) (hts _ mw_272) (fun _ h9 => h9) rfl dX4_copyFrom_73 ?_
  clear h9
  obtain ⟨q9, h9, ez9⟩ := wc_set (cy := cy) (ad := ad) (ks := ks) (g := g) (u := u17) (κ := (.lo L i)) (r := (10 + L)) (i := (113 + 4 * i + 2)) (v := (u17 (10 + L2) (113 + 4 * i2 + 2))) hk.1 ⟨h_L_i.1, h_L_i.2⟩ (own_lo (inl_lt h_L_i.1) h_L_i.2 (by decide)) (sf_lo_8)
  refine va_put (D := (dC, dI)) (ci := 4) (v := .int (u17 (10 + L2) (113 + 4 * i2 + 2))) (ty := .int) (C := RX4) (T := TX4) (N := 12) hx hb hts inlX4 tyX4 tyX4_ok nmX4 hown hK hP hD hS q9 h9 rfl 8 (by decide) (hts _ mw_272) (fun _ h9 => h9) rfl (by decide +kernel) rfl rfl (Nat.le_of_ble_eq_true rfl) dX4_copyFrom_76 (fun H locs hP hD hS => ?_)
  obtain ⟨u19, e20, hF⟩ := ob hF
  have hP : va_P (dC, dI) vwCl (WC cy ad ks g u19) H := by rw [← pt_eq e20, ← ez9]; exact hP
  have hD : va_D A (WC cy ad ks g u19) := by rw [← pt_eq e20, ← ez9]; exact hD
  clear ez9 h9
  refine lv_aload_n hx hb dX4_copyFrom_79 rfl (lv_at hl 0 rfl) ?_
  refine lv_aload_n hx hb dX4_copyFrom_80 rfl (lv_at hl 1 rfl) ?_
  obtain ⟨q9, h9⟩ := wc_at (cy := cy) (ad := ad) (ks := ks) (g := g) (u := u19) (κ := (.lo L2 i2)) hk.1 ⟨h_L2_i2.1, h_L2_i2.2⟩
  refine va_get (D := (dC, dI)) (ci := 4) (v := .int (u19 (10 + L2) (113 + 4 * i2 + 3))) (C := RX4) (T := TX4) (N := 12) hx hb hts inlX4 hown hK hP q9 h9 rfl 9 (by decide) (hts _ mw_273) (fun _ h9 => h9) rfl dX4_copyFrom_81 ?_
  clear h9
  obtain ⟨q9, h9, ez9⟩ := wc_set (cy := cy) (ad := ad) (ks := ks) (g := g) (u := u19) (κ := (.lo L i)) (r := (10 + L)) (i := (113 + 4 * i + 3)) (v := (u19 (10 + L2) (113 + 4 * i2 + 3))) hk.1 ⟨h_L_i.1, h_L_i.2⟩ (own_lo (inl_lt h_L_i.1) h_L_i.2 (by decide)) (sf_lo_9)
  refine va_put (D := (dC, dI)) (ci := 4) (v := .int (u19 (10 + L2) (113 + 4 * i2 + 3))) (ty := .int) (C := RX4) (T := TX4) (N := 12) hx hb hts inlX4 tyX4 tyX4_ok nmX4 hown hK hP hD hS q9 h9 rfl 9 (by decide) (hts _ mw_273) (fun _ h9 => h9) rfl (by decide +kernel) rfl rfl (Nat.le_of_ble_eq_true rfl) dX4_copyFrom_84 (fun H locs hP hD hS => ?_)
  obtain ⟨u21, e22, hF⟩ := ob hF
  have hP : va_P (dC, dI) vwCl (WC cy ad ks g u21) H := by rw [← pt_eq e22, ← ez9]; exact hP
  have hD : va_D A (WC cy ad ks g u21) := by rw [← pt_eq e22, ← ez9]; exact hD
  clear ez9 h9
  refine lv_aload_n hx hb dX4_copyFrom_87 rfl (lv_at hl 1 rfl) ?_
  obtain ⟨q9, h9⟩ := wc_at (cy := cy) (ad := ad) (ks := ks) (g := g) (u := u21) (κ := (.lo L2 i2)) hk.1 ⟨h_L2_i2.1, h_L2_i2.2⟩
  refine va_get (D := (dC, dI)) (ci := 4) (v := .ref (ad (.dl L2 i2))) (C := RX4) (T := TX4) (N := 12) hx hb hts inlX4 hown hK hP q9 h9 rfl 10 (by decide) (hts _ mw_63) (fun _ h9 => h9) rfl dX4_copyFrom_88 ?_
  clear h9
  refine lv_iconst (v := 0) hx hb dX4_copyFrom_91 (by decide) ?_
  refine lv_aload_n hx hb dX4_copyFrom_92 rfl (lv_at hl 0 rfl) ?_
  obtain ⟨q9, h9⟩ := wc_at (cy := cy) (ad := ad) (ks := ks) (g := g) (u := u21) (κ := (.lo L i)) hk.1 ⟨h_L_i.1, h_L_i.2⟩
  refine va_get (D := (dC, dI)) (ci := 4) (v := .ref (ad (.dl L i))) (C := RX4) (T := TX4) (N := 12) hx hb hts inlX4 hown hK hP q9 h9 rfl 10 (by decide) (hts _ mw_63) (fun _ h9 => h9) rfl dX4_copyFrom_93 ?_
  clear h9
  refine lv_iconst (v := 0) hx hb dX4_copyFrom_96 (by decide) ?_
  refine lv_bipush (v := 10) hx hb dX4_copyFrom_97 (by decide) ?_
  obtain ⟨n23, e24, hF⟩ := ob hF
  obtain ⟨u25, e26, hF⟩ := ob hF
  obtain ⟨⟨⟨c1, c2, c3, c4, c5⟩, c6⟩, c7⟩ := cpo_s e24
  obtain ⟨q9, h9, ez9⟩ := wc_gen (cy := cy) (ad := ad) (ks := ks) (g := g) (u := u21) (u2 := cpR u21 (200 + 6 * L + i) ((0) : Int32).toNatClampNeg (u21 (200 + 6 * L2 + i2)) ((0) : Int32).toNatClampNeg n23) (κ := (.dl L i)) hk.1 ⟨h_L_i.1, h_L_i.2⟩ (cd_dl (inl_lt h_L_i.1) h_L_i.2) sc_dl
  obtain ⟨q7, h7⟩ := wc_at (cy := cy) (ad := ad) (ks := ks) (g := g) (u := u21) (κ := (.dl L2 i2)) hk.1 ⟨h_L2_i2.1, h_L2_i2.2⟩
  refine va_copyi hx hb (hml.trans hl.1.symm) hown (hts _ mw_405) (hts _ mw_302) (hts _ mw_303) (hts _ mw_304) hK hP hD hS q7 q9 1 1 h7 h9 rfl rfl rfl (nn_of c1) (nn_of c2) (nn_of c3) c4 c5 (fun _ _ => rfl) (Nat.le_of_ble_eq_true rfl) (Nat.le_of_ble_eq_true rfl) dX4_copyFrom_99 (fun H locs hP hD hS => ?_)
  rw [show ((10) : Int32).toNatClampNeg = n23 from c7] at hP hD
  have hP : va_P (dC, dI) vwCl (WC cy ad ks g u25) H := by rw [← s1 e26, ← ez9]; exact hP
  have hD : va_D A (WC cy ad ks g u25) := by rw [← s1 e26, ← ez9]; exact hD
  clear ez9 h9
  clear h7 c1 c2 c3 c4 c5 c6 c7
  refine lv_aload_n hx hb dX4_copyFrom_102 rfl (lv_at hl 1 rfl) ?_
  obtain ⟨q9, h9⟩ := wc_at (cy := cy) (ad := ad) (ks := ks) (g := g) (u := u25) (κ := (.lo L2 i2)) hk.1 ⟨h_L2_i2.1, h_L2_i2.2⟩
  refine va_get (D := (dC, dI)) (ci := 4) (v := .ref (ad (.df L2 i2))) (C := RX4) (T := TX4) (N := 12) hx hb hts inlX4 hown hK hP q9 h9 rfl 11 (by decide) (hts _ mw_64) (fun _ h9 => h9) rfl dX4_copyFrom_103 ?_
  clear h9
  refine lv_iconst (v := 0) hx hb dX4_copyFrom_106 (by decide) ?_
  refine lv_aload_n hx hb dX4_copyFrom_107 rfl (lv_at hl 0 rfl) ?_
  obtain ⟨q9, h9⟩ := wc_at (cy := cy) (ad := ad) (ks := ks) (g := g) (u := u25) (κ := (.lo L i)) hk.1 ⟨h_L_i.1, h_L_i.2⟩
  refine va_get (D := (dC, dI)) (ci := 4) (v := .ref (ad (.df L i))) (C := RX4) (T := TX4) (N := 12) hx hb hts inlX4 hown hK hP q9 h9 rfl 11 (by decide) (hts _ mw_64) (fun _ h9 => h9) rfl dX4_copyFrom_108 ?_
  clear h9
  refine lv_iconst (v := 0) hx hb dX4_copyFrom_111 (by decide) ?_
  refine lv_bipush (v := 10) hx hb dX4_copyFrom_112 (by decide) ?_
  obtain ⟨n27, e28, hF⟩ := ob hF
  obtain ⟨u29, e30, hF⟩ := ob hF
  obtain ⟨⟨⟨c1, c2, c3, c4, c5⟩, c6⟩, c7⟩ := cpo_s e28
  obtain ⟨q9, h9, ez9⟩ := wc_gen (cy := cy) (ad := ad) (ks := ks) (g := g) (u := u25) (u2 := cpR u25 (300 + 6 * L + i) ((0) : Int32).toNatClampNeg (u25 (300 + 6 * L2 + i2)) ((0) : Int32).toNatClampNeg n27) (κ := (.df L i)) hk.1 ⟨h_L_i.1, h_L_i.2⟩ (cd_df (inl_lt h_L_i.1) h_L_i.2) sc_df
  obtain ⟨q7, h7⟩ := wc_at (cy := cy) (ad := ad) (ks := ks) (g := g) (u := u25) (κ := (.df L2 i2)) hk.1 ⟨h_L2_i2.1, h_L2_i2.2⟩
  refine va_copyi hx hb (hml.trans hl.1.symm) hown (hts _ mw_405) (hts _ mw_302) (hts _ mw_303) (hts _ mw_304) hK hP hD hS q7 q9 1 1 h7 h9 rfl rfl rfl (nn_of c1) (nn_of c2) (nn_of c3) c4 c5 (fun _ _ => rfl) (Nat.le_of_ble_eq_true rfl) (Nat.le_of_ble_eq_true rfl) dX4_copyFrom_114 (fun H locs hP hD hS => ?_)
  rw [show ((10) : Int32).toNatClampNeg = n27 from c7] at hP hD
  have hP : va_P (dC, dI) vwCl (WC cy ad ks g u29) H := by rw [← s1 e30, ← ez9]; exact hP
  have hD : va_D A (WC cy ad ks g u29) := by rw [← s1 e30, ← ez9]; exact hD
  clear ez9 h9
  clear h7 c1 c2 c3 c4 c5 c6 c7
  have hZ := s1 hF
  have zuz : u29 = uz := hZ
  have hP9 : va_P (dC, dI) vwCl (WC cy ad ks g uz) H := by rw [← zuz]; exact hP
  have hD9 : va_D A (WC cy ad ks g uz) := by rw [← zuz]; exact hD
  rw [hQ]
  exact W.vret hx hb hr (fun t ht hW => ⟨⟨(), rfl, trivial, by rw [ht]; exact hP9, hD9⟩, hS.F ht⟩) hS.2.2 dX4_copyFrom_117
noncomputable def C3_copyFrom_L144 (L : Nat) (L2 : Nat) (g : CG) : Nat → Int32 → RS → Option (Int32 × RS)
  | 0, _, _ => none
  | m52 + 1, y33, u34 => if (u34 (10 + L) 9) ≤ y33 then (some ((y33, u34))) else ((ix 30 y33).bind fun n54 => (ix 30 y33).bind fun n56 => (C1_copyFrom g u34 L n54 L2 n56).bind fun u58 => C3_copyFrom_L144 L L2 g m52 ((y33 + 1)) u58)
noncomputable def C3_copyFrom_L113 (L : Nat) (L2 : Nat) (g : CG) : Nat → Int32 → RS → Option (Int32 × RS)
  | 0, _, _ => none
  | m61 + 1, y27, u28 => if (u28 (10 + L) 8) ≤ y27 then (some ((y27, u28))) else ((ix 6 y27).bind fun n63 => (ix 6 y27).bind fun n65 => (C4_copyFrom g u28 L n63 L2 n65).bind fun u67 => C3_copyFrom_L113 L L2 g m61 ((y27 + 1)) u67)
noncomputable def C3_copyFrom_L82 (L : Nat) (L2 : Nat) (g : CG) : Nat → Int32 → RS → Option (Int32 × RS)
  | 0, _, _ => none
  | m70 + 1, y21, u22 => if (u22 (10 + L) 7) ≤ y21 then (some ((y21, u22))) else ((ix 6 y21).bind fun n72 => (ix 6 y21).bind fun n74 => (C6_copyFrom g u22 L n72 L2 n74).bind fun u76 => C3_copyFrom_L82 L L2 g m70 ((y21 + 1)) u76)
noncomputable def C3_copyFrom (g : CG) (u0 : RS) (L : Nat) (L2 : Nat) : Option (RS) := (pt u0 (10 + L) 0 (u0 (10 + L2) 0)).bind fun u1 => (pt u1 (10 + L) 1 (u1 (10 + L2) 1)).bind fun u3 => (pt u3 (10 + L) 2 (u3 (10 + L2) 2)).bind fun u5 => (pt u5 (10 + L) 3 (u5 (10 + L2) 3)).bind fun u7 => (pt u7 (10 + L) 4 (u7 (10 + L2) 4)).bind fun u9 => (pt u9 (10 + L) 5 (u9 (10 + L2) 5)).bind fun u11 => (pt u11 (10 + L) 6 (u11 (10 + L2) 6)).bind fun u13 => (pt u13 (10 + L) 7 (u13 (10 + L2) 7)).bind fun u15 => (pt u15 (10 + L) 8 (u15 (10 + L2) 8)).bind fun u17 => (pt u17 (10 + L) 9 (u17 (10 + L2) 9)).bind fun u19 => (C3_copyFrom_L82 L L2 g FUEL (0 : Int32) u19).bind fun t23 => (C3_copyFrom_L113 L L2 g FUEL (0 : Int32) (t23.2)).bind fun t29 => (C3_copyFrom_L144 L L2 g FUEL (0 : Int32) (t29.2)).bind fun t35 => (cpo 5 5 ((t35.2) (400 + L2)) false (0) (0) (5)).bind fun n39 => (some (cpR (t35.2) (400 + L) ((0) : Int32).toNatClampNeg ((t35.2) (400 + L2)) ((0) : Int32).toNatClampNeg n39)).bind fun u41 => (cpo 30 30 (fun j => if j < 30 then u41 (10 + L2) (887 + j) else 0) false (0) (0) (30)).bind fun n43 => (some (cpR u41 (10 + L) 887 (fun j => if j < 30 then u41 (10 + L2) (887 + j) else 0) 0 30)).bind fun u45 => (cpo 5 5 (fun j => if j < 5 then u45 (10 + L2) (12 + j) else 0) false (0) (0) (5)).bind fun n47 => (some (cpR u45 (10 + L) 12 (fun j => if j < 5 then u45 (10 + L2) (12 + j) else 0) 0 5)).bind fun u49 => some u49
set_option maxHeartbeats 4000000 in
set_option maxRecDepth 100000 in
theorem c_X3_copyFrom (l : Launch) (dC : Nat → ClassId) (dI : Nat → Nat → Nat) (cy : Nat → ClassId) (nb : Nat → Nat) (ad : CK → Nat) (ks : List CK) (g : CG) (hk : GA nb ad g ks) (u0 : RS) (L : Nat) (L2 : Nat) (uz : RS) (sz : Nat) (h_L : has g (.ln L)) (h_L2 : has g (.ln L2)) (hF : C3_copyFrom g u0 L L2 = some uz) : Met l yX3_copyFrom (wsg yX3_copyFrom cX3_copyFrom 3 none) ({ frames := 8, cells := 0, slots := 0, locals := 300 }) (va_Pc [.ref (ad (.ln L)), .ref (ad (.ln L2))] (fun U => U.heap.size = sz ∧ va_P (dC, dI) vwCl (WC cy ad ks g u0) U.heap ∧ va_K (dC, dI) vwCl (tyL cy) U ∧ va_D (fun _ => True) (WC cy ad ks g u0) ∧ GE nb (va_A (WC cy ad ks g u0) sz) U)) (va_Qv (fun (_ : Unit) => True) (fun _ t => va_P (dC, dI) vwCl (WC cy ad ks g uz) t.heap ∧ va_D (va_A (WC cy ad ks g u0) sz) (WC cy ad ks g uz)) (va_A (WC cy ad ks g u0) sz)) 0 0 (va_A (WC cy ad ks g u0) sz) := by
  refine Met.ofW (cc := cX3_copyFrom) (maxL := 3) (ret := none) pn_X3 rfl ?_
  intro p e s m args below meth c s₁ B hml hv
  obtain ⟨rfl, hsz, hP, hK, hD0, hE⟩ := hv
  have hx := B.exec
  have hb := B.bytes
  have hr := B.returns
  have hts0 := atoms_spec (ws := (wsg yX3_copyFrom cX3_copyFrom 3 none)) B.pre
  have hts : ∀ w ∈ wsL_law, w.before _ s = true := fun w h => hts0 w (List.mem_cons_of_mem _ h)
  have hown : s.vm.findClass RX3 = some m.cls := by have h9 := findClass_of_methodNamed B.named; exact h9
  have hlocks := B.notSynchronized
  subst hsz
  have hD := hD0.self (sz := s.heap.size)
  generalize hAe : va_A (WC cy ad ks g u0) s.heap.size = A at hD hE ⊢
  have hA : ∀ q : Nat, s.heap.size ≤ q → A q := fun q h => by rw [← hAe]; exact Or.inr h
  have hS : va_S A s.heap s.heap [] := va_S.rf
  have hl := lv_entry ([.ref (ad (.ln L)), .ref (ad (.ln L2))]) (n := 3) (Nat.le_of_ble_eq_true rfl)
  rw [lg_entry_eq]
  generalize (lg_sl ([.ref (ad (.ln L)), .ref (ad (.ln L2))]) ++ List.replicate (3 - (lg_sl ([.ref (ad (.ln L)), .ref (ad (.ln L2))])).length) Slot.unset).toArray = ls at hl ⊢
  have hl : lv_has ls 3 [(0, .ref (ad (.ln L))), (1, .ref (ad (.ln L2)))] := hl
  generalize hHe : s.heap = H at hP hS ⊢
  have hS : va_S A s.heap H [] := by rw [hHe]; exact hS
  refine my_Q (fun Qn hQ => ?_)
  simp only [C3_copyFrom] at hF
  refine lv_aload_n hx hb dX3_copyFrom_0 rfl (lv_at hl 0 rfl) ?_
  refine lv_aload_n hx hb dX3_copyFrom_1 rfl (lv_at hl 1 rfl) ?_
  obtain ⟨q9, h9⟩ := wc_at (cy := cy) (ad := ad) (ks := ks) (g := g) (u := u0) (κ := (.ln L2)) hk.1 h_L2
  refine va_get (D := (dC, dI)) (ci := 3) (v := .int (u0 (10 + L2) 0)) (C := RX3) (T := TX3) (N := 17) hx hb hts inlX3 hown hK hP q9 h9 rfl 0 (by decide) (hts _ mw_39) (fun _ h9 => h9) rfl dX3_copyFrom_2 ?_
  clear h9
  obtain ⟨q9, h9, ez9⟩ := wc_set (cy := cy) (ad := ad) (ks := ks) (g := g) (u := u0) (κ := (.ln L)) (r := (10 + L)) (i := 0) (v := (u0 (10 + L2) 0)) hk.1 h_L (own_ln (inl_lt h_L) (by decide)) (sf_ln_0)
  refine va_put (D := (dC, dI)) (ci := 3) (v := .int (u0 (10 + L2) 0)) (ty := .int) (C := RX3) (T := TX3) (N := 17) hx hb hts inlX3 tyX3 tyX3_ok nmX3 hown hK hP hD hS q9 h9 rfl 0 (by decide) (hts _ mw_39) (fun _ h9 => h9) rfl (by decide +kernel) rfl rfl (Nat.le_of_ble_eq_true rfl) dX3_copyFrom_5 (fun H locs hP hD hS => ?_)
  obtain ⟨u1, e2, hF⟩ := ob hF
  have hP : va_P (dC, dI) vwCl (WC cy ad ks g u1) H := by rw [← pt_eq e2, ← ez9]; exact hP
  have hD : va_D A (WC cy ad ks g u1) := by rw [← pt_eq e2, ← ez9]; exact hD
  clear ez9 h9
  refine lv_aload_n hx hb dX3_copyFrom_8 rfl (lv_at hl 0 rfl) ?_
  refine lv_aload_n hx hb dX3_copyFrom_9 rfl (lv_at hl 1 rfl) ?_
  obtain ⟨q9, h9⟩ := wc_at (cy := cy) (ad := ad) (ks := ks) (g := g) (u := u1) (κ := (.ln L2)) hk.1 h_L2
  refine va_get (D := (dC, dI)) (ci := 3) (v := .int (u1 (10 + L2) 1)) (C := RX3) (T := TX3) (N := 17) hx hb hts inlX3 hown hK hP q9 h9 rfl 1 (by decide) (hts _ mw_83) (fun _ h9 => h9) rfl dX3_copyFrom_10 ?_
  clear h9
  obtain ⟨q9, h9, ez9⟩ := wc_set (cy := cy) (ad := ad) (ks := ks) (g := g) (u := u1) (κ := (.ln L)) (r := (10 + L)) (i := 1) (v := (u1 (10 + L2) 1)) hk.1 h_L (own_ln (inl_lt h_L) (by decide)) (sf_ln_1)
  refine va_put (D := (dC, dI)) (ci := 3) (v := .int (u1 (10 + L2) 1)) (ty := .int) (C := RX3) (T := TX3) (N := 17) hx hb hts inlX3 tyX3 tyX3_ok nmX3 hown hK hP hD hS q9 h9 rfl 1 (by decide) (hts _ mw_83) (fun _ h9 => h9) rfl (by decide +kernel) rfl rfl (Nat.le_of_ble_eq_true rfl) dX3_copyFrom_13 (fun H locs hP hD hS => ?_)
  obtain ⟨u3, e4, hF⟩ := ob hF
  have hP : va_P (dC, dI) vwCl (WC cy ad ks g u3) H := by rw [← pt_eq e4, ← ez9]; exact hP
  have hD : va_D A (WC cy ad ks g u3) := by rw [← pt_eq e4, ← ez9]; exact hD
  clear ez9 h9
  refine lv_aload_n hx hb dX3_copyFrom_16 rfl (lv_at hl 0 rfl) ?_
  refine lv_aload_n hx hb dX3_copyFrom_17 rfl (lv_at hl 1 rfl) ?_
  obtain ⟨q9, h9⟩ := wc_at (cy := cy) (ad := ad) (ks := ks) (g := g) (u := u3) (κ := (.ln L2)) hk.1 h_L2
  refine va_get (D := (dC, dI)) (ci := 3) (v := .int (u3 (10 + L2) 2)) (C := RX3) (T := TX3) (N := 17) hx hb hts inlX3 hown hK hP q9 h9 rfl 2 (by decide) (hts _ mw_84) (fun _ h9 => h9) rfl dX3_copyFrom_18 ?_
  clear h9
  obtain ⟨q9, h9, ez9⟩ := wc_set (cy := cy) (ad := ad) (ks := ks) (g := g) (u := u3) (κ := (.ln L)) (r := (10 + L)) (i := 2) (v := (u3 (10 + L2) 2)) hk.1 h_L (own_ln (inl_lt h_L) (by decide)) (sf_ln_2)
  refine va_put (D := (dC, dI)) (ci := 3) (v := .int (u3 (10 + L2) 2)) (ty := .int) (C := RX3) (T := TX3) (N := 17) hx hb hts inlX3 tyX3 tyX3_ok nmX3 hown hK hP hD hS q9 h9 rfl 2 (by decide) (hts _ mw_84) (fun _ h9 => h9) rfl (by decide +kernel) rfl rfl (Nat.le_of_ble_eq_true rfl) dX3_copyFrom_21 (fun H locs hP hD hS => ?_)
  obtain ⟨u5, e6, hF⟩ := ob hF
  have hP : va_P (dC, dI) vwCl (WC cy ad ks g u5) H := by rw [← pt_eq e6, ← ez9]; exact hP
  have hD : va_D A (WC cy ad ks g u5) := by rw [← pt_eq e6, ← ez9]; exact hD
  clear ez9 h9
  refine lv_aload_n hx hb dX3_copyFrom_24 rfl (lv_at hl 0 rfl) ?_
  refine lv_aload_n hx hb dX3_copyFrom_25 rfl (lv_at hl 1 rfl) ?_
  obtain ⟨q9, h9⟩ := wc_at (cy := cy) (ad := ad) (ks := ks) (g := g) (u := u5) (κ := (.ln L2)) hk.1 h_L2
  refine va_get (D := (dC, dI)) (ci := 3) (v := .int (u5 (10 + L2) 3)) (C := RX3) (T := TX3) (N := 17) hx hb hts inlX3 hown hK hP q9 h9 rfl 3 (by decide) (hts _ mw_80) (fun _ h9 => h9) rfl dX3_copyFrom_26 ?_
  clear h9
  obtain ⟨q9, h9, ez9⟩ := wc_set (cy := cy) (ad := ad) (ks := ks) (g := g) (u := u5) (κ := (.ln L)) (r := (10 + L)) (i := 3) (v := (u5 (10 + L2) 3)) hk.1 h_L (own_ln (inl_lt h_L) (by decide)) (sf_ln_3)
  refine va_put (D := (dC, dI)) (ci := 3) (v := .int (u5 (10 + L2) 3)) (ty := .int) (C := RX3) (T := TX3) (N := 17) hx hb hts inlX3 tyX3 tyX3_ok nmX3 hown hK hP hD hS q9 h9 rfl 3 (by decide) (hts _ mw_80) (fun _ h9 => h9) rfl (by decide +kernel) rfl rfl (Nat.le_of_ble_eq_true rfl) dX3_copyFrom_29 (fun H locs hP hD hS => ?_)
  obtain ⟨u7, e8, hF⟩ := ob hF
  have hP : va_P (dC, dI) vwCl (WC cy ad ks g u7) H := by rw [← pt_eq e8, ← ez9]; exact hP
  have hD : va_D A (WC cy ad ks g u7) := by rw [← pt_eq e8, ← ez9]; exact hD
  clear ez9 h9
  refine lv_aload_n hx hb dX3_copyFrom_32 rfl (lv_at hl 0 rfl) ?_
  refine lv_aload_n hx hb dX3_copyFrom_33 rfl (lv_at hl 1 rfl) ?_
  obtain ⟨q9, h9⟩ := wc_at (cy := cy) (ad := ad) (ks := ks) (g := g) (u := u7) (κ := (.ln L2)) hk.1 h_L2
  refine va_get (D := (dC, dI)) (ci := 3) (v := .int (u7 (10 + L2) 4)) (C := RX3) (T := TX3) (N := 17) hx hb hts inlX3 hown hK hP q9 h9 rfl 4 (by decide) (hts _ mw_81) (fun _ h9 => h9) rfl dX3_copyFrom_34 ?_
  clear h9
  obtain ⟨q9, h9, ez9⟩ := wc_set (cy := cy) (ad := ad) (ks := ks) (g := g) (u := u7) (κ := (.ln L)) (r := (10 + L)) (i := 4) (v := (u7 (10 + L2) 4)) hk.1 h_L (own_ln (inl_lt h_L) (by decide)) (sf_ln_4)
  refine va_put (D := (dC, dI)) (ci := 3) (v := .int (u7 (10 + L2) 4)) (ty := .int) (C := RX3) (T := TX3) (N := 17) hx hb hts inlX3 tyX3 tyX3_ok nmX3 hown hK hP hD hS q9 h9 rfl 4 (by decide) (hts _ mw_81) (fun _ h9 => h9) rfl (by decide +kernel) rfl rfl (Nat.le_of_ble_eq_true rfl) dX3_copyFrom_37 (fun H locs hP hD hS => ?_)
  obtain ⟨u9, e10, hF⟩ := ob hF
  have hP : va_P (dC, dI) vwCl (WC cy ad ks g u9) H := by rw [← pt_eq e10, ← ez9]; exact hP
  have hD : va_D A (WC cy ad ks g u9) := by rw [← pt_eq e10, ← ez9]; exact hD
  clear ez9 h9
  refine lv_aload_n hx hb dX3_copyFrom_40 rfl (lv_at hl 0 rfl) ?_
  refine lv_aload_n hx hb dX3_copyFrom_41 rfl (lv_at hl 1 rfl) ?_
  obtain ⟨q9, h9⟩ := wc_at (cy := cy) (ad := ad) (ks := ks) (g := g) (u := u9) (κ := (.ln L2)) hk.1 h_L2
  refine va_get (D := (dC, dI)) (ci := 3) (v := .int (u9 (10 + L2) 5)) (C := RX3) (T := TX3) (N := 17) hx hb hts inlX3 hown hK hP q9 h9 rfl 5 (by decide) (hts _ mw_82) (fun _ h9 => h9) rfl dX3_copyFrom_42 ?_
  clear h9
  obtain ⟨q9, h9, ez9⟩ := wc_set (cy := cy) (ad := ad) (ks := ks) (g := g) (u := u9) (κ := (.ln L)) (r := (10 + L)) (i := 5) (v := (u9 (10 + L2) 5)) hk.1 h_L (own_ln (inl_lt h_L) (by decide)) (sf_ln_5)
  refine va_put (D := (dC, dI)) (ci := 3) (v := .int (u9 (10 + L2) 5)) (ty := .int) (C := RX3) (T := TX3) (N := 17) hx hb hts inlX3 tyX3 tyX3_ok nmX3 hown hK hP hD hS q9 h9 rfl 5 (by decide) (hts _ mw_82) (fun _ h9 => h9) rfl (by decide +kernel) rfl rfl (Nat.le_of_ble_eq_true rfl) dX3_copyFrom_45 (fun H locs hP hD hS => ?_)
  obtain ⟨u11, e12, hF⟩ := ob hF
  have hP : va_P (dC, dI) vwCl (WC cy ad ks g u11) H := by rw [← pt_eq e12, ← ez9]; exact hP
  have hD : va_D A (WC cy ad ks g u11) := by rw [← pt_eq e12, ← ez9]; exact hD
  clear ez9 h9
  refine lv_aload_n hx hb dX3_copyFrom_48 rfl (lv_at hl 0 rfl) ?_
  refine lv_aload_n hx hb dX3_copyFrom_49 rfl (lv_at hl 1 rfl) ?_
  obtain ⟨q9, h9⟩ := wc_at (cy := cy) (ad := ad) (ks := ks) (g := g) (u := u11) (κ := (.ln L2)) hk.1 h_L2
  refine va_get (D := (dC, dI)) (ci := 3) (v := .int (u11 (10 + L2) 6)) (C := RX3) (T := TX3) (N := 17) hx hb hts inlX3 hown hK hP q9 h9 rfl 6 (by decide) (hts _ mw_85) (fun _ h9 => h9) rfl dX3_copyFrom_50 ?_
  clear h9
  obtain ⟨q9, h9, ez9⟩ := wc_set (cy := cy) (ad := ad) (ks := ks) (g := g) (u := u11) (κ := (.ln L)) (r := (10 + L)) (i := 6) (v := (u11 (10 + L2) 6)) hk.1 h_L (own_ln (inl_lt h_L) (by decide)) (sf_ln_6)
  refine va_put (D := (dC, dI)) (ci := 3) (v := .int (u11 (10 + L2) 6)) (ty := .int) (C := RX3) (T := TX3) (N := 17) hx hb hts inlX3 tyX3 tyX3_ok nmX3 hown hK hP hD hS q9 h9 rfl 6 (by decide) (hts _ mw_85) (fun _ h9 => h9) rfl (by decide +kernel) rfl rfl (Nat.le_of_ble_eq_true rfl) dX3_copyFrom_53 (fun H locs hP hD hS => ?_)
  obtain ⟨u13, e14, hF⟩ := ob hF
  have hP : va_P (dC, dI) vwCl (WC cy ad ks g u13) H := by rw [← pt_eq e14, ← ez9]; exact hP
  have hD : va_D A (WC cy ad ks g u13) := by rw [← pt_eq e14, ← ez9]; exact hD
  clear ez9 h9
  refine lv_aload_n hx hb dX3_copyFrom_56 rfl (lv_at hl 0 rfl) ?_
  refine lv_aload_n hx hb dX3_copyFrom_57 rfl (lv_at hl 1 rfl) ?_
  obtain ⟨q9, h9⟩ := wc_at (cy := cy) (ad := ad) (ks := ks) (g := g) (u := u13) (κ := (.ln L2)) hk.1 h_L2
  refine va_get (D := (dC, dI)) (ci := 3) (v := .int (u13 (10 + L2) 7)) (C := RX3) (T := TX3) (N := 17) hx hb hts inlX3 hown hK hP q9 h9 rfl 7 (by decide) (hts _ mw_86) (fun _ h9 => h9) rfl dX3_copyFrom_58 ?_
  clear h9
  obtain ⟨q9, h9, ez9⟩ := wc_set (cy := cy) (ad := ad) (ks := ks) (g := g) (u := u13) (κ := (.ln L)) (r := (10 + L)) (i := 7) (v := (u13 (10 + L2) 7)) hk.1 h_L (own_ln (inl_lt h_L) (by decide)) (sf_ln_7)
  refine va_put (D := (dC, dI)) (ci := 3) (v := .int (u13 (10 + L2) 7)) (ty := .int) (C := RX3) (T := TX3) (N := 17) hx hb hts inlX3 tyX3 tyX3_ok nmX3 hown hK hP hD hS q9 h9 rfl 7 (by decide) (hts _ mw_86) (fun _ h9 => h9) rfl (by decide +kernel) rfl rfl (Nat.le_of_ble_eq_true rfl) dX3_copyFrom_61 (fun H locs hP hD hS => ?_)
  obtain ⟨u15, e16, hF⟩ := ob hF
  have hP : va_P (dC, dI) vwCl (WC cy ad ks g u15) H := by rw [← pt_eq e16, ← ez9]; exact hP
  have hD : va_D A (WC cy ad ks g u15) := by rw [← pt_eq e16, ← ez9]; exact hD
  clear ez9 h9
  refine lv_aload_n hx hb dX3_copyFrom_64 rfl (lv_at hl 0 rfl) ?_
  refine lv_aload_n hx hb dX3_copyFrom_65 rfl (lv_at hl 1 rfl) ?_
  obtain ⟨q9, h9⟩ := wc_at (cy := cy) (ad := ad) (ks := ks) (g := g) (u := u15) (κ := (.ln L2)) hk.1 h_L2
  refine va_get (D := (dC, dI)) (ci := 3) (v := .int (u15 (10 + L2) 8)) (C := RX3) (T := TX3) (N := 17) hx hb hts inlX3 hown hK hP q9 h9 rfl 8 (by decide) (hts _ mw_87) (fun _ h9 => h9) rfl dX3_copyFrom_66 ?_
  clear h9
  obtain ⟨q9, h9, ez9⟩ := wc_set (cy := cy) (ad := ad) (ks := ks) (g := g) (u := u15) (κ := (.ln L)) (r := (10 + L)) (i := 8) (v := (u15 (10 + L2) 8)) hk.1 h_L (own_ln (inl_lt h_L) (by decide)) (sf_ln_8)
  refine va_put (D := (dC, dI)) (ci := 3) (v := .int (u15 (10 + L2) 8)) (ty := .int) (C := RX3) (T := TX3) (N := 17) hx hb hts inlX3 tyX3 tyX3_ok nmX3 hown hK hP hD hS q9 h9 rfl 8 (by decide) (hts _ mw_87) (fun _ h9 => h9) rfl (by decide +kernel) rfl rfl (Nat.le_of_ble_eq_true rfl) dX3_copyFrom_69 (fun H locs hP hD hS => ?_)
  obtain ⟨u17, e18, hF⟩ := ob hF
  have hP : va_P (dC, dI) vwCl (WC cy ad ks g u17) H := by rw [← pt_eq e18, ← ez9]; exact hP
  have hD : va_D A (WC cy ad ks g u17) := by rw [← pt_eq e18, ← ez9]; exact hD
  clear ez9 h9
  refine lv_aload_n hx hb dX3_copyFrom_72 rfl (lv_at hl 0 rfl) ?_
  refine lv_aload_n hx hb dX3_copyFrom_73 rfl (lv_at hl 1 rfl) ?_
  obtain ⟨q9, h9⟩ := wc_at (cy := cy) (ad := ad) (ks := ks) (g := g) (u := u17) (κ := (.ln L2)) hk.1 h_L2
  refine va_get (D := (dC, dI)) (ci := 3) (v := .int (u17 (10 + L2) 9)) (C := RX3) (T := TX3) (N := 17) hx hb hts inlX3 hown hK hP q9 h9 rfl 9 (by decide) (hts _ mw_88) (fun _ h9 => h9) rfl dX3_copyFrom_74 ?_
  clear h9
  obtain ⟨q9, h9, ez9⟩ := wc_set (cy := cy) (ad := ad) (ks := ks) (g := g) (u := u17) (κ := (.ln L)) (r := (10 + L)) (i := 9) (v := (u17 (10 + L2) 9)) hk.1 h_L (own_ln (inl_lt h_L) (by decide)) (sf_ln_9)
  refine va_put (D := (dC, dI)) (ci := 3) (v := .int (u17 (10 + L2) 9)) (ty := .int) (C := RX3) (T := TX3) (N := 17) hx hb hts inlX3 tyX3 tyX3_ok nmX3 hown hK hP hD hS q9 h9 rfl 9 (by decide) (hts _ mw_88) (fun _ h9 => h9) rfl (by decide +kernel) rfl rfl (Nat.le_of_ble_eq_true rfl) dX3_copyFrom_77 (fun H locs hP hD hS => ?_)
  obtain ⟨u19, e20, hF⟩ := ob hF
  have hP : va_P (dC, dI) vwCl (WC cy ad ks g u19) H := by rw [← pt_eq e20, ← ez9]; exact hP
  have hD : va_D A (WC cy ad ks g u19) := by rw [← pt_eq e20, ← ez9]; exact hD
  clear ez9 h9
  refine lv_iconst (v := 0) hx hb dX3_copyFrom_80 (by decide) ?_
  refine lv_istore_n (lv' := [(2, .int 0), (0, .ref (ad (.ln L))), (1, .ref (ad (.ln L2)))]) hx hb dX3_copyFrom_81 rfl hl (by decide) rfl (fun ls hl => ?_)
  obtain ⟨t23, hL24, hF⟩ := ob hF
  have kx25 : ∀ (H : Heap) (locs : List Loc) (ls : Array Slot), va_P (dC, dI) vwCl (WC cy ad ks g (t23.2)) H → va_D A (WC cy ad ks g (t23.2)) → va_S A s.heap H locs → lv_has ls 3 [(2, .int (t23.1)), (0, .ref (ad (.ln L))), (1, .ref (ad (.ln L2)))] → W p l e (headSpec (wsg yX3_copyFrom cX3_copyFrom 3 none) ({ frames := 8, cells := 0, slots := 0, locals := 300 })).room s m ([.ref (ad (.ln L)), .ref (ad (.ln L2))] : List Value).toArray below meth c H locs 0 0 Qn (F0 m 111 ls []) := by
    intro H locs ls hP hD hS hl
    refine lv_iconst (v := 0) hx hb dX3_copyFrom_111 (by decide) ?_
    refine lv_istore_n (lv' := [(2, .int 0), (0, .ref (ad (.ln L))), (1, .ref (ad (.ln L2)))]) hx hb dX3_copyFrom_112 rfl hl (by decide) rfl (fun ls hl => ?_)
    obtain ⟨t29, hL30, hF⟩ := ob hF
    have kx31 : ∀ (H : Heap) (locs : List Loc) (ls : Array Slot), va_P (dC, dI) vwCl (WC cy ad ks g (t29.2)) H → va_D A (WC cy ad ks g (t29.2)) → va_S A s.heap H locs → lv_has ls 3 [(2, .int (t29.1)), (0, .ref (ad (.ln L))), (1, .ref (ad (.ln L2)))] → W p l e (headSpec (wsg yX3_copyFrom cX3_copyFrom 3 none) ({ frames := 8, cells := 0, slots := 0, locals := 300 })).room s m ([.ref (ad (.ln L)), .ref (ad (.ln L2))] : List Value).toArray below meth c H locs 0 0 Qn (F0 m 142 ls []) := by
      intro H locs ls hP hD hS hl
      refine lv_iconst (v := 0) hx hb dX3_copyFrom_142 (by decide) ?_
      refine lv_istore_n (lv' := [(2, .int 0), (0, .ref (ad (.ln L))), (1, .ref (ad (.ln L2)))]) hx hb dX3_copyFrom_143 rfl hl (by decide) rfl (fun ls hl => ?_)
      obtain ⟨t35, hL36, hF⟩ := ob hF
      have kx37 : ∀ (H : Heap) (locs : List Loc) (ls : Array Slot), va_P (dC, dI) vwCl (WC cy ad ks g (t35.2)) H → va_D A (WC cy ad ks g (t35.2)) → va_S A s.heap H locs → lv_has ls 3 [(2, .int (t35.1)), (0, .ref (ad (.ln L))), (1, .ref (ad (.ln L2)))] → W p l e (headSpec (wsg yX3_copyFrom cX3_copyFrom 3 none) ({ frames := 8, cells := 0, slots := 0, locals := 300 })).room s m ([.ref (ad (.ln L)), .ref (ad (.ln L2))] : List Value).toArray below meth c H locs 0 0 Qn (F0 m 173 ls []) := by
        intro H locs ls hP hD hS hl
        refine lv_aload_n hx hb dX3_copyFrom_173 rfl (lv_at hl 2 rfl) ?_
        obtain ⟨q9, h9⟩ := wc_at (cy := cy) (ad := ad) (ks := ks) (g := g) (u := (t35.2)) (κ := (.ln L2)) hk.1 h_L2
        refine va_get (D := (dC, dI)) (ci := 3) (v := .ref (ad (.is L2))) (C := RX3) (T := TX3) (N := 17) hx hb hts inlX3 hown hK hP q9 h9 rfl 13 (by decide) (hts _ mw_46) (fun _ h9 => h9) rfl dX3_copyFrom_174 ?_
        clear h9
        refine lv_iconst (v := 0) hx hb dX3_copyFrom_177 (by decide) ?_
        refine lv_aload_n hx hb dX3_copyFrom_178 rfl (lv_at hl 1 rfl) ?_
        obtain ⟨q9, h9⟩ := wc_at (cy := cy) (ad := ad) (ks := ks) (g := g) (u := (t35.2)) (κ := (.ln L)) hk.1 h_L
        refine va_get (D := (dC, dI)) (ci := 3) (v := .ref (ad (.is L))) (C := RX3) (T := TX3) (N := 17) hx hb hts inlX3 hown hK hP q9 h9 rfl 13 (by decide) (hts _ mw_46) (fun _ h9 => h9) rfl dX3_copyFrom_179 ?_
        clear h9
        refine lv_iconst (v := 0) hx hb dX3_copyFrom_182 (by decide) ?_
        refine lv_iconst (v := 5) hx hb dX3_copyFrom_183 (by decide) ?_
        obtain ⟨n39, e40, hF⟩ := ob hF
        obtain ⟨u41, e42, hF⟩ := ob hF
        obtain ⟨⟨⟨c1, c2, c3, c4, c5⟩, c6⟩, c7⟩ := cpo_s e40
        obtain ⟨q9, h9, ez9⟩ := wc_gen (cy := cy) (ad := ad) (ks := ks) (g := g) (u := (t35.2)) (u2 := cpR (t35.2) (400 + L) ((0) : Int32).toNatClampNeg ((t35.2) (400 + L2)) ((0) : Int32).toNatClampNeg n39) (κ := (.is L)) hk.1 h_L (cd_is (inl_lt h_L)) sc_is
        obtain ⟨q7, h7⟩ := wc_at (cy := cy) (ad := ad) (ks := ks) (g := g) (u := (t35.2)) (κ := (.is L2)) hk.1 h_L2
        refine va_copyi hx hb (hml.trans hl.1.symm) hown (hts _ mw_396) (hts _ mw_302) (hts _ mw_303) (hts _ mw_304) hK hP hD hS q7 q9 1 1 h7 h9 rfl rfl rfl (nn_of c1) (nn_of c2) (nn_of c3) c4 c5 (fun _ _ => rfl) (Nat.le_of_ble_eq_true rfl) (Nat.le_of_ble_eq_true rfl) dX3_copyFrom_184 (fun H locs hP hD hS => ?_)
        rw [show ((5) : Int32).toNatClampNeg = n39 from c7] at hP hD
        have hP : va_P (dC, dI) vwCl (WC cy ad ks g u41) H := by rw [← s1 e42, ← ez9]; exact hP
        have hD : va_D A (WC cy ad ks g u41) := by rw [← s1 e42, ← ez9]; exact hD
        clear ez9 h9
        clear h7 c1 c2 c3 c4 c5 c6 c7
        refine lv_aload_n hx hb dX3_copyFrom_187 rfl (lv_at hl 2 rfl) ?_
        obtain ⟨q9, h9⟩ := wc_at (cy := cy) (ad := ad) (ks := ks) (g := g) (u := u41) (κ := (.ln L2)) hk.1 h_L2
        refine va_get (D := (dC, dI)) (ci := 3) (v := .ref (ad (.lc L2))) (C := RX3) (T := TX3) (N := 17) hx hb hts inlX3 hown hK hP q9 h9 rfl 14 (by decide) (hts _ mw_47) (fun _ h9 => h9) rfl dX3_copyFrom_188 ?_
        clear h9
        refine lv_iconst (v := 0) hx hb dX3_copyFrom_191 (by decide) ?_
        refine lv_aload_n hx hb dX3_copyFrom_192 rfl (lv_at hl 1 rfl) ?_
        obtain ⟨q9, h9⟩ := wc_at (cy := cy) (ad := ad) (ks := ks) (g := g) (u := u41) (κ := (.ln L)) hk.1 h_L
        refine va_get (D := (dC, dI)) (ci := 3) (v := .ref (ad (.lc L))) (C := RX3) (T := TX3) (N := 17) hx hb hts inlX3 hown hK hP q9 h9 rfl 14 (by decide) (hts _ mw_47) (fun _ h9 => h9) rfl dX3_copyFrom_193 ?_
        clear h9
        refine lv_iconst (v := 0) hx hb dX3_copyFrom_196 (by decide) ?_
        refine lv_bipush (v := 30) hx hb dX3_copyFrom_197 (by decide) ?_
        obtain ⟨n43, e44, hF⟩ := ob hF
        obtain ⟨u45, e46, hF⟩ := ob hF
        obtain ⟨⟨⟨c1, c2, c3, c4, c5⟩, c6⟩, c7⟩ := cpo_s e44
        obtain ⟨q9, h9, ez9⟩ := wc_gen (cy := cy) (ad := ad) (ks := ks) (g := g) (u := u41) (u2 := cpR u41 (10 + L) 887 (fun j => if j < 30 then u41 (10 + L2) (887 + j) else 0) 0 30) (κ := (.lc L)) hk.1 h_L (cd_lc (inl_lt h_L)) sc_lc
        obtain ⟨q7, h7⟩ := wc_at (cy := cy) (ad := ad) (ks := ks) (g := g) (u := u41) (κ := (.lc L2)) hk.1 h_L2
        refine va_copyi hx hb (hml.trans hl.1.symm) hown (hts _ mw_396) (hts _ mw_302) (hts _ mw_303) (hts _ mw_304) hK hP hD hS q7 q9 1 1 h7 h9 rfl rfl rfl (nn_of c1) (nn_of c2) (nn_of c3) c4 c5 (fun _ _ => rfl) (Nat.le_of_ble_eq_true rfl) (Nat.le_of_ble_eq_true rfl) dX3_copyFrom_199 (fun H locs hP hD hS => ?_)
        have hP : va_P (dC, dI) vwCl (WC cy ad ks g u45) H := by rw [← s1 e46, ← ez9]; exact hP
        have hD : va_D A (WC cy ad ks g u45) := by rw [← s1 e46, ← ez9]; exact hD
        clear ez9 h9
        clear h7 c1 c2 c3 c4 c5 c6 c7
        refine lv_aload_n hx hb dX3_copyFrom_202 rfl (lv_at hl 2 rfl) ?_
        obtain ⟨q9, h9⟩ := wc_at (cy := cy) (ad := ad) (ks := ks) (g := g) (u := u45) (κ := (.ln L2)) hk.1 h_L2
        refine va_get (D := (dC, dI)) (ci := 3) (v := .ref (ad (.tt L2))) (C := RX3) (T := TX3) (N := 17) hx hb hts inlX3 hown hK hP q9 h9 rfl 15 (by decide) (hts _ mw_48) (fun _ h9 => h9) rfl dX3_copyFrom_203 ?_
        clear h9
        refine lv_iconst (v := 0) hx hb dX3_copyFrom_206 (by decide) ?_
        refine lv_aload_n hx hb dX3_copyFrom_207 rfl (lv_at hl 1 rfl) ?_
        obtain ⟨q9, h9⟩ := wc_at (cy := cy) (ad := ad) (ks := ks) (g := g) (u := u45) (κ := (.ln L)) hk.1 h_L
        refine va_get (D := (dC, dI)) (ci := 3) (v := .ref (ad (.tt L))) (C := RX3) (T := TX3) (N := 17) hx hb hts inlX3 hown hK hP q9 h9 rfl 15 (by decide) (hts _ mw_48) (fun _ h9 => h9) rfl dX3_copyFrom_208 ?_
        clear h9
        refine lv_iconst (v := 0) hx hb dX3_copyFrom_211 (by decide) ?_
        refine lv_iconst (v := 5) hx hb dX3_copyFrom_212 (by decide) ?_
        obtain ⟨n47, e48, hF⟩ := ob hF
        obtain ⟨u49, e50, hF⟩ := ob hF
        obtain ⟨⟨⟨c1, c2, c3, c4, c5⟩, c6⟩, c7⟩ := cpo_s e48
        obtain ⟨q9, h9, ez9⟩ := wc_gen (cy := cy) (ad := ad) (ks := ks) (g := g) (u := u45) (u2 := cpR u45 (10 + L) 12 (fun j => if j < 5 then u45 (10 + L2) (12 + j) else 0) 0 5) (κ := (.tt L)) hk.1 h_L (cd_tt (inl_lt h_L)) sc_tt
        obtain ⟨q7, h7⟩ := wc_at (cy := cy) (ad := ad) (ks := ks) (g := g) (u := u45) (κ := (.tt L2)) hk.1 h_L2
        refine va_copyi hx hb (hml.trans hl.1.symm) hown (hts _ mw_396) (hts _ mw_302) (hts _ mw_303) (hts _ mw_304) hK hP hD hS q7 q9 1 1 h7 h9 rfl rfl rfl (nn_of c1) (nn_of c2) (nn_of c3) c4 c5 (fun _ _ => rfl) (Nat.le_of_ble_eq_true rfl) (Nat.le_of_ble_eq_true rfl) dX3_copyFrom_213 (fun H locs hP hD hS => ?_)
        have hP : va_P (dC, dI) vwCl (WC cy ad ks g u49) H := by rw [← s1 e50, ← ez9]; exact hP
        have hD : va_D A (WC cy ad ks g u49) := by rw [← s1 e50, ← ez9]; exact hD
        clear ez9 h9
        clear h7 c1 c2 c3 c4 c5 c6 c7
        have hZ := s1 hF
        have zuz : u49 = uz := hZ
        have hP9 : va_P (dC, dI) vwCl (WC cy ad ks g uz) H := by rw [← zuz]; exact hP
        have hD9 : va_D A (WC cy ad ks g uz) := by rw [← zuz]; exact hD
        rw [hQ]
        exact W.vret hx hb hr (fun t ht hW => ⟨⟨(), rfl, trivial, by rw [ht]; exact hP9, hD9⟩, hS.F ht⟩) hS.2.2 dX3_copyFrom_216
      clear hF
      have loop51 : ∀ (m52 : Nat) (y33 : Int32) (u34 : RS), C3_copyFrom_L144 L L2 g m52 y33 u34 = some t35 → ∀ (H : Heap) (locs : List Loc) (ls : Array Slot), va_P (dC, dI) vwCl (WC cy ad ks g u34) H → va_D A (WC cy ad ks g u34) → va_S A s.heap H locs → lv_has ls 3 [(2, .int y33), (0, .ref (ad (.ln L))), (1, .ref (ad (.ln L2)))] → W p l e (headSpec (wsg yX3_copyFrom cX3_copyFrom 3 none) ({ frames := 8, cells := 0, slots := 0, locals := 300 })).room s m ([.ref (ad (.ln L)), .ref (ad (.ln L2))] : List Value).toArray below meth c H locs 0 0 Qn (F0 m 144 ls []) := by
        intro m52
        induction m52 with
        | zero => intro y33 u34 hF; cases hF
        | succ m52 ih =>
          intro y33 u34 hF H locs ls hP hD hS hl
          simp only [C3_copyFrom_L144] at hF
          refine lv_iload_n hx hb dX3_copyFrom_144 rfl (lv_at hl 0 rfl) ?_
          refine lv_aload_n hx hb dX3_copyFrom_145 rfl (lv_at hl 1 rfl) ?_
          obtain ⟨q9, h9⟩ := wc_at (cy := cy) (ad := ad) (ks := ks) (g := g) (u := u34) (κ := (.ln L)) hk.1 h_L
          refine va_get (D := (dC, dI)) (ci := 3) (v := .int (u34 (10 + L) 9)) (C := RX3) (T := TX3) (N := 17) hx hb hts inlX3 hown hK hP q9 h9 rfl 9 (by decide) (hts _ mw_88) (fun _ h9 => h9) rfl dX3_copyFrom_146 ?_
          clear h9
          refine lv_icmp_ge (tgt := 173) hx hb dX3_copyFrom_149 (by decide) (fun c53 => ?_) (fun c53 => ?_)
          · rw [if_pos c53] at hF
            have ht := s1 hF
            subst ht
            exact kx37 _ _ _ hP hD hS (lv_sub hl [0, 1, 2] rfl)
          · rw [if_neg c53] at hF
            refine lv_aload_n hx hb dX3_copyFrom_152 rfl (lv_at hl 1 rfl) ?_
            obtain ⟨q9, h9⟩ := wc_at (cy := cy) (ad := ad) (ks := ks) (g := g) (u := u34) (κ := (.ln L)) hk.1 h_L
            refine va_get (D := (dC, dI)) (ci := 3) (v := .ref (ad (.cs L))) (C := RX3) (T := TX3) (N := 17) hx hb hts inlX3 hown hK hP q9 h9 rfl 12 (by decide) (hts _ mw_45) (fun _ h9 => h9) rfl dX3_copyFrom_153 ?_
            clear h9
            refine lv_iload_n hx hb dX3_copyFrom_156 rfl (lv_at hl 0 rfl) ?_
            obtain ⟨n54, e55, hF⟩ := ob hF
            obtain ⟨q9, h9⟩ := wc_at (cy := cy) (ad := ad) (ks := ks) (g := g) (u := u34) (κ := (.cs L)) hk.1 h_L
            refine va_aldq hx hb hK hP q9 8 h9 rfl (ix_in e55) dX3_copyFrom_157 ?_
            refine my_top (y := .ref (ad (.cd L n54))) (ixv (F := fun j => ad (.cd L j)) e55) ?_
            clear h9
            refine lv_aload_n hx hb dX3_copyFrom_158 rfl (lv_at hl 2 rfl) ?_
            obtain ⟨q9, h9⟩ := wc_at (cy := cy) (ad := ad) (ks := ks) (g := g) (u := u34) (κ := (.ln L2)) hk.1 h_L2
            refine va_get (D := (dC, dI)) (ci := 3) (v := .ref (ad (.cs L2))) (C := RX3) (T := TX3) (N := 17) hx hb hts inlX3 hown hK hP q9 h9 rfl 12 (by decide) (hts _ mw_45) (fun _ h9 => h9) rfl dX3_copyFrom_159 ?_
            clear h9
            refine lv_iload_n hx hb dX3_copyFrom_162 rfl (lv_at hl 0 rfl) ?_
            obtain ⟨n56, e57, hF⟩ := ob hF
            obtain ⟨q9, h9⟩ := wc_at (cy := cy) (ad := ad) (ks := ks) (g := g) (u := u34) (κ := (.cs L2)) hk.1 h_L2
            refine va_aldq hx hb hK hP q9 8 h9 rfl (ix_in e57) dX3_copyFrom_163 ?_
            refine my_top (y := .ref (ad (.cd L2 n56))) (ixv (F := fun j => ad (.cd L2 j)) e57) ?_
            clear h9
            obtain ⟨u58, e59, hF⟩ := ob hF
            have hPc := hP
            have hDc := hD
            have hFc := my_free hD hS hA
            obtain ⟨q8, h8⟩ := wc_at (cy := cy) (ad := ad) (ks := ks) (g := g) (u := u34) (κ := (.cd L n54)) hk.1 ⟨h_L, (ix_lt e55)⟩
            refine va_callv (va_runV (As := [.ref (ad (.cd L2 n56))]) (rest := []) ⟨hx, hb, hml, hown, hts⟩ (c_X1_copyFrom l dC dI cy nb ad ks g hk u34 L n54 L2 n56 (u58) H.size ⟨h_L, (ix_lt e55)⟩ ⟨h_L2, (ix_lt e57)⟩ e59) (cwV 1 hts (gV mw_406 mw_407 mw_408 mw_54 mw_409) rfl rfl rfl (by decide +kernel) ⟨Nat.le_of_ble_eq_true rfl, Nat.le_of_ble_eq_true rfl⟩) (my_preV hPc hK hDc hE hS hFc (va_recv (q := (RX1, TX1, 9)) hK hP (ci := 2) (q0 := q8) rfl h8)) rfl rfl hl.1 rfl (lv_room (Nat.le_of_ble_eq_true rfl)) dX3_copyFrom_164 ⟨Nat.le_of_ble_eq_true rfl, Nat.le_of_ble_eq_true rfl⟩) hS (fun q _ h => hFc q h) hFc (fun u t H1 locs ht hvm hw hB hz1 hk1 hS => ?_)
            clear h8
            obtain ⟨hP1, hD1⟩ := hB
            rw [ht] at hP1
            have hP := hP1
            have hD := hD1.weaken (fun k q _ h => hFc q.1 h)
            generalize H1 = H at hP hS ⊢
            clear hP1 hD1 hPc hDc hFc hk1 hz1 hvm ht
            refine lv_iinc (v := (y33 + 1)) (lv' := [(2, .int (y33 + 1)), (0, .ref (ad (.ln L))), (1, .ref (ad (.ln L2)))]) hx hb dX3_copyFrom_167 hl (k := 0) rfl (by rfl) (by decide) rfl (fun ls hl => ?_)
            refine lv_goto (tgt := 144) hx hb dX3_copyFrom_170 (by decide) ?_
            exact ih _ _ hF _ _ _ hP hD hS (lv_sub hl [0, 1, 2] rfl)
      exact loop51 FUEL _ _ hL36 _ _ _ hP hD hS (lv_sub hl [0, 1, 2] rfl)
    clear hF
    have loop60 : ∀ (m61 : Nat) (y27 : Int32) (u28 : RS), C3_copyFrom_L113 L L2 g m61 y27 u28 = some t29 → ∀ (H : Heap) (locs : List Loc) (ls : Array Slot), va_P (dC, dI) vwCl (WC cy ad ks g u28) H → va_D A (WC cy ad ks g u28) → va_S A s.heap H locs → lv_has ls 3 [(2, .int y27), (0, .ref (ad (.ln L))), (1, .ref (ad (.ln L2)))] → W p l e (headSpec (wsg yX3_copyFrom cX3_copyFrom 3 none) ({ frames := 8, cells := 0, slots := 0, locals := 300 })).room s m ([.ref (ad (.ln L)), .ref (ad (.ln L2))] : List Value).toArray below meth c H locs 0 0 Qn (F0 m 113 ls []) := by
      intro m61
      induction m61 with
      | zero => intro y27 u28 hF; cases hF
      | succ m61 ih =>
        intro y27 u28 hF H locs ls hP hD hS hl
        simp only [C3_copyFrom_L113] at hF
        refine lv_iload_n hx hb dX3_copyFrom_113 rfl (lv_at hl 0 rfl) ?_
        refine lv_aload_n hx hb dX3_copyFrom_114 rfl (lv_at hl 1 rfl) ?_
        obtain ⟨q9, h9⟩ := wc_at (cy := cy) (ad := ad) (ks := ks) (g := g) (u := u28) (κ := (.ln L)) hk.1 h_L
        refine va_get (D := (dC, dI)) (ci := 3) (v := .int (u28 (10 + L) 8)) (C := RX3) (T := TX3) (N := 17) hx hb hts inlX3 hown hK hP q9 h9 rfl 8 (by decide) (hts _ mw_87) (fun _ h9 => h9) rfl dX3_copyFrom_115 ?_
        clear h9
        refine lv_icmp_ge (tgt := 142) hx hb dX3_copyFrom_118 (by decide) (fun c62 => ?_) (fun c62 => ?_)
        · rw [if_pos c62] at hF
          have ht := s1 hF
          subst ht
          exact kx31 _ _ _ hP hD hS (lv_sub hl [0, 1, 2] rfl)
        · rw [if_neg c62] at hF
          refine lv_aload_n hx hb dX3_copyFrom_121 rfl (lv_at hl 1 rfl) ?_
          obtain ⟨q9, h9⟩ := wc_at (cy := cy) (ad := ad) (ks := ks) (g := g) (u := u28) (κ := (.ln L)) hk.1 h_L
          refine va_get (D := (dC, dI)) (ci := 3) (v := .ref (ad (.ls L))) (C := RX3) (T := TX3) (N := 17) hx hb hts inlX3 hown hK hP q9 h9 rfl 11 (by decide) (hts _ mw_43) (fun _ h9 => h9) rfl dX3_copyFrom_122 ?_
          clear h9
          refine lv_iload_n hx hb dX3_copyFrom_125 rfl (lv_at hl 0 rfl) ?_
          obtain ⟨n63, e64, hF⟩ := ob hF
          obtain ⟨q9, h9⟩ := wc_at (cy := cy) (ad := ad) (ks := ks) (g := g) (u := u28) (κ := (.ls L)) hk.1 h_L
          refine va_aldq hx hb hK hP q9 7 h9 rfl (ix_in e64) dX3_copyFrom_126 ?_
          refine my_top (y := .ref (ad (.lo L n63))) (ixv (F := fun j => ad (.lo L j)) e64) ?_
          clear h9
          refine lv_aload_n hx hb dX3_copyFrom_127 rfl (lv_at hl 2 rfl) ?_
          obtain ⟨q9, h9⟩ := wc_at (cy := cy) (ad := ad) (ks := ks) (g := g) (u := u28) (κ := (.ln L2)) hk.1 h_L2
          refine va_get (D := (dC, dI)) (ci := 3) (v := .ref (ad (.ls L2))) (C := RX3) (T := TX3) (N := 17) hx hb hts inlX3 hown hK hP q9 h9 rfl 11 (by decide) (hts _ mw_43) (fun _ h9 => h9) rfl dX3_copyFrom_128 ?_
          clear h9
          refine lv_iload_n hx hb dX3_copyFrom_131 rfl (lv_at hl 0 rfl) ?_
          obtain ⟨n65, e66, hF⟩ := ob hF
          obtain ⟨q9, h9⟩ := wc_at (cy := cy) (ad := ad) (ks := ks) (g := g) (u := u28) (κ := (.ls L2)) hk.1 h_L2
          refine va_aldq hx hb hK hP q9 7 h9 rfl (ix_in e66) dX3_copyFrom_132 ?_
          refine my_top (y := .ref (ad (.lo L2 n65))) (ixv (F := fun j => ad (.lo L2 j)) e66) ?_
          clear h9
          obtain ⟨u67, e68, hF⟩ := ob hF
          have hPc := hP
          have hDc := hD
          have hFc := my_free hD hS hA
          obtain ⟨q8, h8⟩ := wc_at (cy := cy) (ad := ad) (ks := ks) (g := g) (u := u28) (κ := (.lo L n63)) hk.1 ⟨h_L, (ix_lt e64)⟩
          refine va_callv (va_runV (As := [.ref (ad (.lo L2 n65))]) (rest := []) ⟨hx, hb, hml, hown, hts⟩ (c_X4_copyFrom l dC dI cy nb ad ks g hk u28 L n63 L2 n65 (u67) H.size ⟨h_L, (ix_lt e64)⟩ ⟨h_L2, (ix_lt e66)⟩ e68) (cwV 1 hts (gV mw_401 mw_402 mw_403 mw_52 mw_404) rfl rfl rfl (by decide +kernel) ⟨Nat.le_of_ble_eq_true rfl, Nat.le_of_ble_eq_true rfl⟩) (my_preV hPc hK hDc hE hS hFc (va_recv (q := (RX4, TX4, 12)) hK hP (ci := 4) (q0 := q8) rfl h8)) rfl rfl hl.1 rfl (lv_room (Nat.le_of_ble_eq_true rfl)) dX3_copyFrom_133 ⟨Nat.le_of_ble_eq_true rfl, Nat.le_of_ble_eq_true rfl⟩) hS (fun q _ h => hFc q h) hFc (fun u t H1 locs ht hvm hw hB hz1 hk1 hS => ?_)
          clear h8
          obtain ⟨hP1, hD1⟩ := hB
          rw [ht] at hP1
          have hP := hP1
          have hD := hD1.weaken (fun k q _ h => hFc q.1 h)
          generalize H1 = H at hP hS ⊢
          clear hP1 hD1 hPc hDc hFc hk1 hz1 hvm ht
          refine lv_iinc (v := (y27 + 1)) (lv' := [(2, .int (y27 + 1)), (0, .ref (ad (.ln L))), (1, .ref (ad (.ln L2)))]) hx hb dX3_copyFrom_136 hl (k := 0) rfl (by rfl) (by decide) rfl (fun ls hl => ?_)
          refine lv_goto (tgt := 113) hx hb dX3_copyFrom_139 (by decide) ?_
          exact ih _ _ hF _ _ _ hP hD hS (lv_sub hl [0, 1, 2] rfl)
    exact loop60 FUEL _ _ hL30 _ _ _ hP hD hS (lv_sub hl [0, 1, 2] rfl)
  clear hF
  have loop69 : ∀ (m70 : Nat) (y21 : Int32) (u22 : RS), C3_copyFrom_L82 L L2 g m70 y21 u22 = some t23 → ∀ (H : Heap) (locs : List Loc) (ls : Array Slot), va_P (dC, dI) vwCl (WC cy ad ks g u22) H → va_D A (WC cy ad ks g u22) → va_S A s.heap H locs → lv_has ls 3 [(2, .int y21), (0, .ref (ad (.ln L))), (1, .ref (ad (.ln L2)))] → W p l e (headSpec (wsg yX3_copyFrom cX3_copyFrom 3 none) ({ frames := 8, cells := 0, slots := 0, locals := 300 })).room s m ([.ref (ad (.ln L)), .ref (ad (.ln L2))] : List Value).toArray below meth c H locs 0 0 Qn (F0 m 82 ls []) := by
    intro m70
    induction m70 with
    | zero => intro y21 u22 hF; cases hF
    | succ m70 ih =>
      intro y21 u22 hF H locs ls hP hD hS hl
      simp only [C3_copyFrom_L82] at hF
      refine lv_iload_n hx hb dX3_copyFrom_82 rfl (lv_at hl 0 rfl) ?_
      refine lv_aload_n hx hb dX3_copyFrom_83 rfl (lv_at hl 1 rfl) ?_
      obtain ⟨q9, h9⟩ := wc_at (cy := cy) (ad := ad) (ks := ks) (g := g) (u := u22) (κ := (.ln L)) hk.1 h_L
      refine va_get (D := (dC, dI)) (ci := 3) (v := .int (u22 (10 + L) 7)) (C := RX3) (T := TX3) (N := 17) hx hb hts inlX3 hown hK hP q9 h9 rfl 7 (by decide) (hts _ mw_86) (fun _ h9 => h9) rfl dX3_copyFrom_84 ?_
      clear h9
      refine lv_icmp_ge (tgt := 111) hx hb dX3_copyFrom_87 (by decide) (fun c71 => ?_) (fun c71 => ?_)
      · rw [if_pos c71] at hF
        have ht := s1 hF
        subst ht
        exact kx25 _ _ _ hP hD hS (lv_sub hl [0, 1, 2] rfl)
      · rw [if_neg c71] at hF
        refine lv_aload_n hx hb dX3_copyFrom_90 rfl (lv_at hl 1 rfl) ?_
        obtain ⟨q9, h9⟩ := wc_at (cy := cy) (ad := ad) (ks := ks) (g := g) (u := u22) (κ := (.ln L)) hk.1 h_L
        refine va_get (D := (dC, dI)) (ci := 3) (v := .ref (ad (.ss L))) (C := RX3) (T := TX3) (N := 17) hx hb hts inlX3 hown hK hP q9 h9 rfl 10 (by decide) (hts _ mw_41) (fun _ h9 => h9) rfl dX3_copyFrom_91 ?_
        clear h9
        refine lv_iload_n hx hb dX3_copyFrom_94 rfl (lv_at hl 0 rfl) ?_
        obtain ⟨n72, e73, hF⟩ := ob hF
        obtain ⟨q9, h9⟩ := wc_at (cy := cy) (ad := ad) (ks := ks) (g := g) (u := u22) (κ := (.ss L)) hk.1 h_L
        refine va_aldq hx hb hK hP q9 6 h9 rfl (ix_in e73) dX3_copyFrom_95 ?_
        refine my_top (y := .ref (ad (.st L n72))) (ixv (F := fun j => ad (.st L j)) e73) ?_
        clear h9
        refine lv_aload_n hx hb dX3_copyFrom_96 rfl (lv_at hl 2 rfl) ?_
        obtain ⟨q9, h9⟩ := wc_at (cy := cy) (ad := ad) (ks := ks) (g := g) (u := u22) (κ := (.ln L2)) hk.1 h_L2
        refine va_get (D := (dC, dI)) (ci := 3) (v := .ref (ad (.ss L2))) (C := RX3) (T := TX3) (N := 17) hx hb hts inlX3 hown hK hP q9 h9 rfl 10 (by decide) (hts _ mw_41) (fun _ h9 => h9) rfl dX3_copyFrom_97 ?_
        clear h9
        refine lv_iload_n hx hb dX3_copyFrom_100 rfl (lv_at hl 0 rfl) ?_
        obtain ⟨n74, e75, hF⟩ := ob hF
        obtain ⟨q9, h9⟩ := wc_at (cy := cy) (ad := ad) (ks := ks) (g := g) (u := u22) (κ := (.ss L2)) hk.1 h_L2
        refine va_aldq hx hb hK hP q9 6 h9 rfl (ix_in e75) dX3_copyFrom_101 ?_
        refine my_top (y := .ref (ad (.st L2 n74))) (ixv (F := fun j => ad (.st L2 j)) e75) ?_
        clear h9
        obtain ⟨u76, e77, hF⟩ := ob hF
        have hPc := hP
        have hDc := hD
        have hFc := my_free hD hS hA
        obtain ⟨q8, h8⟩ := wc_at (cy := cy) (ad := ad) (ks := ks) (g := g) (u := u22) (κ := (.st L n72)) hk.1 ⟨h_L, (ix_lt e73)⟩
        refine va_callv (va_runV (As := [.ref (ad (.st L2 n74))]) (rest := []) ⟨hx, hb, hml, hown, hts⟩ (c_X6_copyFrom l dC dI cy nb ad ks g hk u22 L n72 L2 n74 (u76) H.size ⟨h_L, (ix_lt e73)⟩ ⟨h_L2, (ix_lt e75)⟩ e77) (cwV 1 hts (gV mw_397 mw_398 mw_399 mw_50 mw_400) rfl rfl rfl (by decide +kernel) ⟨Nat.le_of_ble_eq_true rfl, Nat.le_of_ble_eq_true rfl⟩) (my_preV hPc hK hDc hE hS hFc (va_recv (q := (RX6, TX6, 15)) hK hP (ci := 6) (q0 := q8) rfl h8)) rfl rfl hl.1 rfl (lv_room (Nat.le_of_ble_eq_true rfl)) dX3_copyFrom_102 ⟨Nat.le_of_ble_eq_true rfl, Nat.le_of_ble_eq_true rfl⟩) hS (fun q _ h => hFc q h) hFc (fun u t H1 locs ht hvm hw hB hz1 hk1 hS => ?_)
        clear h8
        obtain ⟨hP1, hD1⟩ := hB
        rw [ht] at hP1
        have hP := hP1
        have hD := hD1.weaken (fun k q _ h => hFc q.1 h)
        generalize H1 = H at hP hS ⊢
        clear hP1 hD1 hPc hDc hFc hk1 hz1 hvm ht
        refine lv_iinc (v := (y21 + 1)) (lv' := [(2, .int (y21 + 1)), (0, .ref (ad (.ln L))), (1, .ref (ad (.ln L2)))]) hx hb dX3_copyFrom_105 hl (k := 0) rfl (by rfl) (by decide) rfl (fun ls hl => ?_)
        refine lv_goto (tgt := 82) hx hb dX3_copyFrom_108 (by decide) ?_
        exact ih _ _ hF _ _ _ hP hD hS (lv_sub hl [0, 1, 2] rfl)
  exact loop69 FUEL _ _ hL24 _ _ _ hP hD hS (lv_sub hl [0, 1, 2] rfl)
