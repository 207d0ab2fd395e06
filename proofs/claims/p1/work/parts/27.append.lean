/-- the shift of byte k -/
def sh (k : Nat) : Int32 := Int32.ofInt (56 - 8 * (k : Int))
/-- byte k, as the class reads it -/
def cB (b : Int64) (s : Int32) : Int32 := ((b.toUInt64 >>> (s.toInt64.toUInt64 &&& Int64.toUInt64 63)).toInt64.toInt32).toInt8.toInt32
/-- how many of the first k bytes aren't 0, as the class reads them -/
def cn (b : Int64) : Nat → Nat
  | 0 => 0
  | k + 1 => cn b k + (if cB b (sh k) = 0 then 0 else 1)
theorem cn_z {b : Int64} {k : Nat} (h : cB b (sh k) = 0) : cn b (k + 1) = cn b k := by show cn b k + _ = _; rw [if_pos h]; rfl
theorem cn_s {b : Int64} {k : Nat} (h : ¬ cB b (sh k) = 0) : cn b (k + 1) = cn b k + 1 := by show cn b k + _ = _; rw [if_neg h]
theorem cn_le (b : Int64) : ∀ k : Nat, cn b k ≤ k
  | 0 => Nat.le_refl 0
  | k + 1 => by have := cn_le b k; show cn b k + _ ≤ _; split <;> omega
theorem sh_step {k : Nat} (hk : k < 8) : sh k + Int32.ofInt (-8) = sh (k + 1) := by
  rcases (show k = 0 ∨ k = 1 ∨ k = 2 ∨ k = 3 ∨ k = 4 ∨ k = 5 ∨ k = 6 ∨ k = 7 by omega) with rfl | rfl | rfl | rfl | rfl | rfl | rfl | rfl <;> decide
theorem sh_ge {k : Nat} (hk : k < 8) : ¬ sh k < 0 := by
  rcases (show k = 0 ∨ k = 1 ∨ k = 2 ∨ k = 3 ∨ k = 4 ∨ k = 5 ∨ k = 6 ∨ k = 7 by omega) with rfl | rfl | rfl | rfl | rfl | rfl | rfl | rfl <;> decide
/-- byte k, as the reference reads it -/
def bM (b : Int64) (k : Int32) : Int32 := ((b >>> (((8 : Int32) * (7 - k)).toInt64 &&& 63)) &&& 255).toInt32
def cm (b : Int64) : Nat → Nat
  | 0 => 0
  | k + 1 => cm b k + (if bM b (nI k) = 0 then 0 else 1)
theorem cm_z {b : Int64} {k : Nat} (h : bM b (nI k) = 0) : cm b (k + 1) = cm b k := by show cm b k + _ = _; rw [if_pos h]; rfl
theorem cm_s {b : Int64} {k : Nat} (h : ¬ bM b (nI k) = 0) : cm b (k + 1) = cm b k + 1 := by show cm b k + _ = _; rw [if_neg h]
theorem cm_le (b : Int64) : ∀ k : Nat, cm b k ≤ k
  | 0 => Nat.le_refl 0
  | k + 1 => by have := cm_le b k; show cm b k + _ ≤ _; split <;> omega
set_option maxHeartbeats 4000000 in
set_option maxRecDepth 100000 in
/-- Reader.add(b), into an empty buffer -/
theorem c_X5_add (l : Launch) (dC : Nat → ClassId) (dI : Nat → Nat → Nat) (cy : Nat → ClassId) (nb : Nat → Nat) (h0 : Nat) (w1 : Nat) (v2 : Value) (v3 : Value) (v4 : Value) (v5 : Value) (v6 : Value) (v7 : Value) (v8 : Value) (v9 : Value) (v10 : Value) (f : Nat → Int32) (b : Int64) (sz : Nat) : Met l yX5_add (wsg yX5_add cX5_add 6 (some .boolean)) ({ frames := 9, cells := 0, slots := 0, locals := 400 }) (va_Pc [.ref h0, .long b] (fun U => U.heap.size = sz ∧ va_P (dC, dI) vwCl [(h0, .inr (5, [.ref w1, .int 0, v2, v3, v4, v5, v6, v7, v8, v9, v10])), (w1, .inl (cy 0, 600, .inl f))] U.heap ∧ va_K (dC, dI) vwCl (tyL cy) U ∧ va_D (fun _ => True) [(h0, .inr (5, [.ref w1, .int 0, v2, v3, v4, v5, v6, v7, v8, v9, v10])), (w1, .inl (cy 0, 600, .inl f))] ∧ GE nb (va_A [(h0, .inr (5, [.ref w1, .int 0, v2, v3, v4, v5, v6, v7, v8, v9, v10])), (w1, .inl (cy 0, 600, .inl f))] sz) U)) (va_Qi (fun (r : Int32) (_ : Unit) => r = 1) (fun _ t => ∃ (f2 : Nat → Int32), True ∧ va_P (dC, dI) vwCl [(h0, .inr (5, [.ref w1, .int (nI (cn b 8)), v2, v3, v4, v5, v6, v7, v8, v9, v10])), (w1, .inl (cy 0, 600, .inl f2))] t.heap ∧ va_D (va_A [(h0, .inr (5, [.ref w1, .int 0, v2, v3, v4, v5, v6, v7, v8, v9, v10])), (w1, .inl (cy 0, 600, .inl f))] sz) [(h0, .inr (5, [.ref w1, .int (nI (cn b 8)), v2, v3, v4, v5, v6, v7, v8, v9, v10])), (w1, .inl (cy 0, 600, .inl f2))]) (va_A [(h0, .inr (5, [.ref w1, .int 0, v2, v3, v4, v5, v6, v7, v8, v9, v10])), (w1, .inl (cy 0, 600, .inl f))] sz)) 0 0 (va_A [(h0, .inr (5, [.ref w1, .int 0, v2, v3, v4, v5, v6, v7, v8, v9, v10])), (w1, .inl (cy 0, 600, .inl f))] sz) := by
  refine Met.ofW (cc := cX5_add) (maxL := 6) (ret := (some .boolean)) (by decide) rfl ?_
  intro p e s m args below meth c s₁ B hml hv
  obtain ⟨rfl, hsz, hP, hK, hD0, hE⟩ := hv
  have hx := B.exec
  have hb := B.bytes
  have hr := B.returns
  have hts0 := atoms_spec (ws := (wsg yX5_add cX5_add 6 (some .boolean))) B.pre
  have hts : ∀ w ∈ wsL_law, w.before _ s = true := fun w h => hts0 w (List.mem_cons_of_mem _ h)
  have hown : s.vm.findClass RX5 = some m.cls := findClass_of_methodNamed B.named
  have hlocks := B.notSynchronized
  subst hsz
  have hD := hD0.self (sz := s.heap.size)
  generalize hAe : va_A [(h0, .inr (5, [.ref w1, .int 0, v2, v3, v4, v5, v6, v7, v8, v9, v10])), (w1, .inl (cy 0, 600, .inl f))] s.heap.size = A at hD hE ⊢
  have hA : ∀ q : Nat, s.heap.size ≤ q → A q := fun q h => by rw [← hAe]; exact Or.inr h
  have hS : va_S A s.heap s.heap [] := va_S.rf
  have hP : va_P (dC, dI) vwCl [(h0, .inr (5, [.ref w1, .int 0, v2, v3, v4, v5, v6, v7, v8, v9, v10])), (w1, .inl (cy 0, 600, .inl f))] s.heap := hP
  have hl := lv_entry ([.ref h0, .long b]) (n := 6) (Nat.le_of_ble_eq_true rfl)
  rw [lg_entry_eq]
  generalize (lg_sl ([.ref h0, .long b]) ++ List.replicate (6 - (lg_sl ([.ref h0, .long b])).length) Slot.unset).toArray = ls at hl ⊢
  have hl : lv_has ls 6 [(0, .ref h0), (1, .long b)] := hl
  generalize hHe : s.heap = H at hP hS ⊢
  have hS : va_S A s.heap H [] := by rw [hHe]; exact hS
  refine my_Q (fun Qn hQ => ?_)
  refine lv_aload_n hx hb dX5_add_0 rfl (lv_at hl 0 rfl) ?_
  refine va_get (D := (dC, dI)) (ci := 5) (v := .int 0) (C := RX5) (T := TX5) (N := 11) hx hb hts inlX5 hown hK hP 0 rfl rfl 1 (by decide) (hts _ mw_122) (fun _ h9 => h9) rfl dX5_add_1 ?_
  refine lv_istore_n (lv' := [(3, .int 0), (0, .ref h0), (1, .long b)]) hx hb dX5_add_4 rfl hl (by decide) rfl (fun ls hl => ?_)
  refine lv_bipush (v := 56) hx hb dX5_add_5 (by decide) ?_
  refine lv_istore (lv' := [(4, .int 56), (3, .int 0), (0, .ref h0), (1, .long b)]) hx hb dX5_add_7 hl (by decide) rfl (fun ls hl => ?_)
  have loop1 : ∀ (n k : Nat) (z9 : Int32) (H : Heap) (locs : List Loc) (ls : Array Slot), n + k = 8 → (z9 = nI (cn b k)) → va_P (dC, dI) vwCl [(h0, .inr (5, [.ref w1, .int 0, v2, v3, v4, v5, v6, v7, v8, v9, v10])), (w1, .inl (cy 0, 600, .inl f))] H → va_D A [(h0, .inr (5, [.ref w1, .int 0, v2, v3, v4, v5, v6, v7, v8, v9, v10])), (w1, .inl (cy 0, 600, .inl f))] → va_S A s.heap H locs → lv_has ls 6 [(4, .int (sh k)), (3, .int z9), (0, .ref h0), (1, .long b)] → W p l e (headSpec (wsg yX5_add cX5_add 6 (some .boolean)) ({ frames := 9, cells := 0, slots := 0, locals := 400 })).room s m ([.ref h0, .long b] : List Value).toArray below meth c H locs 0 0 Qn (F0 m 9 ls []) := by
    intro n
    induction n with
    | zero =>
      intro k z9 H locs ls hnk hc hP hD hS hl
      obtain rfl : k = 8 := by omega
      refine lv_iload hx hb dX5_add_9 (lv_at hl 0 rfl) ?_
      refine lv_if_lt (tgt := 32) hx hb dX5_add_11 (by decide) (fun c_11_1 => ?_) (fun c_11_1 => by exact absurd (show sh 8 < 0 by decide) c_11_1)
      refine lv_iload_n hx hb dX5_add_32 rfl (lv_at hl 1 rfl) ?_
      refine lv_sipush (v := 600) hx hb dX5_add_33 (by decide) ?_
      refine lv_icmp_le (tgt := 41) hx hb dX5_add_36 (by decide) (fun c_36_1 => ?_) (fun c_36_1 => by exact absurd (by rw [hc]; exact nI_le (b := 600) (by have := cn_le b 8; omega) (by decide)) c_36_1)
      refine lv_bipush (v := 56) hx hb dX5_add_41 (by decide) ?_
      refine lv_istore (lv' := [(4, .int 56), (3, .int z9), (0, .ref h0), (1, .long b)]) hx hb dX5_add_43 hl (by decide) rfl (fun ls hl => ?_)
      have loop2 : ∀ (n k : Nat) (c2 : Int32) (f3 : Nat → Int32) (H : Heap) (locs : List Loc) (ls : Array Slot), n + k = 8 → (c2 = nI (cn b k)) → va_P (dC, dI) vwCl [(h0, .inr (5, [.ref w1, .int c2, v2, v3, v4, v5, v6, v7, v8, v9, v10])), (w1, .inl (cy 0, 600, .inl f3))] H → va_D A [(h0, .inr (5, [.ref w1, .int c2, v2, v3, v4, v5, v6, v7, v8, v9, v10])), (w1, .inl (cy 0, 600, .inl f3))] → va_S A s.heap H locs → lv_has ls 6 [(4, .int (sh k)), (0, .ref h0), (1, .long b)] → W p l e (headSpec (wsg yX5_add cX5_add 6 (some .boolean)) ({ frames := 9, cells := 0, slots := 0, locals := 400 })).room s m ([.ref h0, .long b] : List Value).toArray below meth c H locs 0 0 Qn (F0 m 45 ls []) := by
        intro n
        induction n with
        | zero =>
          intro k c2 f3 H locs ls hnk hc hP hD hS hl
          obtain rfl : k = 8 := by omega
          subst hc
          refine lv_iload hx hb dX5_add_45 (lv_at hl 0 rfl) ?_
          refine lv_if_lt (tgt := 100) hx hb dX5_add_47 (by decide) (fun c_47_1 => ?_) (fun c_47_1 => by exact absurd (show sh 8 < 0 by decide) c_47_1)
          refine lv_iconst (v := 1) hx hb dX5_add_100 (by decide) ?_
          rw [hQ]
          have hP9 := hP.sub (ws' := [(h0, .inr (5, [.ref w1, .int (nI (cn b 8)), v2, v3, v4, v5, v6, v7, v8, v9, v10])), (w1, .inl (cy 0, 600, .inl f3))]) [0, 1] rfl
          have hD9 := hD.sub (ws' := [(h0, .inr (5, [.ref w1, .int (nI (cn b 8)), v2, v3, v4, v5, v6, v7, v8, v9, v10])), (w1, .inl (cy 0, 600, .inl f3))]) [0, 1] (by decide) rfl
          refine W.widen (k := 0) (n := 0) (by omega) (by omega) ?_
          exact W.zret (v := 1) hx hb hr (by rfl) (fun t ht hW => ⟨⟨1, (), rfl, rfl, _, trivial, by rw [ht]; exact hP9, hD9⟩, hS.F ht⟩) hS.2.2 dX5_add_101
        | succ n ih =>
          intro k c2 f3 H locs ls hnk hc hP hD hS hl
          have hk : k < 8 := by omega
          refine lv_iload hx hb dX5_add_45 (lv_at hl 0 rfl) ?_
          refine lv_if_lt (tgt := 100) hx hb dX5_add_47 (by decide) (fun c_47_2 => by exact absurd c_47_2 (sh_ge hk)) (fun c_47_2 => ?_)
          refine lv_lload_n hx hb dX5_add_50 rfl (lv_at hl 2 rfl) ?_
          refine lv_iload hx hb dX5_add_51 (lv_at hl 0 rfl) ?_
          refine lv_lushr (v := (b.toUInt64 >>> (((sh k)).toInt64.toUInt64 &&& Int64.toUInt64 63)).toInt64) hx hb dX5_add_53 rfl ?_
          refine lv_l2i (v := ((b.toUInt64 >>> (((sh k)).toInt64.toUInt64 &&& Int64.toUInt64 63)).toInt64).toInt32) hx hb dX5_add_54 rfl ?_
          refine lv_i2b (v := (((b.toUInt64 >>> (((sh k)).toInt64.toUInt64 &&& Int64.toUInt64 63)).toInt64).toInt32).toInt8.toInt32) hx hb dX5_add_55 rfl ?_
          refine my_topi (y := (cB b (sh k))) (by rfl) ?_
          refine lv_istore (lv' := [(5, .int (cB b (sh k))), (4, .int (sh k)), (0, .ref h0), (1, .long b)]) hx hb dX5_add_56 hl (by decide) rfl (fun ls hl => ?_)
          refine lv_iload hx hb dX5_add_58 (lv_at hl 0 rfl) ?_
          refine lv_if_eq (tgt := 94) hx hb dX5_add_60 (by decide) (fun c_60_1 => ?_) (fun c_60_1 => ?_)
          · skip
            refine lv_iinc (v := sh (k + 1)) (lv' := [(4, .int (sh (k + 1))), (5, .int (cB b (sh k))), (0, .ref h0), (1, .long b)]) hx hb dX5_add_94 hl (k := 1) rfl (sh_step hk) (by decide) rfl (fun ls hl => ?_)
            refine lv_goto (tgt := 45) hx hb dX5_add_97 (by decide) ?_
            exact ih (k + 1) _ _ _ _ _ (by omega) (by rw [hc, cn_z c_60_1]) (hP.sub [0, 1] rfl) (hD.sub [0, 1] (by decide) rfl) hS (lv_sub hl [0, 2, 3] rfl)
          · skip
            refine lv_aload_n hx hb dX5_add_63 rfl (lv_at hl 2 rfl) ?_
            refine va_get (D := (dC, dI)) (ci := 5) (v := .int c2) (C := RX5) (T := TX5) (N := 11) hx hb hts inlX5 hown hK hP 0 rfl rfl 1 (by decide) (hts _ mw_122) (fun _ h9 => h9) rfl dX5_add_64 ?_
            refine lv_sipush (v := 600) hx hb dX5_add_67 (by decide) ?_
            refine lv_icmp_ge (tgt := 94) hx hb dX5_add_70 (by decide) (fun c_70_1 => by exact absurd c_70_1 (by rw [hc]; exact nI_ge (a := cn b k) (b := 600) (by have := cn_le b k; omega) (by decide))) (fun c_70_1 => ?_)
            refine lv_aload_n hx hb dX5_add_73 rfl (lv_at hl 2 rfl) ?_
            refine va_get (D := (dC, dI)) (ci := 5) (v := .ref w1) (C := RX5) (T := TX5) (N := 11) hx hb hts inlX5 hown hK hP 0 rfl rfl 0 (by decide) (hts _ mw_72) (fun _ h9 => h9) rfl dX5_add_74 ?_
            refine lv_aload_n hx hb dX5_add_77 rfl (lv_at hl 2 rfl) ?_
            refine va_get (D := (dC, dI)) (ci := 5) (v := .int c2) (C := RX5) (T := TX5) (N := 11) hx hb hts inlX5 hown hK hP 0 rfl rfl 1 (by decide) (hts _ mw_122) (fun _ h9 => h9) rfl dX5_add_78 ?_
            refine lv_iload hx hb dX5_add_81 (lv_at hl 0 rfl) ?_
            refine va_bast hx hb hK hP hD hS 1 0 rfl rfl (by rw [hc]; exact vp_in_nI (by have := cn_le b k; omega) (by decide)) dX5_add_83 (fun H locs hP hD hS => ?_)
            have hP : va_P (dC, dI) vwCl [(h0, .inr (5, [.ref w1, .int c2, v2, v3, v4, v5, v6, v7, v8, v9, v10])), (w1, .inl (cy 0, 600, .inl (upd f3 ((c2 : Int32).toNatClampNeg) (vp_nar .byte (cB b (sh k))))))] H := hP
            have hD : va_D A [(h0, .inr (5, [.ref w1, .int c2, v2, v3, v4, v5, v6, v7, v8, v9, v10])), (w1, .inl (cy 0, 600, .inl (upd f3 ((c2 : Int32).toNatClampNeg) (vp_nar .byte (cB b (sh k))))))] := hD
            refine lv_aload_n hx hb dX5_add_84 rfl (lv_at hl 2 rfl) ?_
            refine lv_dup hx hb dX5_add_85 rfl ?_
            refine va_get (D := (dC, dI)) (ci := 5) (v := .int c2) (C := RX5) (T := TX5) (N := 11) hx hb hts inlX5 hown hK hP 0 rfl rfl 1 (by decide) (hts _ mw_122) (fun _ h9 => h9) rfl dX5_add_86 ?_
            refine lv_iconst (v := 1) hx hb dX5_add_89 (by decide) ?_
            refine lv_iadd hx hb dX5_add_90 ?_
            refine va_put (D := (dC, dI)) (ci := 5) (v := .int (c2 + 1)) (ty := .int) (C := RX5) (T := TX5) (N := 11) hx hb hts inlX5 tyX5 tyX5_ok nmX5 hown hK hP hD hS 0 rfl rfl 1 (by decide) (hts _ mw_122) (fun _ h9 => h9) rfl (by decide +kernel) rfl rfl (Nat.le_of_ble_eq_true rfl) dX5_add_91 (fun H locs hP hD hS => ?_)
            have hP : va_P (dC, dI) vwCl [(h0, .inr (5, [.ref w1, .int (c2 + 1), v2, v3, v4, v5, v6, v7, v8, v9, v10])), (w1, .inl (cy 0, 600, .inl (upd f3 ((c2 : Int32).toNatClampNeg) (vp_nar .byte (cB b (sh k))))))] H := hP
            have hD : va_D A [(h0, .inr (5, [.ref w1, .int (c2 + 1), v2, v3, v4, v5, v6, v7, v8, v9, v10])), (w1, .inl (cy 0, 600, .inl (upd f3 ((c2 : Int32).toNatClampNeg) (vp_nar .byte (cB b (sh k))))))] := hD
            refine lv_iinc (v := sh (k + 1)) (lv' := [(4, .int (sh (k + 1))), (5, .int (cB b (sh k))), (0, .ref h0), (1, .long b)]) hx hb dX5_add_94 hl (k := 1) rfl (sh_step hk) (by decide) rfl (fun ls hl => ?_)
            refine lv_goto (tgt := 45) hx hb dX5_add_97 (by decide) ?_
            exact ih (k + 1) _ _ _ _ _ (by omega) (by rw [hc, cn_s c_60_1, nI_1]) (hP.sub [0, 1] rfl) (hD.sub [0, 1] (by decide) rfl) hS (lv_sub hl [0, 2, 3] rfl)
      exact loop2 8 0 _ _ _ _ _ (by omega) rfl (hP.sub [0, 1] rfl) (hD.sub [0, 1] (by decide) rfl) hS (lv_sub hl [0, 2, 3] rfl)
    | succ n ih =>
      intro k z9 H locs ls hnk hc hP hD hS hl
      have hk : k < 8 := by omega
      refine lv_iload hx hb dX5_add_9 (lv_at hl 0 rfl) ?_
      refine lv_if_lt (tgt := 32) hx hb dX5_add_11 (by decide) (fun c_11_2 => by exact absurd c_11_2 (sh_ge hk)) (fun c_11_2 => ?_)
      refine lv_lload_n hx hb dX5_add_14 rfl (lv_at hl 3 rfl) ?_
      refine lv_iload hx hb dX5_add_15 (lv_at hl 0 rfl) ?_
      refine lv_lushr (v := (b.toUInt64 >>> (((sh k)).toInt64.toUInt64 &&& Int64.toUInt64 63)).toInt64) hx hb dX5_add_17 rfl ?_
      refine lv_l2i (v := ((b.toUInt64 >>> (((sh k)).toInt64.toUInt64 &&& Int64.toUInt64 63)).toInt64).toInt32) hx hb dX5_add_18 rfl ?_
      refine lv_i2b (v := (((b.toUInt64 >>> (((sh k)).toInt64.toUInt64 &&& Int64.toUInt64 63)).toInt64).toInt32).toInt8.toInt32) hx hb dX5_add_19 rfl ?_
      refine my_topi (y := (cB b (sh k))) (by rfl) ?_
      refine lv_if_eq (tgt := 26) hx hb dX5_add_20 (by decide) (fun c_20_1 => ?_) (fun c_20_1 => ?_)
      · skip
        refine lv_iinc (v := sh (k + 1)) (lv' := [(4, .int (sh (k + 1))), (3, .int z9), (0, .ref h0), (1, .long b)]) hx hb dX5_add_26 hl (k := 0) rfl (sh_step hk) (by decide) rfl (fun ls hl => ?_)
        refine lv_goto (tgt := 9) hx hb dX5_add_29 (by decide) ?_
        exact ih (k + 1) z9 _ _ _ (by omega) (by rw [hc, cn_z c_20_1]) (hP.sub [0, 1] rfl) (hD.sub [0, 1] (by decide) rfl) hS (lv_sub hl [0, 1, 2, 3] rfl)
      · skip
        refine lv_iinc (v := (z9 + 1)) (lv' := [(3, .int (z9 + 1)), (4, .int (sh k)), (0, .ref h0), (1, .long b)]) hx hb dX5_add_23 hl (k := 1) rfl (by rfl) (by decide) rfl (fun ls hl => ?_)
        refine lv_iinc (v := sh (k + 1)) (lv' := [(4, .int (sh (k + 1))), (3, .int (z9 + 1)), (0, .ref h0), (1, .long b)]) hx hb dX5_add_26 hl (k := 1) rfl (sh_step hk) (by decide) rfl (fun ls hl => ?_)
        refine lv_goto (tgt := 9) hx hb dX5_add_29 (by decide) ?_
        exact ih (k + 1) (z9 + 1) _ _ _ (by omega) (by rw [hc, cn_s c_20_1, nI_1]) (hP.sub [0, 1] rfl) (hD.sub [0, 1] (by decide) rfl) hS (lv_sub hl [0, 1, 2, 3] rfl)
  exact loop1 8 0 _ _ _ _ (by omega) rfl (hP.sub [0, 1] rfl) (hD.sub [0, 1] (by decide) rfl) hS (lv_sub hl [0, 1, 2, 3] rfl)
set_option maxHeartbeats 4000000 in
set_option maxRecDepth 100000 in
/-- X7_append -/
theorem c_X7_append (l : Launch) (dC : Nat → ClassId) (dI : Nat → Nat → Nat) (cy : Nat → ClassId) (nb : Nat → Nat) (h0 : Nat) (a1 : Nat) (a2 : Nat) (a3 : Nat) (a4 : Nat) (a5 : Nat) (a6 : Nat) (a7 : Nat) (b1 : Nat) (b2 : Nat) (b3 : Nat) (b4 : Nat) (b5 : Nat) (b6 : Nat) (e1 : Nat) (e2 : Nat) (e3 : Nat) (e4 : Nat) (e5 : Nat) (e6 : Nat) (w1 : Nat) (w2 : Nat) (w3 : Nat) (w4 : Nat) (f : Nat → Int32) (g : Nat → Int32) (b : Int64) (sz : Nat) (hf : (∀ k : Nat, k < 5 → f k = 0)) (hg : (∀ k : Nat, k < 5 → g k = 0)) : Met l yX7_append (wsg yX7_append cX7_append 3 (some .int)) ({ frames := 12, cells := 0, slots := 0, locals := 700 }) (va_Pc [.ref h0, .long b] (fun U => U.heap.size = sz ∧ va_P (dC, dI) vwCl [(h0, .inr (7, [.ref a1, .ref a2, .ref a3, .ref a4, .ref a5, .ref a6, .ref a7, .int 0, .int 0, .int (-1), .int 0, .int 0])), (a1, .inr (3, [.int 480, .int 1, .int 1, .int 0, .int 0, .int 0, .int 0, .int 0, .int 0, .int 0, .ref b1, .ref b2, .ref b3, .ref b4, .ref b5, .ref b6, .int 0])), (b4, .inl (cy 1, 5, .inl f)), (b5, .inl (cy 1, 30, .inl (fun _ => 0))), (b6, .inl (cy 1, 5, .inl g)), (a2, .inr (3, [.int 1, .int 0, .int 0, .int 0, .int 0, .int 0, .int 0, .int 0, .int 0, .int 0, .ref e1, .ref e2, .ref e3, .ref e4, .ref e5, .ref e6, .int 0])), (e4, .inl (cy 1, 5, .inl (fun _ => 0))), (e5, .inl (cy 1, 30, .inl (fun _ => 0))), (e6, .inl (cy 1, 5, .inl (fun _ => 0))), (a3, .inr (5, [.ref w1, .int 0, .int 0, .int 0, .int 0, .int 0, .ref w2, .ref w3, .ref w4, .int 0, .int 0])), (w1, .inl (cy 0, 600, .inl (fun _ => 0))), (a5, .inl (cy 5, 8, .inr (.inr (.inr (.inr (fun _ => none)))))), (a6, .inl (cy 5, 2, .inr (.inr (.inr (.inr (fun _ => none))))))] U.heap ∧ va_K (dC, dI) vwCl (tyL cy) U ∧ va_D (fun _ => True) [(h0, .inr (7, [.ref a1, .ref a2, .ref a3, .ref a4, .ref a5, .ref a6, .ref a7, .int 0, .int 0, .int (-1), .int 0, .int 0])), (a1, .inr (3, [.int 480, .int 1, .int 1, .int 0, .int 0, .int 0, .int 0, .int 0, .int 0, .int 0, .ref b1, .ref b2, .ref b3, .ref b4, .ref b5, .ref b6, .int 0])), (b4, .inl (cy 1, 5, .inl f)), (b5, .inl (cy 1, 30, .inl (fun _ => 0))), (b6, .inl (cy 1, 5, .inl g)), (a2, .inr (3, [.int 1, .int 0, .int 0, .int 0, .int 0, .int 0, .int 0, .int 0, .int 0, .int 0, .ref e1, .ref e2, .ref e3, .ref e4, .ref e5, .ref e6, .int 0])), (e4, .inl (cy 1, 5, .inl (fun _ => 0))), (e5, .inl (cy 1, 30, .inl (fun _ => 0))), (e6, .inl (cy 1, 5, .inl (fun _ => 0))), (a3, .inr (5, [.ref w1, .int 0, .int 0, .int 0, .int 0, .int 0, .ref w2, .ref w3, .ref w4, .int 0, .int 0])), (w1, .inl (cy 0, 600, .inl (fun _ => 0))), (a5, .inl (cy 5, 8, .inr (.inr (.inr (.inr (fun _ => none)))))), (a6, .inl (cy 5, 2, .inr (.inr (.inr (.inr (fun _ => none))))))] ∧ GE nb (va_A [(h0, .inr (7, [.ref a1, .ref a2, .ref a3, .ref a4, .ref a5, .ref a6, .ref a7, .int 0, .int 0, .int (-1), .int 0, .int 0])), (a1, .inr (3, [.int 480, .int 1, .int 1, .int 0, .int 0, .int 0, .int 0, .int 0, .int 0, .int 0, .ref b1, .ref b2, .ref b3, .ref b4, .ref b5, .ref b6, .int 0])), (b4, .inl (cy 1, 5, .inl f)), (b5, .inl (cy 1, 30, .inl (fun _ => 0))), (b6, .inl (cy 1, 5, .inl g)), (a2, .inr (3, [.int 1, .int 0, .int 0, .int 0, .int 0, .int 0, .int 0, .int 0, .int 0, .int 0, .ref e1, .ref e2, .ref e3, .ref e4, .ref e5, .ref e6, .int 0])), (e4, .inl (cy 1, 5, .inl (fun _ => 0))), (e5, .inl (cy 1, 30, .inl (fun _ => 0))), (e6, .inl (cy 1, 5, .inl (fun _ => 0))), (a3, .inr (5, [.ref w1, .int 0, .int 0, .int 0, .int 0, .int 0, .ref w2, .ref w3, .ref w4, .int 0, .int 0])), (w1, .inl (cy 0, 600, .inl (fun _ => 0))), (a5, .inl (cy 5, 8, .inr (.inr (.inr (.inr (fun _ => none)))))), (a6, .inl (cy 5, 2, .inr (.inr (.inr (.inr (fun _ => none))))))] sz) U)) (va_Qi (fun (r : Int32) (_ : Unit) => r = (nI (cn b 8))) (fun _ t => va_P (dC, dI) vwCl [] t.heap ∧ va_D (va_A [(h0, .inr (7, [.ref a1, .ref a2, .ref a3, .ref a4, .ref a5, .ref a6, .ref a7, .int 0, .int 0, .int (-1), .int 0, .int 0])), (a1, .inr (3, [.int 480, .int 1, .int 1, .int 0, .int 0, .int 0, .int 0, .int 0, .int 0, .int 0, .ref b1, .ref b2, .ref b3, .ref b4, .ref b5, .ref b6, .int 0])), (b4, .inl (cy 1, 5, .inl f)), (b5, .inl (cy 1, 30, .inl (fun _ => 0))), (b6, .inl (cy 1, 5, .inl g)), (a2, .inr (3, [.int 1, .int 0, .int 0, .int 0, .int 0, .int 0, .int 0, .int 0, .int 0, .int 0, .ref e1, .ref e2, .ref e3, .ref e4, .ref e5, .ref e6, .int 0])), (e4, .inl (cy 1, 5, .inl (fun _ => 0))), (e5, .inl (cy 1, 30, .inl (fun _ => 0))), (e6, .inl (cy 1, 5, .inl (fun _ => 0))), (a3, .inr (5, [.ref w1, .int 0, .int 0, .int 0, .int 0, .int 0, .ref w2, .ref w3, .ref w4, .int 0, .int 0])), (w1, .inl (cy 0, 600, .inl (fun _ => 0))), (a5, .inl (cy 5, 8, .inr (.inr (.inr (.inr (fun _ => none)))))), (a6, .inl (cy 5, 2, .inr (.inr (.inr (.inr (fun _ => none))))))] sz) []) (va_A [(h0, .inr (7, [.ref a1, .ref a2, .ref a3, .ref a4, .ref a5, .ref a6, .ref a7, .int 0, .int 0, .int (-1), .int 0, .int 0])), (a1, .inr (3, [.int 480, .int 1, .int 1, .int 0, .int 0, .int 0, .int 0, .int 0, .int 0, .int 0, .ref b1, .ref b2, .ref b3, .ref b4, .ref b5, .ref b6, .int 0])), (b4, .inl (cy 1, 5, .inl f)), (b5, .inl (cy 1, 30, .inl (fun _ => 0))), (b6, .inl (cy 1, 5, .inl g)), (a2, .inr (3, [.int 1, .int 0, .int 0, .int 0, .int 0, .int 0, .int 0, .int 0, .int 0, .int 0, .ref e1, .ref e2, .ref e3, .ref e4, .ref e5, .ref e6, .int 0])), (e4, .inl (cy 1, 5, .inl (fun _ => 0))), (e5, .inl (cy 1, 30, .inl (fun _ => 0))), (e6, .inl (cy 1, 5, .inl (fun _ => 0))), (a3, .inr (5, [.ref w1, .int 0, .int 0, .int 0, .int 0, .int 0, .ref w2, .ref w3, .ref w4, .int 0, .int 0])), (w1, .inl (cy 0, 600, .inl (fun _ => 0))), (a5, .inl (cy 5, 8, .inr (.inr (.inr (.inr (fun _ => none)))))), (a6, .inl (cy 5, 2, .inr (.inr (.inr (.inr (fun _ => none))))))] sz)) 0 0 (va_A [(h0, .inr (7, [.ref a1, .ref a2, .ref a3, .ref a4, .ref a5, .ref a6, .ref a7, .int 0, .int 0, .int (-1), .int 0, .int 0])), (a1, .inr (3, [.int 480, .int 1, .int 1, .int 0, .int 0, .int 0, .int 0, .int 0, .int 0, .int 0, .ref b1, .ref b2, .ref b3, .ref b4, .ref b5, .ref b6, .int 0])), (b4, .inl (cy 1, 5, .inl f)), (b5, .inl (cy 1, 30, .inl (fun _ => 0))), (b6, .inl (cy 1, 5, .inl g)), (a2, .inr (3, [.int 1, .int 0, .int 0, .int 0, .int 0, .int 0, .int 0, .int 0, .int 0, .int 0, .ref e1, .ref e2, .ref e3, .ref e4, .ref e5, .ref e6, .int 0])), (e4, .inl (cy 1, 5, .inl (fun _ => 0))), (e5, .inl (cy 1, 30, .inl (fun _ => 0))), (e6, .inl (cy 1, 5, .inl (fun _ => 0))), (a3, .inr (5, [.ref w1, .int 0, .int 0, .int 0, .int 0, .int 0, .ref w2, .ref w3, .ref w4, .int 0, .int 0])), (w1, .inl (cy 0, 600, .inl (fun _ => 0))), (a5, .inl (cy 5, 8, .inr (.inr (.inr (.inr (fun _ => none)))))), (a6, .inl (cy 5, 2, .inr (.inr (.inr (.inr (fun _ => none))))))] sz) := by
  refine Met.ofW (cc := cX7_append) (maxL := 3) (ret := (some .int)) (by decide) rfl ?_
  intro p e s m args below meth c s₁ B hml hv
  obtain ⟨rfl, hsz, hP, hK, hD0, hE⟩ := hv
  have hx := B.exec
  have hb := B.bytes
  have hr := B.returns
  have hts0 := atoms_spec (ws := (wsg yX7_append cX7_append 3 (some .int))) B.pre
  have hts : ∀ w ∈ wsL_law, w.before _ s = true := fun w h => hts0 w (List.mem_cons_of_mem _ h)
  have hown : s.vm.findClass RX7 = some m.cls := findClass_of_methodNamed B.named
  have hlocks := B.notSynchronized
  subst hsz
  have hD := hD0.self (sz := s.heap.size)
  generalize hAe : va_A [(h0, .inr (7, [.ref a1, .ref a2, .ref a3, .ref a4, .ref a5, .ref a6, .ref a7, .int 0, .int 0, .int (-1), .int 0, .int 0])), (a1, .inr (3, [.int 480, .int 1, .int 1, .int 0, .int 0, .int 0, .int 0, .int 0, .int 0, .int 0, .ref b1, .ref b2, .ref b3, .ref b4, .ref b5, .ref b6, .int 0])), (b4, .inl (cy 1, 5, .inl f)), (b5, .inl (cy 1, 30, .inl (fun _ => 0))), (b6, .inl (cy 1, 5, .inl g)), (a2, .inr (3, [.int 1, .int 0, .int 0, .int 0, .int 0, .int 0, .int 0, .int 0, .int 0, .int 0, .ref e1, .ref e2, .ref e3, .ref e4, .ref e5, .ref e6, .int 0])), (e4, .inl (cy 1, 5, .inl (fun _ => 0))), (e5, .inl (cy 1, 30, .inl (fun _ => 0))), (e6, .inl (cy 1, 5, .inl (fun _ => 0))), (a3, .inr (5, [.ref w1, .int 0, .int 0, .int 0, .int 0, .int 0, .ref w2, .ref w3, .ref w4, .int 0, .int 0])), (w1, .inl (cy 0, 600, .inl (fun _ => 0))), (a5, .inl (cy 5, 8, .inr (.inr (.inr (.inr (fun _ => none)))))), (a6, .inl (cy 5, 2, .inr (.inr (.inr (.inr (fun _ => none))))))] s.heap.size = A at hD hE ⊢
  have hA : ∀ q : Nat, s.heap.size ≤ q → A q := fun q h => by rw [← hAe]; exact Or.inr h
  have hS : va_S A s.heap s.heap [] := va_S.rf
  have hP : va_P (dC, dI) vwCl [(h0, .inr (7, [.ref a1, .ref a2, .ref a3, .ref a4, .ref a5, .ref a6, .ref a7, .int 0, .int 0, .int (-1), .int 0, .int 0])), (a1, .inr (3, [.int 480, .int 1, .int 1, .int 0, .int 0, .int 0, .int 0, .int 0, .int 0, .int 0, .ref b1, .ref b2, .ref b3, .ref b4, .ref b5, .ref b6, .int 0])), (b4, .inl (cy 1, 5, .inl f)), (b5, .inl (cy 1, 30, .inl (fun _ => 0))), (b6, .inl (cy 1, 5, .inl g)), (a2, .inr (3, [.int 1, .int 0, .int 0, .int 0, .int 0, .int 0, .int 0, .int 0, .int 0, .int 0, .ref e1, .ref e2, .ref e3, .ref e4, .ref e5, .ref e6, .int 0])), (e4, .inl (cy 1, 5, .inl (fun _ => 0))), (e5, .inl (cy 1, 30, .inl (fun _ => 0))), (e6, .inl (cy 1, 5, .inl (fun _ => 0))), (a3, .inr (5, [.ref w1, .int 0, .int 0, .int 0, .int 0, .int 0, .ref w2, .ref w3, .ref w4, .int 0, .int 0])), (w1, .inl (cy 0, 600, .inl (fun _ => 0))), (a5, .inl (cy 5, 8, .inr (.inr (.inr (.inr (fun _ => none)))))), (a6, .inl (cy 5, 2, .inr (.inr (.inr (.inr (fun _ => none))))))] s.heap := hP
  have hl := lv_entry ([.ref h0, .long b]) (n := 3) (Nat.le_of_ble_eq_true rfl)
  rw [lg_entry_eq]
  generalize (lg_sl ([.ref h0, .long b]) ++ List.replicate (3 - (lg_sl ([.ref h0, .long b])).length) Slot.unset).toArray = ls at hl ⊢
  have hl : lv_has ls 3 [(0, .ref h0), (1, .long b)] := hl
  generalize hHe : s.heap = H at hP hS ⊢
  have hS : va_S A s.heap H [] := by rw [hHe]; exact hS
  refine lv_aload_n hx hb dX7_append_0 rfl (lv_at hl 0 rfl) ?_
  refine va_get (D := (dC, dI)) (ci := 7) (v := .ref a3) (C := RX7) (T := TX7) (N := 12) hx hb hts inlX7 hown hK hP 0 rfl rfl 2 (by decide) (hts _ mw_23) (fun _ h9 => h9) rfl dX7_append_1 ?_
  refine lv_lload_n hx hb dX7_append_4 rfl (lv_at hl 1 rfl) ?_
  have hPc := hP.sub (ws' := [(a3, .inr (5, [.ref w1, .int 0, .int 0, .int 0, .int 0, .int 0, .ref w2, .ref w3, .ref w4, .int 0, .int 0])), (w1, .inl (cy 0, 600, .inl (fun _ => 0)))]) [9, 10] rfl
  have hDc := hD.sub (ws' := [(a3, .inr (5, [.ref w1, .int 0, .int 0, .int 0, .int 0, .int 0, .ref w2, .ref w3, .ref w4, .int 0, .int 0])), (w1, .inl (cy 0, 600, .inl (fun _ => 0)))]) [9, 10] (by decide) rfl
  have hFc := va_free (wc := [(a3, .inr (5, [.ref w1, .int 0, .int 0, .int 0, .int 0, .int 0, .ref w2, .ref w3, .ref w4, .int 0, .int 0])), (w1, .inl (cy 0, 600, .inl (fun _ => 0)))]) hD hS hA [9, 10] rfl
  refine va_calli (va_runV (As := [.long b]) (rest := []) ⟨hx, hb, hml, hown, hts⟩ (c_X5_add l dC dI cy nb a3 w1 (.int 0) (.int 0) (.int 0) (.int 0) (.ref w2) (.ref w3) (.ref w4) (.int 0) (.int 0) (fun _ => 0) b H.size) (cwV 1 hts (gV mw_118 mw_119 mw_120 mw_22 mw_121) rfl rfl rfl (by decide +kernel) ⟨Nat.le_of_ble_eq_true rfl, Nat.le_of_ble_eq_true rfl⟩) ⟨fun a U g mk q => by obtain ⟨q0, q1, qP, qK, qD, qE⟩ := q; exact ⟨q0, q1, qP, va_K.moved (u := U) (U := U.calling g mk a) (Vm.Alike.refl U.vm) qK, qD, GE.calling qE⟩, va_recv hK hP (ci := 5) (q0 := 9) rfl rfl, fun U hU hW => ⟨rfl, by rw [hU], by rw [hU]; exact hPc, va_K.moved hW.alike hK, hDc.weaken (fun _ _ _ _ => trivial), GE.call hE hS hFc hU hW⟩⟩ rfl rfl hl.1 rfl (lv_room (Nat.le_of_ble_eq_true rfl)) dX7_append_5 ⟨Nat.le_of_ble_eq_true rfl, Nat.le_of_ble_eq_true rfl⟩) hS (fun q _ h => hFc q h) hFc (fun r u t H1 locs ht hvm hw3 hB hz1 hk1 hS => ?_)
  obtain ⟨g1, hg2, hP1, hD1⟩ := hB
  rw [ht] at hP1
  obtain ⟨hP, hD⟩ := va_join (wr := [(h0, .inr (7, [.ref a1, .ref a2, .ref a3, .ref a4, .ref a5, .ref a6, .ref a7, .int 0, .int 0, .int (-1), .int 0, .int 0])), (a1, .inr (3, [.int 480, .int 1, .int 1, .int 0, .int 0, .int 0, .int 0, .int 0, .int 0, .int 0, .ref b1, .ref b2, .ref b3, .ref b4, .ref b5, .ref b6, .int 0])), (b4, .inl (cy 1, 5, .inl f)), (b5, .inl (cy 1, 30, .inl (fun _ => 0))), (b6, .inl (cy 1, 5, .inl g)), (a2, .inr (3, [.int 1, .int 0, .int 0, .int 0, .int 0, .int 0, .int 0, .int 0, .int 0, .int 0, .ref e1, .ref e2, .ref e3, .ref e4, .ref e5, .ref e6, .int 0])), (e4, .inl (cy 1, 5, .inl (fun _ => 0))), (e5, .inl (cy 1, 30, .inl (fun _ => 0))), (e6, .inl (cy 1, 5, .inl (fun _ => 0))), (a5, .inl (cy 5, 8, .inr (.inr (.inr (.inr (fun _ => none)))))), (a6, .inl (cy 5, 2, .inr (.inr (.inr (.inr (fun _ => none))))))]) (w1 := [(a3, .inr (5, [.ref w1, .int (nI (cn b 8)), .int 0, .int 0, .int 0, .int 0, .ref w2, .ref w3, .ref w4, .int 0, .int 0])), (w1, .inl (cy 0, 600, .inl g1))]) hP hD [9, 10] [0, 1, 2, 3, 4, 5, 6, 7, 8, 11, 12] rfl rfl (by decide) (by decide) hk1 hFc hP1 hD1
  generalize H1 = H at hP hS ⊢
  have hP : va_P (dC, dI) vwCl [(h0, .inr (7, [.ref a1, .ref a2, .ref a3, .ref a4, .ref a5, .ref a6, .ref a7, .int 0, .int 0, .int (-1), .int 0, .int 0])), (a1, .inr (3, [.int 480, .int 1, .int 1, .int 0, .int 0, .int 0, .int 0, .int 0, .int 0, .int 0, .ref b1, .ref b2, .ref b3, .ref b4, .ref b5, .ref b6, .int 0])), (b4, .inl (cy 1, 5, .inl f)), (b5, .inl (cy 1, 30, .inl (fun _ => 0))), (b6, .inl (cy 1, 5, .inl g)), (a2, .inr (3, [.int 1, .int 0, .int 0, .int 0, .int 0, .int 0, .int 0, .int 0, .int 0, .int 0, .ref e1, .ref e2, .ref e3, .ref e4, .ref e5, .ref e6, .int 0])), (e4, .inl (cy 1, 5, .inl (fun _ => 0))), (e5, .inl (cy 1, 30, .inl (fun _ => 0))), (e6, .inl (cy 1, 5, .inl (fun _ => 0))), (a5, .inl (cy 5, 8, .inr (.inr (.inr (.inr (fun _ => none)))))), (a6, .inl (cy 5, 2, .inr (.inr (.inr (.inr (fun _ => none)))))), (a3, .inr (5, [.ref w1, .int (nI (cn b 8)), .int 0, .int 0, .int 0, .int 0, .ref w2, .ref w3, .ref w4, .int 0, .int 0])), (w1, .inl (cy 0, 600, .inl g1))] H := hP
  have hD : va_D A [(h0, .inr (7, [.ref a1, .ref a2, .ref a3, .ref a4, .ref a5, .ref a6, .ref a7, .int 0, .int 0, .int (-1), .int 0, .int 0])), (a1, .inr (3, [.int 480, .int 1, .int 1, .int 0, .int 0, .int 0, .int 0, .int 0, .int 0, .int 0, .ref b1, .ref b2, .ref b3, .ref b4, .ref b5, .ref b6, .int 0])), (b4, .inl (cy 1, 5, .inl f)), (b5, .inl (cy 1, 30, .inl (fun _ => 0))), (b6, .inl (cy 1, 5, .inl g)), (a2, .inr (3, [.int 1, .int 0, .int 0, .int 0, .int 0, .int 0, .int 0, .int 0, .int 0, .int 0, .ref e1, .ref e2, .ref e3, .ref e4, .ref e5, .ref e6, .int 0])), (e4, .inl (cy 1, 5, .inl (fun _ => 0))), (e5, .inl (cy 1, 30, .inl (fun _ => 0))), (e6, .inl (cy 1, 5, .inl (fun _ => 0))), (a5, .inl (cy 5, 8, .inr (.inr (.inr (.inr (fun _ => none)))))), (a6, .inl (cy 5, 2, .inr (.inr (.inr (.inr (fun _ => none)))))), (a3, .inr (5, [.ref w1, .int (nI (cn b 8)), .int 0, .int 0, .int 0, .int 0, .ref w2, .ref w3, .ref w4, .int 0, .int 0])), (w1, .inl (cy 0, 600, .inl g1))] := hD
  obtain rfl := hw3
  refine W.widen (k := 0) (n := 0) (by omega) (by omega) ?_
  refine lv_if_eq (tgt := 21) hx hb dX7_append_8 (by decide) (fun h => absurd h (by decide)) (fun _ => ?_)
  refine lv_aload_n hx hb dX7_append_11 rfl (lv_at hl 0 rfl) ?_
  refine va_get (D := (dC, dI)) (ci := 7) (v := .ref a3) (C := RX7) (T := TX7) (N := 12) hx hb hts inlX7 hown hK hP 0 rfl rfl 2 (by decide) (hts _ mw_23) (fun _ h9 => h9) rfl dX7_append_12 ?_
  refine va_get (D := (dC, dI)) (ci := 5) (v := .int (nI (cn b 8))) (C := RX5) (T := TX5) (N := 11) hx hb hts inlX5 hown hK hP 11 rfl rfl 1 (by decide) (hts _ mw_117) (fun _ h9 => h9) rfl dX7_append_15 ?_
  refine lv_goto (tgt := 23) hx hb dX7_append_18 (by decide) ?_
  have hP9 := hP.sub (ws' := []) [] rfl
  have hD9 := hD.sub (ws' := []) [] (by decide) rfl
  refine W.widen (k := 0) (n := 0) (by omega) (by omega) ?_
  exact W.iret (v := (nI (cn b 8))) hx hb hr (fun t ht hW => ⟨⟨(nI (cn b 8)), (), rfl, rfl, by rw [ht]; exact hP9, hD9⟩, hS.F ht⟩) hS.2.2 dX7_append_23
set_option maxHeartbeats 4000000 in
set_option maxRecDepth 100000 in
/-- byteOf -/
theorem c_X8_byteOf (l : Launch) (dC : Nat → ClassId) (dI : Nat → Nat → Nat) (cy : Nat → ClassId) (nb : Nat → Nat) (b : Int64) (kk : Int32) (sz : Nat) : Met l yX8_byteOf (wsg yX8_byteOf cX8_byteOf 3 (some .int)) ({ frames := 7, cells := 0, slots := 0, locals := 200 }) (va_Pc [.long b, .int kk] (fun U => U.heap.size = sz ∧ va_P (dC, dI) vwCl [] U.heap ∧ va_K (dC, dI) vwCl (tyL cy) U ∧ va_D (fun _ => True) [] ∧ GE nb (va_A [] sz) U)) (va_Qi (fun (r : Int32) (_ : Unit) => r = (bM b kk)) (fun _ t => va_P (dC, dI) vwCl [] t.heap ∧ va_D (va_A [] sz) []) (va_A [] sz)) 0 0 (va_A [] sz) := by
  refine Met.ofW (cc := cX8_byteOf) (maxL := 3) (ret := (some .int)) (by decide) rfl ?_
  intro p e s m args below meth c s₁ B hml hv
  obtain ⟨rfl, hsz, hP, hK, hD0, hE⟩ := hv
  have hx := B.exec
  have hb := B.bytes
  have hr := B.returns
  have hts0 := atoms_spec (ws := (wsg yX8_byteOf cX8_byteOf 3 (some .int))) B.pre
  have hts : ∀ w ∈ wsL_law, w.before _ s = true := fun w h => hts0 w (List.mem_cons_of_mem _ h)
  have hown : s.vm.findClass RX8 = some m.cls := findClass_of_methodNamed B.named
  have hlocks := B.notSynchronized
  subst hsz
  have hD := hD0.self (sz := s.heap.size)
  generalize hAe : va_A [] s.heap.size = A at hD hE ⊢
  have hA : ∀ q : Nat, s.heap.size ≤ q → A q := fun q h => by rw [← hAe]; exact Or.inr h
  have hS : va_S A s.heap s.heap [] := va_S.rf
  have hP : va_P (dC, dI) vwCl [] s.heap := hP
  have hl := lv_entry ([.long b, .int kk]) (n := 3) (Nat.le_of_ble_eq_true rfl)
  rw [lg_entry_eq]
  generalize (lg_sl ([.long b, .int kk]) ++ List.replicate (3 - (lg_sl ([.long b, .int kk])).length) Slot.unset).toArray = ls at hl ⊢
  have hl : lv_has ls 3 [(0, .long b), (2, .int kk)] := hl
  generalize hHe : s.heap = H at hP hS ⊢
  have hS : va_S A s.heap H [] := by rw [hHe]; exact hS
  refine lv_lload_n hx hb dX8_byteOf_0 rfl (lv_at hl 0 rfl) ?_
  refine lv_bipush (v := 8) hx hb dX8_byteOf_1 (by decide) ?_
  refine lv_bipush (v := 7) hx hb dX8_byteOf_3 (by decide) ?_
  refine lv_iload_n hx hb dX8_byteOf_5 rfl (lv_at hl 1 rfl) ?_
  refine lv_isub hx hb dX8_byteOf_6 ?_
  refine lv_imul hx hb dX8_byteOf_7 ?_
  refine lv_lshr (v := (b >>> (((8 * (7 - kk))).toInt64 &&& 63))) hx hb dX8_byteOf_8 rfl ?_
  refine lv_ldc2 hx hb hown (hts _ mw_132) dX8_byteOf_9 ?_
  refine lv_land hx hb dX8_byteOf_12 ?_
  refine lv_l2i (v := (((b >>> (((8 * (7 - kk))).toInt64 &&& 63)) &&& 255)).toInt32) hx hb dX8_byteOf_13 rfl ?_
  refine my_topi (y := (bM b kk)) (by rfl) ?_
  have hP9 := hP.sub (ws' := []) [] rfl
  have hD9 := hD.sub (ws' := []) [] (by decide) rfl
  refine W.widen (k := 0) (n := 0) (by omega) (by omega) ?_
  exact W.iret (v := (bM b kk)) hx hb hr (fun t ht hW => ⟨⟨(bM b kk), (), rfl, rfl, by rw [ht]; exact hP9, hD9⟩, hS.F ht⟩) hS.2.2 dX8_byteOf_14
set_option maxHeartbeats 4000000 in
set_option maxRecDepth 100000 in
/-- append(b), to an empty buffer -/
theorem c_X8_append (l : Launch) (dC : Nat → ClassId) (dI : Nat → Nat → Nat) (cy : Nat → ClassId) (nb : Nat → Nat) (h0 : Nat) (a1 : Nat) (a2 : Nat) (a3 : Nat) (a4 : Nat) (a5 : Nat) (a6 : Nat) (a7 : Nat) (a8 : Nat) (a9 : Nat) (b0 : Nat) (x6 : Int32) (f : Nat → Int32) (b : Int64) (sz : Nat) : Met l yX8_append (wsg yX8_append cX8_append 5 (some .int)) ({ frames := 10, cells := 0, slots := 0, locals := 500 }) (va_Pc [.ref h0, .long b] (fun U => U.heap.size = sz ∧ va_P (dC, dI) vwCl [(h0, .inr (8, [.ref a1, .ref a2, .ref a3, .ref a4, .ref a5, .int 0, .int x6, .ref a6, .int 0, .int 0, .int 0, .int 0, .int 0, .int 0, .int 0, .int 0, .int (-1), .ref a7, .ref a8, .int 0, .ref a9, .ref b0, .int 0])), (a6, .inl (cy 0, 600, .inl f))] U.heap ∧ va_K (dC, dI) vwCl (tyL cy) U ∧ va_D (fun _ => True) [(h0, .inr (8, [.ref a1, .ref a2, .ref a3, .ref a4, .ref a5, .int 0, .int x6, .ref a6, .int 0, .int 0, .int 0, .int 0, .int 0, .int 0, .int 0, .int 0, .int (-1), .ref a7, .ref a8, .int 0, .ref a9, .ref b0, .int 0])), (a6, .inl (cy 0, 600, .inl f))] ∧ GE nb (va_A [(h0, .inr (8, [.ref a1, .ref a2, .ref a3, .ref a4, .ref a5, .int 0, .int x6, .ref a6, .int 0, .int 0, .int 0, .int 0, .int 0, .int 0, .int 0, .int 0, .int (-1), .ref a7, .ref a8, .int 0, .ref a9, .ref b0, .int 0])), (a6, .inl (cy 0, 600, .inl f))] sz) U)) (va_Qi (fun (r : Int32) (_ : Unit) => r = (nI (cm b 8))) (fun _ t => va_P (dC, dI) vwCl [(h0, .inr (8, [.ref a1, .ref a2, .ref a3, .ref a4, .ref a5, .int 0, .int 0, .ref a6, .int (nI (cm b 8)), .int 0, .int 0, .int 0, .int 0, .int 0, .int 0, .int 0, .int (-1), .ref a7, .ref a8, .int 0, .ref a9, .ref b0, .int 0]))] t.heap ∧ va_D (va_A [(h0, .inr (8, [.ref a1, .ref a2, .ref a3, .ref a4, .ref a5, .int 0, .int x6, .ref a6, .int 0, .int 0, .int 0, .int 0, .int 0, .int 0, .int 0, .int 0, .int (-1), .ref a7, .ref a8, .int 0, .ref a9, .ref b0, .int 0])), (a6, .inl (cy 0, 600, .inl f))] sz) [(h0, .inr (8, [.ref a1, .ref a2, .ref a3, .ref a4, .ref a5, .int 0, .int 0, .ref a6, .int (nI (cm b 8)), .int 0, .int 0, .int 0, .int 0, .int 0, .int 0, .int 0, .int (-1), .ref a7, .ref a8, .int 0, .ref a9, .ref b0, .int 0]))]) (va_A [(h0, .inr (8, [.ref a1, .ref a2, .ref a3, .ref a4, .ref a5, .int 0, .int x6, .ref a6, .int 0, .int 0, .int 0, .int 0, .int 0, .int 0, .int 0, .int 0, .int (-1), .ref a7, .ref a8, .int 0, .ref a9, .ref b0, .int 0])), (a6, .inl (cy 0, 600, .inl f))] sz)) 0 0 (va_A [(h0, .inr (8, [.ref a1, .ref a2, .ref a3, .ref a4, .ref a5, .int 0, .int x6, .ref a6, .int 0, .int 0, .int 0, .int 0, .int 0, .int 0, .int 0, .int 0, .int (-1), .ref a7, .ref a8, .int 0, .ref a9, .ref b0, .int 0])), (a6, .inl (cy 0, 600, .inl f))] sz) := by
  refine Met.ofW (cc := cX8_append) (maxL := 5) (ret := (some .int)) (by decide) rfl ?_
  intro p e s m args below meth c s₁ B hml hv
  obtain ⟨rfl, hsz, hP, hK, hD0, hE⟩ := hv
  have hx := B.exec
  have hb := B.bytes
  have hr := B.returns
  have hts0 := atoms_spec (ws := (wsg yX8_append cX8_append 5 (some .int))) B.pre
  have hts : ∀ w ∈ wsL_law, w.before _ s = true := fun w h => hts0 w (List.mem_cons_of_mem _ h)
  have hown : s.vm.findClass RX8 = some m.cls := findClass_of_methodNamed B.named
  have hlocks := B.notSynchronized
  subst hsz
  have hD := hD0.self (sz := s.heap.size)
  generalize hAe : va_A [(h0, .inr (8, [.ref a1, .ref a2, .ref a3, .ref a4, .ref a5, .int 0, .int x6, .ref a6, .int 0, .int 0, .int 0, .int 0, .int 0, .int 0, .int 0, .int 0, .int (-1), .ref a7, .ref a8, .int 0, .ref a9, .ref b0, .int 0])), (a6, .inl (cy 0, 600, .inl f))] s.heap.size = A at hD hE ⊢
  have hA : ∀ q : Nat, s.heap.size ≤ q → A q := fun q h => by rw [← hAe]; exact Or.inr h
  have hS : va_S A s.heap s.heap [] := va_S.rf
  have hP : va_P (dC, dI) vwCl [(h0, .inr (8, [.ref a1, .ref a2, .ref a3, .ref a4, .ref a5, .int 0, .int x6, .ref a6, .int 0, .int 0, .int 0, .int 0, .int 0, .int 0, .int 0, .int 0, .int (-1), .ref a7, .ref a8, .int 0, .ref a9, .ref b0, .int 0])), (a6, .inl (cy 0, 600, .inl f))] s.heap := hP
  have hl := lv_entry ([.ref h0, .long b]) (n := 5) (Nat.le_of_ble_eq_true rfl)
  rw [lg_entry_eq]
  generalize (lg_sl ([.ref h0, .long b]) ++ List.replicate (5 - (lg_sl ([.ref h0, .long b])).length) Slot.unset).toArray = ls at hl ⊢
  have hl : lv_has ls 5 [(0, .ref h0), (1, .long b)] := hl
  generalize hHe : s.heap = H at hP hS ⊢
  have hS : va_S A s.heap H [] := by rw [hHe]; exact hS
  refine my_Q (fun Qn hQ => ?_)
  refine lv_aload_n hx hb dX8_append_0 rfl (lv_at hl 0 rfl) ?_
  refine lv_iconst (v := 0) hx hb dX8_append_1 (by decide) ?_
  refine va_put (D := (dC, dI)) (ci := 8) (v := .int 0) (ty := .int) (C := RX8) (T := TX8) (N := 23) hx hb hts inlX8 tyX8 tyX8_ok nmX8 hown hK hP hD hS 0 rfl rfl 6 (by decide) (hts _ mw_127) (fun _ h9 => h9) rfl (by decide +kernel) rfl rfl (Nat.le_of_ble_eq_true rfl) dX8_append_2 (fun H locs hP hD hS => ?_)
  have hP : va_P (dC, dI) vwCl [(h0, .inr (8, [.ref a1, .ref a2, .ref a3, .ref a4, .ref a5, .int 0, .int 0, .ref a6, .int 0, .int 0, .int 0, .int 0, .int 0, .int 0, .int 0, .int 0, .int (-1), .ref a7, .ref a8, .int 0, .ref a9, .ref b0, .int 0])), (a6, .inl (cy 0, 600, .inl f))] H := hP
  have hD : va_D A [(h0, .inr (8, [.ref a1, .ref a2, .ref a3, .ref a4, .ref a5, .int 0, .int 0, .ref a6, .int 0, .int 0, .int 0, .int 0, .int 0, .int 0, .int 0, .int 0, .int (-1), .ref a7, .ref a8, .int 0, .ref a9, .ref b0, .int 0])), (a6, .inl (cy 0, 600, .inl f))] := hD
  refine lv_iconst (v := 0) hx hb dX8_append_5 (by decide) ?_
  refine lv_istore_n (lv' := [(3, .int 0), (0, .ref h0), (1, .long b)]) hx hb dX8_append_6 rfl hl (by decide) rfl (fun ls hl => ?_)
  refine lv_iconst (v := 0) hx hb dX8_append_7 (by decide) ?_
  refine lv_istore (lv' := [(4, .int 0), (3, .int 0), (0, .ref h0), (1, .long b)]) hx hb dX8_append_8 hl (by decide) rfl (fun ls hl => ?_)
  have loop1 : ∀ (n k : Nat) (z9 : Int32) (H : Heap) (locs : List Loc) (ls : Array Slot), n + k = 8 → (z9 = nI (cm b k)) → va_P (dC, dI) vwCl [(h0, .inr (8, [.ref a1, .ref a2, .ref a3, .ref a4, .ref a5, .int 0, .int 0, .ref a6, .int 0, .int 0, .int 0, .int 0, .int 0, .int 0, .int 0, .int 0, .int (-1), .ref a7, .ref a8, .int 0, .ref a9, .ref b0, .int 0])), (a6, .inl (cy 0, 600, .inl f))] H → va_D A [(h0, .inr (8, [.ref a1, .ref a2, .ref a3, .ref a4, .ref a5, .int 0, .int 0, .ref a6, .int 0, .int 0, .int 0, .int 0, .int 0, .int 0, .int 0, .int 0, .int (-1), .ref a7, .ref a8, .int 0, .ref a9, .ref b0, .int 0])), (a6, .inl (cy 0, 600, .inl f))] → va_S A s.heap H locs → lv_has ls 5 [(4, .int (nI k)), (3, .int z9), (0, .ref h0), (1, .long b)] → W p l e (headSpec (wsg yX8_append cX8_append 5 (some .int)) ({ frames := 10, cells := 0, slots := 0, locals := 500 })).room s m ([.ref h0, .long b] : List Value).toArray below meth c H locs 0 0 Qn (F0 m 10 ls []) := by
    intro n
    induction n with
    | zero =>
      intro k z9 H locs ls hnk hc hP hD hS hl
      obtain rfl : k = 8 := by omega
      refine lv_iload hx hb dX8_append_10 (lv_at hl 0 rfl) ?_
      refine lv_bipush (v := 8) hx hb dX8_append_12 (by decide) ?_
      refine lv_icmp_ge (tgt := 40) hx hb dX8_append_14 (by decide) (fun _ => ?_) (fun h => absurd (by decide) h)
      refine lv_aload_n hx hb dX8_append_40 rfl (lv_at hl 2 rfl) ?_
      refine va_get (D := (dC, dI)) (ci := 8) (v := .int 0) (C := RX8) (T := TX8) (N := 23) hx hb hts inlX8 hown hK hP 0 rfl rfl 8 (by decide) (hts _ mw_128) (fun _ h9 => h9) rfl dX8_append_41 ?_
      refine lv_iload_n hx hb dX8_append_44 rfl (lv_at hl 1 rfl) ?_
      refine lv_iadd hx hb dX8_append_45 ?_
      refine my_topi (y := z9) (by exact my_0a _) ?_
      refine lv_sipush (v := 600) hx hb dX8_append_46 (by decide) ?_
      refine lv_icmp_le (tgt := 55) hx hb dX8_append_49 (by decide) (fun c_49_1 => ?_) (fun c_49_1 => by exact absurd (by rw [hc]; exact nI_le (b := 600) (by have := cm_le b 8; omega) (by decide)) c_49_1)
      refine lv_iconst (v := 0) hx hb dX8_append_55 (by decide) ?_
      refine lv_istore (lv' := [(4, .int 0), (3, .int z9), (0, .ref h0), (1, .long b)]) hx hb dX8_append_56 hl (by decide) rfl (fun ls hl => ?_)
      have loop2 : ∀ (n k : Nat) (c2 : Int32) (f3 : Nat → Int32) (H : Heap) (locs : List Loc) (ls : Array Slot), n + k = 8 → (c2 = nI (cm b k)) → va_P (dC, dI) vwCl [(h0, .inr (8, [.ref a1, .ref a2, .ref a3, .ref a4, .ref a5, .int 0, .int 0, .ref a6, .int c2, .int 0, .int 0, .int 0, .int 0, .int 0, .int 0, .int 0, .int (-1), .ref a7, .ref a8, .int 0, .ref a9, .ref b0, .int 0])), (a6, .inl (cy 0, 600, .inl f3))] H → va_D A [(h0, .inr (8, [.ref a1, .ref a2, .ref a3, .ref a4, .ref a5, .int 0, .int 0, .ref a6, .int c2, .int 0, .int 0, .int 0, .int 0, .int 0, .int 0, .int 0, .int (-1), .ref a7, .ref a8, .int 0, .ref a9, .ref b0, .int 0])), (a6, .inl (cy 0, 600, .inl f3))] → va_S A s.heap H locs → lv_has ls 5 [(4, .int (nI k)), (0, .ref h0), (1, .long b)] → W p l e (headSpec (wsg yX8_append cX8_append 5 (some .int)) ({ frames := 10, cells := 0, slots := 0, locals := 500 })).room s m ([.ref h0, .long b] : List Value).toArray below meth c H locs 0 0 Qn (F0 m 58 ls []) := by
        intro n
        induction n with
        | zero =>
          intro k c2 f3 H locs ls hnk hc hP hD hS hl
          obtain rfl : k = 8 := by omega
          subst hc
          refine lv_iload hx hb dX8_append_58 (lv_at hl 0 rfl) ?_
          refine lv_bipush (v := 8) hx hb dX8_append_60 (by decide) ?_
          refine lv_icmp_ge (tgt := 106) hx hb dX8_append_62 (by decide) (fun _ => ?_) (fun h => absurd (by decide) h)
          refine lv_aload_n hx hb dX8_append_106 rfl (lv_at hl 1 rfl) ?_
          refine va_get (D := (dC, dI)) (ci := 8) (v := .int (nI (cm b 8))) (C := RX8) (T := TX8) (N := 23) hx hb hts inlX8 hown hK hP 0 rfl rfl 8 (by decide) (hts _ mw_128) (fun _ h9 => h9) rfl dX8_append_107 ?_
          rw [hQ]
          have hP9 := hP.sub (ws' := [(h0, .inr (8, [.ref a1, .ref a2, .ref a3, .ref a4, .ref a5, .int 0, .int 0, .ref a6, .int (nI (cm b 8)), .int 0, .int 0, .int 0, .int 0, .int 0, .int 0, .int 0, .int (-1), .ref a7, .ref a8, .int 0, .ref a9, .ref b0, .int 0]))]) [0] rfl
          have hD9 := hD.sub (ws' := [(h0, .inr (8, [.ref a1, .ref a2, .ref a3, .ref a4, .ref a5, .int 0, .int 0, .ref a6, .int (nI (cm b 8)), .int 0, .int 0, .int 0, .int 0, .int 0, .int 0, .int 0, .int (-1), .ref a7, .ref a8, .int 0, .ref a9, .ref b0, .int 0]))]) [0] (by decide) rfl
          refine W.widen (k := 0) (n := 0) (by omega) (by omega) ?_
          exact W.iret (v := (nI (cm b 8))) hx hb hr (fun t ht hW => ⟨⟨(nI (cm b 8)), (), rfl, rfl, by rw [ht]; exact hP9, hD9⟩, hS.F ht⟩) hS.2.2 dX8_append_110
        | succ n ih =>
          intro k c2 f3 H locs ls hnk hc hP hD hS hl
          have hk : k < 8 := by omega
          refine lv_iload hx hb dX8_append_58 (lv_at hl 0 rfl) ?_
          refine lv_bipush (v := 8) hx hb dX8_append_60 (by decide) ?_
          refine lv_icmp_ge (tgt := 106) hx hb dX8_append_62 (by decide) (fun c_62_2 => by exact absurd c_62_2 (my_ge hk (by decide) rfl)) (fun c_62_2 => ?_)
          refine lv_lload_n hx hb dX8_append_65 rfl (lv_at hl 2 rfl) ?_
          refine lv_iload hx hb dX8_append_66 (lv_at hl 0 rfl) ?_
          have hPc := hP.sub (ws' := []) [] rfl
          have hDc := hD.sub (ws' := []) [] (by decide) rfl
          have hFc := va_free (wc := []) hD hS hA [] rfl
          refine va_calli (va_runS (As := [.long b, .int (nI k)]) (rest := []) ⟨hx, hb, hml, hown, hts⟩ (c_X8_byteOf l dC dI cy nb b (nI k) H.size) (va_cwS 2 hts (gS mw_129 mw_130 mw_5 mw_131) rfl rfl rfl (by decide +kernel) ⟨Nat.le_of_ble_eq_true rfl, Nat.le_of_ble_eq_true rfl⟩) ⟨fun a U g mk q => by obtain ⟨q0, q1, qP, qK, qD, qE⟩ := q; exact ⟨q0, q1, qP, va_K.moved (u := U) (U := U.calling g mk a) (Vm.Alike.refl U.vm) qK, qD, GE.calling qE⟩, fun U hU hW => ⟨rfl, by rw [hU], by rw [hU]; exact hPc, va_K.moved hW.alike hK, hDc.weaken (fun _ _ _ _ => trivial), GE.call hE hS hFc hU hW⟩⟩ rfl rfl hl.1 rfl (lv_room (Nat.le_of_ble_eq_true rfl)) dX8_append_68 ⟨Nat.le_of_ble_eq_true rfl, Nat.le_of_ble_eq_true rfl⟩) hS (fun q _ h => hFc q h) hFc (fun r u t H1 locs ht hvm hw1 hB hz1 hk1 hS => ?_)
          obtain ⟨hP1, hD1⟩ := hB
          rw [ht] at hP1
          obtain ⟨hP, hD⟩ := va_join (wr := [(h0, .inr (8, [.ref a1, .ref a2, .ref a3, .ref a4, .ref a5, .int 0, .int 0, .ref a6, .int c2, .int 0, .int 0, .int 0, .int 0, .int 0, .int 0, .int 0, .int (-1), .ref a7, .ref a8, .int 0, .ref a9, .ref b0, .int 0])), (a6, .inl (cy 0, 600, .inl f3))]) (w1 := []) hP hD [] [0, 1] rfl rfl (by decide) (by decide) hk1 hFc hP1 hD1
          generalize H1 = H at hP hS ⊢
          have hP : va_P (dC, dI) vwCl [(h0, .inr (8, [.ref a1, .ref a2, .ref a3, .ref a4, .ref a5, .int 0, .int 0, .ref a6, .int c2, .int 0, .int 0, .int 0, .int 0, .int 0, .int 0, .int 0, .int (-1), .ref a7, .ref a8, .int 0, .ref a9, .ref b0, .int 0])), (a6, .inl (cy 0, 600, .inl f3))] H := hP
          have hD : va_D A [(h0, .inr (8, [.ref a1, .ref a2, .ref a3, .ref a4, .ref a5, .int 0, .int 0, .ref a6, .int c2, .int 0, .int 0, .int 0, .int 0, .int 0, .int 0, .int 0, .int (-1), .ref a7, .ref a8, .int 0, .ref a9, .ref b0, .int 0])), (a6, .inl (cy 0, 600, .inl f3))] := hD
          obtain rfl := hw1
          refine W.widen (k := 0) (n := 0) (by omega) (by omega) ?_
          refine lv_if_eq (tgt := 100) hx hb dX8_append_71 (by decide) (fun c_71_1 => ?_) (fun c_71_1 => ?_)
          · skip
            refine lv_iinc (v := nI (k + 1)) (lv' := [(4, .int (nI (k + 1))), (0, .ref h0), (1, .long b)]) hx hb dX8_append_100 hl (k := 0) rfl (nI_1 k) (by decide) rfl (fun ls hl => ?_)
            refine lv_goto (tgt := 58) hx hb dX8_append_103 (by decide) ?_
            exact ih (k + 1) _ _ _ _ _ (by omega) (by rw [hc, cm_z c_71_1]) (hP.sub [0, 1] rfl) (hD.sub [0, 1] (by decide) rfl) hS (lv_sub hl [0, 1, 2] rfl)
          · skip
            refine lv_aload_n hx hb dX8_append_74 rfl (lv_at hl 1 rfl) ?_
            refine va_get (D := (dC, dI)) (ci := 8) (v := .ref a6) (C := RX8) (T := TX8) (N := 23) hx hb hts inlX8 hown hK hP 0 rfl rfl 7 (by decide) (hts _ mw_103) (fun _ h9 => h9) rfl dX8_append_75 ?_
            refine lv_aload_n hx hb dX8_append_78 rfl (lv_at hl 1 rfl) ?_
            refine va_get (D := (dC, dI)) (ci := 8) (v := .int c2) (C := RX8) (T := TX8) (N := 23) hx hb hts inlX8 hown hK hP 0 rfl rfl 8 (by decide) (hts _ mw_128) (fun _ h9 => h9) rfl dX8_append_79 ?_
            refine lv_lload_n hx hb dX8_append_82 rfl (lv_at hl 2 rfl) ?_
            refine lv_iload hx hb dX8_append_83 (lv_at hl 0 rfl) ?_
            have hPc := hP.sub (ws' := []) [] rfl
            have hDc := hD.sub (ws' := []) [] (by decide) rfl
            have hFc := va_free (wc := []) hD hS hA [] rfl
            refine va_calli (va_runS (As := [.long b, .int (nI k)]) (rest := [.int c2, .ref a6]) ⟨hx, hb, hml, hown, hts⟩ (c_X8_byteOf l dC dI cy nb b (nI k) H.size) (va_cwS 2 hts (gS mw_129 mw_130 mw_5 mw_131) rfl rfl rfl (by decide +kernel) ⟨Nat.le_of_ble_eq_true rfl, Nat.le_of_ble_eq_true rfl⟩) ⟨fun a U g mk q => by obtain ⟨q0, q1, qP, qK, qD, qE⟩ := q; exact ⟨q0, q1, qP, va_K.moved (u := U) (U := U.calling g mk a) (Vm.Alike.refl U.vm) qK, qD, GE.calling qE⟩, fun U hU hW => ⟨rfl, by rw [hU], by rw [hU]; exact hPc, va_K.moved hW.alike hK, hDc.weaken (fun _ _ _ _ => trivial), GE.call hE hS hFc hU hW⟩⟩ rfl rfl hl.1 rfl (lv_room (Nat.le_of_ble_eq_true rfl)) dX8_append_85 ⟨Nat.le_of_ble_eq_true rfl, Nat.le_of_ble_eq_true rfl⟩) hS (fun q _ h => hFc q h) hFc (fun r u t H1 locs ht hvm hw2 hB hz1 hk1 hS => ?_)
            obtain ⟨hP1, hD1⟩ := hB
            rw [ht] at hP1
            obtain ⟨hP, hD⟩ := va_join (wr := [(h0, .inr (8, [.ref a1, .ref a2, .ref a3, .ref a4, .ref a5, .int 0, .int 0, .ref a6, .int c2, .int 0, .int 0, .int 0, .int 0, .int 0, .int 0, .int 0, .int (-1), .ref a7, .ref a8, .int 0, .ref a9, .ref b0, .int 0])), (a6, .inl (cy 0, 600, .inl f3))]) (w1 := []) hP hD [] [0, 1] rfl rfl (by decide) (by decide) hk1 hFc hP1 hD1
            generalize H1 = H at hP hS ⊢
            have hP : va_P (dC, dI) vwCl [(h0, .inr (8, [.ref a1, .ref a2, .ref a3, .ref a4, .ref a5, .int 0, .int 0, .ref a6, .int c2, .int 0, .int 0, .int 0, .int 0, .int 0, .int 0, .int 0, .int (-1), .ref a7, .ref a8, .int 0, .ref a9, .ref b0, .int 0])), (a6, .inl (cy 0, 600, .inl f3))] H := hP
            have hD : va_D A [(h0, .inr (8, [.ref a1, .ref a2, .ref a3, .ref a4, .ref a5, .int 0, .int 0, .ref a6, .int c2, .int 0, .int 0, .int 0, .int 0, .int 0, .int 0, .int 0, .int (-1), .ref a7, .ref a8, .int 0, .ref a9, .ref b0, .int 0])), (a6, .inl (cy 0, 600, .inl f3))] := hD
            obtain rfl := hw2
            refine W.widen (k := 0) (n := 0) (by omega) (by omega) ?_
            refine lv_i2b (v := ((bM b (nI k))).toInt8.toInt32) hx hb dX8_append_88 rfl ?_
            refine va_bast hx hb hK hP hD hS 1 0 rfl rfl (by rw [hc]; exact vp_in_nI (by have := cm_le b k; omega) (by decide)) dX8_append_89 (fun H locs hP hD hS => ?_)
            have hP : va_P (dC, dI) vwCl [(h0, .inr (8, [.ref a1, .ref a2, .ref a3, .ref a4, .ref a5, .int 0, .int 0, .ref a6, .int c2, .int 0, .int 0, .int 0, .int 0, .int 0, .int 0, .int 0, .int (-1), .ref a7, .ref a8, .int 0, .ref a9, .ref b0, .int 0])), (a6, .inl (cy 0, 600, .inl (upd f3 ((c2 : Int32).toNatClampNeg) (vp_nar .byte ((bM b (nI k))).toInt8.toInt32))))] H := hP
            have hD : va_D A [(h0, .inr (8, [.ref a1, .ref a2, .ref a3, .ref a4, .ref a5, .int 0, .int 0, .ref a6, .int c2, .int 0, .int 0, .int 0, .int 0, .int 0, .int 0, .int 0, .int (-1), .ref a7, .ref a8, .int 0, .ref a9, .ref b0, .int 0])), (a6, .inl (cy 0, 600, .inl (upd f3 ((c2 : Int32).toNatClampNeg) (vp_nar .byte ((bM b (nI k))).toInt8.toInt32))))] := hD
            refine lv_aload_n hx hb dX8_append_90 rfl (lv_at hl 1 rfl) ?_
            refine lv_dup hx hb dX8_append_91 rfl ?_
            refine va_get (D := (dC, dI)) (ci := 8) (v := .int c2) (C := RX8) (T := TX8) (N := 23) hx hb hts inlX8 hown hK hP 0 rfl rfl 8 (by decide) (hts _ mw_128) (fun _ h9 => h9) rfl dX8_append_92 ?_
            refine lv_iconst (v := 1) hx hb dX8_append_95 (by decide) ?_
            refine lv_iadd hx hb dX8_append_96 ?_
            refine va_put (D := (dC, dI)) (ci := 8) (v := .int (c2 + 1)) (ty := .int) (C := RX8) (T := TX8) (N := 23) hx hb hts inlX8 tyX8 tyX8_ok nmX8 hown hK hP hD hS 0 rfl rfl 8 (by decide) (hts _ mw_128) (fun _ h9 => h9) rfl (by decide +kernel) rfl rfl (Nat.le_of_ble_eq_true rfl) dX8_append_97 (fun H locs hP hD hS => ?_)
            have hP : va_P (dC, dI) vwCl [(h0, .inr (8, [.ref a1, .ref a2, .ref a3, .ref a4, .ref a5, .int 0, .int 0, .ref a6, .int (c2 + 1), .int 0, .int 0, .int 0, .int 0, .int 0, .int 0, .int 0, .int (-1), .ref a7, .ref a8, .int 0, .ref a9, .ref b0, .int 0])), (a6, .inl (cy 0, 600, .inl (upd f3 ((c2 : Int32).toNatClampNeg) (vp_nar .byte ((bM b (nI k))).toInt8.toInt32))))] H := hP
            have hD : va_D A [(h0, .inr (8, [.ref a1, .ref a2, .ref a3, .ref a4, .ref a5, .int 0, .int 0, .ref a6, .int (c2 + 1), .int 0, .int 0, .int 0, .int 0, .int 0, .int 0, .int 0, .int (-1), .ref a7, .ref a8, .int 0, .ref a9, .ref b0, .int 0])), (a6, .inl (cy 0, 600, .inl (upd f3 ((c2 : Int32).toNatClampNeg) (vp_nar .byte ((bM b (nI k))).toInt8.toInt32))))] := hD
            refine lv_iinc (v := nI (k + 1)) (lv' := [(4, .int (nI (k + 1))), (0, .ref h0), (1, .long b)]) hx hb dX8_append_100 hl (k := 0) rfl (nI_1 k) (by decide) rfl (fun ls hl => ?_)
            refine lv_goto (tgt := 58) hx hb dX8_append_103 (by decide) ?_
            exact ih (k + 1) _ _ _ _ _ (by omega) (by rw [hc, cm_s c_71_1, nI_1]) (hP.sub [0, 1] rfl) (hD.sub [0, 1] (by decide) rfl) hS (lv_sub hl [0, 1, 2] rfl)
      exact loop2 8 0 _ _ _ _ _ (by omega) rfl (hP.sub [0, 1] rfl) (hD.sub [0, 1] (by decide) rfl) hS (lv_sub hl [0, 2, 3] rfl)
    | succ n ih =>
      intro k z9 H locs ls hnk hc hP hD hS hl
      have hk : k < 8 := by omega
      refine lv_iload hx hb dX8_append_10 (lv_at hl 0 rfl) ?_
      refine lv_bipush (v := 8) hx hb dX8_append_12 (by decide) ?_
      refine lv_icmp_ge (tgt := 40) hx hb dX8_append_14 (by decide) (fun c_14_2 => by exact absurd c_14_2 (my_ge hk (by decide) rfl)) (fun c_14_2 => ?_)
      refine lv_iload_n hx hb dX8_append_17 rfl (lv_at hl 1 rfl) ?_
      refine lv_lload_n hx hb dX8_append_18 rfl (lv_at hl 3 rfl) ?_
      refine lv_iload hx hb dX8_append_19 (lv_at hl 0 rfl) ?_
      have hPc := hP.sub (ws' := []) [] rfl
      have hDc := hD.sub (ws' := []) [] (by decide) rfl
      have hFc := va_free (wc := []) hD hS hA [] rfl
      refine va_calli (va_runS (As := [.long b, .int (nI k)]) (rest := [.int z9]) ⟨hx, hb, hml, hown, hts⟩ (c_X8_byteOf l dC dI cy nb b (nI k) H.size) (va_cwS 2 hts (gS mw_129 mw_130 mw_5 mw_131) rfl rfl rfl (by decide +kernel) ⟨Nat.le_of_ble_eq_true rfl, Nat.le_of_ble_eq_true rfl⟩) ⟨fun a U g mk q => by obtain ⟨q0, q1, qP, qK, qD, qE⟩ := q; exact ⟨q0, q1, qP, va_K.moved (u := U) (U := U.calling g mk a) (Vm.Alike.refl U.vm) qK, qD, GE.calling qE⟩, fun U hU hW => ⟨rfl, by rw [hU], by rw [hU]; exact hPc, va_K.moved hW.alike hK, hDc.weaken (fun _ _ _ _ => trivial), GE.call hE hS hFc hU hW⟩⟩ rfl rfl hl.1 rfl (lv_room (Nat.le_of_ble_eq_true rfl)) dX8_append_21 ⟨Nat.le_of_ble_eq_true rfl, Nat.le_of_ble_eq_true rfl⟩) hS (fun q _ h => hFc q h) hFc (fun r u t H1 locs ht hvm hw3 hB hz1 hk1 hS => ?_)
      obtain ⟨hP1, hD1⟩ := hB
      rw [ht] at hP1
      obtain ⟨hP, hD⟩ := va_join (wr := [(h0, .inr (8, [.ref a1, .ref a2, .ref a3, .ref a4, .ref a5, .int 0, .int 0, .ref a6, .int 0, .int 0, .int 0, .int 0, .int 0, .int 0, .int 0, .int 0, .int (-1), .ref a7, .ref a8, .int 0, .ref a9, .ref b0, .int 0])), (a6, .inl (cy 0, 600, .inl f))]) (w1 := []) hP hD [] [0, 1] rfl rfl (by decide) (by decide) hk1 hFc hP1 hD1
      generalize H1 = H at hP hS ⊢
      have hP : va_P (dC, dI) vwCl [(h0, .inr (8, [.ref a1, .ref a2, .ref a3, .ref a4, .ref a5, .int 0, .int 0, .ref a6, .int 0, .int 0, .int 0, .int 0, .int 0, .int 0, .int 0, .int 0, .int (-1), .ref a7, .ref a8, .int 0, .ref a9, .ref b0, .int 0])), (a6, .inl (cy 0, 600, .inl f))] H := hP
      have hD : va_D A [(h0, .inr (8, [.ref a1, .ref a2, .ref a3, .ref a4, .ref a5, .int 0, .int 0, .ref a6, .int 0, .int 0, .int 0, .int 0, .int 0, .int 0, .int 0, .int 0, .int (-1), .ref a7, .ref a8, .int 0, .ref a9, .ref b0, .int 0])), (a6, .inl (cy 0, 600, .inl f))] := hD
      obtain rfl := hw3
      refine W.widen (k := 0) (n := 0) (by omega) (by omega) ?_
      refine lv_if_ne (tgt := 31) hx hb dX8_append_24 (by decide) (fun c_24_1 => ?_) (fun c_24_1 => ?_)
      · skip
        refine lv_iconst (v := 1) hx hb dX8_append_31 (by decide) ?_
        refine lv_iadd hx hb dX8_append_32 ?_
        refine lv_istore_n (lv' := [(3, .int (z9 + 1)), (4, .int (nI k)), (0, .ref h0), (1, .long b)]) hx hb dX8_append_33 rfl hl (by decide) rfl (fun ls hl => ?_)
        refine lv_iinc (v := nI (k + 1)) (lv' := [(4, .int (nI (k + 1))), (3, .int (z9 + 1)), (0, .ref h0), (1, .long b)]) hx hb dX8_append_34 hl (k := 1) rfl (nI_1 k) (by decide) rfl (fun ls hl => ?_)
        refine lv_goto (tgt := 10) hx hb dX8_append_37 (by decide) ?_
        exact ih (k + 1) (z9 + 1) _ _ _ (by omega) (by rw [hc, cm_s c_24_1, nI_1]) (hP.sub [0, 1] rfl) (hD.sub [0, 1] (by decide) rfl) hS (lv_sub hl [0, 1, 2, 3] rfl)
      · skip
        refine lv_iconst (v := 0) hx hb dX8_append_27 (by decide) ?_
        refine lv_goto (tgt := 32) hx hb dX8_append_28 (by decide) ?_
        refine lv_iadd hx hb dX8_append_32 ?_
        refine lv_istore_n (lv' := [(3, .int (z9 + 0)), (4, .int (nI k)), (0, .ref h0), (1, .long b)]) hx hb dX8_append_33 rfl hl (by decide) rfl (fun ls hl => ?_)
        refine lv_iinc (v := nI (k + 1)) (lv' := [(4, .int (nI (k + 1))), (3, .int (z9 + 0)), (0, .ref h0), (1, .long b)]) hx hb dX8_append_34 hl (k := 1) rfl (nI_1 k) (by decide) rfl (fun ls hl => ?_)
        refine lv_goto (tgt := 10) hx hb dX8_append_37 (by decide) ?_
        exact ih (k + 1) (z9 + 0) _ _ _ (by omega) (by rw [hc, cm_z c_24_1]; exact Int32.add_zero _) (hP.sub [0, 1] rfl) (hD.sub [0, 1] (by decide) rfl) hS (lv_sub hl [0, 1, 2, 3] rfl)
  exact loop1 8 0 _ _ _ _ (by omega) rfl (hP.sub [0, 1] rfl) (hD.sub [0, 1] (by decide) rfl) hS (lv_sub hl [0, 1, 2, 3] rfl)
