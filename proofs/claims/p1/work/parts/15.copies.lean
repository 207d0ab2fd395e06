/-- what copies(f, i, g, j) leaves -/
def CP (f g g2 : Nat → Int32) (i j : Nat) : Prop := (∀ k : Nat, k < 1037 → g2 (1037 * j + k) = f (1037 * i + k)) ∧ ∀ m : Nat, (m < 1037 * j ∨ 1037 * (j + 1) ≤ m) → g2 m = g m
def CPk (f g g2 : Nat → Int32) (i j k : Nat) : Prop := (∀ a : Nat, a < k → g2 (1037 * j + a) = f (1037 * i + a)) ∧ ∀ m : Nat, (m < 1037 * j ∨ 1037 * j + k ≤ m) → g2 m = g m
theorem CPk_0 {f g : Nat → Int32} {i j : Nat} : CPk f g g i j 0 := ⟨fun a h => absurd h (by omega), fun m _ => rfl⟩
theorem CPk_step {f g g3 : Nat → Int32} {i j k : Nat} (hk : 1037 * j + k < 2 ^ 31) (h : CPk f g g3 i j k) : CPk f g (upd g3 ((nI (1037 * j + k) : Int32).toNatClampNeg) (f (1037 * i + k))) i j (k + 1) := by
  rw [nI_clamp hk]
  refine ⟨fun a ha => ?_, fun m hm => ?_⟩
  · unfold upd
    by_cases e : a = k
    · rw [if_pos (by omega), e]
    · rw [if_neg (by omega)]; exact h.1 a (by omega)
  · unfold upd
    rw [if_neg (by omega)]; exact h.2 m (by omega)
theorem CPk_all {f g g3 : Nat → Int32} {i j : Nat} (h : CPk f g g3 i j 1037) : CP f g g3 i j := ⟨h.1, fun m hm => h.2 m (by omega)⟩
theorem CP_FN {f g g2 : Nat → Int32} (h : CP f g g2 0 0) (hf : FN f) : FN g2 := by
  have e : ∀ k : Nat, k < 1037 → g2 k = f k := fun k hk => by have := h.1 k hk; simpa using this
  exact ⟨(e 0 (by omega)).trans hf.1, (e 1 (by omega)).trans hf.2.1, (e 2 (by omega)).trans hf.2.2.1, fun k h1 h2 => (e k h2).trans (hf.2.2.2 k h1 h2)⟩
set_option maxHeartbeats 4000000 in
set_option maxRecDepth 100000 in
/-- copies(from, here, to, there) -/
theorem c_X8_copies (l : Launch) (dC : Nat → ClassId) (dI : Nat → Nat → Nat) (cy : Nat → ClassId) (nb : Nat → Nat) (h0 : Nat) (h1 : Nat) (i : Nat) (j : Nat) (n0 : Nat) (n1 : Nat) (f : Nat → Int32) (g : Nat → Int32) (sz : Nat) (h0n : 1037 * (i + 1) ≤ n0) (h1n : 1037 * (j + 1) ≤ n1) (hnn : n0 ≤ 10000 ∧ n1 ≤ 10000) : Met l yX8_copies (wsg yX8_copies cX8_copies 5 none) ({ frames := 7, cells := 0, slots := 0, locals := 200 }) (va_Pc [.ref h0, .int (nI i), .ref h1, .int (nI j)] (fun U => U.heap.size = sz ∧ va_P (dC, dI) vwCl [(h0, .inl (cy 1, n0, .inl f)), (h1, .inl (cy 1, n1, .inl g))] U.heap ∧ va_K (dC, dI) vwCl (tyL cy) U ∧ va_D (fun _ => True) [(h0, .inl (cy 1, n0, .inl f)), (h1, .inl (cy 1, n1, .inl g))] ∧ GE nb (va_A [(h0, .inl (cy 1, n0, .inl f)), (h1, .inl (cy 1, n1, .inl g))] sz) U)) (va_Qv (fun (_ : Unit) => True) (fun _ t => ∃ (g2 : Nat → Int32), CP f g g2 i j ∧ va_P (dC, dI) vwCl [(h0, .inl (cy 1, n0, .inl f)), (h1, .inl (cy 1, n1, .inl g2))] t.heap ∧ va_D (va_A [(h0, .inl (cy 1, n0, .inl f)), (h1, .inl (cy 1, n1, .inl g))] sz) [(h0, .inl (cy 1, n0, .inl f)), (h1, .inl (cy 1, n1, .inl g2))]) (va_A [(h0, .inl (cy 1, n0, .inl f)), (h1, .inl (cy 1, n1, .inl g))] sz)) 0 0 (va_A [(h0, .inl (cy 1, n0, .inl f)), (h1, .inl (cy 1, n1, .inl g))] sz) := by
  refine Met.ofW (cc := cX8_copies) (maxL := 5) (ret := none) (by decide) rfl ?_
  intro p e s m args below meth c s₁ B hml hv
  obtain ⟨rfl, hsz, hP, hK, hD0, hE⟩ := hv
  have hx := B.exec
  have hb := B.bytes
  have hr := B.returns
  have hts0 := atoms_spec (ws := (wsg yX8_copies cX8_copies 5 none)) B.pre
  have hts : ∀ w ∈ wsL_law, w.before _ s = true := fun w h => hts0 w (List.mem_cons_of_mem _ h)
  have hown : s.vm.findClass RX8 = some m.cls := findClass_of_methodNamed B.named
  have hlocks := B.notSynchronized
  subst hsz
  have hD := hD0.self (sz := s.heap.size)
  generalize hAe : va_A [(h0, .inl (cy 1, n0, .inl f)), (h1, .inl (cy 1, n1, .inl g))] s.heap.size = A at hD hE ⊢
  have hA : ∀ q : Nat, s.heap.size ≤ q → A q := fun q h => by rw [← hAe]; exact Or.inr h
  have hS : va_S A s.heap s.heap [] := va_S.rf
  have hP : va_P (dC, dI) vwCl [(h0, .inl (cy 1, n0, .inl f)), (h1, .inl (cy 1, n1, .inl g))] s.heap := hP
  have hl := lv_entry ([.ref h0, .int (nI i), .ref h1, .int (nI j)]) (n := 5) (Nat.le_of_ble_eq_true rfl)
  rw [lg_entry_eq]
  generalize (lg_sl ([.ref h0, .int (nI i), .ref h1, .int (nI j)]) ++ List.replicate (5 - (lg_sl ([.ref h0, .int (nI i), .ref h1, .int (nI j)])).length) Slot.unset).toArray = ls at hl ⊢
  have hl : lv_has ls 5 [(0, .ref h0), (1, .int (nI i)), (2, .ref h1), (3, .int (nI j))] := hl
  generalize hHe : s.heap = H at hP hS ⊢
  have hS : va_S A s.heap H [] := by rw [hHe]; exact hS
  refine my_Q (fun Qn hQ => ?_)
  refine lv_iconst (v := 0) hx hb dX8_copies_0 (by decide) ?_
  refine lv_istore (lv' := [(4, .int 0), (0, .ref h0), (1, .int (nI i)), (2, .ref h1), (3, .int (nI j))]) hx hb dX8_copies_1 hl (by decide) rfl (fun ls hl => ?_)
  have loop1 : ∀ (n k : Nat) (g3 : Nat → Int32) (H : Heap) (locs : List Loc) (ls : Array Slot), n + k = 1037 → (CPk f g g3 i j k) → va_P (dC, dI) vwCl [(h0, .inl (cy 1, n0, .inl f)), (h1, .inl (cy 1, n1, .inl g3))] H → va_D A [(h0, .inl (cy 1, n0, .inl f)), (h1, .inl (cy 1, n1, .inl g3))] → va_S A s.heap H locs → lv_has ls 5 [(4, .int (nI k)), (0, .ref h0), (1, .int (nI i)), (2, .ref h1), (3, .int (nI j))] → W p l e (headSpec (wsg yX8_copies cX8_copies 5 none) ({ frames := 7, cells := 0, slots := 0, locals := 200 })).room s m ([.ref h0, .int (nI i), .ref h1, .int (nI j)] : List Value).toArray below meth c H locs 0 0 Qn (F0 m 3 ls []) := by
    intro n
    induction n with
    | zero =>
      intro k g3 H locs ls hnk hg hP hD hS hl
      obtain rfl : k = 1037 := by omega
      refine lv_iload hx hb dX8_copies_3 (lv_at hl 0 rfl) ?_
      refine lv_sipush (v := 1037) hx hb dX8_copies_5 (by decide) ?_
      refine lv_icmp_ge (tgt := 37) hx hb dX8_copies_8 (by decide) (fun _ => ?_) (fun h => absurd (by decide) h)
      rw [hQ]
      refine W.widen (k := 0) (n := 0) (by omega) (by omega) ?_
      exact W.vret hx hb hr (fun t ht hW => ⟨⟨(), rfl, trivial, _, CPk_all hg, by rw [ht]; exact hP, hD⟩, hS.F ht⟩) hS.2.2 dX8_copies_37
    | succ n ih =>
      intro k g3 H locs ls hnk hg hP hD hS hl
      have hk : k < 1037 := by omega
      refine lv_iload hx hb dX8_copies_3 (lv_at hl 0 rfl) ?_
      refine lv_sipush (v := 1037) hx hb dX8_copies_5 (by decide) ?_
      refine lv_icmp_ge (tgt := 37) hx hb dX8_copies_8 (by decide) (fun c_8_2 => by exact absurd c_8_2 (my_ge hk (by decide) rfl)) (fun c_8_2 => ?_)
      refine lv_aload_n hx hb dX8_copies_11 rfl (lv_at hl 3 rfl) ?_
      refine lv_sipush (v := 1037) hx hb dX8_copies_12 (by decide) ?_
      refine lv_iload_n hx hb dX8_copies_15 rfl (lv_at hl 4 rfl) ?_
      refine lv_imul hx hb dX8_copies_16 ?_
      refine my_topi (y := (nI (1037 * j))) (by rw [show (1037 : Int32) = nI 1037 from rfl, pk_mul]) ?_
      refine lv_iload hx hb dX8_copies_17 (lv_at hl 0 rfl) ?_
      refine lv_iadd hx hb dX8_copies_19 ?_
      refine my_topi (y := (nI (1037 * j + k))) (by rw [nI_add]) ?_
      refine lv_aload_n hx hb dX8_copies_20 rfl (lv_at hl 1 rfl) ?_
      refine lv_sipush (v := 1037) hx hb dX8_copies_21 (by decide) ?_
      refine lv_iload_n hx hb dX8_copies_24 rfl (lv_at hl 2 rfl) ?_
      refine lv_imul hx hb dX8_copies_25 ?_
      refine my_topi (y := (nI (1037 * i))) (by rw [show (1037 : Int32) = nI 1037 from rfl, pk_mul]) ?_
      refine lv_iload hx hb dX8_copies_26 (lv_at hl 0 rfl) ?_
      refine lv_iadd hx hb dX8_copies_28 ?_
      refine my_topi (y := (nI (1037 * i + k))) (by rw [nI_add]) ?_
      refine va_iald hx hb hK hP 0 1 rfl rfl (vp_in_nI (by omega) (by omega)) dX8_copies_29 ?_
      refine my_topi (y := (f (1037 * i + k))) (by rw [nI_clamp (by omega)]) ?_
      refine va_iast hx hb hK hP hD hS 1 1 rfl rfl (vp_in_nI (by omega) (by omega)) dX8_copies_30 (fun H locs hP hD hS => ?_)
      have hP : va_P (dC, dI) vwCl [(h0, .inl (cy 1, n0, .inl f)), (h1, .inl (cy 1, n1, .inl (upd g3 (((nI (1037 * j + k)) : Int32).toNatClampNeg) (f (1037 * i + k)))))] H := hP
      have hD : va_D A [(h0, .inl (cy 1, n0, .inl f)), (h1, .inl (cy 1, n1, .inl (upd g3 (((nI (1037 * j + k)) : Int32).toNatClampNeg) (f (1037 * i + k)))))] := hD
      refine lv_iinc (v := nI (k + 1)) (lv' := [(4, .int (nI (k + 1))), (0, .ref h0), (1, .int (nI i)), (2, .ref h1), (3, .int (nI j))]) hx hb dX8_copies_31 hl (k := 0) rfl (nI_1 k) (by decide) rfl (fun ls hl => ?_)
      refine lv_goto (tgt := 3) hx hb dX8_copies_34 (by decide) ?_
      exact ih (k + 1) _ _ _ _ (by omega) (CPk_step (by omega) hg) (hP.sub [0, 1] rfl) (hD.sub [0, 1] (by decide) rfl) hS (lv_sub hl [0, 1, 2, 3, 4] rfl)
  exact loop1 1037 0 g _ _ _ (by omega) CPk_0 (hP.sub [0, 1] rfl) (hD.sub [0, 1] (by decide) rfl) hS (lv_sub hl [0, 1, 2, 3, 4] rfl)
