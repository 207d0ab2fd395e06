noncomputable def rdo (u : RS) (k o n : Nat) (i : Int32) : Option Int32 := if 0 ≤ i.toInt ∧ i.toInt < n then some (u k (o + i.toNatClampNeg)) else none
noncomputable def wso (u : RS) (k o n : Nat) (i v : Int32) : Option RS := if 0 ≤ i.toInt ∧ i.toInt < n then some (up u k (o + i.toNatClampNeg) v) else none
theorem rdo_in {u : RS} {k o n : Nat} {i x : Int32} (h : rdo u k o n i = some x) : vp_in i n := by
  unfold rdo at h; split at h
  · rename_i q; exact vp_in_iff.mpr q
  · cases h
theorem vp_in_lt {i : Int32} {n : Nat} (h : vp_in i n) : i.toNatClampNeg < n := Nat.not_le.mp fun q => h (Or.inr q)
theorem rdo_eq {u : RS} {k o n : Nat} {i x : Int32} (h : rdo u k o n i = some x) : (fun j => if j < n then u k (o + j) else 0) i.toNatClampNeg = x := by
  have e := vp_in_lt (rdo_in h)
  unfold rdo at h; split at h
  · exact (if_pos e).trans (Option.some.inj h)
  · cases h
theorem wso_in {u u2 : RS} {k o n : Nat} {i v : Int32} (h : wso u k o n i v = some u2) : vp_in i n := by
  unfold wso at h; split at h
  · rename_i q; exact vp_in_iff.mpr q
  · cases h
theorem wso_eq {u u2 : RS} {k o n : Nat} {i v : Int32} (h : wso u k o n i v = some u2) : up u k (o + i.toNatClampNeg) v = u2 := by
  unfold wso at h; split at h
  · exact Option.some.inj h
  · cases h
noncomputable def ix (n : Nat) (i : Int32) : Option Nat := if 0 ≤ i.toInt ∧ i.toInt < n then some i.toNatClampNeg else none
theorem ix_in {n s : Nat} {i : Int32} (h : ix n i = some s) : vp_in i n := by
  unfold ix at h; split at h
  · rename_i q; exact vp_in_iff.mpr q
  · cases h
theorem ix_eq {n s : Nat} {i : Int32} (h : ix n i = some s) : i.toNatClampNeg = s := by
  unfold ix at h; split at h
  · exact Option.some.inj h
  · cases h
theorem ix_lt {n s : Nat} {i : Int32} (h : ix n i = some s) : s < n := by rw [← ix_eq h]; exact vp_in_lt (ix_in h)
theorem ixv {n s : Nat} {i : Int32} {F : Nat → Nat} (h : ix n i = some s) : va_rf ((fun j => if j < n then some (F j) else none) i.toNatClampNeg) = .ref (F s) := by
  show va_rf (if i.toNatClampNeg < n then some (F i.toNatClampNeg) else none) = _
  rw [if_pos (vp_in_lt (ix_in h)), ix_eq h]
  rfl
noncomputable def tln (g : CG) (u : RS) (x : Int32) : Option Int32 := if (1 ≤ x.toNatClampNeg ∧ x.toNatClampNeg ≤ g.nt) ∧ 0 ≤ (u (500 + x.toNatClampNeg) 0).toInt then some (u (500 + x.toNatClampNeg) 0) else none
noncomputable def tbt (g : CG) (u : RS) (x i : Int32) : Option Int32 := if (1 ≤ x.toNatClampNeg ∧ x.toNatClampNeg ≤ g.nt) ∧ 0 ≤ i.toInt ∧ i.toInt < (u (500 + x.toNatClampNeg) 0).toNatClampNeg then some (u (500 + x.toNatClampNeg) (1 + i.toNatClampNeg)) else none
theorem tln_h {g : CG} {u : RS} {x y : Int32} (h : tln g u x = some y) : has g (.tx x.toNatClampNeg) := by
  unfold tln at h; split at h
  · rename_i q; exact q.1
  · cases h
theorem ofNat_cl {y : Int32} (h : 0 ≤ y.toInt) : Int32.ofNat y.toNatClampNeg = y := by
  have h1 : y.toNatClampNeg = y.toInt.toNat := rfl
  have h2 : y.toInt < 2 ^ 31 := Int32.toInt_lt y
  have e : (Int32.ofNat y.toNatClampNeg).toInt = y.toInt := by
    rw [h1]
    have := Int32.toInt_ofNat_of_lt (n := y.toInt.toNat) (by omega)
    omega
  exact Int32.toInt_inj.mp e
theorem tln_l {g : CG} {u : RS} {x y : Int32} (h : tln g u x = some y) : Int32.ofNat (u (500 + x.toNatClampNeg) 0).toNatClampNeg = y := by
  unfold tln at h; split at h
  · rename_i q; rw [ofNat_cl q.2]; exact Option.some.inj h
  · cases h
theorem tbt_h {g : CG} {u : RS} {x i y : Int32} (h : tbt g u x i = some y) : has g (.tx x.toNatClampNeg) := by
  unfold tbt at h; split at h
  · rename_i q; exact q.1
  · cases h
theorem tbt_in {g : CG} {u : RS} {x i y : Int32} (h : tbt g u x i = some y) : vp_in i (u (500 + x.toNatClampNeg) 0).toNatClampNeg := by
  unfold tbt at h; split at h
  · rename_i q; exact vp_in_iff.mpr q.2
  · cases h
theorem tbt_eq {g : CG} {u : RS} {x i y : Int32} (h : tbt g u x i = some y) : (fun j => u (500 + x.toNatClampNeg) (1 + j)) i.toNatClampNeg = y := by
  unfold tbt at h; split at h
  · exact Option.some.inj h
  · cases h
theorem nz_f {x y : Int32} (h : nz x = some y) : fits .boolean (.int y) = true := by
  have e := nz_e h; subst e
  unfold nz at h; split at h
  · rename_i q; rcases q with rfl | rfl <;> rfl
  · cases h
noncomputable def cpo (n0 n1 : Nat) (f : Nat → Int32) (by_ : Bool) (sp dp n : Int32) : Option Nat := if (0 ≤ sp.toInt ∧ 0 ≤ dp.toInt ∧ 0 ≤ n.toInt ∧ sp.toNatClampNeg + n.toNatClampNeg ≤ n0 ∧ dp.toNatClampNeg + n.toNatClampNeg ≤ n1) ∧ (by_ = true → ∀ i : Nat, i < n.toNatClampNeg → fits .byte (.int (f (sp.toNatClampNeg + i))) = true) then some n.toNatClampNeg else none
theorem cpo_s {n0 n1 : Nat} {f : Nat → Int32} {b : Bool} {sp dp n : Int32} {k : Nat} (h : cpo n0 n1 f b sp dp n = some k) : ((0 ≤ sp.toInt ∧ 0 ≤ dp.toInt ∧ 0 ≤ n.toInt ∧ sp.toNatClampNeg + n.toNatClampNeg ≤ n0 ∧ dp.toNatClampNeg + n.toNatClampNeg ≤ n1) ∧ (b = true → ∀ i : Nat, i < n.toNatClampNeg → fits .byte (.int (f (sp.toNatClampNeg + i))) = true)) ∧ n.toNatClampNeg = k := by
  unfold cpo at h; split at h
  · rename_i q; exact ⟨q, Option.some.inj h⟩
  · cases h
theorem nn_of {x : Int32} (h : 0 ≤ x.toInt) : ¬ x < 0 := by
  rw [Int32.lt_iff_toInt_lt]
  have : (0 : Int32).toInt = 0 := rfl
  omega
noncomputable def GA (nb : Nat → Nat) (ad : CK → Nat) (g : CG) (ks : List CK) : Prop := GK g ks ∧ ad (.tx 0) = nb 0
noncomputable def AX (g : CG) (ad : CK → Nat) (g2 : CG) (ad2 : CK → Nat) : Prop := ∀ κ, has g κ → has g2 κ ∧ ad2 κ = ad κ
theorem ax_refl {g : CG} {ad : CK → Nat} : AX g ad g ad := fun _ h => ⟨h, rfl⟩
theorem ax_trans {g g2 g3 : CG} {a a2 a3 : CK → Nat} (h : AX g a g2 a2) (h2 : AX g2 a2 g3 a3) : AX g a g3 a3 := fun κ hk => ⟨(h2 κ (h κ hk).1).1, (h2 κ (h κ hk).1).2.trans (h κ hk).2⟩
theorem my_free0 {A0 : Nat → Prop} {H0 H : Heap} {locs : List Loc} (hS : va_S A0 H0 H locs) (hA : ∀ q, H0.size ≤ q → A0 q) : ∀ q, va_A ([] : va_W) H.size q → A0 q := by
  intro q h
  rcases h with ⟨k, e, h⟩ | h
  · cases h
  · exact hA q (Nat.le_trans hS.1 h)
noncomputable def TI (g : CG) (u : RS) : Prop := ∀ L : Nat, L < 12 → (∀ s : Nat, s < 6 → (u (10 + L) (17 + 16 * s + 14)).toNatClampNeg ≤ g.nt) ∧ (∀ c : Nat, c < 30 → (u (10 + L) (137 + 25 * c + 2)).toNatClampNeg ≤ g.nt)
noncomputable def TId (g : CG) (u : RS) : Decidable (TI g u) := by unfold TI; infer_instance
noncomputable def ga (g : CG) : CG := (g.1, g.2 + 1)
noncomputable def ut (g : CG) (u : RS) (n : Int32) : RS := rw_ u (500 + (g.nt + 1)) (fun i => if i = 0 then n else 0)
noncomputable def adp (ad : CK → Nat) (κ : CK) (q : Nat) : CK → Nat := fun κ2 => @ite _ (κ2 = κ) (Classical.propDecidable _) q (ad κ2)
noncomputable def al (g : CG) (u : RS) (n : Int32) : Option Int32 := @ite _ ((0 ≤ n.toInt ∧ n.toInt ≤ 16 ∧ g.nt < 1000000) ∧ TI g u) (@instDecidableAnd _ _ _ (TId g u)) (some (nI (g.nt + 1))) none
theorem al_s {g : CG} {u : RS} {n x : Int32} (h : al g u n = some x) : ((0 ≤ n.toInt ∧ n.toInt ≤ 16 ∧ g.nt < 1000000) ∧ TI g u) ∧ nI (g.nt + 1) = x := by
  unfold al at h; split at h
  · rename_i q; exact ⟨q, Option.some.inj h⟩
  · cases h
theorem al_k {g : CG} {u : RS} {n x : Int32} (h : al g u n = some x) : x.toNatClampNeg = g.nt + 1 := by
  obtain ⟨⟨q, -⟩, rfl⟩ := al_s h
  exact nI_clamp (by omega)
theorem al_le {g : CG} {u : RS} {n x : Int32} (h : al g u n = some x) : n.toNatClampNeg ≤ 16 := by
  obtain ⟨⟨q, -⟩, -⟩ := al_s h
  have : n.toNatClampNeg = n.toInt.toNat := rfl
  omega
theorem cE_ad {cy : Nat → ClassId} {ad ad2 : CK → Nat} {g g2 : CG} {u u2 : RS} {κ : CK} (h : has g κ) (e : ∀ R I, own R I = some κ → u2 R I = u R I) (hpl : g2.pl = g.pl) (hti : TI g u) (ha : ∀ κ2, κ2 ≠ .tx (g.nt + 1) → ad2 κ2 = ad κ2) : cE cy ad2 g2 u2 κ = cE cy ad g u κ := by
  rw [← cE_ext h e]
  have z_cl : ad2 .cl = ad .cl := ha _ (ck_ne rfl)
  have z_rd : ad2 .rd = ad .rd := ha _ (ck_ne rfl)
  have z_ou : ad2 .ou = ad .ou := ha _ (ck_ne rfl)
  have z_pa : ad2 .pa = ad .pa := ha _ (ck_ne rfl)
  have z_sa : ad2 .sa = ad .sa := ha _ (ck_ne rfl)
  have z_ft : ad2 .ft = ad .ft := ha _ (ck_ne rfl)
  have z_tb : ad2 .tb = ad .tb := ha _ (ck_ne rfl)
  have z_le : ad2 .le = ad .le := ha _ (ck_ne rfl)
  have z_rs : ad2 .rs = ad .rs := ha _ (ck_ne rfl)
  have z_rt : ad2 .rt = ad .rt := ha _ (ck_ne rfl)
  have z_ln : ∀ L, ad2 (.ln L) = ad (.ln L) := fun L => ha _ (ck_ne rfl)
  have z_ss : ∀ L, ad2 (.ss L) = ad (.ss L) := fun L => ha _ (ck_ne rfl)
  have z_ls : ∀ L, ad2 (.ls L) = ad (.ls L) := fun L => ha _ (ck_ne rfl)
  have z_cs : ∀ L, ad2 (.cs L) = ad (.cs L) := fun L => ha _ (ck_ne rfl)
  have z_is : ∀ L, ad2 (.is L) = ad (.is L) := fun L => ha _ (ck_ne rfl)
  have z_lc : ∀ L, ad2 (.lc L) = ad (.lc L) := fun L => ha _ (ck_ne rfl)
  have z_tt : ∀ L, ad2 (.tt L) = ad (.tt L) := fun L => ha _ (ck_ne rfl)
  have z_st : ∀ L s, ad2 (.st L s) = ad (.st L s) := fun L s => ha _ (ck_ne rfl)
  have z_lo : ∀ L s, ad2 (.lo L s) = ad (.lo L s) := fun L s => ha _ (ck_ne rfl)
  have z_bp : ∀ L s, ad2 (.bp L s) = ad (.bp L s) := fun L s => ha _ (ck_ne rfl)
  have z_dl : ∀ L s, ad2 (.dl L s) = ad (.dl L s) := fun L s => ha _ (ck_ne rfl)
  have z_df : ∀ L s, ad2 (.df L s) = ad (.df L s) := fun L s => ha _ (ck_ne rfl)
  have z_cd : ∀ L s, ad2 (.cd L s) = ad (.cd L s) := fun L s => ha _ (ck_ne rfl)
  have hT : ∀ x : Int32, x.toNatClampNeg ≤ g.nt → ad2 (.tx x.toNatClampNeg) = ad (.tx x.toNatClampNeg) := fun x hx => ha _ fun q => by
    have := CK.tx_inj q
    omega
  cases κ using CKe with
  | st L s =>
    have := (hti L (inl_lt h.1)).1 s h.2
    rw [← e (10 + L) (17 + 16 * s + 14) (own_st (inl_lt h.1) h.2 (by decide))] at this
    simp only [cE_st, hT _ this]
  | cd L c =>
    have := (hti L (inl_lt h.1)).2 c h.2
    rw [← e (10 + L) (137 + 25 * c + 2) (own_cd (inl_lt h.1) h.2 (by decide))] at this
    simp only [cE_cd, hT _ this]
  | _ => simp only [cE_cl, cE_rd, cE_ou, cE_pa, cE_sa, cE_ft, cE_tb, cE_le, cE_rs, cE_rt, cE_ln, cE_ss, cE_ls, cE_cs, cE_is, cE_lc, cE_tt, cE_st, cE_lo, cE_bp, cE_dl, cE_df, cE_cd, cE_tx, hpl, z_cl, z_rd, z_ou, z_pa, z_sa, z_ft, z_tb, z_le, z_rs, z_rt, z_ln, z_ss, z_ls, z_cs, z_is, z_lc, z_tt, z_st, z_lo, z_bp, z_dl, z_df, z_cd]
theorem wc_newt {cy : Nat → ClassId} {ad : CK → Nat} {ks : List CK} {g : CG} {u : RS} {q : Nat} {n x : Int32} (hk : GK g ks) (e : al g u n = some x) : WC cy ad ks g u ++ [(q, .inl (cy 0, n.toNatClampNeg, .inl (fun _ => 0)))] = WC cy (adp ad (.tx (g.nt + 1)) q) (ks ++ [.tx (g.nt + 1)]) (ga g) (ut g u n) := by
  obtain ⟨⟨⟨h1, h2, h3⟩, hti⟩, -⟩ := al_s e
  unfold WC
  rw [List.map_append, List.map_singleton]
  congr 1
  · apply List.map_congr_left
    intro κ hm
    have hh := (hk.2 κ).mp hm
    have hne : κ ≠ .tx (g.nt + 1) := by
      rintro rfl
      have : g.nt + 1 ≤ g.nt := hh.2
      omega
    show (ad κ, _) = (adp ad _ q κ, _)
    have : adp ad (.tx (g.nt + 1)) q κ = ad κ := if_neg hne
    rw [this]
    congr 1
    refine (cE_ad (cy := cy) (ad := ad) (ad2 := adp ad (.tx (g.nt + 1)) q) (g := g) (g2 := ga g) (u := u) (u2 := ut g u n) hh (fun R I ho => ?_) rfl hti (fun κ2 h => if_neg h)).symm
    refine congrFun (rw_ne ?_) I
    rintro rfl
    rw [own_tx (by omega)] at ho
    exact hne (Option.some.inj ho).symm
  · have : adp ad (.tx (g.nt + 1)) q (.tx (g.nt + 1)) = q := if_pos rfl
    rw [this]
    simp only [cE_tx, ut, rw_eq]
    rw [if_pos trivial]
    congr 6
    funext i
    rw [if_neg (by omega)]
theorem ga_new {nb : Nat → Nat} {ad : CK → Nat} {ks : List CK} {g : CG} {q : Nat} (hk : GA nb ad g ks) : GA nb (adp ad (.tx (g.nt + 1)) q) (ga g) (ks ++ [.tx (g.nt + 1)]) := by
  refine ⟨⟨?_, fun κ => ?_⟩, (if_neg (by intro h; have := CK.tx_inj h; omega)).trans hk.2⟩
  · rw [List.nodup_append]
    refine ⟨hk.1.1, by simp, fun a ha b hb => ?_⟩
    rw [List.mem_singleton] at hb
    subst hb
    rintro rfl
    have : g.nt + 1 ≤ g.nt := ((hk.1.2 _).mp ha).2
    omega
  · rw [List.mem_append, List.mem_singleton, hk.1.2]
    constructor
    · rintro (h | rfl)
      · cases κ using CKe <;> first | exact h | exact ⟨h.1, Nat.le_succ_of_le h.2⟩
      · exact ⟨by omega, Nat.le_refl _⟩
    · intro h
      cases κ using CKe with
      | tx t =>
        by_cases e : t = g.nt + 1
        · exact Or.inr (congrArg CK.tx e)
        · have h1 : 1 ≤ t := h.1
          have h2 : t ≤ g.nt + 1 := h.2
          exact Or.inl ⟨h1, by show t ≤ g.nt; omega⟩
      | _ => exact Or.inl h
theorem ax_new {ad : CK → Nat} {g : CG} {q : Nat} : AX g ad (ga g) (adp ad (.tx (g.nt + 1)) q) := fun κ h => by
  refine ⟨?_, if_neg ?_⟩
  · cases κ using CKe <;> first | exact h | exact ⟨h.1, Nat.le_succ_of_le h.2⟩
  · rintro rfl
    have : g.nt + 1 ≤ g.nt := h.2
    omega
noncomputable def tr {α β : Type} (t : Sum Int32 α) (f : α → Option (Sum Int32 β)) : Option (Sum Int32 β) := match t with
  | .inl x => some (.inl x)
  | .inr r => f r
noncomputable def exn (x : Int32) : String := if x = 1 then xI else xA
theorem s3 {α β : Type} {a b : β} (h : some (Sum.inr (α := α) a) = some (.inr b)) : a = b := Sum.inr.inj (Option.some.inj h)
theorem s4 {α β : Type} {a b : α} (h : some (Sum.inl (β := β) a) = some (.inl b)) : a = b := Sum.inl.inj (Option.some.inj h)
theorem my_gI : ∀ w ∈ Cond.classLink RX7 88 xI :: Cond.initialized xI :: vx_atS RX7 92 xI ["java/lang/RuntimeException", "java/lang/Exception"], vx_ot w = true := fun w hw => List.all_eq_true.mp (by decide +kernel : (Cond.classLink RX7 88 xI :: Cond.initialized xI :: vx_atS RX7 92 xI ["java/lang/RuntimeException", "java/lang/Exception"]).all vx_ot = true) w hw
theorem my_gA : ∀ w ∈ Cond.classLink RX7 105 xA :: Cond.initialized xA :: vx_atS RX7 109 xA ["java/lang/RuntimeException", "java/lang/Exception"], vx_ot w = true := fun w hw => List.all_eq_true.mp (by decide +kernel : (Cond.classLink RX7 105 xA :: Cond.initialized xA :: vx_atS RX7 109 xA ["java/lang/RuntimeException", "java/lang/Exception"]).all vx_ot = true) w hw
theorem my_F {A : Nat → Prop} {s t : State} {H : Heap} {locs : List Loc} (hS : va_S A s.heap H locs) (h1 : H.size ≤ t.heap.size) (h2 : ∀ q : Nat, q < H.size → t.heap[q]? = H[q]?) : va_F A s t := ⟨Nat.le_trans hS.1 h1, fun q h3 h4 => (h2 q (Nat.lt_of_lt_of_le h3 hS.1)).trans (hS.2.1 q h3 h4)⟩
theorem plv {n s b : Nat} {i : Int32} {g : CG} {F : Nat → Nat} (h : ix n i = some s) (hp : g.pl (b + s) = true) : va_rf ((fun j => if j < n ∧ g.pl (b + j) = true then some (F j) else none) i.toNatClampNeg) = .ref (F s) := by
  show va_rf (if i.toNatClampNeg < n ∧ g.pl (b + i.toNatClampNeg) = true then some (F i.toNatClampNeg) else none) = _
  rw [ix_eq h, if_pos ⟨ix_lt h, hp⟩]
  rfl
theorem plv_n {n s b : Nat} {i : Int32} {g : CG} {F : Nat → Nat} (h : ix n i = some s) (hp : ¬ g.pl (b + s) = true) : va_rf ((fun j => if j < n ∧ g.pl (b + j) = true then some (F j) else none) i.toNatClampNeg) = .null := by
  show va_rf (if i.toNatClampNeg < n ∧ g.pl (b + i.toNatClampNeg) = true then some (F i.toNatClampNeg) else none) = _
  rw [ix_eq h, if_neg (fun q => hp q.2)]
  rfl
set_option maxHeartbeats 4000000 in
set_option maxRecDepth 100000 in
theorem c_ordinal (l : Launch) (dC : Nat → ClassId) (dI : Nat → Nat → Nat) (cy : Nat → ClassId) (nb : Nat → Nat) (n : Nat) (nm : String) (hn : evN[n]? = some nm) (sz : Nat) : Met l yJx29ce0_ordinal_8abf5 (wsg yJx29ce0_ordinal_8abf5 cJx29ce0_ordinal_8abf5 1 (some .int)) ({ frames := 7, cells := 0, slots := 0, locals := 200 }) (va_Pc [.ref (nb (40 + n))] (fun U => U.heap.size = sz ∧ va_P (dC, dI) vwCl [] U.heap ∧ va_K (dC, dI) vwCl (tyL cy) U ∧ va_D (fun _ => True) [] ∧ GE nb (va_A [] sz) U)) (va_Qi (fun (r : Int32) (_ : Unit) => r = nI n) (fun _ t => va_P (dC, dI) vwCl [] t.heap ∧ va_D (va_A [] sz) []) (va_A [] sz)) 0 0 (va_A [] sz) := by
  refine Met.ofW (cc := cJx29ce0_ordinal_8abf5) (maxL := 1) (ret := (some .int)) pn_Jx29ce0 rfl ?_
  intro p e s m args below meth c s₁ B hml hv
  obtain ⟨rfl, hsz, hP, hK, hD0, hE⟩ := hv
  have hx := B.exec
  have hb := B.bytes
  have hr := B.returns
  have hts0 := atoms_spec (ws := (wsg yJx29ce0_ordinal_8abf5 cJx29ce0_ordinal_8abf5 1 (some .int))) B.pre
  have hts : ∀ w ∈ wsL_law, w.before _ s = true := fun w h => hts0 w (List.mem_cons_of_mem _ h)
  have hown : s.vm.findClass RJx29ce0 = some m.cls := by have h9 := findClass_of_methodNamed B.named; exact h9
  have hlocks := B.notSynchronized
  subst hsz
  have hD := hD0.self (sz := s.heap.size)
  generalize hAe : va_A [] s.heap.size = A at hD hE ⊢
  have hA : ∀ q : Nat, s.heap.size ≤ q → A q := fun q h => by rw [← hAe]; exact Or.inr h
  have hS : va_S A s.heap s.heap [] := va_S.rf
  have hP : va_P (dC, dI) vwCl [] s.heap := hP
  have hl := lv_entry ([.ref (nb (40 + n))]) (n := 1) (Nat.le_of_ble_eq_true rfl)
  rw [lg_entry_eq]
  generalize (lg_sl ([.ref (nb (40 + n))]) ++ List.replicate (1 - (lg_sl ([.ref (nb (40 + n))])).length) Slot.unset).toArray = ls at hl ⊢
  have hl : lv_has ls 1 [(0, .ref (nb (40 + n)))] := hl
  generalize hHe : s.heap = H at hP hS ⊢
  have hS : va_S A s.heap H [] := by rw [hHe]; exact hS
  refine lv_aload_n hx hb dJx29ce0_ordinal_8abf5_0 rfl (lv_at hl 0 rfl) ?_
  refine vk_getf (o := "java/lang/Enum") (n := "ordinal") (d := "I") (ref := "java/lang/Enum") (v := .int (nI n)) hx hb (hE.evk n hn).2.2 hS hown (hts _ mw_1317) (fun _ h9 => h9) dJx29ce0_ordinal_8abf5_1 ?_
  have hP9 := hP.sub (ws' := []) [] rfl
  have hD9 := hD.sub (ws' := []) [] (by decide) rfl
  refine W.widen (k := 0) (n := 0) (by omega) (by omega) ?_
  exact W.iret (v := nI n) hx hb hr (fun t ht hW => ⟨⟨nI n, (), rfl, rfl, by rw [ht]; exact hP9, hD9⟩, hS.F ht⟩) hS.2.2 dJx29ce0_ordinal_8abf5_4
