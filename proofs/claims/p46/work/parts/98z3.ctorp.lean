noncomputable def gz0 : CG := (fun _ => false, 0)
noncomputable def uB : RS := fun R i => if R = 0 then (if i = 2 then -1 else 0) else 0
noncomputable def uP : RS := ul (ul uB 0) 1
noncomputable abbrev KT0 : List CK := [.rd, .tb, .le, .rs, .rt, .ou, .pa, .sa, .ft]
noncomputable abbrev KS0 : List CK := .cl :: (NK 0 ++ (NK 1 ++ KT0))
noncomputable def codeL (k : CK) : Nat := CKm k 1000 1001 1002 1003 1004 1005 1006 1007 1008 1009 (fun L => 100 * L) (fun L => 100 * L + 1) (fun L => 100 * L + 2) (fun L => 100 * L + 3) (fun L => 100 * L + 4) (fun L => 100 * L + 5) (fun L => 100 * L + 6) (fun L s => 100 * L + 10 + s) (fun L l => 100 * L + 20 + l) (fun L l => 100 * L + 30 + l) (fun L l => 100 * L + 40 + l) (fun L l => 100 * L + 50 + l) (fun L c => 100 * L + 60 + c) (fun _ => 1010)
theorem ks0_nd : KS0.Nodup := by
  have h : (KS0.map codeL).Nodup := by decide +kernel
  exact (List.pairwise_map.mp h).imp fun h e => h (congrArg codeL e)
theorem inl0 {L : Nat} : inl gz0 L ↔ L = 0 ∨ L = 1 := by
  unfold inl
  have : ¬ gz0.pl L = true := fun h => Bool.false_ne_true h
  constructor
  · rintro (h | h)
    · omega
    · exact absurd h.2 this
  · intro h; exact Or.inl (by omega)
noncomputable def kindK (k : CK) : Nat := CKm k 0 1 2 3 4 5 6 7 8 9 (fun _ => 10) (fun _ => 11) (fun _ => 12) (fun _ => 13) (fun _ => 14) (fun _ => 15) (fun _ => 16) (fun _ _ => 17) (fun _ _ => 18) (fun _ _ => 19) (fun _ _ => 20) (fun _ _ => 21) (fun _ _ => 22) (fun _ => 23)
theorem ks0_gk : GK gz0 KS0 := by
  refine ⟨ks0_nd, fun κ => ?_⟩
  show κ ∈ (CK.cl :: (NK 0 ++ (NK 1 ++ KT0)) : List CK) ↔ _
  rw [List.mem_cons, List.mem_append, List.mem_append, NK_mem, NK_mem]
  have hi := @inl0
  have kc : ∀ κ : CK, κ = .cl → kindK κ = 0 := fun κ h => congrArg kindK h
  have kt : ∀ κ : CK, κ ∈ KT0 → kindK κ ∈ ([1, 6, 7, 8, 9, 2, 3, 4, 5] : List Nat) := fun κ h => List.mem_map.mpr ⟨κ, h, rfl⟩
  cases κ using CKe with
  | cl => exact ⟨fun _ => trivial, fun _ => Or.inl rfl⟩
  | rd => exact ⟨fun _ => trivial, fun _ => Or.inr (Or.inr (Or.inr (.head _)))⟩
  | ou => exact ⟨fun _ => trivial, fun _ => Or.inr (Or.inr (Or.inr (.tail _ (.tail _ (.tail _ (.tail _ (.tail _ (.head _))))))))⟩
  | pa => exact ⟨fun _ => trivial, fun _ => Or.inr (Or.inr (Or.inr (.tail _ (.tail _ (.tail _ (.tail _ (.tail _ (.tail _ (.head _)))))))))⟩
  | sa => exact ⟨fun _ => trivial, fun _ => Or.inr (Or.inr (Or.inr (.tail _ (.tail _ (.tail _ (.tail _ (.tail _ (.tail _ (.tail _ (.head _))))))))))⟩
  | ft => exact ⟨fun _ => trivial, fun _ => Or.inr (Or.inr (Or.inr (.tail _ (.tail _ (.tail _ (.tail _ (.tail _ (.tail _ (.tail _ (.tail _ (.head _)))))))))))⟩
  | tb => exact ⟨fun _ => trivial, fun _ => Or.inr (Or.inr (Or.inr (.tail _ (.head _))))⟩
  | le => exact ⟨fun _ => trivial, fun _ => Or.inr (Or.inr (Or.inr (.tail _ (.tail _ (.head _)))))⟩
  | rs => exact ⟨fun _ => trivial, fun _ => Or.inr (Or.inr (Or.inr (.tail _ (.tail _ (.tail _ (.head _))))))⟩
  | rt => exact ⟨fun _ => trivial, fun _ => Or.inr (Or.inr (Or.inr (.tail _ (.tail _ (.tail _ (.tail _ (.head _)))))))⟩
  | tx t =>
    refine ⟨fun h => ?_, fun h => ?_⟩
    · rcases h with h | h | h | h
      · exact absurd (show (23 : Nat) = 0 from kc _ h) (by decide)
      · exact h.elim
      · exact h.elim
      · exact absurd (show (23 : Nat) ∈ ([1, 6, 7, 8, 9, 2, 3, 4, 5] : List Nat) from kt _ h) (by decide)
    · have q : 1 ≤ t ∧ t ≤ 0 := h
      omega
  | ln M =>
    refine ⟨fun h => ?_, fun h => ?_⟩
    · rcases h with h | h | h | h
      · exact absurd (show (10 : Nat) = 0 from kc _ h) (by decide)
      · exact hi.mpr (Or.inl h)
      · exact hi.mpr (Or.inr h)
      · exact absurd (show (10 : Nat) ∈ ([1, 6, 7, 8, 9, 2, 3, 4, 5] : List Nat) from kt _ h) (by decide)
    · rcases hi.mp h with q | q
      · exact Or.inr (Or.inl q)
      · exact Or.inr (Or.inr (Or.inl q))
  | ss M =>
    refine ⟨fun h => ?_, fun h => ?_⟩
    · rcases h with h | h | h | h
      · exact absurd (show (11 : Nat) = 0 from kc _ h) (by decide)
      · exact hi.mpr (Or.inl h)
      · exact hi.mpr (Or.inr h)
      · exact absurd (show (11 : Nat) ∈ ([1, 6, 7, 8, 9, 2, 3, 4, 5] : List Nat) from kt _ h) (by decide)
    · rcases hi.mp h with q | q
      · exact Or.inr (Or.inl q)
      · exact Or.inr (Or.inr (Or.inl q))
  | ls M =>
    refine ⟨fun h => ?_, fun h => ?_⟩
    · rcases h with h | h | h | h
      · exact absurd (show (12 : Nat) = 0 from kc _ h) (by decide)
      · exact hi.mpr (Or.inl h)
      · exact hi.mpr (Or.inr h)
      · exact absurd (show (12 : Nat) ∈ ([1, 6, 7, 8, 9, 2, 3, 4, 5] : List Nat) from kt _ h) (by decide)
    · rcases hi.mp h with q | q
      · exact Or.inr (Or.inl q)
      · exact Or.inr (Or.inr (Or.inl q))
  | cs M =>
    refine ⟨fun h => ?_, fun h => ?_⟩
    · rcases h with h | h | h | h
      · exact absurd (show (13 : Nat) = 0 from kc _ h) (by decide)
      · exact hi.mpr (Or.inl h)
      · exact hi.mpr (Or.inr h)
      · exact absurd (show (13 : Nat) ∈ ([1, 6, 7, 8, 9, 2, 3, 4, 5] : List Nat) from kt _ h) (by decide)
    · rcases hi.mp h with q | q
      · exact Or.inr (Or.inl q)
      · exact Or.inr (Or.inr (Or.inl q))
  | is M =>
    refine ⟨fun h => ?_, fun h => ?_⟩
    · rcases h with h | h | h | h
      · exact absurd (show (14 : Nat) = 0 from kc _ h) (by decide)
      · exact hi.mpr (Or.inl h)
      · exact hi.mpr (Or.inr h)
      · exact absurd (show (14 : Nat) ∈ ([1, 6, 7, 8, 9, 2, 3, 4, 5] : List Nat) from kt _ h) (by decide)
    · rcases hi.mp h with q | q
      · exact Or.inr (Or.inl q)
      · exact Or.inr (Or.inr (Or.inl q))
  | lc M =>
    refine ⟨fun h => ?_, fun h => ?_⟩
    · rcases h with h | h | h | h
      · exact absurd (show (15 : Nat) = 0 from kc _ h) (by decide)
      · exact hi.mpr (Or.inl h)
      · exact hi.mpr (Or.inr h)
      · exact absurd (show (15 : Nat) ∈ ([1, 6, 7, 8, 9, 2, 3, 4, 5] : List Nat) from kt _ h) (by decide)
    · rcases hi.mp h with q | q
      · exact Or.inr (Or.inl q)
      · exact Or.inr (Or.inr (Or.inl q))
  | tt M =>
    refine ⟨fun h => ?_, fun h => ?_⟩
    · rcases h with h | h | h | h
      · exact absurd (show (16 : Nat) = 0 from kc _ h) (by decide)
      · exact hi.mpr (Or.inl h)
      · exact hi.mpr (Or.inr h)
      · exact absurd (show (16 : Nat) ∈ ([1, 6, 7, 8, 9, 2, 3, 4, 5] : List Nat) from kt _ h) (by decide)
    · rcases hi.mp h with q | q
      · exact Or.inr (Or.inl q)
      · exact Or.inr (Or.inr (Or.inl q))
  | st M s =>
    refine ⟨fun h => ?_, fun h => ?_⟩
    · rcases h with h | h | h | h
      · exact absurd (show (17 : Nat) = 0 from kc _ h) (by decide)
      · exact ⟨hi.mpr (Or.inl h.1), h.2⟩
      · exact ⟨hi.mpr (Or.inr h.1), h.2⟩
      · exact absurd (show (17 : Nat) ∈ ([1, 6, 7, 8, 9, 2, 3, 4, 5] : List Nat) from kt _ h) (by decide)
    · rcases hi.mp h.1 with q | q
      · exact Or.inr (Or.inl ⟨q, h.2⟩)
      · exact Or.inr (Or.inr (Or.inl ⟨q, h.2⟩))
  | lo M s =>
    refine ⟨fun h => ?_, fun h => ?_⟩
    · rcases h with h | h | h | h
      · exact absurd (show (18 : Nat) = 0 from kc _ h) (by decide)
      · exact ⟨hi.mpr (Or.inl h.1), h.2⟩
      · exact ⟨hi.mpr (Or.inr h.1), h.2⟩
      · exact absurd (show (18 : Nat) ∈ ([1, 6, 7, 8, 9, 2, 3, 4, 5] : List Nat) from kt _ h) (by decide)
    · rcases hi.mp h.1 with q | q
      · exact Or.inr (Or.inl ⟨q, h.2⟩)
      · exact Or.inr (Or.inr (Or.inl ⟨q, h.2⟩))
  | bp M s =>
    refine ⟨fun h => ?_, fun h => ?_⟩
    · rcases h with h | h | h | h
      · exact absurd (show (19 : Nat) = 0 from kc _ h) (by decide)
      · exact ⟨hi.mpr (Or.inl h.1), h.2⟩
      · exact ⟨hi.mpr (Or.inr h.1), h.2⟩
      · exact absurd (show (19 : Nat) ∈ ([1, 6, 7, 8, 9, 2, 3, 4, 5] : List Nat) from kt _ h) (by decide)
    · rcases hi.mp h.1 with q | q
      · exact Or.inr (Or.inl ⟨q, h.2⟩)
      · exact Or.inr (Or.inr (Or.inl ⟨q, h.2⟩))
  | dl M s =>
    refine ⟨fun h => ?_, fun h => ?_⟩
    · rcases h with h | h | h | h
      · exact absurd (show (20 : Nat) = 0 from kc _ h) (by decide)
      · exact ⟨hi.mpr (Or.inl h.1), h.2⟩
      · exact ⟨hi.mpr (Or.inr h.1), h.2⟩
      · exact absurd (show (20 : Nat) ∈ ([1, 6, 7, 8, 9, 2, 3, 4, 5] : List Nat) from kt _ h) (by decide)
    · rcases hi.mp h.1 with q | q
      · exact Or.inr (Or.inl ⟨q, h.2⟩)
      · exact Or.inr (Or.inr (Or.inl ⟨q, h.2⟩))
  | df M s =>
    refine ⟨fun h => ?_, fun h => ?_⟩
    · rcases h with h | h | h | h
      · exact absurd (show (21 : Nat) = 0 from kc _ h) (by decide)
      · exact ⟨hi.mpr (Or.inl h.1), h.2⟩
      · exact ⟨hi.mpr (Or.inr h.1), h.2⟩
      · exact absurd (show (21 : Nat) ∈ ([1, 6, 7, 8, 9, 2, 3, 4, 5] : List Nat) from kt _ h) (by decide)
    · rcases hi.mp h.1 with q | q
      · exact Or.inr (Or.inl ⟨q, h.2⟩)
      · exact Or.inr (Or.inr (Or.inl ⟨q, h.2⟩))
  | cd M s =>
    refine ⟨fun h => ?_, fun h => ?_⟩
    · rcases h with h | h | h | h
      · exact absurd (show (22 : Nat) = 0 from kc _ h) (by decide)
      · exact ⟨hi.mpr (Or.inl h.1), h.2⟩
      · exact ⟨hi.mpr (Or.inr h.1), h.2⟩
      · exact absurd (show (22 : Nat) ∈ ([1, 6, 7, 8, 9, 2, 3, 4, 5] : List Nat) from kt _ h) (by decide)
    · rcases hi.mp h.1 with q | q
      · exact Or.inr (Or.inl ⟨q, h.2⟩)
      · exact Or.inr (Or.inr (Or.inl ⟨q, h.2⟩))
noncomputable def adB (h0 rd ou pa sa ft tb le rs rt n0 : Nat) (κ : CK) : Nat := CKm κ h0 rd ou pa sa ft tb le rs rt (fun _ => 0) (fun _ => 0) (fun _ => 0) (fun _ => 0) (fun _ => 0) (fun _ => 0) (fun _ => 0) (fun _ _ => 0) (fun _ _ => 0) (fun _ _ => 0) (fun _ _ => 0) (fun _ _ => 0) (fun _ _ => 0) (fun _ => n0)
theorem adl_in {L h0 q1 q2 q3 q4 q5 q6 : Nat} {a b c d f k : Nat → Nat} {A B : CK → Nat} {κ : CK} (h : lof κ = some L) : adl A L h0 q1 q2 q3 q4 q5 q6 a b c d f k κ = adl B L h0 q1 q2 q3 q4 q5 q6 a b c d f k κ := by
  cases κ using CKe with
  | cl => exact nomatch (show (none : Option Nat) = some _ from h)
  | rd => exact nomatch (show (none : Option Nat) = some _ from h)
  | ou => exact nomatch (show (none : Option Nat) = some _ from h)
  | pa => exact nomatch (show (none : Option Nat) = some _ from h)
  | sa => exact nomatch (show (none : Option Nat) = some _ from h)
  | ft => exact nomatch (show (none : Option Nat) = some _ from h)
  | tb => exact nomatch (show (none : Option Nat) = some _ from h)
  | le => exact nomatch (show (none : Option Nat) = some _ from h)
  | rs => exact nomatch (show (none : Option Nat) = some _ from h)
  | rt => exact nomatch (show (none : Option Nat) = some _ from h)
  | tx t => exact nomatch (show (none : Option Nat) = some _ from h)
  | ln M => obtain rfl : M = L := Option.some.inj h; exact adl_ln.trans adl_ln.symm
  | ss M => obtain rfl : M = L := Option.some.inj h; exact adl_ss.trans adl_ss.symm
  | ls M => obtain rfl : M = L := Option.some.inj h; exact adl_ls.trans adl_ls.symm
  | cs M => obtain rfl : M = L := Option.some.inj h; exact adl_cs.trans adl_cs.symm
  | is M => obtain rfl : M = L := Option.some.inj h; exact adl_is.trans adl_is.symm
  | lc M => obtain rfl : M = L := Option.some.inj h; exact adl_lc.trans adl_lc.symm
  | tt M => obtain rfl : M = L := Option.some.inj h; exact adl_tt.trans adl_tt.symm
  | st M s => obtain rfl : M = L := Option.some.inj h; exact adl_st.trans adl_st.symm
  | lo M s => obtain rfl : M = L := Option.some.inj h; exact adl_lo.trans adl_lo.symm
  | bp M s => obtain rfl : M = L := Option.some.inj h; exact adl_bp.trans adl_bp.symm
  | dl M s => obtain rfl : M = L := Option.some.inj h; exact adl_dl.trans adl_dl.symm
  | df M s => obtain rfl : M = L := Option.some.inj h; exact adl_df.trans adl_df.symm
  | cd M s => obtain rfl : M = L := Option.some.inj h; exact adl_cd.trans adl_cd.symm
theorem adl_comm {s_h0 s_q1 s_q2 s_q3 s_q4 s_q5 s_q6 t_h0 t_q1 t_q2 t_q3 t_q4 t_q5 t_q6 : Nat} {s_a s_b s_c s_d s_f s_k t_a t_b t_c t_d t_f t_k : Nat → Nat} {A : CK → Nat} : adl (adl A 0 s_h0 s_q1 s_q2 s_q3 s_q4 s_q5 s_q6 s_a s_b s_c s_d s_f s_k) 1 t_h0 t_q1 t_q2 t_q3 t_q4 t_q5 t_q6 t_a t_b t_c t_d t_f t_k = adl (adl A 1 t_h0 t_q1 t_q2 t_q3 t_q4 t_q5 t_q6 t_a t_b t_c t_d t_f t_k) 0 s_h0 s_q1 s_q2 s_q3 s_q4 s_q5 s_q6 s_a s_b s_c s_d s_f s_k := by
  funext κ
  by_cases h1 : lof κ = some 1
  · have h0 : ¬ lof κ = some 0 := fun e => absurd (h1.symm.trans e) (by decide)
    exact (adl_in h1).trans (adl_ne h0).symm
  · by_cases h0 : lof κ = some 0
    · exact (adl_ne h1).trans (adl_in h0)
    · exact ((adl_ne h1).trans (adl_ne h0)).trans ((adl_ne h0).trans (adl_ne h1)).symm
theorem ul_comm {u : RS} : ul (ul u 0) 1 = ul (ul u 1) 0 := by
  funext R I
  unfold ul
  by_cases h1 : (own R I).bind lof = some 1
  · have h0 : ¬ (own R I).bind lof = some 0 := fun e => absurd (h1.symm.trans e) (by decide)
    rw [if_pos h1, if_neg h0, if_pos h1]
  · by_cases h0 : (own R I).bind lof = some 0
    · rw [if_neg h1, if_pos h0, if_pos h0]
    · rw [if_neg h1, if_neg h0, if_neg h0, if_neg h1]
theorem cE_g {cy : Nat → ClassId} {ad : CK → Nat} {g g2 : CG} {u : RS} {κ : CK} {L : Nat} (h : lof κ = some L) : cE cy ad g u κ = cE cy ad g2 u κ := by
  cases κ using CKe with
  | pa => exact nomatch (show (none : Option Nat) = some _ from h)
  | sa => exact nomatch (show (none : Option Nat) = some _ from h)
  | _ => rfl
theorem own0 {i : Nat} (L : Nat) : ¬ (own 0 i).bind lof = some L := by
  intro e
  by_cases q : i < 5
  · rw [own_cl q] at e; exact nomatch (show (none : Option Nat) = some _ from e)
  · rw [own_rd (by omega)] at e; exact nomatch (show (none : Option Nat) = some _ from e)
theorem uP_lo {R i : Nat} (h : R < 10) : uP R i = uB R i := by
  have ho : ∀ L, ¬ (own R i).bind lof = some L := by
    intro L
    match R, h with
    | 0, _ => exact own0 L
    | 1, _ => exact fun e => nomatch (show (none : Option Nat) = some _ from e)
    | 2, _ => exact fun e => nomatch (show (none : Option Nat) = some _ from e)
    | 3, _ => exact fun e => nomatch (show (none : Option Nat) = some _ from e)
    | 4, _ => exact fun e => nomatch (show (none : Option Nat) = some _ from e)
    | 5, _ => exact fun e => nomatch (show (none : Option Nat) = some _ from e)
    | 6, _ => exact fun e => nomatch (show (none : Option Nat) = some _ from e)
    | 7, _ => exact fun e => nomatch (show (none : Option Nat) = some _ from e)
    | 8, _ => exact fun e => nomatch (show (none : Option Nat) = some _ from e)
    | 9, _ => exact fun e => nomatch (show (none : Option Nat) = some _ from e)
    | (n + 10), h => exact absurd h (by omega)
  unfold uP ul
  rw [if_neg (ho 1), if_neg (ho 0)]
theorem uP_hi {R i : Nat} (h : 10 ≤ R) (h0 : ¬ (R = 10 ∧ i = 0)) (h1 : ¬ (R = 11 ∧ i = 0)) : uP R i = 0 := by
  unfold uP ul
  have e0 : ¬ (R = 10 + 0 ∧ i = 0) := h0
  have e1 : ¬ (R = 10 + 1 ∧ i = 0) := h1
  rw [if_neg e0, if_neg e1]
  split
  · rfl
  · split
    · rfl
    · unfold uB
      exact if_neg (by omega)
noncomputable def cO (h1 h2 rd ou pa sa ft : Nat) : va_E := .inr (7, [.ref h1, .ref h2, .ref rd, .ref ou, .ref pa, .ref sa, .ref ft, .int 0, .int 0, .int (-1), .int 0, .int 0])
noncomputable abbrev cN (cy : Nat → ClassId) (nb : Nat → Nat) (h0 q1 q2 q3 q4 q5 q6 : Nat) (a b c d f k : Nat → Nat) : va_W := LH cy h0 q1 q2 q3 q4 q5 q6 (fN 6 a) (fN 6 b) (fN 30 k) ++ SW (stZ nb) 6 a ++ LW cy 6 b c d f ++ SW (cdZ nb) 30 k
theorem ctor_cells {cy : Nat → ClassId} {nb : Nat → Nat} {e0 e1 e2 e3 e4 e5 e6 e7 e8 e9 : Nat} {s_h0 s_q1 s_q2 s_q3 s_q4 s_q5 s_q6 t_h0 t_q1 t_q2 t_q3 t_q4 t_q5 t_q6 : Nat} {s_a s_b s_c s_d s_f s_k t_a t_b t_c t_d t_f t_k : Nat → Nat} : (e0, cO s_h0 t_h0 e1 e2 e3 e4 e5) :: (cN cy nb s_h0 s_q1 s_q2 s_q3 s_q4 s_q5 s_q6 s_a s_b s_c s_d s_f s_k ++ (cN cy nb t_h0 t_q1 t_q2 t_q3 t_q4 t_q5 t_q6 t_a t_b t_c t_d t_f t_k ++ [(e1, .inr (5, [.ref e6, .int 0, .int 0, .int 0, .int 0, .int 0, .ref e7, .ref e8, .ref e9, .int 0, .int 0])), (e6, .inl (cy 0, 600, .inl (fun _ => 0))), (e7, .inl (cy 0, 64, .inl (fun _ => 0))), (e8, .inl (cy 1, 4, .inl (fun _ => 0))), (e9, .inl (cy 1, 4, .inl (fun _ => 0))), (e2, .inl (cy 0, 16, .inl (fun _ => 0))), (e3, .inl (cy 5, 8, .inr (.inr (.inr (.inr (fun _ => none)))))), (e4, .inl (cy 5, 2, .inr (.inr (.inr (.inr (fun _ => none)))))), (e5, .inl (cy 1, 6, .inl (fun _ => 0)))])) = WC cy (adl (adl (adB e0 e1 e2 e3 e4 e5 e6 e7 e8 e9 (nb 0)) 0 s_h0 s_q1 s_q2 s_q3 s_q4 s_q5 s_q6 s_a s_b s_c s_d s_f s_k) 1 t_h0 t_q1 t_q2 t_q3 t_q4 t_q5 t_q6 t_a t_b t_c t_d t_f t_k) KS0 gz0 uP := by
  have c1 := nl_cells (ad := adl (adB e0 e1 e2 e3 e4 e5 e6 e7 e8 e9 (nb 0)) 0 s_h0 s_q1 s_q2 s_q3 s_q4 s_q5 s_q6 s_a s_b s_c s_d s_f s_k) (L := 1) (h0 := t_h0) (q1 := t_q1) (q2 := t_q2) (q3 := t_q3) (q4 := t_q4) (q5 := t_q5) (q6 := t_q6) (a := t_a) (b := t_b) (c := t_c) (d := t_d) (f := t_f) (k := t_k) (cy := cy) (nb := nb) (g := gz0) (u := ul uB 0) (by omega) rfl
  have c0 := nl_cells (ad := adl (adB e0 e1 e2 e3 e4 e5 e6 e7 e8 e9 (nb 0)) 1 t_h0 t_q1 t_q2 t_q3 t_q4 t_q5 t_q6 t_a t_b t_c t_d t_f t_k) (L := 0) (h0 := s_h0) (q1 := s_q1) (q2 := s_q2) (q3 := s_q3) (q4 := s_q4) (q5 := s_q5) (q6 := s_q6) (a := s_a) (b := s_b) (c := s_c) (d := s_d) (f := s_f) (k := s_k) (cy := cy) (nb := nb) (g := gz0) (u := ul uB 1) (by omega) rfl
  rw [← adl_comm, ← ul_comm] at c0
  generalize hA : adl (adl (adB e0 e1 e2 e3 e4 e5 e6 e7 e8 e9 (nb 0)) 0 s_h0 s_q1 s_q2 s_q3 s_q4 s_q5 s_q6 s_a s_b s_c s_d s_f s_k) 1 t_h0 t_q1 t_q2 t_q3 t_q4 t_q5 t_q6 t_a t_b t_c t_d t_f t_k = A at c0 c1 ⊢
  have c0 : cN cy nb s_h0 s_q1 s_q2 s_q3 s_q4 s_q5 s_q6 s_a s_b s_c s_d s_f s_k = (NK 0).map (fun κ => (A κ, cE cy A (gl gz0 0) uP κ)) := c0
  have c1 : cN cy nb t_h0 t_q1 t_q2 t_q3 t_q4 t_q5 t_q6 t_a t_b t_c t_d t_f t_k = (NK 1).map (fun κ => (A κ, cE cy A (gl gz0 1) uP κ)) := c1
  have m0 : (NK 0).map (fun κ => (A κ, cE cy A (gl gz0 0) uP κ)) = (NK 0).map (fun κ => (A κ, cE cy A gz0 uP κ)) := List.map_congr_left fun κ h => congrArg (Prod.mk (A κ)) (cE_g (NK_lof h))
  have m1 : (NK 1).map (fun κ => (A κ, cE cy A (gl gz0 1) uP κ)) = (NK 1).map (fun κ => (A κ, cE cy A gz0 uP κ)) := List.map_congr_left fun κ h => congrArg (Prod.mk (A κ)) (cE_g (NK_lof h))
  have a_ln0 : A (.ln 0) = s_h0 := by rw [← hA]; rfl
  have a_ln1 : A (.ln 1) = t_h0 := by rw [← hA]; rfl
  have a_cl : A .cl = e0 := by rw [← hA]; rfl
  have a_rd : A .rd = e1 := by rw [← hA]; rfl
  have a_ou : A .ou = e2 := by rw [← hA]; rfl
  have a_pa : A .pa = e3 := by rw [← hA]; rfl
  have a_sa : A .sa = e4 := by rw [← hA]; rfl
  have a_ft : A .ft = e5 := by rw [← hA]; rfl
  have a_tb : A .tb = e6 := by rw [← hA]; rfl
  have a_le : A .le = e7 := by rw [← hA]; rfl
  have a_rs : A .rs = e8 := by rw [← hA]; rfl
  have a_rt : A .rt = e9 := by rw [← hA]; rfl
  have z0 : ∀ R i, R < 10 → ¬ (R = 0 ∧ i = 2) → uP R i = 0 := fun R i h h2 => by
    rw [uP_lo h]; unfold uB
    split
    · exact if_neg (fun q => h2 ⟨by omega, q⟩)
    · rfl
  have f0 : ∀ R, R < 10 → R ≠ 0 → uP R = fun _ => 0 := fun R h h2 => funext fun i => z0 R i h (fun q => h2 q.1)
  have p8 : (fun i : Nat => if i < 8 ∧ gz0.pl (2 + i) = true then some (A (.ln (2 + i))) else none) = fun _ => none := funext fun i => if_neg fun q => Bool.false_ne_true q.2
  have p2 : (fun i : Nat => if i < 2 ∧ gz0.pl (10 + i) = true then some (A (.ln (10 + i))) else none) = fun _ => none := funext fun i => if_neg fun q => Bool.false_ne_true q.2
  have l3 : ((e0, cO s_h0 t_h0 e1 e2 e3 e4 e5) : Nat × va_E) = (A .cl, cE cy A gz0 uP .cl) := by
    rw [cE_cl, a_cl, a_ln0, a_ln1, a_rd, a_ou, a_pa, a_sa, a_ft, z0 0 0 (by omega) (by omega), z0 0 1 (by omega) (by omega), z0 0 3 (by omega) (by omega), z0 0 4 (by omega) (by omega), show uP 0 2 = -1 from uP_lo (by omega)]
    rfl
  have l2 : ([(e1, .inr (5, [.ref e6, .int 0, .int 0, .int 0, .int 0, .int 0, .ref e7, .ref e8, .ref e9, .int 0, .int 0])), (e6, .inl (cy 0, 600, .inl (fun _ => 0))), (e7, .inl (cy 0, 64, .inl (fun _ => 0))), (e8, .inl (cy 1, 4, .inl (fun _ => 0))), (e9, .inl (cy 1, 4, .inl (fun _ => 0))), (e2, .inl (cy 0, 16, .inl (fun _ => 0))), (e3, .inl (cy 5, 8, .inr (.inr (.inr (.inr (fun _ => none)))))), (e4, .inl (cy 5, 2, .inr (.inr (.inr (.inr (fun _ => none)))))), (e5, .inl (cy 1, 6, .inl (fun _ => 0)))] : va_W) = [(A .rd, cE cy A gz0 uP .rd), (A .tb, cE cy A gz0 uP .tb), (A .le, cE cy A gz0 uP .le), (A .rs, cE cy A gz0 uP .rs), (A .rt, cE cy A gz0 uP .rt), (A .ou, cE cy A gz0 uP .ou), (A .pa, cE cy A gz0 uP .pa), (A .sa, cE cy A gz0 uP .sa), (A .ft, cE cy A gz0 uP .ft)] := by
    rw [cE_rd, cE_tb, cE_le, cE_rs, cE_rt, cE_ou, cE_pa, cE_sa, cE_ft, p8, p2, a_rd, a_tb, a_le, a_rs, a_rt, a_ou, a_pa, a_sa, a_ft, f0 1 (by omega) (by omega), f0 2 (by omega) (by omega), f0 3 (by omega) (by omega), f0 4 (by omega) (by omega), f0 5 (by omega) (by omega), f0 6 (by omega) (by omega)]
    rw [z0 0 5 (by omega) (by omega), z0 0 6 (by omega) (by omega), z0 0 7 (by omega) (by omega), z0 0 8 (by omega) (by omega), z0 0 9 (by omega) (by omega), z0 0 10 (by omega) (by omega), z0 0 11 (by omega) (by omega)]
  rw [c0.trans m0, c1.trans m1, l2, l3]
  show _ = List.map (fun κ => (A κ, cE cy A gz0 uP κ)) (CK.cl :: (NK 0 ++ (NK 1 ++ [.rd, .tb, .le, .rs, .rt, .ou, .pa, .sa, .ft])))
  simp only [List.map_cons, List.map_append, List.map_nil]
