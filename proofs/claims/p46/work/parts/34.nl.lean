noncomputable def lof (k : CK) : Option Nat := CKm k none none none none none none none none none none some some some some some some some (fun L _ => some L) (fun L _ => some L) (fun L _ => some L) (fun L _ => some L) (fun L _ => some L) (fun L _ => some L) (fun _ => none)
noncomputable def gl (g : CG) (L : Nat) : CG := (fun j => decide (j = L) || g.pl j, g.2)
noncomputable def ul (u : RS) (L : Nat) : RS := fun R I => if (own R I).bind lof = some L then (if R = 10 + L ∧ I = 0 then 1 else 0) else u R I
theorem gl_pl {g : CG} {L : Nat} : (gl g L).pl L = true := by show (decide (L = L) || g.pl L) = true; simp
theorem gl_ne {g : CG} {L j : Nat} (h : j ≠ L) : (gl g L).pl j = g.pl j := by show (decide (j = L) || g.pl j) = g.pl j; simp [h]
theorem ul_o {u : RS} {L R I : Nat} {κ : CK} (h : own R I = some κ) (hn : lof κ ≠ some L) : ul u L R I = u R I := by
  unfold ul; rw [h]; exact if_neg hn
theorem ul_z {u : RS} {L R I : Nat} {κ : CK} (h : own R I = some κ) (hn : lof κ = some L) (h0 : ¬ (R = 10 + L ∧ I = 0)) : ul u L R I = 0 := by
  unfold ul; rw [h]; exact (if_pos hn).trans (if_neg h0)
theorem ul_1 {u : RS} {L : Nat} (hL : L < 12) : ul u L (10 + L) 0 = 1 := by
  unfold ul; rw [own_ln hL (by decide)]; exact (if_pos rfl).trans (if_pos ⟨rfl, rfl⟩)
noncomputable def NK (L : Nat) : List CK := [.ln L, .ss L, .ls L, .cs L, .is L, .lc L, .tt L] ++ (List.range 6).map (CK.st L) ++ (List.range 6).flatMap (fun l => [.lo L l, .bp L l, .dl L l, .df L l]) ++ (List.range 30).map (CK.cd L)
noncomputable def codeK (k : CK) : Nat := CKm k 100 100 100 100 100 100 100 100 100 100 (fun _ => 0) (fun _ => 1) (fun _ => 2) (fun _ => 3) (fun _ => 4) (fun _ => 5) (fun _ => 6) (fun _ s => 10 + s) (fun _ l => 20 + l) (fun _ l => 30 + l) (fun _ l => 40 + l) (fun _ l => 50 + l) (fun _ c => 60 + c) (fun _ => 100)
theorem NK_nd (L : Nat) : (NK L).Nodup := by
  have h : ((NK L).map codeK).Nodup := by
    show (List.map codeK ([CK.ln L, .ss L, .ls L, .cs L, .is L, .lc L, .tt L] ++ _ ++ _ ++ _)).Nodup
    rw [List.map_append, List.map_append, List.map_append, List.map_map, List.map_map]
    have e1 : codeK ∘ CK.st L = fun s => 10 + s := rfl
    have e2 : codeK ∘ CK.cd L = fun s => 60 + s := rfl
    have e3 : List.map codeK ((List.range 6).flatMap fun l => [CK.lo L l, CK.bp L l, CK.dl L l, CK.df L l]) = (List.range 6).flatMap fun l => [20 + l, 30 + l, 40 + l, 50 + l] := by
      rw [List.map_flatMap]; rfl
    have e4 : List.map codeK [CK.ln L, .ss L, .ls L, .cs L, .is L, .lc L, .tt L] = [0, 1, 2, 3, 4, 5, 6] := rfl
    rw [e1, e2, e3, e4]
    decide +kernel
  exact (List.pairwise_map.mp h).imp fun h e => h (congrArg codeK e)
theorem NK_lof {L : Nat} {κ : CK} (h : κ ∈ NK L) : lof κ = some L := by
  unfold NK at h
  simp only [List.mem_append, List.mem_cons, List.mem_map, List.mem_flatMap, List.mem_range, List.not_mem_nil, or_false] at h
  rcases h with ((h | ⟨s, -, rfl⟩) | ⟨s, -, h⟩) | ⟨s, -, rfl⟩
  · rcases h with rfl | rfl | rfl | rfl | rfl | rfl | rfl <;> rfl
  · rfl
  · rcases h with rfl | rfl | rfl | rfl <;> rfl
  · rfl
theorem has_inl {g : CG} {κ : CK} {L : Nat} (h : has g κ) (e : lof κ = some L) : inl g L := by
  cases κ using CKe <;> first | exact absurd (show (none : Option Nat) = some L from e) (fun q => nomatch q) | (obtain rfl := Option.some.inj (show some _ = some L from e); first | exact h | exact h.1)
noncomputable def inNK (k : CK) (L : Nat) : Prop := CKm k False False False False False False False False False False (fun M => M = L) (fun M => M = L) (fun M => M = L) (fun M => M = L) (fun M => M = L) (fun M => M = L) (fun M => M = L) (fun M s => M = L ∧ s < 6) (fun M s => M = L ∧ s < 6) (fun M s => M = L ∧ s < 6) (fun M s => M = L ∧ s < 6) (fun M s => M = L ∧ s < 6) (fun M s => M = L ∧ s < 30) (fun _ => False)
theorem NK_mem {κ : CK} {L : Nat} : κ ∈ NK L ↔ inNK κ L := by
  constructor
  · intro h
    unfold NK at h
    simp only [List.mem_append, List.mem_cons, List.mem_map, List.mem_flatMap, List.mem_range, List.not_mem_nil, or_false] at h
    rcases h with ((h | ⟨s, hs, rfl⟩) | ⟨s, hs, h⟩) | ⟨s, hs, rfl⟩
    · rcases h with rfl | rfl | rfl | rfl | rfl | rfl | rfl <;> exact rfl
    · exact ⟨rfl, hs⟩
    · rcases h with rfl | rfl | rfl | rfl <;> exact ⟨rfl, hs⟩
    · exact ⟨rfl, hs⟩
  · intro h
    unfold NK
    simp only [List.mem_append, List.mem_cons, List.mem_map, List.mem_flatMap, List.mem_range, List.not_mem_nil, or_false]
    cases κ using CKe with
    | ln M => obtain rfl := (show M = L from h); simp
    | ss M => obtain rfl := (show M = L from h); simp
    | ls M => obtain rfl := (show M = L from h); simp
    | cs M => obtain rfl := (show M = L from h); simp
    | is M => obtain rfl := (show M = L from h); simp
    | lc M => obtain rfl := (show M = L from h); simp
    | tt M => obtain rfl := (show M = L from h); simp
    | st M s => obtain ⟨rfl, hs⟩ := (show M = L ∧ s < 6 from h); exact Or.inl (Or.inl (Or.inr ⟨s, hs, rfl⟩))
    | lo M s => obtain ⟨rfl, hs⟩ := (show M = L ∧ s < 6 from h); exact Or.inl (Or.inr ⟨s, hs, Or.inl rfl⟩)
    | bp M s => obtain ⟨rfl, hs⟩ := (show M = L ∧ s < 6 from h); exact Or.inl (Or.inr ⟨s, hs, Or.inr (Or.inl rfl)⟩)
    | dl M s => obtain ⟨rfl, hs⟩ := (show M = L ∧ s < 6 from h); exact Or.inl (Or.inr ⟨s, hs, Or.inr (Or.inr (Or.inl rfl))⟩)
    | df M s => obtain ⟨rfl, hs⟩ := (show M = L ∧ s < 6 from h); exact Or.inl (Or.inr ⟨s, hs, Or.inr (Or.inr (Or.inr rfl))⟩)
    | cd M s => obtain ⟨rfl, hs⟩ := (show M = L ∧ s < 30 from h); exact Or.inr ⟨s, hs, rfl⟩
    | _ => exact False.elim h
theorem has_gl {g : CG} {κ : CK} {L : Nat} (hL : L < 12) (hp : ¬ g.pl L = true) : has (gl g L) κ ↔ has g κ ∨ κ ∈ NK L := by
  have hi : ∀ M, inl (gl g L) M ↔ inl g M ∨ M = L := by
    intro M
    unfold inl
    by_cases e : M = L
    · subst e; rw [gl_pl]; simp [hL]
    · rw [gl_ne e]; simp [e]
  rw [NK_mem]
  cases κ using CKe with
  | tx t => exact ⟨Or.inl, fun h => h.elim id fun q => q.elim⟩
  | ln M => exact hi M
  | ss M => exact hi M
  | ls M => exact hi M
  | cs M => exact hi M
  | is M => exact hi M
  | lc M => exact hi M
  | tt M => exact hi M
  | st M s => show inl (gl g L) M ∧ s < 6 ↔ (inl g M ∧ s < 6) ∨ (M = L ∧ s < 6); rw [hi, or_and_right]
  | lo M s => show inl (gl g L) M ∧ s < 6 ↔ (inl g M ∧ s < 6) ∨ (M = L ∧ s < 6); rw [hi, or_and_right]
  | bp M s => show inl (gl g L) M ∧ s < 6 ↔ (inl g M ∧ s < 6) ∨ (M = L ∧ s < 6); rw [hi, or_and_right]
  | dl M s => show inl (gl g L) M ∧ s < 6 ↔ (inl g M ∧ s < 6) ∨ (M = L ∧ s < 6); rw [hi, or_and_right]
  | df M s => show inl (gl g L) M ∧ s < 6 ↔ (inl g M ∧ s < 6) ∨ (M = L ∧ s < 6); rw [hi, or_and_right]
  | cd M s => show inl (gl g L) M ∧ s < 30 ↔ (inl g M ∧ s < 30) ∨ (M = L ∧ s < 30); rw [hi, or_and_right]
  | _ => exact ⟨fun _ => Or.inl trivial, fun _ => trivial⟩
noncomputable def adl (ad : CK → Nat) (L h0 q1 q2 q3 q4 q5 q6 : Nat) (a b c d f k : Nat → Nat) (κ : CK) : Nat := CKm κ (ad .cl) (ad .rd) (ad .ou) (ad .pa) (ad .sa) (ad .ft) (ad .tb) (ad .le) (ad .rs) (ad .rt)
  (fun M => if M = L then h0 else ad (.ln M)) (fun M => if M = L then q1 else ad (.ss M)) (fun M => if M = L then q2 else ad (.ls M)) (fun M => if M = L then q3 else ad (.cs M)) (fun M => if M = L then q4 else ad (.is M)) (fun M => if M = L then q5 else ad (.lc M)) (fun M => if M = L then q6 else ad (.tt M))
  (fun M s => if M = L then a s else ad (.st M s)) (fun M s => if M = L then b s else ad (.lo M s)) (fun M s => if M = L then c s else ad (.bp M s)) (fun M s => if M = L then d s else ad (.dl M s)) (fun M s => if M = L then f s else ad (.df M s)) (fun M s => if M = L then k s else ad (.cd M s)) (fun t => ad (.tx t))
theorem adl_ne {ad : CK → Nat} {L h0 q1 q2 q3 q4 q5 q6 : Nat} {a b c d f k : Nat → Nat} {κ : CK} (h : lof κ ≠ some L) : adl ad L h0 q1 q2 q3 q4 q5 q6 a b c d f k κ = ad κ := by
  cases κ using CKe <;> first | rfl | exact if_neg fun e => h (congrArg some e)
theorem adl_ln {ad : CK → Nat} {L h0 q1 q2 q3 q4 q5 q6 : Nat} {a b c d f k : Nat → Nat} : adl ad L h0 q1 q2 q3 q4 q5 q6 a b c d f k (.ln L) = h0 := if_pos rfl
theorem adl_ss {ad : CK → Nat} {L h0 q1 q2 q3 q4 q5 q6 : Nat} {a b c d f k : Nat → Nat} : adl ad L h0 q1 q2 q3 q4 q5 q6 a b c d f k (.ss L) = q1 := if_pos rfl
theorem adl_ls {ad : CK → Nat} {L h0 q1 q2 q3 q4 q5 q6 : Nat} {a b c d f k : Nat → Nat} : adl ad L h0 q1 q2 q3 q4 q5 q6 a b c d f k (.ls L) = q2 := if_pos rfl
theorem adl_cs {ad : CK → Nat} {L h0 q1 q2 q3 q4 q5 q6 : Nat} {a b c d f k : Nat → Nat} : adl ad L h0 q1 q2 q3 q4 q5 q6 a b c d f k (.cs L) = q3 := if_pos rfl
theorem adl_is {ad : CK → Nat} {L h0 q1 q2 q3 q4 q5 q6 : Nat} {a b c d f k : Nat → Nat} : adl ad L h0 q1 q2 q3 q4 q5 q6 a b c d f k (.is L) = q4 := if_pos rfl
theorem adl_lc {ad : CK → Nat} {L h0 q1 q2 q3 q4 q5 q6 : Nat} {a b c d f k : Nat → Nat} : adl ad L h0 q1 q2 q3 q4 q5 q6 a b c d f k (.lc L) = q5 := if_pos rfl
theorem adl_tt {ad : CK → Nat} {L h0 q1 q2 q3 q4 q5 q6 : Nat} {a b c d f k : Nat → Nat} : adl ad L h0 q1 q2 q3 q4 q5 q6 a b c d f k (.tt L) = q6 := if_pos rfl
theorem adl_st {ad : CK → Nat} {L h0 q1 q2 q3 q4 q5 q6 : Nat} {a b c d f k : Nat → Nat} {s : Nat} : adl ad L h0 q1 q2 q3 q4 q5 q6 a b c d f k (.st L s) = a s := if_pos rfl
theorem adl_lo {ad : CK → Nat} {L h0 q1 q2 q3 q4 q5 q6 : Nat} {a b c d f k : Nat → Nat} {s : Nat} : adl ad L h0 q1 q2 q3 q4 q5 q6 a b c d f k (.lo L s) = b s := if_pos rfl
theorem adl_bp {ad : CK → Nat} {L h0 q1 q2 q3 q4 q5 q6 : Nat} {a b c d f k : Nat → Nat} {s : Nat} : adl ad L h0 q1 q2 q3 q4 q5 q6 a b c d f k (.bp L s) = c s := if_pos rfl
theorem adl_dl {ad : CK → Nat} {L h0 q1 q2 q3 q4 q5 q6 : Nat} {a b c d f k : Nat → Nat} {s : Nat} : adl ad L h0 q1 q2 q3 q4 q5 q6 a b c d f k (.dl L s) = d s := if_pos rfl
theorem adl_df {ad : CK → Nat} {L h0 q1 q2 q3 q4 q5 q6 : Nat} {a b c d f k : Nat → Nat} {s : Nat} : adl ad L h0 q1 q2 q3 q4 q5 q6 a b c d f k (.df L s) = f s := if_pos rfl
theorem adl_cd {ad : CK → Nat} {L h0 q1 q2 q3 q4 q5 q6 : Nat} {a b c d f k : Nat → Nat} {s : Nat} : adl ad L h0 q1 q2 q3 q4 q5 q6 a b c d f k (.cd L s) = k s := if_pos rfl
theorem cE_old {ad : CK → Nat} {L h0 q1 q2 q3 q4 q5 q6 : Nat} {a b c d f k : Nat → Nat} {cy : Nat → ClassId} {g : CG} {u : RS} {κ : CK} (hL : 2 ≤ L) (h : has g κ) (hp : ¬ inl g L) (h1 : κ ≠ .pa) (h2 : κ ≠ .sa) : cE cy (adl ad L h0 q1 q2 q3 q4 q5 q6 a b c d f k) (gl g L) (ul u L) κ = cE cy ad g u κ := by
  have hl : lof κ ≠ some L := fun e => hp (has_inl h e)
  rw [← cE_ext h (u2 := ul u L) fun R I ho => ul_o ho hl]
  have z_cl : (adl ad L h0 q1 q2 q3 q4 q5 q6 a b c d f k) .cl = ad .cl := adl_ne (fun e => nomatch (show (none : Option Nat) = some _ from e))
  have z_rd : (adl ad L h0 q1 q2 q3 q4 q5 q6 a b c d f k) .rd = ad .rd := adl_ne (fun e => nomatch (show (none : Option Nat) = some _ from e))
  have z_ou : (adl ad L h0 q1 q2 q3 q4 q5 q6 a b c d f k) .ou = ad .ou := adl_ne (fun e => nomatch (show (none : Option Nat) = some _ from e))
  have z_pa : (adl ad L h0 q1 q2 q3 q4 q5 q6 a b c d f k) .pa = ad .pa := adl_ne (fun e => nomatch (show (none : Option Nat) = some _ from e))
  have z_sa : (adl ad L h0 q1 q2 q3 q4 q5 q6 a b c d f k) .sa = ad .sa := adl_ne (fun e => nomatch (show (none : Option Nat) = some _ from e))
  have z_ft : (adl ad L h0 q1 q2 q3 q4 q5 q6 a b c d f k) .ft = ad .ft := adl_ne (fun e => nomatch (show (none : Option Nat) = some _ from e))
  have z_tb : (adl ad L h0 q1 q2 q3 q4 q5 q6 a b c d f k) .tb = ad .tb := adl_ne (fun e => nomatch (show (none : Option Nat) = some _ from e))
  have z_le : (adl ad L h0 q1 q2 q3 q4 q5 q6 a b c d f k) .le = ad .le := adl_ne (fun e => nomatch (show (none : Option Nat) = some _ from e))
  have z_rs : (adl ad L h0 q1 q2 q3 q4 q5 q6 a b c d f k) .rs = ad .rs := adl_ne (fun e => nomatch (show (none : Option Nat) = some _ from e))
  have z_rt : (adl ad L h0 q1 q2 q3 q4 q5 q6 a b c d f k) .rt = ad .rt := adl_ne (fun e => nomatch (show (none : Option Nat) = some _ from e))
  have z_tx : ∀ t, (adl ad L h0 q1 q2 q3 q4 q5 q6 a b c d f k) (.tx t) = ad (.tx t) := fun t => adl_ne (fun e => nomatch (show (none : Option Nat) = some _ from e))
  have z_ln : ∀ M, M ≠ L → (adl ad L h0 q1 q2 q3 q4 q5 q6 a b c d f k) (.ln M) = ad (.ln M) := fun M h => adl_ne (fun e => h (Option.some.inj e))
  have z_ss : ∀ M, M ≠ L → (adl ad L h0 q1 q2 q3 q4 q5 q6 a b c d f k) (.ss M) = ad (.ss M) := fun M h => adl_ne (fun e => h (Option.some.inj e))
  have z_ls : ∀ M, M ≠ L → (adl ad L h0 q1 q2 q3 q4 q5 q6 a b c d f k) (.ls M) = ad (.ls M) := fun M h => adl_ne (fun e => h (Option.some.inj e))
  have z_cs : ∀ M, M ≠ L → (adl ad L h0 q1 q2 q3 q4 q5 q6 a b c d f k) (.cs M) = ad (.cs M) := fun M h => adl_ne (fun e => h (Option.some.inj e))
  have z_is : ∀ M, M ≠ L → (adl ad L h0 q1 q2 q3 q4 q5 q6 a b c d f k) (.is M) = ad (.is M) := fun M h => adl_ne (fun e => h (Option.some.inj e))
  have z_lc : ∀ M, M ≠ L → (adl ad L h0 q1 q2 q3 q4 q5 q6 a b c d f k) (.lc M) = ad (.lc M) := fun M h => adl_ne (fun e => h (Option.some.inj e))
  have z_tt : ∀ M, M ≠ L → (adl ad L h0 q1 q2 q3 q4 q5 q6 a b c d f k) (.tt M) = ad (.tt M) := fun M h => adl_ne (fun e => h (Option.some.inj e))
  have z_st : ∀ M s, M ≠ L → (adl ad L h0 q1 q2 q3 q4 q5 q6 a b c d f k) (.st M s) = ad (.st M s) := fun M s h => adl_ne (fun e => h (Option.some.inj e))
  have z_lo : ∀ M s, M ≠ L → (adl ad L h0 q1 q2 q3 q4 q5 q6 a b c d f k) (.lo M s) = ad (.lo M s) := fun M s h => adl_ne (fun e => h (Option.some.inj e))
  have z_bp : ∀ M s, M ≠ L → (adl ad L h0 q1 q2 q3 q4 q5 q6 a b c d f k) (.bp M s) = ad (.bp M s) := fun M s h => adl_ne (fun e => h (Option.some.inj e))
  have z_dl : ∀ M s, M ≠ L → (adl ad L h0 q1 q2 q3 q4 q5 q6 a b c d f k) (.dl M s) = ad (.dl M s) := fun M s h => adl_ne (fun e => h (Option.some.inj e))
  have z_df : ∀ M s, M ≠ L → (adl ad L h0 q1 q2 q3 q4 q5 q6 a b c d f k) (.df M s) = ad (.df M s) := fun M s h => adl_ne (fun e => h (Option.some.inj e))
  have z_cd : ∀ M s, M ≠ L → (adl ad L h0 q1 q2 q3 q4 q5 q6 a b c d f k) (.cd M s) = ad (.cd M s) := fun M s h => adl_ne (fun e => h (Option.some.inj e))
  cases κ using CKe with
  | pa => exact absurd rfl h1
  | sa => exact absurd rfl h2
  | cl => simp only [cE_cl, cE_rd, cE_ou, cE_pa, cE_sa, cE_ft, cE_tb, cE_le, cE_rs, cE_rt, cE_ln, cE_ss, cE_ls, cE_cs, cE_is, cE_lc, cE_tt, cE_st, cE_lo, cE_bp, cE_dl, cE_df, cE_cd, cE_tx, z_ln 0 (by omega), z_ln 1 (by omega), z_rd, z_ou, z_pa, z_sa, z_ft]
  | rd => simp only [cE_cl, cE_rd, cE_ou, cE_pa, cE_sa, cE_ft, cE_tb, cE_le, cE_rs, cE_rt, cE_ln, cE_ss, cE_ls, cE_cs, cE_is, cE_lc, cE_tt, cE_st, cE_lo, cE_bp, cE_dl, cE_df, cE_cd, cE_tx, z_tb, z_le, z_rs, z_rt]
  | ln M =>
    have hM : M ≠ L := fun e => hl (congrArg some e)
    simp only [cE_cl, cE_rd, cE_ou, cE_pa, cE_sa, cE_ft, cE_tb, cE_le, cE_rs, cE_rt, cE_ln, cE_ss, cE_ls, cE_cs, cE_is, cE_lc, cE_tt, cE_st, cE_lo, cE_bp, cE_dl, cE_df, cE_cd, cE_tx, z_ss M hM, z_ls M hM, z_cs M hM, z_is M hM, z_lc M hM, z_tt M hM]
  | ss M =>
    have hM : M ≠ L := fun e => hl (congrArg some e)
    simp only [cE_cl, cE_rd, cE_ou, cE_pa, cE_sa, cE_ft, cE_tb, cE_le, cE_rs, cE_rt, cE_ln, cE_ss, cE_ls, cE_cs, cE_is, cE_lc, cE_tt, cE_st, cE_lo, cE_bp, cE_dl, cE_df, cE_cd, cE_tx, z_st M _ hM]
  | ls M =>
    have hM : M ≠ L := fun e => hl (congrArg some e)
    simp only [cE_cl, cE_rd, cE_ou, cE_pa, cE_sa, cE_ft, cE_tb, cE_le, cE_rs, cE_rt, cE_ln, cE_ss, cE_ls, cE_cs, cE_is, cE_lc, cE_tt, cE_st, cE_lo, cE_bp, cE_dl, cE_df, cE_cd, cE_tx, z_lo M _ hM]
  | cs M =>
    have hM : M ≠ L := fun e => hl (congrArg some e)
    simp only [cE_cl, cE_rd, cE_ou, cE_pa, cE_sa, cE_ft, cE_tb, cE_le, cE_rs, cE_rt, cE_ln, cE_ss, cE_ls, cE_cs, cE_is, cE_lc, cE_tt, cE_st, cE_lo, cE_bp, cE_dl, cE_df, cE_cd, cE_tx, z_cd M _ hM]
  | is M =>
    have hM : M ≠ L := fun e => hl (congrArg some e)
    simp only [cE_cl, cE_rd, cE_ou, cE_pa, cE_sa, cE_ft, cE_tb, cE_le, cE_rs, cE_rt, cE_ln, cE_ss, cE_ls, cE_cs, cE_is, cE_lc, cE_tt, cE_st, cE_lo, cE_bp, cE_dl, cE_df, cE_cd, cE_tx, cE_cl, cE_rd, cE_ou, cE_pa, cE_sa, cE_ft, cE_tb, cE_le, cE_rs, cE_rt, cE_ln, cE_ss, cE_ls, cE_cs, cE_is, cE_lc, cE_tt, cE_st, cE_lo, cE_bp, cE_dl, cE_df, cE_cd, cE_tx]
  | lc M =>
    have hM : M ≠ L := fun e => hl (congrArg some e)
    simp only [cE_cl, cE_rd, cE_ou, cE_pa, cE_sa, cE_ft, cE_tb, cE_le, cE_rs, cE_rt, cE_ln, cE_ss, cE_ls, cE_cs, cE_is, cE_lc, cE_tt, cE_st, cE_lo, cE_bp, cE_dl, cE_df, cE_cd, cE_tx, cE_cl, cE_rd, cE_ou, cE_pa, cE_sa, cE_ft, cE_tb, cE_le, cE_rs, cE_rt, cE_ln, cE_ss, cE_ls, cE_cs, cE_is, cE_lc, cE_tt, cE_st, cE_lo, cE_bp, cE_dl, cE_df, cE_cd, cE_tx]
  | tt M =>
    have hM : M ≠ L := fun e => hl (congrArg some e)
    simp only [cE_cl, cE_rd, cE_ou, cE_pa, cE_sa, cE_ft, cE_tb, cE_le, cE_rs, cE_rt, cE_ln, cE_ss, cE_ls, cE_cs, cE_is, cE_lc, cE_tt, cE_st, cE_lo, cE_bp, cE_dl, cE_df, cE_cd, cE_tx, cE_cl, cE_rd, cE_ou, cE_pa, cE_sa, cE_ft, cE_tb, cE_le, cE_rs, cE_rt, cE_ln, cE_ss, cE_ls, cE_cs, cE_is, cE_lc, cE_tt, cE_st, cE_lo, cE_bp, cE_dl, cE_df, cE_cd, cE_tx]
  | st M s =>
    have hM : M ≠ L := fun e => hl (congrArg some e)
    simp only [cE_cl, cE_rd, cE_ou, cE_pa, cE_sa, cE_ft, cE_tb, cE_le, cE_rs, cE_rt, cE_ln, cE_ss, cE_ls, cE_cs, cE_is, cE_lc, cE_tt, cE_st, cE_lo, cE_bp, cE_dl, cE_df, cE_cd, cE_tx, z_tx]
  | lo M s =>
    have hM : M ≠ L := fun e => hl (congrArg some e)
    simp only [cE_cl, cE_rd, cE_ou, cE_pa, cE_sa, cE_ft, cE_tb, cE_le, cE_rs, cE_rt, cE_ln, cE_ss, cE_ls, cE_cs, cE_is, cE_lc, cE_tt, cE_st, cE_lo, cE_bp, cE_dl, cE_df, cE_cd, cE_tx, z_bp M _ hM, z_dl M _ hM, z_df M _ hM]
  | bp M s =>
    have hM : M ≠ L := fun e => hl (congrArg some e)
    simp only [cE_cl, cE_rd, cE_ou, cE_pa, cE_sa, cE_ft, cE_tb, cE_le, cE_rs, cE_rt, cE_ln, cE_ss, cE_ls, cE_cs, cE_is, cE_lc, cE_tt, cE_st, cE_lo, cE_bp, cE_dl, cE_df, cE_cd, cE_tx, cE_cl, cE_rd, cE_ou, cE_pa, cE_sa, cE_ft, cE_tb, cE_le, cE_rs, cE_rt, cE_ln, cE_ss, cE_ls, cE_cs, cE_is, cE_lc, cE_tt, cE_st, cE_lo, cE_bp, cE_dl, cE_df, cE_cd, cE_tx]
  | dl M s =>
    have hM : M ≠ L := fun e => hl (congrArg some e)
    simp only [cE_cl, cE_rd, cE_ou, cE_pa, cE_sa, cE_ft, cE_tb, cE_le, cE_rs, cE_rt, cE_ln, cE_ss, cE_ls, cE_cs, cE_is, cE_lc, cE_tt, cE_st, cE_lo, cE_bp, cE_dl, cE_df, cE_cd, cE_tx, cE_cl, cE_rd, cE_ou, cE_pa, cE_sa, cE_ft, cE_tb, cE_le, cE_rs, cE_rt, cE_ln, cE_ss, cE_ls, cE_cs, cE_is, cE_lc, cE_tt, cE_st, cE_lo, cE_bp, cE_dl, cE_df, cE_cd, cE_tx]
  | df M s =>
    have hM : M ≠ L := fun e => hl (congrArg some e)
    simp only [cE_cl, cE_rd, cE_ou, cE_pa, cE_sa, cE_ft, cE_tb, cE_le, cE_rs, cE_rt, cE_ln, cE_ss, cE_ls, cE_cs, cE_is, cE_lc, cE_tt, cE_st, cE_lo, cE_bp, cE_dl, cE_df, cE_cd, cE_tx, cE_cl, cE_rd, cE_ou, cE_pa, cE_sa, cE_ft, cE_tb, cE_le, cE_rs, cE_rt, cE_ln, cE_ss, cE_ls, cE_cs, cE_is, cE_lc, cE_tt, cE_st, cE_lo, cE_bp, cE_dl, cE_df, cE_cd, cE_tx]
  | cd M s =>
    have hM : M ≠ L := fun e => hl (congrArg some e)
    simp only [cE_cl, cE_rd, cE_ou, cE_pa, cE_sa, cE_ft, cE_tb, cE_le, cE_rs, cE_rt, cE_ln, cE_ss, cE_ls, cE_cs, cE_is, cE_lc, cE_tt, cE_st, cE_lo, cE_bp, cE_dl, cE_df, cE_cd, cE_tx, z_tx]
  | ou => exact cE_ou.trans cE_ou.symm
  | ft => exact cE_ft.trans cE_ft.symm
  | tb => exact cE_tb.trans cE_tb.symm
  | le => exact cE_le.trans cE_le.symm
  | rs => exact cE_rs.trans cE_rs.symm
  | rt => exact cE_rt.trans cE_rt.symm
  | tx t => exact cE_tx.trans cE_tx.symm
theorem nl_cells {ad : CK → Nat} {L h0 q1 q2 q3 q4 q5 q6 : Nat} {a b c d f k : Nat → Nat} {cy : Nat → ClassId} {nb : Nat → Nat} {g : CG} {u : RS} (hL : L < 12) (h0n : ad (.tx 0) = nb 0) : (LH cy h0 q1 q2 q3 q4 q5 q6 (fN 6 a) (fN 6 b) (fN 30 k) ++ SW (stZ nb) 6 a ++ LW cy 6 b c d f ++ SW (cdZ nb) 30 k) = (NK L).map (fun κ => ((adl ad L h0 q1 q2 q3 q4 q5 q6 a b c d f k) κ, cE cy (adl ad L h0 q1 q2 q3 q4 q5 q6 a b c d f k) (gl g L) (ul u L) κ)) := by
  have ht : (adl ad L h0 q1 q2 q3 q4 q5 q6 a b c d f k) (.tx ((0 : Int32).toNatClampNeg)) = nb 0 := (adl_ne (κ := .tx 0) (fun e => nomatch (show (none : Option Nat) = some _ from e))).trans h0n
  unfold NK
  rw [List.map_append, List.map_append, List.map_append, List.map_map, List.map_map, List.map_flatMap]
  congr 1
  · congr 1
    · congr 1
      · simp only [List.map_cons, List.map_nil, cE_cl, cE_rd, cE_ou, cE_pa, cE_sa, cE_ft, cE_tb, cE_le, cE_rs, cE_rt, cE_ln, cE_ss, cE_ls, cE_cs, cE_is, cE_lc, cE_tt, cE_st, cE_lo, cE_bp, cE_dl, cE_df, cE_cd, cE_tx, adl_ln, adl_ss, adl_ls, adl_cs, adl_is, adl_lc, adl_tt, adl_st, adl_lo, adl_cd, ul_1 hL, show ul u L (10 + L) 1 = 0 from ul_z (own_ln hL (by decide)) rfl (by omega), show ul u L (10 + L) 2 = 0 from ul_z (own_ln hL (by decide)) rfl (by omega), show ul u L (10 + L) 3 = 0 from ul_z (own_ln hL (by decide)) rfl (by omega), show ul u L (10 + L) 4 = 0 from ul_z (own_ln hL (by decide)) rfl (by omega), show ul u L (10 + L) 5 = 0 from ul_z (own_ln hL (by decide)) rfl (by omega), show ul u L (10 + L) 6 = 0 from ul_z (own_ln hL (by decide)) rfl (by omega), show ul u L (10 + L) 7 = 0 from ul_z (own_ln hL (by decide)) rfl (by omega), show ul u L (10 + L) 8 = 0 from ul_z (own_ln hL (by decide)) rfl (by omega), show ul u L (10 + L) 9 = 0 from ul_z (own_ln hL (by decide)) rfl (by omega), show ul u L (10 + L) 1060 = 0 from ul_z (own_mv hL) rfl (by omega), show ul u L (400 + L) = (fun _ => 0) from funext fun i => ul_z (own_is hL) rfl (by omega)]
        have e1 : (fun i => if i < 30 then ul u L (10 + L) (887 + i) else 0) = fun _ => (0 : Int32) := funext fun i => by
          by_cases h : i < 30
          · rw [if_pos h]; exact ul_z (own_lc hL h) rfl (by omega)
          · exact if_neg h
        have e2 : (fun i => if i < 5 then ul u L (10 + L) (12 + i) else 0) = fun _ => (0 : Int32) := funext fun i => by
          by_cases h : i < 5
          · rw [if_pos h]; exact ul_z (own_tt hL h) rfl (by omega)
          · exact if_neg h
        rw [e1, e2]
        rfl
      · unfold SW
        apply List.map_congr_left
        intro s hs
        have hs := List.mem_range.mp hs
        simp only [Function.comp, cE_cl, cE_rd, cE_ou, cE_pa, cE_sa, cE_ft, cE_tb, cE_le, cE_rs, cE_rt, cE_ln, cE_ss, cE_ls, cE_cs, cE_is, cE_lc, cE_tt, cE_st, cE_lo, cE_bp, cE_dl, cE_df, cE_cd, cE_tx, adl_st, show ul u L (10 + L) (17 + 16 * s + 0) = 0 from ul_z (own_st hL hs (by decide)) rfl (by omega), show ul u L (10 + L) (17 + 16 * s + 1) = 0 from ul_z (own_st hL hs (by decide)) rfl (by omega), show ul u L (10 + L) (17 + 16 * s + 2) = 0 from ul_z (own_st hL hs (by decide)) rfl (by omega), show ul u L (10 + L) (17 + 16 * s + 3) = 0 from ul_z (own_st hL hs (by decide)) rfl (by omega), show ul u L (10 + L) (17 + 16 * s + 4) = 0 from ul_z (own_st hL hs (by decide)) rfl (by omega), show ul u L (10 + L) (17 + 16 * s + 5) = 0 from ul_z (own_st hL hs (by decide)) rfl (by omega), show ul u L (10 + L) (17 + 16 * s + 6) = 0 from ul_z (own_st hL hs (by decide)) rfl (by omega), show ul u L (10 + L) (17 + 16 * s + 7) = 0 from ul_z (own_st hL hs (by decide)) rfl (by omega), show ul u L (10 + L) (17 + 16 * s + 8) = 0 from ul_z (own_st hL hs (by decide)) rfl (by omega), show ul u L (10 + L) (17 + 16 * s + 9) = 0 from ul_z (own_st hL hs (by decide)) rfl (by omega), show ul u L (10 + L) (17 + 16 * s + 10) = 0 from ul_z (own_st hL hs (by decide)) rfl (by omega), show ul u L (10 + L) (17 + 16 * s + 11) = 0 from ul_z (own_st hL hs (by decide)) rfl (by omega), show ul u L (10 + L) (17 + 16 * s + 12) = 0 from ul_z (own_st hL hs (by decide)) rfl (by omega), show ul u L (10 + L) (17 + 16 * s + 13) = 0 from ul_z (own_st hL hs (by decide)) rfl (by omega), show ul u L (10 + L) (17 + 16 * s + 14) = 0 from ul_z (own_st hL hs (by decide)) rfl (by omega), ht]
    · unfold LW
      rw [List.flatMap_def, List.flatMap_def]
      congr 1
      apply List.map_congr_left
      intro s hs
      have hs := List.mem_range.mp hs
      simp only [List.map_cons, List.map_nil, LO4, cE_cl, cE_rd, cE_ou, cE_pa, cE_sa, cE_ft, cE_tb, cE_le, cE_rs, cE_rt, cE_ln, cE_ss, cE_ls, cE_cs, cE_is, cE_lc, cE_tt, cE_st, cE_lo, cE_bp, cE_dl, cE_df, cE_cd, cE_tx, adl_lo, adl_bp, adl_dl, adl_df, show ul u L (10 + L) (113 + 4 * s + 0) = 0 from ul_z (own_lo hL hs (by decide)) rfl (by omega), show ul u L (10 + L) (113 + 4 * s + 1) = 0 from ul_z (own_lo hL hs (by decide)) rfl (by omega), show ul u L (10 + L) (113 + 4 * s + 2) = 0 from ul_z (own_lo hL hs (by decide)) rfl (by omega), show ul u L (10 + L) (113 + 4 * s + 3) = 0 from ul_z (own_lo hL hs (by decide)) rfl (by omega), show ul u L (10 + L) (1100 + 8 * s + 0) = 0 from ul_z (own_lq hL hs (by decide)) rfl (by omega), show ul u L (10 + L) (1100 + 8 * s + 1) = 0 from ul_z (own_lq hL hs (by decide)) rfl (by omega), show ul u L (10 + L) (1100 + 8 * s + 2) = 0 from ul_z (own_lq hL hs (by decide)) rfl (by omega), show ul u L (10 + L) (1100 + 8 * s + 3) = 0 from ul_z (own_lq hL hs (by decide)) rfl (by omega), show ul u L (10 + L) (1100 + 8 * s + 4) = 0 from ul_z (own_lq hL hs (by decide)) rfl (by omega), show ul u L (100 + 6 * L + s) = (fun _ => 0) from funext fun i => ul_z (own_bp hL hs) rfl (by omega), show ul u L (200 + 6 * L + s) = (fun _ => 0) from funext fun i => ul_z (own_dl hL hs) rfl (by omega), show ul u L (300 + 6 * L + s) = (fun _ => 0) from funext fun i => ul_z (own_df hL hs) rfl (by omega)]
  · unfold SW
    apply List.map_congr_left
    intro s hs
    have hs := List.mem_range.mp hs
    simp only [Function.comp, cE_cl, cE_rd, cE_ou, cE_pa, cE_sa, cE_ft, cE_tb, cE_le, cE_rs, cE_rt, cE_ln, cE_ss, cE_ls, cE_cs, cE_is, cE_lc, cE_tt, cE_st, cE_lo, cE_bp, cE_dl, cE_df, cE_cd, cE_tx, adl_cd, show ul u L (10 + L) (137 + 25 * s + 0) = 0 from ul_z (own_cd hL hs (by decide)) rfl (by omega), show ul u L (10 + L) (137 + 25 * s + 1) = 0 from ul_z (own_cd hL hs (by decide)) rfl (by omega), show ul u L (10 + L) (137 + 25 * s + 2) = 0 from ul_z (own_cd hL hs (by decide)) rfl (by omega), show ul u L (10 + L) (137 + 25 * s + 3) = 0 from ul_z (own_cd hL hs (by decide)) rfl (by omega), show ul u L (10 + L) (137 + 25 * s + 4) = 0 from ul_z (own_cd hL hs (by decide)) rfl (by omega), show ul u L (10 + L) (137 + 25 * s + 5) = 0 from ul_z (own_cd hL hs (by decide)) rfl (by omega), show ul u L (10 + L) (137 + 25 * s + 6) = 0 from ul_z (own_cd hL hs (by decide)) rfl (by omega), show ul u L (10 + L) (137 + 25 * s + 7) = 0 from ul_z (own_cd hL hs (by decide)) rfl (by omega), show ul u L (10 + L) (137 + 25 * s + 8) = 0 from ul_z (own_cd hL hs (by decide)) rfl (by omega), ht]
theorem nl_set {cy : Nat → ClassId} {ad ad2 : CK → Nat} {ks : List CK} {g g2 : CG} {u u2 : RS} {κ0 : CK} {y : va_E} {N : va_W} {q : Nat} (hk : GK g ks) (hq : ks[q]? = some κ0) (ha : ∀ κ, has g κ → ad2 κ = ad κ) (hc : ∀ κ, has g κ → κ ≠ κ0 → cE cy ad2 g2 u2 κ = cE cy ad g u κ) (hy : cE cy ad2 g2 u2 κ0 = y) : (WC cy ad ks g u ++ N).set q (ad κ0, y) = ks.map (fun κ => (ad2 κ, cE cy ad2 g2 u2 κ)) ++ N := by
  have hl : q < (WC cy ad ks g u).length := by unfold WC; rw [List.length_map]; exact (List.getElem?_eq_some_iff.mp hq).1
  rw [List.set_append_left _ _ hl]
  congr 1
  apply List.ext_getElem?
  intro j
  by_cases hj : q = j
  · subst hj
    rw [List.getElem?_set_self hl, List.getElem?_map, hq]
    have := (hk.2 κ0).mp (List.mem_of_getElem? hq)
    show some (ad κ0, y) = some (ad2 κ0, cE cy ad2 g2 u2 κ0)
    rw [hy, ha κ0 this]
  · rw [List.getElem?_set_ne hj]
    unfold WC
    rw [List.getElem?_map, List.getElem?_map]
    cases hx : ks[j]? with
    | none => rfl
    | some κ2 =>
      have hm := (hk.2 κ2).mp (List.mem_of_getElem? hx)
      show some (ad κ2, cE cy ad g u κ2) = some (ad2 κ2, cE cy ad2 g2 u2 κ2)
      rw [ha κ2 hm, hc κ2 hm]
      intro e
      subst e
      have h1 := List.getElem?_eq_some_iff.mp hq
      have h2 := List.getElem?_eq_some_iff.mp hx
      obtain ⟨l1, e1⟩ := h1
      obtain ⟨l2, e2⟩ := h2
      have hp := List.pairwise_iff_getElem.mp hk.1
      rcases Nat.lt_trichotomy q j with h3 | h3 | h3
      · exact hp q j l1 l2 h3 (e1.trans e2.symm)
      · exact hj h3
      · exact hp j q l2 l1 h3 (e2.trans e1.symm)
theorem nl_ga {ad : CK → Nat} {L h0 q1 q2 q3 q4 q5 q6 : Nat} {a b c d f k : Nat → Nat} {nb : Nat → Nat} {ks : List CK} {g : CG} (hL : L < 12) (hL2 : 2 ≤ L) (hp : ¬ g.pl L = true) (hk : GA nb ad g ks) : GA nb (adl ad L h0 q1 q2 q3 q4 q5 q6 a b c d f k) (gl g L) (ks ++ NK L) ∧ AX g ad (gl g L) (adl ad L h0 q1 q2 q3 q4 q5 q6 a b c d f k) := by
  have hni : ¬ inl g L := fun h => by rcases h with h | h; omega; exact hp h.2
  refine ⟨⟨⟨?_, fun κ => ?_⟩, (adl_ne (κ := .tx 0) (fun e => nomatch (show (none : Option Nat) = some _ from e))).trans hk.2⟩, fun κ h => ⟨(has_gl hL hp).mpr (Or.inl h), adl_ne fun e => hni (has_inl h e)⟩⟩
  · rw [List.nodup_append]
    refine ⟨hk.1.1, NK_nd L, fun x hx y hy e => ?_⟩
    subst e
    exact hni (has_inl ((hk.1.2 x).mp hx) (NK_lof hy))
  · rw [List.mem_append, hk.1.2, has_gl hL hp]
theorem nl_pa {ad : CK → Nat} {s h0 q1 q2 q3 q4 q5 q6 : Nat} {a b c d f k : Nat → Nat} {cy : Nat → ClassId} {nb : Nat → Nat} {ks : List CK} {g : CG} {u : RS} {i : Int32} {q : Nat} (hs : ix 8 i = some s) (hp : ¬ g.pl (2 + s) = true) (hk : GA nb ad g ks) (hq : ks[q]? = some .pa) : (WC cy ad ks g u ++ (LH cy h0 q1 q2 q3 q4 q5 q6 (fN 6 a) (fN 6 b) (fN 30 k) ++ SW (stZ nb) 6 a ++ LW cy 6 b c d f ++ SW (cdZ nb) 30 k)).set q (ad .pa, .inl (cy 5, 8, .inr (.inr (.inr (.inr (va_up (fun i => if i < 8 ∧ g.pl (2 + i) = true then some (ad (.ln (2 + i))) else none) i.toNatClampNeg (some h0))))))) = WC cy (adl ad (2 + s) h0 q1 q2 q3 q4 q5 q6 a b c d f k) (ks ++ NK (2 + s)) (gl g (2 + s)) (ul u (2 + s)) := by
  have hs2 := ix_lt hs
  have hni : ¬ inl g (2 + s) := fun h => by rcases h with h | h; omega; exact hp h.2
  have hc : ∀ κ, has g κ → κ ≠ .pa → cE cy (adl ad (2 + s) h0 q1 q2 q3 q4 q5 q6 a b c d f k) (gl g (2 + s)) (ul u (2 + s)) κ = cE cy ad g u κ := by
    intro κ h hne
    by_cases e : κ = .sa
    · subst e
      simp only [cE_cl, cE_rd, cE_ou, cE_pa, cE_sa, cE_ft, cE_tb, cE_le, cE_rs, cE_rt, cE_ln, cE_ss, cE_ls, cE_cs, cE_is, cE_lc, cE_tt, cE_st, cE_lo, cE_bp, cE_dl, cE_df, cE_cd, cE_tx]
      congr 7
      funext j
      by_cases hj : j < 2
      · rw [gl_ne (show 10 + j ≠ 2 + s by omega), adl_ne (show lof (.ln (10 + j)) ≠ some (2 + s) from fun e => by have := Option.some.inj e; omega)]
      · rw [if_neg fun q => hj q.1, if_neg fun q => hj q.1]
    · first | exact cE_old (by omega) h hni hne e | exact cE_old (by omega) h hni e hne
  have hy : cE cy (adl ad (2 + s) h0 q1 q2 q3 q4 q5 q6 a b c d f k) (gl g (2 + s)) (ul u (2 + s)) .pa = .inl (cy 5, 8, .inr (.inr (.inr (.inr (va_up (fun i => if i < 8 ∧ g.pl (2 + i) = true then some (ad (.ln (2 + i))) else none) s (some h0)))))) := by
    simp only [cE_cl, cE_rd, cE_ou, cE_pa, cE_sa, cE_ft, cE_tb, cE_le, cE_rs, cE_rt, cE_ln, cE_ss, cE_ls, cE_cs, cE_is, cE_lc, cE_tt, cE_st, cE_lo, cE_bp, cE_dl, cE_df, cE_cd, cE_tx]
    congr 7
    funext j
    unfold va_up
    by_cases e : j = s
    · subst e; rw [if_pos ⟨hs2, gl_pl⟩, if_pos rfl, adl_ln]
    · rw [if_neg e, gl_ne (show 2 + j ≠ 2 + s by omega), adl_ne (show lof (.ln (2 + j)) ≠ some (2 + s) from fun e2 => by have := Option.some.inj e2; omega)]
  rw [ix_eq hs, nl_set (ad2 := adl ad (2 + s) h0 q1 q2 q3 q4 q5 q6 a b c d f k) (g2 := gl g (2 + s)) (u2 := ul u (2 + s)) hk.1 hq (fun κ h => adl_ne fun e => hni (has_inl h e)) hc hy]
  unfold WC
  rw [List.map_append, nl_cells (L := 2 + s) (cy := cy) (g := g) (u := u) (by omega) hk.2]
theorem nl_sa {ad : CK → Nat} {s h0 q1 q2 q3 q4 q5 q6 : Nat} {a b c d f k : Nat → Nat} {cy : Nat → ClassId} {nb : Nat → Nat} {ks : List CK} {g : CG} {u : RS} {i : Int32} {q : Nat} (hs : ix 2 i = some s) (hp : ¬ g.pl (10 + s) = true) (hk : GA nb ad g ks) (hq : ks[q]? = some .sa) : (WC cy ad ks g u ++ (LH cy h0 q1 q2 q3 q4 q5 q6 (fN 6 a) (fN 6 b) (fN 30 k) ++ SW (stZ nb) 6 a ++ LW cy 6 b c d f ++ SW (cdZ nb) 30 k)).set q (ad .sa, .inl (cy 5, 2, .inr (.inr (.inr (.inr (va_up (fun i => if i < 2 ∧ g.pl (10 + i) = true then some (ad (.ln (10 + i))) else none) i.toNatClampNeg (some h0))))))) = WC cy (adl ad (10 + s) h0 q1 q2 q3 q4 q5 q6 a b c d f k) (ks ++ NK (10 + s)) (gl g (10 + s)) (ul u (10 + s)) := by
  have hs2 := ix_lt hs
  have hni : ¬ inl g (10 + s) := fun h => by rcases h with h | h; omega; exact hp h.2
  have hc : ∀ κ, has g κ → κ ≠ .sa → cE cy (adl ad (10 + s) h0 q1 q2 q3 q4 q5 q6 a b c d f k) (gl g (10 + s)) (ul u (10 + s)) κ = cE cy ad g u κ := by
    intro κ h hne
    by_cases e : κ = .pa
    · subst e
      simp only [cE_cl, cE_rd, cE_ou, cE_pa, cE_sa, cE_ft, cE_tb, cE_le, cE_rs, cE_rt, cE_ln, cE_ss, cE_ls, cE_cs, cE_is, cE_lc, cE_tt, cE_st, cE_lo, cE_bp, cE_dl, cE_df, cE_cd, cE_tx]
      congr 7
      funext j
      by_cases hj : j < 8
      · rw [gl_ne (show 2 + j ≠ 10 + s by omega), adl_ne (show lof (.ln (2 + j)) ≠ some (10 + s) from fun e => by have := Option.some.inj e; omega)]
      · rw [if_neg fun q => hj q.1, if_neg fun q => hj q.1]
    · first | exact cE_old (by omega) h hni hne e | exact cE_old (by omega) h hni e hne
  have hy : cE cy (adl ad (10 + s) h0 q1 q2 q3 q4 q5 q6 a b c d f k) (gl g (10 + s)) (ul u (10 + s)) .sa = .inl (cy 5, 2, .inr (.inr (.inr (.inr (va_up (fun i => if i < 2 ∧ g.pl (10 + i) = true then some (ad (.ln (10 + i))) else none) s (some h0)))))) := by
    simp only [cE_cl, cE_rd, cE_ou, cE_pa, cE_sa, cE_ft, cE_tb, cE_le, cE_rs, cE_rt, cE_ln, cE_ss, cE_ls, cE_cs, cE_is, cE_lc, cE_tt, cE_st, cE_lo, cE_bp, cE_dl, cE_df, cE_cd, cE_tx]
    congr 7
    funext j
    unfold va_up
    by_cases e : j = s
    · subst e; rw [if_pos ⟨hs2, gl_pl⟩, if_pos rfl, adl_ln]
    · rw [if_neg e, gl_ne (show 10 + j ≠ 10 + s by omega), adl_ne (show lof (.ln (10 + j)) ≠ some (10 + s) from fun e2 => by have := Option.some.inj e2; omega)]
  rw [ix_eq hs, nl_set (ad2 := adl ad (10 + s) h0 q1 q2 q3 q4 q5 q6 a b c d f k) (g2 := gl g (10 + s)) (u2 := ul u (10 + s)) hk.1 hq (fun κ h => adl_ne fun e => hni (has_inl h e)) hc hy]
  unfold WC
  rw [List.map_append, nl_cells (L := 10 + s) (cy := cy) (g := g) (u := u) (by omega) hk.2]
theorem wc_pos {cy : Nat → ClassId} {ad : CK → Nat} {ks : List CK} {g : CG} {u : RS} {κ : CK} (hk : GK g ks) (h : has g κ) : ∃ q : Nat, ks[q]? = some κ ∧ ∀ N : va_W, (WC cy ad ks g u ++ N)[q]? = some (ad κ, cE cy ad g u κ) := by
  obtain ⟨q, hq⟩ := List.mem_iff_getElem?.mp ((hk.2 κ).mpr h)
  refine ⟨q, hq, fun N => ?_⟩
  have hl : q < (WC cy ad ks g u).length := by unfold WC; rw [List.length_map]; exact (List.getElem?_eq_some_iff.mp hq).1
  rw [List.getElem?_append_left hl]
  unfold WC
  rw [List.getElem?_map, hq]; rfl
