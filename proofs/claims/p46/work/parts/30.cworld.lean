noncomputable abbrev CK : Type := (Option (Option (Option (Option (Option (Option (Option (Option (Option Unit))))))))) ⊕ ((Option (Option (Option (Option (Option (Option Unit)))))) × Nat) ⊕ ((Option (Option (Option (Option (Option Unit))))) × Nat × Nat) ⊕ Nat
noncomputable def CK.cl : CK := .inl none
noncomputable def CK.rd : CK := .inl (some none)
noncomputable def CK.ou : CK := .inl (some (some none))
noncomputable def CK.pa : CK := .inl (some (some (some none)))
noncomputable def CK.sa : CK := .inl (some (some (some (some none))))
noncomputable def CK.ft : CK := .inl (some (some (some (some (some none)))))
noncomputable def CK.tb : CK := .inl (some (some (some (some (some (some none))))))
noncomputable def CK.le : CK := .inl (some (some (some (some (some (some (some none)))))))
noncomputable def CK.rs : CK := .inl (some (some (some (some (some (some (some (some none))))))))
noncomputable def CK.rt : CK := .inl (some (some (some (some (some (some (some (some (some ())))))))))
noncomputable def CK.ln (L : Nat) : CK := .inr (.inl (none, L))
noncomputable def CK.ss (L : Nat) : CK := .inr (.inl ((some none), L))
noncomputable def CK.ls (L : Nat) : CK := .inr (.inl ((some (some none)), L))
noncomputable def CK.cs (L : Nat) : CK := .inr (.inl ((some (some (some none))), L))
noncomputable def CK.is (L : Nat) : CK := .inr (.inl ((some (some (some (some none)))), L))
noncomputable def CK.lc (L : Nat) : CK := .inr (.inl ((some (some (some (some (some none))))), L))
noncomputable def CK.tt (L : Nat) : CK := .inr (.inl ((some (some (some (some (some (some ())))))), L))
noncomputable def CK.st (L s : Nat) : CK := .inr (.inr (.inl (none, L, s)))
noncomputable def CK.lo (L s : Nat) : CK := .inr (.inr (.inl ((some none), L, s)))
noncomputable def CK.bp (L s : Nat) : CK := .inr (.inr (.inl ((some (some none)), L, s)))
noncomputable def CK.dl (L s : Nat) : CK := .inr (.inr (.inl ((some (some (some none))), L, s)))
noncomputable def CK.df (L s : Nat) : CK := .inr (.inr (.inl ((some (some (some (some none)))), L, s)))
noncomputable def CK.cd (L s : Nat) : CK := .inr (.inr (.inl ((some (some (some (some (some ()))))), L, s)))
noncomputable def CK.tx (t : Nat) : CK := .inr (.inr (.inr t))
noncomputable def CKm {α : Type} (k : CK) (cl rd ou pa sa ft tb le rs rt : α) (ln ss ls cs is lc tt : Nat → α) (st lo bp dl df cd : Nat → Nat → α) (tx : Nat → α) : α := match k with
  | .inl none => cl
  | .inl (some none) => rd
  | .inl (some (some none)) => ou
  | .inl (some (some (some none))) => pa
  | .inl (some (some (some (some none)))) => sa
  | .inl (some (some (some (some (some none))))) => ft
  | .inl (some (some (some (some (some (some none)))))) => tb
  | .inl (some (some (some (some (some (some (some none))))))) => le
  | .inl (some (some (some (some (some (some (some (some none)))))))) => rs
  | .inl (some (some (some (some (some (some (some (some (some ()))))))))) => rt
  | .inr (.inl (none, L)) => ln L
  | .inr (.inl ((some none), L)) => ss L
  | .inr (.inl ((some (some none)), L)) => ls L
  | .inr (.inl ((some (some (some none))), L)) => cs L
  | .inr (.inl ((some (some (some (some none)))), L)) => is L
  | .inr (.inl ((some (some (some (some (some none))))), L)) => lc L
  | .inr (.inl ((some (some (some (some (some (some ())))))), L)) => tt L
  | .inr (.inr (.inl (none, L, s))) => st L s
  | .inr (.inr (.inl ((some none), L, s))) => lo L s
  | .inr (.inr (.inl ((some (some none)), L, s))) => bp L s
  | .inr (.inr (.inl ((some (some (some none))), L, s))) => dl L s
  | .inr (.inr (.inl ((some (some (some (some none)))), L, s))) => df L s
  | .inr (.inr (.inl ((some (some (some (some (some ()))))), L, s))) => cd L s
  | .inr (.inr (.inr t)) => tx t
theorem CKe {P : CK → Prop} (cl : P .cl) (rd : P .rd) (ou : P .ou) (pa : P .pa) (sa : P .sa) (ft : P .ft) (tb : P .tb) (le : P .le) (rs : P .rs) (rt : P .rt) (ln : ∀ L : Nat, P (.ln L)) (ss : ∀ L : Nat, P (.ss L)) (ls : ∀ L : Nat, P (.ls L)) (cs : ∀ L : Nat, P (.cs L)) (is : ∀ L : Nat, P (.is L)) (lc : ∀ L : Nat, P (.lc L)) (tt : ∀ L : Nat, P (.tt L)) (st : ∀ L s : Nat, P (.st L s)) (lo : ∀ L s : Nat, P (.lo L s)) (bp : ∀ L s : Nat, P (.bp L s)) (dl : ∀ L s : Nat, P (.dl L s)) (df : ∀ L s : Nat, P (.df L s)) (cd : ∀ L s : Nat, P (.cd L s)) (tx : ∀ t : Nat, P (.tx t)) (κ : CK) : P κ := match κ with
  | .inl none => cl
  | .inl (some none) => rd
  | .inl (some (some none)) => ou
  | .inl (some (some (some none))) => pa
  | .inl (some (some (some (some none)))) => sa
  | .inl (some (some (some (some (some none))))) => ft
  | .inl (some (some (some (some (some (some none)))))) => tb
  | .inl (some (some (some (some (some (some (some none))))))) => le
  | .inl (some (some (some (some (some (some (some (some none)))))))) => rs
  | .inl (some (some (some (some (some (some (some (some (some ()))))))))) => rt
  | .inr (.inl (none, L)) => ln L
  | .inr (.inl ((some none), L)) => ss L
  | .inr (.inl ((some (some none)), L)) => ls L
  | .inr (.inl ((some (some (some none))), L)) => cs L
  | .inr (.inl ((some (some (some (some none)))), L)) => is L
  | .inr (.inl ((some (some (some (some (some none))))), L)) => lc L
  | .inr (.inl ((some (some (some (some (some (some ())))))), L)) => tt L
  | .inr (.inr (.inl (none, L, s))) => st L s
  | .inr (.inr (.inl ((some none), L, s))) => lo L s
  | .inr (.inr (.inl ((some (some none)), L, s))) => bp L s
  | .inr (.inr (.inl ((some (some (some none))), L, s))) => dl L s
  | .inr (.inr (.inl ((some (some (some (some none)))), L, s))) => df L s
  | .inr (.inr (.inl ((some (some (some (some (some ()))))), L, s))) => cd L s
  | .inr (.inr (.inr t)) => tx t
theorem CK.tx_inj {a b : Nat} (q : CK.tx a = CK.tx b) : a = b := Sum.inr.inj (Sum.inr.inj (Sum.inr.inj q))
noncomputable def ckt (k : CK) : Nat := CKm k 0 1 2 3 4 5 6 7 8 9 (fun _ => 10) (fun _ => 11) (fun _ => 12) (fun _ => 13) (fun _ => 14) (fun _ => 15) (fun _ => 16) (fun _ _ => 17) (fun _ _ => 18) (fun _ _ => 19) (fun _ _ => 20) (fun _ _ => 21) (fun _ _ => 22) (fun _ => 23)
theorem ck_ne {a b : CK} (h : Nat.beq (ckt a) (ckt b) = false) : ¬ a = b := fun q => Nat.ne_of_beq_eq_false h (congrArg ckt q)
noncomputable abbrev CG : Type := (Nat → Bool) × Nat
noncomputable def CG.pl (g : CG) : Nat → Bool := g.1
noncomputable def CG.nt (g : CG) : Nat := g.2
noncomputable def inl (g : CG) (L : Nat) : Prop := L < 2 ∨ (L < 12 ∧ g.pl L = true)
theorem inl_lt {g : CG} {L : Nat} (h : inl g L) : L < 12 := by rcases h with h | h <;> omega
noncomputable def has (g : CG) (k : CK) : Prop := CKm k True True True True True True True True True True (fun L => inl g L) (fun L => inl g L) (fun L => inl g L) (fun L => inl g L) (fun L => inl g L) (fun L => inl g L) (fun L => inl g L) (fun L s => inl g L ∧ s < 6) (fun L s => inl g L ∧ s < 6) (fun L s => inl g L ∧ s < 6) (fun L s => inl g L ∧ s < 6) (fun L s => inl g L ∧ s < 6) (fun L s => inl g L ∧ s < 30) (fun t => 1 ≤ t ∧ t ≤ g.nt)
noncomputable def cE (cy : Nat → ClassId) (ad : CK → Nat) (g : CG) (u : RS) (k : CK) : va_E := CKm k
  (.inr (7, [.ref (ad (.ln 0)), .ref (ad (.ln 1)), .ref (ad .rd), .ref (ad .ou), .ref (ad .pa), .ref (ad .sa), .ref (ad .ft), .int (u 0 0), .int (u 0 1), .int (u 0 2), .int (u 0 3), .int (u 0 4)]))
  (.inr (5, [.ref (ad .tb), .int (u 0 5), .int (u 0 6), .int (u 0 7), .int (u 0 8), .int (u 0 9), .ref (ad .le), .ref (ad .rs), .ref (ad .rt), .int (u 0 10), .int (u 0 11)]))
  (.inl (cy 0, 16, .inl (u 1)))
  (.inl (cy 5, 8, .inr (.inr (.inr (.inr (fun i => if i < 8 ∧ g.pl (2 + i) = true then some (ad (.ln (2 + i))) else none))))))
  (.inl (cy 5, 2, .inr (.inr (.inr (.inr (fun i => if i < 2 ∧ g.pl (10 + i) = true then some (ad (.ln (10 + i))) else none))))))
  (.inl (cy 1, 6, .inl (u 2)))
  (.inl (cy 0, 600, .inl (u 3)))
  (.inl (cy 0, 64, .inl (u 4)))
  (.inl (cy 1, 4, .inl (u 5)))
  (.inl (cy 1, 4, .inl (u 6)))
  (fun L => .inr (3, [.int (u (10 + L) 0), .int (u (10 + L) 1), .int (u (10 + L) 2), .int (u (10 + L) 3), .int (u (10 + L) 4), .int (u (10 + L) 5), .int (u (10 + L) 6), .int (u (10 + L) 7), .int (u (10 + L) 8), .int (u (10 + L) 9), .ref (ad (.ss L)), .ref (ad (.ls L)), .ref (ad (.cs L)), .ref (ad (.is L)), .ref (ad (.lc L)), .ref (ad (.tt L)), .int (u (10 + L) 1060)]))
  (fun L => .inl (cy 6, 6, .inr (.inr (.inr (.inr (fun i => if i < 6 then some (ad (.st L i)) else none))))))
  (fun L => .inl (cy 7, 6, .inr (.inr (.inr (.inr (fun i => if i < 6 then some (ad (.lo L i)) else none))))))
  (fun L => .inl (cy 8, 30, .inr (.inr (.inr (.inr (fun i => if i < 30 then some (ad (.cd L i)) else none))))))
  (fun L => .inl (cy 1, 5, .inl (u (400 + L))))
  (fun L => .inl (cy 1, 30, .inl (fun i => if i < 30 then u (10 + L) (887 + i) else 0)))
  (fun L => .inl (cy 1, 5, .inl (fun i => if i < 5 then u (10 + L) (12 + i) else 0)))
  (fun L s => .inr (6, [.int (u (10 + L) (17 + 16 * s + 0)), .int (u (10 + L) (17 + 16 * s + 1)), .ref (ad (.tx (u (10 + L) (17 + 16 * s + 14)).toNatClampNeg)), .int (u (10 + L) (17 + 16 * s + 2)), .int (u (10 + L) (17 + 16 * s + 3)), .int (u (10 + L) (17 + 16 * s + 4)), .int (u (10 + L) (17 + 16 * s + 13)), .int (u (10 + L) (17 + 16 * s + 5)), .int (u (10 + L) (17 + 16 * s + 6)), .int (u (10 + L) (17 + 16 * s + 7)), .int (u (10 + L) (17 + 16 * s + 8)), .int (u (10 + L) (17 + 16 * s + 9)), .int (u (10 + L) (17 + 16 * s + 10)), .int (u (10 + L) (17 + 16 * s + 11)), .int (u (10 + L) (17 + 16 * s + 12))]))
  (fun L l => .inr (4, [.int (u (10 + L) (113 + 4 * l + 0)), .int (u (10 + L) (113 + 4 * l + 1)), .ref (ad (.bp L l)), .int (u (10 + L) (1100 + 8 * l + 0)), .int (u (10 + L) (1100 + 8 * l + 1)), .int (u (10 + L) (1100 + 8 * l + 2)), .int (u (10 + L) (1100 + 8 * l + 3)), .int (u (10 + L) (1100 + 8 * l + 4)), .int (u (10 + L) (113 + 4 * l + 2)), .int (u (10 + L) (113 + 4 * l + 3)), .ref (ad (.dl L l)), .ref (ad (.df L l))]))
  (fun L l => .inl (cy 1, 30, .inl (u (100 + 6 * L + l))))
  (fun L l => .inl (cy 1, 10, .inl (u (200 + 6 * L + l))))
  (fun L l => .inl (cy 1, 10, .inl (u (300 + 6 * L + l))))
  (fun L c => .inr (2, [.int (u (10 + L) (137 + 25 * c + 0)), .int (u (10 + L) (137 + 25 * c + 1)), .ref (ad (.tx (u (10 + L) (137 + 25 * c + 2)).toNatClampNeg)), .int (u (10 + L) (137 + 25 * c + 3)), .int (u (10 + L) (137 + 25 * c + 4)), .int (u (10 + L) (137 + 25 * c + 5)), .int (u (10 + L) (137 + 25 * c + 6)), .int (u (10 + L) (137 + 25 * c + 7)), .int (u (10 + L) (137 + 25 * c + 8))]))
  (fun t => .inl (cy 0, (u (500 + t) 0).toNatClampNeg, .inl (fun i => u (500 + t) (1 + i))))
theorem cE_cl {cy : Nat → ClassId} {ad : CK → Nat} {g : CG} {u : RS} : cE cy ad g u .cl = .inr (7, [.ref (ad (.ln 0)), .ref (ad (.ln 1)), .ref (ad .rd), .ref (ad .ou), .ref (ad .pa), .ref (ad .sa), .ref (ad .ft), .int (u 0 0), .int (u 0 1), .int (u 0 2), .int (u 0 3), .int (u 0 4)]) := rfl
theorem cE_rd {cy : Nat → ClassId} {ad : CK → Nat} {g : CG} {u : RS} : cE cy ad g u .rd = .inr (5, [.ref (ad .tb), .int (u 0 5), .int (u 0 6), .int (u 0 7), .int (u 0 8), .int (u 0 9), .ref (ad .le), .ref (ad .rs), .ref (ad .rt), .int (u 0 10), .int (u 0 11)]) := rfl
theorem cE_ou {cy : Nat → ClassId} {ad : CK → Nat} {g : CG} {u : RS} : cE cy ad g u .ou = .inl (cy 0, 16, .inl (u 1)) := rfl
theorem cE_pa {cy : Nat → ClassId} {ad : CK → Nat} {g : CG} {u : RS} : cE cy ad g u .pa = .inl (cy 5, 8, .inr (.inr (.inr (.inr (fun i => if i < 8 ∧ g.pl (2 + i) = true then some (ad (.ln (2 + i))) else none))))) := rfl
theorem cE_sa {cy : Nat → ClassId} {ad : CK → Nat} {g : CG} {u : RS} : cE cy ad g u .sa = .inl (cy 5, 2, .inr (.inr (.inr (.inr (fun i => if i < 2 ∧ g.pl (10 + i) = true then some (ad (.ln (10 + i))) else none))))) := rfl
theorem cE_ft {cy : Nat → ClassId} {ad : CK → Nat} {g : CG} {u : RS} : cE cy ad g u .ft = .inl (cy 1, 6, .inl (u 2)) := rfl
theorem cE_tb {cy : Nat → ClassId} {ad : CK → Nat} {g : CG} {u : RS} : cE cy ad g u .tb = .inl (cy 0, 600, .inl (u 3)) := rfl
theorem cE_le {cy : Nat → ClassId} {ad : CK → Nat} {g : CG} {u : RS} : cE cy ad g u .le = .inl (cy 0, 64, .inl (u 4)) := rfl
theorem cE_rs {cy : Nat → ClassId} {ad : CK → Nat} {g : CG} {u : RS} : cE cy ad g u .rs = .inl (cy 1, 4, .inl (u 5)) := rfl
theorem cE_rt {cy : Nat → ClassId} {ad : CK → Nat} {g : CG} {u : RS} : cE cy ad g u .rt = .inl (cy 1, 4, .inl (u 6)) := rfl
theorem cE_ln {cy : Nat → ClassId} {ad : CK → Nat} {g : CG} {u : RS} {L : Nat} : cE cy ad g u (.ln L) = .inr (3, [.int (u (10 + L) 0), .int (u (10 + L) 1), .int (u (10 + L) 2), .int (u (10 + L) 3), .int (u (10 + L) 4), .int (u (10 + L) 5), .int (u (10 + L) 6), .int (u (10 + L) 7), .int (u (10 + L) 8), .int (u (10 + L) 9), .ref (ad (.ss L)), .ref (ad (.ls L)), .ref (ad (.cs L)), .ref (ad (.is L)), .ref (ad (.lc L)), .ref (ad (.tt L)), .int (u (10 + L) 1060)]) := rfl
theorem cE_ss {cy : Nat → ClassId} {ad : CK → Nat} {g : CG} {u : RS} {L : Nat} : cE cy ad g u (.ss L) = .inl (cy 6, 6, .inr (.inr (.inr (.inr (fun i => if i < 6 then some (ad (.st L i)) else none))))) := rfl
theorem cE_ls {cy : Nat → ClassId} {ad : CK → Nat} {g : CG} {u : RS} {L : Nat} : cE cy ad g u (.ls L) = .inl (cy 7, 6, .inr (.inr (.inr (.inr (fun i => if i < 6 then some (ad (.lo L i)) else none))))) := rfl
theorem cE_cs {cy : Nat → ClassId} {ad : CK → Nat} {g : CG} {u : RS} {L : Nat} : cE cy ad g u (.cs L) = .inl (cy 8, 30, .inr (.inr (.inr (.inr (fun i => if i < 30 then some (ad (.cd L i)) else none))))) := rfl
theorem cE_is {cy : Nat → ClassId} {ad : CK → Nat} {g : CG} {u : RS} {L : Nat} : cE cy ad g u (.is L) = .inl (cy 1, 5, .inl (u (400 + L))) := rfl
theorem cE_lc {cy : Nat → ClassId} {ad : CK → Nat} {g : CG} {u : RS} {L : Nat} : cE cy ad g u (.lc L) = .inl (cy 1, 30, .inl (fun i => if i < 30 then u (10 + L) (887 + i) else 0)) := rfl
theorem cE_tt {cy : Nat → ClassId} {ad : CK → Nat} {g : CG} {u : RS} {L : Nat} : cE cy ad g u (.tt L) = .inl (cy 1, 5, .inl (fun i => if i < 5 then u (10 + L) (12 + i) else 0)) := rfl
theorem cE_st {cy : Nat → ClassId} {ad : CK → Nat} {g : CG} {u : RS} {L s : Nat} : cE cy ad g u (.st L s) = .inr (6, [.int (u (10 + L) (17 + 16 * s + 0)), .int (u (10 + L) (17 + 16 * s + 1)), .ref (ad (.tx (u (10 + L) (17 + 16 * s + 14)).toNatClampNeg)), .int (u (10 + L) (17 + 16 * s + 2)), .int (u (10 + L) (17 + 16 * s + 3)), .int (u (10 + L) (17 + 16 * s + 4)), .int (u (10 + L) (17 + 16 * s + 13)), .int (u (10 + L) (17 + 16 * s + 5)), .int (u (10 + L) (17 + 16 * s + 6)), .int (u (10 + L) (17 + 16 * s + 7)), .int (u (10 + L) (17 + 16 * s + 8)), .int (u (10 + L) (17 + 16 * s + 9)), .int (u (10 + L) (17 + 16 * s + 10)), .int (u (10 + L) (17 + 16 * s + 11)), .int (u (10 + L) (17 + 16 * s + 12))]) := rfl
theorem cE_lo {cy : Nat → ClassId} {ad : CK → Nat} {g : CG} {u : RS} {L l : Nat} : cE cy ad g u (.lo L l) = .inr (4, [.int (u (10 + L) (113 + 4 * l + 0)), .int (u (10 + L) (113 + 4 * l + 1)), .ref (ad (.bp L l)), .int (u (10 + L) (1100 + 8 * l + 0)), .int (u (10 + L) (1100 + 8 * l + 1)), .int (u (10 + L) (1100 + 8 * l + 2)), .int (u (10 + L) (1100 + 8 * l + 3)), .int (u (10 + L) (1100 + 8 * l + 4)), .int (u (10 + L) (113 + 4 * l + 2)), .int (u (10 + L) (113 + 4 * l + 3)), .ref (ad (.dl L l)), .ref (ad (.df L l))]) := rfl
theorem cE_bp {cy : Nat → ClassId} {ad : CK → Nat} {g : CG} {u : RS} {L l : Nat} : cE cy ad g u (.bp L l) = .inl (cy 1, 30, .inl (u (100 + 6 * L + l))) := rfl
theorem cE_dl {cy : Nat → ClassId} {ad : CK → Nat} {g : CG} {u : RS} {L l : Nat} : cE cy ad g u (.dl L l) = .inl (cy 1, 10, .inl (u (200 + 6 * L + l))) := rfl
theorem cE_df {cy : Nat → ClassId} {ad : CK → Nat} {g : CG} {u : RS} {L l : Nat} : cE cy ad g u (.df L l) = .inl (cy 1, 10, .inl (u (300 + 6 * L + l))) := rfl
theorem cE_cd {cy : Nat → ClassId} {ad : CK → Nat} {g : CG} {u : RS} {L c : Nat} : cE cy ad g u (.cd L c) = .inr (2, [.int (u (10 + L) (137 + 25 * c + 0)), .int (u (10 + L) (137 + 25 * c + 1)), .ref (ad (.tx (u (10 + L) (137 + 25 * c + 2)).toNatClampNeg)), .int (u (10 + L) (137 + 25 * c + 3)), .int (u (10 + L) (137 + 25 * c + 4)), .int (u (10 + L) (137 + 25 * c + 5)), .int (u (10 + L) (137 + 25 * c + 6)), .int (u (10 + L) (137 + 25 * c + 7)), .int (u (10 + L) (137 + 25 * c + 8))]) := rfl
theorem cE_tx {cy : Nat → ClassId} {ad : CK → Nat} {g : CG} {u : RS} {t : Nat} : cE cy ad g u (.tx t) = .inl (cy 0, (u (500 + t) 0).toNatClampNeg, .inl (fun i => u (500 + t) (1 + i))) := rfl
noncomputable abbrev WC (cy : Nat → ClassId) (ad : CK → Nat) (ks : List CK) (g : CG) (u : RS) : va_W := ks.map fun κ => (ad κ, cE cy ad g u κ)
noncomputable def GK (g : CG) (ks : List CK) : Prop := ks.Nodup ∧ ∀ κ, κ ∈ ks ↔ has g κ
theorem wc_at {cy : Nat → ClassId} {ad : CK → Nat} {ks : List CK} {g : CG} {u : RS} {κ : CK} (hk : GK g ks) (h : has g κ) : ∃ q : Nat, (WC cy ad ks g u)[q]? = some (ad κ, cE cy ad g u κ) := by
  obtain ⟨q, hq⟩ := List.mem_iff_getElem?.mp ((hk.2 κ).mpr h)
  exact ⟨q, by unfold WC; rw [List.getElem?_map, hq]; rfl⟩
noncomputable def own (r i : Nat) : Option CK :=
  if r = 0 then (if i < 5 then some .cl else some .rd) else if r = 1 then some .ou else if r = 2 then some .ft else if r = 3 then some .tb else if r = 4 then some .le else if r = 5 then some .rs else if r = 6 then some .rt else if r < 10 then none
  else if r < 22 then (if i < 10 then some (.ln (r - 10)) else if i < 12 then none else if i < 17 then some (.tt (r - 10)) else if i < 113 then some (.st (r - 10) ((i - 17) / 16)) else if i < 137 then some (.lo (r - 10) ((i - 113) / 4)) else if i < 887 then some (.cd (r - 10) ((i - 137) / 25)) else if i < 917 then some (.lc (r - 10)) else if i = 1060 then some (.ln (r - 10)) else if 1100 ≤ i ∧ i < 1148 then some (.lo (r - 10) ((i - 1100) / 8)) else none)
  else if r < 100 then none else if r < 172 then some (.bp ((r - 100) / 6) ((r - 100) % 6)) else if r < 200 then none else if r < 272 then some (.dl ((r - 200) / 6) ((r - 200) % 6)) else if r < 300 then none else if r < 372 then some (.df ((r - 300) / 6) ((r - 300) % 6)) else if r < 400 then none else if r < 412 then some (.is (r - 400)) else if r < 501 then none else some (.tx (r - 500))
theorem up_ne {u : RS} {k i r j : Nat} {v : Int32} (h : ¬ (r = k ∧ j = i)) : up u k i v r j = u r j := by
  unfold up
  split
  · rename_i e
    subst e
    exact if_neg fun q => h ⟨rfl, q⟩
  · rfl
theorem up_eq {u : RS} {k i : Nat} {v : Int32} : up u k i v k i = v := by
  unfold up; rw [if_pos rfl]; exact if_pos rfl
theorem own_cl {i : Nat} (h : i < 5) : own 0 i = some .cl := by unfold own; rw [if_pos rfl, if_pos h]
theorem own_rd {i : Nat} (h : 5 ≤ i) : own 0 i = some .rd := by unfold own; rw [if_pos rfl, if_neg (by omega)]
theorem own_ou {i : Nat} : own 1 i = some .ou := by unfold own; rfl
theorem own_ft {i : Nat} : own 2 i = some .ft := by unfold own; rfl
theorem own_tb {i : Nat} : own 3 i = some .tb := by unfold own; rfl
theorem own_le {i : Nat} : own 4 i = some .le := by unfold own; rfl
theorem own_rs {i : Nat} : own 5 i = some .rs := by unfold own; rfl
theorem own_rt {i : Nat} : own 6 i = some .rt := by unfold own; rfl
theorem own_ln {L k : Nat} (hL : L < 12) (h : k < 10) : own (10 + L) k = some (.ln L) := by
  unfold own; repeat (first | rw [if_pos (by omega)] | rw [if_neg (by omega)])
  exact congrArg some (congrArg CK.ln (by omega))
theorem own_mv {L : Nat} (hL : L < 12)  : own (10 + L) 1060 = some (.ln L) := by
  unfold own; repeat (first | rw [if_pos (by omega)] | rw [if_neg (by omega)])
  exact congrArg some (congrArg CK.ln (by omega))
theorem own_tt {L k : Nat} (hL : L < 12) (h : k < 5) : own (10 + L) (12 + k) = some (.tt L) := by
  unfold own; repeat (first | rw [if_pos (by omega)] | rw [if_neg (by omega)])
  exact congrArg some (congrArg CK.tt (by omega))
theorem own_lc {L k : Nat} (hL : L < 12) (h : k < 30) : own (10 + L) (887 + k) = some (.lc L) := by
  unfold own; repeat (first | rw [if_pos (by omega)] | rw [if_neg (by omega)])
  exact congrArg some (congrArg CK.lc (by omega))
theorem own_st {L s k : Nat} (hL : L < 12) (hs : s < 6) (h : k < 16) : own (10 + L) (17 + 16 * s + k) = some (.st L s) := by
  unfold own; repeat (first | rw [if_pos (by omega)] | rw [if_neg (by omega)])
  exact congrArg some (congr (congrArg CK.st (by omega)) (by omega))
theorem own_lo {L s k : Nat} (hL : L < 12) (hs : s < 6) (h : k < 4) : own (10 + L) (113 + 4 * s + k) = some (.lo L s) := by
  unfold own; repeat (first | rw [if_pos (by omega)] | rw [if_neg (by omega)])
  exact congrArg some (congr (congrArg CK.lo (by omega)) (by omega))
theorem own_lq {L s k : Nat} (hL : L < 12) (hs : s < 6) (h : k < 8) : own (10 + L) (1100 + 8 * s + k) = some (.lo L s) := by
  unfold own; repeat (first | rw [if_pos (by omega)] | rw [if_neg (by omega)])
  exact congrArg some (congr (congrArg CK.lo (by omega)) (by omega))
theorem own_cd {L s k : Nat} (hL : L < 12) (hs : s < 30) (h : k < 25) : own (10 + L) (137 + 25 * s + k) = some (.cd L s) := by
  unfold own; repeat (first | rw [if_pos (by omega)] | rw [if_neg (by omega)])
  exact congrArg some (congr (congrArg CK.cd (by omega)) (by omega))
theorem own_bp {L s k : Nat} (hL : L < 12) (hs : s < 6) : own (100 + 6 * L + s) k = some (.bp L s) := by
  unfold own; repeat (first | rw [if_pos (by omega)] | rw [if_neg (by omega)])
  exact congrArg some (congr (congrArg CK.bp (by omega)) (by omega))
theorem own_dl {L s k : Nat} (hL : L < 12) (hs : s < 6) : own (200 + 6 * L + s) k = some (.dl L s) := by
  unfold own; repeat (first | rw [if_pos (by omega)] | rw [if_neg (by omega)])
  exact congrArg some (congr (congrArg CK.dl (by omega)) (by omega))
theorem own_df {L s k : Nat} (hL : L < 12) (hs : s < 6) : own (300 + 6 * L + s) k = some (.df L s) := by
  unfold own; repeat (first | rw [if_pos (by omega)] | rw [if_neg (by omega)])
  exact congrArg some (congr (congrArg CK.df (by omega)) (by omega))
theorem own_is {L k : Nat} (hL : L < 12)  : own (400 + L) k = some (.is L) := by
  unfold own; repeat (first | rw [if_pos (by omega)] | rw [if_neg (by omega)])
  exact congrArg some (congrArg CK.is (by omega))
theorem own_tx {t k : Nat} (h : 1 ≤ t) : own (500 + t) k = some (.tx t) := by
  unfold own; repeat (first | rw [if_pos (by omega)] | rw [if_neg (by omega)])
  exact congrArg some (congrArg CK.tx (by omega))
theorem cE_ext {cy : Nat → ClassId} {ad : CK → Nat} {g : CG} {u u2 : RS} {κ : CK} (h : has g κ) (e : ∀ R I, own R I = some κ → u2 R I = u R I) : cE cy ad g u2 κ = cE cy ad g u κ := by
  cases κ using CKe with
  | pa => exact cE_pa.trans cE_pa.symm
  | sa => exact cE_sa.trans cE_sa.symm
  | ss L => exact cE_ss.trans cE_ss.symm
  | ls L => exact cE_ls.trans cE_ls.symm
  | cs L => exact cE_cs.trans cE_cs.symm
  | cl => simp only [cE_cl, cE_rd, cE_ou, cE_pa, cE_sa, cE_ft, cE_tb, cE_le, cE_rs, cE_rt, cE_ln, cE_ss, cE_ls, cE_cs, cE_is, cE_lc, cE_tt, cE_st, cE_lo, cE_bp, cE_dl, cE_df, cE_cd, cE_tx, e 0 0 (own_cl (by decide)), e 0 1 (own_cl (by decide)), e 0 2 (own_cl (by decide)), e 0 3 (own_cl (by decide)), e 0 4 (own_cl (by decide))]
  | rd => simp only [cE_cl, cE_rd, cE_ou, cE_pa, cE_sa, cE_ft, cE_tb, cE_le, cE_rs, cE_rt, cE_ln, cE_ss, cE_ls, cE_cs, cE_is, cE_lc, cE_tt, cE_st, cE_lo, cE_bp, cE_dl, cE_df, cE_cd, cE_tx, e 0 5 (own_rd (by decide)), e 0 6 (own_rd (by decide)), e 0 7 (own_rd (by decide)), e 0 8 (own_rd (by decide)), e 0 9 (own_rd (by decide)), e 0 10 (own_rd (by decide)), e 0 11 (own_rd (by decide))]
  | ln L => simp only [cE_cl, cE_rd, cE_ou, cE_pa, cE_sa, cE_ft, cE_tb, cE_le, cE_rs, cE_rt, cE_ln, cE_ss, cE_ls, cE_cs, cE_is, cE_lc, cE_tt, cE_st, cE_lo, cE_bp, cE_dl, cE_df, cE_cd, cE_tx, e (10 + L) 0 (own_ln (inl_lt h) (by decide)), e (10 + L) 1 (own_ln (inl_lt h) (by decide)), e (10 + L) 2 (own_ln (inl_lt h) (by decide)), e (10 + L) 3 (own_ln (inl_lt h) (by decide)), e (10 + L) 4 (own_ln (inl_lt h) (by decide)), e (10 + L) 5 (own_ln (inl_lt h) (by decide)), e (10 + L) 6 (own_ln (inl_lt h) (by decide)), e (10 + L) 7 (own_ln (inl_lt h) (by decide)), e (10 + L) 8 (own_ln (inl_lt h) (by decide)), e (10 + L) 9 (own_ln (inl_lt h) (by decide)), e (10 + L) 1060 (own_mv (inl_lt h))]
  | st L s => simp only [cE_cl, cE_rd, cE_ou, cE_pa, cE_sa, cE_ft, cE_tb, cE_le, cE_rs, cE_rt, cE_ln, cE_ss, cE_ls, cE_cs, cE_is, cE_lc, cE_tt, cE_st, cE_lo, cE_bp, cE_dl, cE_df, cE_cd, cE_tx, e (10 + L) (17 + 16 * s + 0) (own_st (inl_lt h.1) h.2 (by decide)), e (10 + L) (17 + 16 * s + 1) (own_st (inl_lt h.1) h.2 (by decide)), e (10 + L) (17 + 16 * s + 2) (own_st (inl_lt h.1) h.2 (by decide)), e (10 + L) (17 + 16 * s + 3) (own_st (inl_lt h.1) h.2 (by decide)), e (10 + L) (17 + 16 * s + 4) (own_st (inl_lt h.1) h.2 (by decide)), e (10 + L) (17 + 16 * s + 5) (own_st (inl_lt h.1) h.2 (by decide)), e (10 + L) (17 + 16 * s + 6) (own_st (inl_lt h.1) h.2 (by decide)), e (10 + L) (17 + 16 * s + 7) (own_st (inl_lt h.1) h.2 (by decide)), e (10 + L) (17 + 16 * s + 8) (own_st (inl_lt h.1) h.2 (by decide)), e (10 + L) (17 + 16 * s + 9) (own_st (inl_lt h.1) h.2 (by decide)), e (10 + L) (17 + 16 * s + 10) (own_st (inl_lt h.1) h.2 (by decide)), e (10 + L) (17 + 16 * s + 11) (own_st (inl_lt h.1) h.2 (by decide)), e (10 + L) (17 + 16 * s + 12) (own_st (inl_lt h.1) h.2 (by decide)), e (10 + L) (17 + 16 * s + 13) (own_st (inl_lt h.1) h.2 (by decide)), e (10 + L) (17 + 16 * s + 14) (own_st (inl_lt h.1) h.2 (by decide))]
  | lo L l => simp only [cE_cl, cE_rd, cE_ou, cE_pa, cE_sa, cE_ft, cE_tb, cE_le, cE_rs, cE_rt, cE_ln, cE_ss, cE_ls, cE_cs, cE_is, cE_lc, cE_tt, cE_st, cE_lo, cE_bp, cE_dl, cE_df, cE_cd, cE_tx, e (10 + L) (113 + 4 * l + 0) (own_lo (inl_lt h.1) h.2 (by decide)), e (10 + L) (113 + 4 * l + 1) (own_lo (inl_lt h.1) h.2 (by decide)), e (10 + L) (113 + 4 * l + 2) (own_lo (inl_lt h.1) h.2 (by decide)), e (10 + L) (113 + 4 * l + 3) (own_lo (inl_lt h.1) h.2 (by decide)), e (10 + L) (1100 + 8 * l + 0) (own_lq (inl_lt h.1) h.2 (by decide)), e (10 + L) (1100 + 8 * l + 1) (own_lq (inl_lt h.1) h.2 (by decide)), e (10 + L) (1100 + 8 * l + 2) (own_lq (inl_lt h.1) h.2 (by decide)), e (10 + L) (1100 + 8 * l + 3) (own_lq (inl_lt h.1) h.2 (by decide)), e (10 + L) (1100 + 8 * l + 4) (own_lq (inl_lt h.1) h.2 (by decide))]
  | cd L c => simp only [cE_cl, cE_rd, cE_ou, cE_pa, cE_sa, cE_ft, cE_tb, cE_le, cE_rs, cE_rt, cE_ln, cE_ss, cE_ls, cE_cs, cE_is, cE_lc, cE_tt, cE_st, cE_lo, cE_bp, cE_dl, cE_df, cE_cd, cE_tx, e (10 + L) (137 + 25 * c + 0) (own_cd (inl_lt h.1) h.2 (by decide)), e (10 + L) (137 + 25 * c + 1) (own_cd (inl_lt h.1) h.2 (by decide)), e (10 + L) (137 + 25 * c + 2) (own_cd (inl_lt h.1) h.2 (by decide)), e (10 + L) (137 + 25 * c + 3) (own_cd (inl_lt h.1) h.2 (by decide)), e (10 + L) (137 + 25 * c + 4) (own_cd (inl_lt h.1) h.2 (by decide)), e (10 + L) (137 + 25 * c + 5) (own_cd (inl_lt h.1) h.2 (by decide)), e (10 + L) (137 + 25 * c + 6) (own_cd (inl_lt h.1) h.2 (by decide)), e (10 + L) (137 + 25 * c + 7) (own_cd (inl_lt h.1) h.2 (by decide)), e (10 + L) (137 + 25 * c + 8) (own_cd (inl_lt h.1) h.2 (by decide))]
  | ou => simp only [cE_cl, cE_rd, cE_ou, cE_pa, cE_sa, cE_ft, cE_tb, cE_le, cE_rs, cE_rt, cE_ln, cE_ss, cE_ls, cE_cs, cE_is, cE_lc, cE_tt, cE_st, cE_lo, cE_bp, cE_dl, cE_df, cE_cd, cE_tx, show u2 1 = u 1 from funext fun I => e 1 I (own_ou)]
  | ft => simp only [cE_cl, cE_rd, cE_ou, cE_pa, cE_sa, cE_ft, cE_tb, cE_le, cE_rs, cE_rt, cE_ln, cE_ss, cE_ls, cE_cs, cE_is, cE_lc, cE_tt, cE_st, cE_lo, cE_bp, cE_dl, cE_df, cE_cd, cE_tx, show u2 2 = u 2 from funext fun I => e 2 I (own_ft)]
  | tb => simp only [cE_cl, cE_rd, cE_ou, cE_pa, cE_sa, cE_ft, cE_tb, cE_le, cE_rs, cE_rt, cE_ln, cE_ss, cE_ls, cE_cs, cE_is, cE_lc, cE_tt, cE_st, cE_lo, cE_bp, cE_dl, cE_df, cE_cd, cE_tx, show u2 3 = u 3 from funext fun I => e 3 I (own_tb)]
  | le => simp only [cE_cl, cE_rd, cE_ou, cE_pa, cE_sa, cE_ft, cE_tb, cE_le, cE_rs, cE_rt, cE_ln, cE_ss, cE_ls, cE_cs, cE_is, cE_lc, cE_tt, cE_st, cE_lo, cE_bp, cE_dl, cE_df, cE_cd, cE_tx, show u2 4 = u 4 from funext fun I => e 4 I (own_le)]
  | rs => simp only [cE_cl, cE_rd, cE_ou, cE_pa, cE_sa, cE_ft, cE_tb, cE_le, cE_rs, cE_rt, cE_ln, cE_ss, cE_ls, cE_cs, cE_is, cE_lc, cE_tt, cE_st, cE_lo, cE_bp, cE_dl, cE_df, cE_cd, cE_tx, show u2 5 = u 5 from funext fun I => e 5 I (own_rs)]
  | rt => simp only [cE_cl, cE_rd, cE_ou, cE_pa, cE_sa, cE_ft, cE_tb, cE_le, cE_rs, cE_rt, cE_ln, cE_ss, cE_ls, cE_cs, cE_is, cE_lc, cE_tt, cE_st, cE_lo, cE_bp, cE_dl, cE_df, cE_cd, cE_tx, show u2 6 = u 6 from funext fun I => e 6 I (own_rt)]
  | is L => simp only [cE_cl, cE_rd, cE_ou, cE_pa, cE_sa, cE_ft, cE_tb, cE_le, cE_rs, cE_rt, cE_ln, cE_ss, cE_ls, cE_cs, cE_is, cE_lc, cE_tt, cE_st, cE_lo, cE_bp, cE_dl, cE_df, cE_cd, cE_tx, show u2 (400 + L) = u (400 + L) from funext fun I => e (400 + L) I (own_is (inl_lt h))]
  | bp L l => simp only [cE_cl, cE_rd, cE_ou, cE_pa, cE_sa, cE_ft, cE_tb, cE_le, cE_rs, cE_rt, cE_ln, cE_ss, cE_ls, cE_cs, cE_is, cE_lc, cE_tt, cE_st, cE_lo, cE_bp, cE_dl, cE_df, cE_cd, cE_tx, show u2 (100 + 6 * L + l) = u (100 + 6 * L + l) from funext fun I => e (100 + 6 * L + l) I (own_bp (inl_lt h.1) h.2)]
  | dl L l => simp only [cE_cl, cE_rd, cE_ou, cE_pa, cE_sa, cE_ft, cE_tb, cE_le, cE_rs, cE_rt, cE_ln, cE_ss, cE_ls, cE_cs, cE_is, cE_lc, cE_tt, cE_st, cE_lo, cE_bp, cE_dl, cE_df, cE_cd, cE_tx, show u2 (200 + 6 * L + l) = u (200 + 6 * L + l) from funext fun I => e (200 + 6 * L + l) I (own_dl (inl_lt h.1) h.2)]
  | df L l => simp only [cE_cl, cE_rd, cE_ou, cE_pa, cE_sa, cE_ft, cE_tb, cE_le, cE_rs, cE_rt, cE_ln, cE_ss, cE_ls, cE_cs, cE_is, cE_lc, cE_tt, cE_st, cE_lo, cE_bp, cE_dl, cE_df, cE_cd, cE_tx, show u2 (300 + 6 * L + l) = u (300 + 6 * L + l) from funext fun I => e (300 + 6 * L + l) I (own_df (inl_lt h.1) h.2)]
  | lc L =>
    simp only [cE_cl, cE_rd, cE_ou, cE_pa, cE_sa, cE_ft, cE_tb, cE_le, cE_rs, cE_rt, cE_ln, cE_ss, cE_ls, cE_cs, cE_is, cE_lc, cE_tt, cE_st, cE_lo, cE_bp, cE_dl, cE_df, cE_cd, cE_tx]; congr 4; funext I; split
    · rename_i q; exact e _ _ (own_lc (inl_lt h) q)
    · rfl
  | tt L =>
    simp only [cE_cl, cE_rd, cE_ou, cE_pa, cE_sa, cE_ft, cE_tb, cE_le, cE_rs, cE_rt, cE_ln, cE_ss, cE_ls, cE_cs, cE_is, cE_lc, cE_tt, cE_st, cE_lo, cE_bp, cE_dl, cE_df, cE_cd, cE_tx]; congr 4; funext I; split
    · rename_i q; exact e _ _ (own_tt (inl_lt h) q)
    · rfl
  | tx t => simp only [cE_cl, cE_rd, cE_ou, cE_pa, cE_sa, cE_ft, cE_tb, cE_le, cE_rs, cE_rt, cE_ln, cE_ss, cE_ls, cE_cs, cE_is, cE_lc, cE_tt, cE_st, cE_lo, cE_bp, cE_dl, cE_df, cE_cd, cE_tx, show u2 (500 + t) = u (500 + t) from funext fun I => e (500 + t) I (own_tx h.1)]
theorem wc_gen {cy : Nat → ClassId} {ad : CK → Nat} {ks : List CK} {g : CG} {u u2 : RS} {κ : CK} {y : va_E} (hk : GK g ks) (h : has g κ) (hd : ∀ R I, ¬ own R I = some κ → u2 R I = u R I) (hy : cE cy ad g u2 κ = y) : ∃ q : Nat, (WC cy ad ks g u)[q]? = some (ad κ, cE cy ad g u κ) ∧ (WC cy ad ks g u).set q (ad κ, y) = WC cy ad ks g u2 := by
  obtain ⟨q, hq⟩ := List.mem_iff_getElem?.mp ((hk.2 κ).mpr h)
  refine ⟨q, by unfold WC; rw [List.getElem?_map, hq]; rfl, ?_⟩
  apply List.ext_getElem?
  intro j
  unfold WC
  by_cases hj : q = j
  · subst hj
    rw [List.getElem?_set_self (by rw [List.length_map]; exact (List.getElem?_eq_some_iff.mp hq).1), List.getElem?_map, hq, ← hy]
    rfl
  · rw [List.getElem?_set_ne hj, List.getElem?_map, List.getElem?_map]
    cases hx : ks[j]? with
    | none => simp only [Option.map_none]
    | some κ2 =>
      have hm : κ2 ∈ ks := List.mem_of_getElem? hx
      show some (ad κ2, cE cy ad g u κ2) = some (ad κ2, cE cy ad g u2 κ2)
      rw [cE_ext ((hk.2 κ2).mp hm) fun R I ho => hd R I fun ho2 => ?_]
      have e : κ2 = κ := Option.some.inj (ho.symm.trans ho2)
      subst e
      have h1 := (List.getElem?_eq_some_iff.mp hq)
      have h2 := (List.getElem?_eq_some_iff.mp hx)
      obtain ⟨l1, e1⟩ := h1
      obtain ⟨l2, e2⟩ := h2
      have hp := List.pairwise_iff_getElem.mp hk.1
      rcases Nat.lt_trichotomy q j with h3 | h3 | h3
      · exact hp q j l1 l2 h3 (e1.trans e2.symm)
      · exact hj h3
      · exact hp j q l2 l1 h3 (e2.trans e1.symm)
theorem wc_set {cy : Nat → ClassId} {ad : CK → Nat} {ks : List CK} {g : CG} {u : RS} {κ : CK} {r i : Nat} {v : Int32} {y : va_E} (hk : GK g ks) (h : has g κ) (ho : own r i = some κ) (hy : cE cy ad g (up u r i v) κ = y) : ∃ q : Nat, (WC cy ad ks g u)[q]? = some (ad κ, cE cy ad g u κ) ∧ (WC cy ad ks g u).set q (ad κ, y) = WC cy ad ks g (up u r i v) :=
  wc_gen hk h (fun R I h2 => up_ne fun q => h2 (by rw [q.1, q.2]; exact ho)) hy
