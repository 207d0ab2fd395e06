/-! the class's state: rows of numbers; row 0 the numbers of CardLine and its Reader, rows 1 to 6 their arrays, row 10 + L the numbers of Line L (in the places that the reference has for them), rows 100, 200, 300 + 6 L + l the arrays of its lots, row 400 + L how many are in each state, row 500 + t the text t (its length, then its bytes) -/
inductive CK where
  | cl | rd | ou | pa | sa | ft | tb | le | rs | rt
  | ln (L : Nat) | ss (L : Nat) | ls (L : Nat) | cs (L : Nat) | is (L : Nat) | lc (L : Nat) | tt (L : Nat)
  | st (L s : Nat) | lo (L l : Nat) | bp (L l : Nat) | dl (L l : Nat) | df (L l : Nat) | cd (L c : Nat) | tx (t : Nat)
  deriving DecidableEq
/-- which Lines stand, and how many texts -/
structure CG where
  pl : Nat → Bool
  nt : Nat
def inl (g : CG) (L : Nat) : Prop := L < 2 ∨ (L < 12 ∧ g.pl L = true)
theorem inl_lt {g : CG} {L : Nat} (h : inl g L) : L < 12 := by rcases h with h | h <;> omega
def has (g : CG) : CK → Prop
  | .ln L | .ss L | .ls L | .cs L | .is L | .lc L | .tt L => inl g L
  | .st L s => inl g L ∧ s < 6
  | .lo L l | .bp L l | .dl L l | .df L l => inl g L ∧ l < 6
  | .cd L c => inl g L ∧ c < 30
  | .tx t => 1 ≤ t ∧ t ≤ g.nt
  | _ => True
def cE (cy : Nat → ClassId) (ad : CK → Nat) (g : CG) (u : RS) : CK → va_E
  | .cl => .inr (7, [.ref (ad (.ln 0)), .ref (ad (.ln 1)), .ref (ad .rd), .ref (ad .ou), .ref (ad .pa), .ref (ad .sa), .ref (ad .ft), .int (u 0 0), .int (u 0 1), .int (u 0 2), .int (u 0 3), .int (u 0 4)])
  | .rd => .inr (5, [.ref (ad .tb), .int (u 0 5), .int (u 0 6), .int (u 0 7), .int (u 0 8), .int (u 0 9), .ref (ad .le), .ref (ad .rs), .ref (ad .rt), .int (u 0 10), .int (u 0 11)])
  | .ou => .inl (cy 0, 16, .inl (u 1))
  | .pa => .inl (cy 5, 8, .inr (.inr (.inr (.inr (fun i => if i < 8 ∧ g.pl (2 + i) = true then some (ad (.ln (2 + i))) else none)))))
  | .sa => .inl (cy 5, 2, .inr (.inr (.inr (.inr (fun i => if i < 2 ∧ g.pl (10 + i) = true then some (ad (.ln (10 + i))) else none)))))
  | .ft => .inl (cy 1, 6, .inl (u 2))
  | .tb => .inl (cy 0, 600, .inl (u 3))
  | .le => .inl (cy 0, 64, .inl (u 4))
  | .rs => .inl (cy 1, 4, .inl (u 5))
  | .rt => .inl (cy 1, 4, .inl (u 6))
  | .ln L => .inr (3, [.int (u (10 + L) 0), .int (u (10 + L) 1), .int (u (10 + L) 2), .int (u (10 + L) 3), .int (u (10 + L) 4), .int (u (10 + L) 5), .int (u (10 + L) 6), .int (u (10 + L) 7), .int (u (10 + L) 8), .int (u (10 + L) 9), .ref (ad (.ss L)), .ref (ad (.ls L)), .ref (ad (.cs L)), .ref (ad (.is L)), .ref (ad (.lc L)), .ref (ad (.tt L)), .int (u (10 + L) 1060)])
  | .ss L => .inl (cy 6, 6, .inr (.inr (.inr (.inr (fun i => if i < 6 then some (ad (.st L i)) else none)))))
  | .ls L => .inl (cy 7, 6, .inr (.inr (.inr (.inr (fun i => if i < 6 then some (ad (.lo L i)) else none)))))
  | .cs L => .inl (cy 8, 30, .inr (.inr (.inr (.inr (fun i => if i < 30 then some (ad (.cd L i)) else none)))))
  | .is L => .inl (cy 1, 5, .inl (u (400 + L)))
  | .lc L => .inl (cy 1, 30, .inl (fun i => if i < 30 then u (10 + L) (887 + i) else 0))
  | .tt L => .inl (cy 1, 5, .inl (fun i => if i < 5 then u (10 + L) (12 + i) else 0))
  | .st L s => .inr (6, [.int (u (10 + L) (17 + 16 * s + 0)), .int (u (10 + L) (17 + 16 * s + 1)), .ref (ad (.tx (u (10 + L) (17 + 16 * s + 14)).toNatClampNeg)), .int (u (10 + L) (17 + 16 * s + 2)), .int (u (10 + L) (17 + 16 * s + 3)), .int (u (10 + L) (17 + 16 * s + 4)), .int (u (10 + L) (17 + 16 * s + 13)), .int (u (10 + L) (17 + 16 * s + 5)), .int (u (10 + L) (17 + 16 * s + 6)), .int (u (10 + L) (17 + 16 * s + 7)), .int (u (10 + L) (17 + 16 * s + 8)), .int (u (10 + L) (17 + 16 * s + 9)), .int (u (10 + L) (17 + 16 * s + 10)), .int (u (10 + L) (17 + 16 * s + 11)), .int (u (10 + L) (17 + 16 * s + 12))])
  | .lo L l => .inr (4, [.int (u (10 + L) (113 + 4 * l + 0)), .int (u (10 + L) (113 + 4 * l + 1)), .ref (ad (.bp L l)), .int (u (10 + L) (1100 + 8 * l + 0)), .int (u (10 + L) (1100 + 8 * l + 1)), .int (u (10 + L) (1100 + 8 * l + 2)), .int (u (10 + L) (1100 + 8 * l + 3)), .int (u (10 + L) (1100 + 8 * l + 4)), .int (u (10 + L) (113 + 4 * l + 2)), .int (u (10 + L) (113 + 4 * l + 3)), .ref (ad (.dl L l)), .ref (ad (.df L l))])
  | .bp L l => .inl (cy 1, 30, .inl (u (100 + 6 * L + l)))
  | .dl L l => .inl (cy 1, 10, .inl (u (200 + 6 * L + l)))
  | .df L l => .inl (cy 1, 10, .inl (u (300 + 6 * L + l)))
  | .cd L c => .inr (2, [.int (u (10 + L) (137 + 25 * c + 0)), .int (u (10 + L) (137 + 25 * c + 1)), .ref (ad (.tx (u (10 + L) (137 + 25 * c + 2)).toNatClampNeg)), .int (u (10 + L) (137 + 25 * c + 3)), .int (u (10 + L) (137 + 25 * c + 4)), .int (u (10 + L) (137 + 25 * c + 5)), .int (u (10 + L) (137 + 25 * c + 6)), .int (u (10 + L) (137 + 25 * c + 7)), .int (u (10 + L) (137 + 25 * c + 8))])
  | .tx t => .inl (cy 0, (u (500 + t) 0).toNatClampNeg, .inl (fun i => u (500 + t) (1 + i)))
abbrev WC (cy : Nat → ClassId) (ad : CK → Nat) (ks : List CK) (g : CG) (u : RS) : va_W := ks.map fun κ => (ad κ, cE cy ad g u κ)
def GK (g : CG) (ks : List CK) : Prop := ks.Nodup ∧ ∀ κ, κ ∈ ks ↔ has g κ
theorem wc_at {cy : Nat → ClassId} {ad : CK → Nat} {ks : List CK} {g : CG} {u : RS} {κ : CK} (hk : GK g ks) (h : has g κ) : ∃ q : Nat, (WC cy ad ks g u)[q]? = some (ad κ, cE cy ad g u κ) := by
  obtain ⟨q, hq⟩ := List.mem_iff_getElem?.mp ((hk.2 κ).mpr h)
  exact ⟨q, by unfold WC; rw [List.getElem?_map, hq]; rfl⟩
/-- the cell in which a place of the state lies -/
def own (r i : Nat) : Option CK :=
  if r = 0 then (if i < 5 then some .cl else some .rd) else if r = 1 then some .ou else if r = 2 then some .ft else if r = 3 then some .tb else if r = 4 then some .le else if r = 5 then some .rs else if r = 6 then some .rt else if r < 10 then none
  else if r < 22 then (if i < 10 then some (.ln (r - 10)) else if i < 12 then none else if i < 17 then some (.tt (r - 10)) else if i < 113 then some (.st (r - 10) ((i - 17) / 16)) else if i < 137 then some (.lo (r - 10) ((i - 113) / 4)) else if i < 887 then some (.cd (r - 10) ((i - 137) / 25)) else if i < 917 then some (.lc (r - 10)) else if i = 1060 then some (.ln (r - 10)) else if 1100 ≤ i ∧ i < 1148 then some (.lo (r - 10) ((i - 1100) / 8)) else none)
  else if r < 100 then none else if r < 172 then some (.bp ((r - 100) / 6) ((r - 100) % 6)) else if r < 200 then none else if r < 272 then some (.dl ((r - 200) / 6) ((r - 200) % 6)) else if r < 300 then none else if r < 372 then some (.df ((r - 300) / 6) ((r - 300) % 6)) else if r < 400 then none else if r < 412 then some (.is (r - 400)) else if r < 501 then none else some (.tx (r - 500))
theorem up_ne {u : RS} {k i r j : Nat} {v : Int32} (h : ¬ (r = k ∧ j = i)) : up u k i v r j = u r j := by
  unfold up
  split
  · rename_i e
    subst e
    exact if_neg fun q => h ⟨rfl, q⟩
  · rfl
theorem up_eq {u : RS} {k i : Nat} {v : Int32} : up u k i v k i = v := by
  unfold up; rw [if_pos rfl]; exact if_pos rfl
theorem up_own {u : RS} {k i r j : Nat} {v : Int32} {κ : CK} (h : own r j = some κ) (hne : ¬ own k i = some κ) : up u k i v r j = u r j := up_ne fun q => hne (by rw [← q.1, ← q.2]; exact h)
macro "owt" : tactic => `(tactic| (unfold own; repeat (first | rw [if_pos (by omega)] | rw [if_neg (by omega)])))
theorem own_cl {i : Nat} (h : i < 5) : own 0 i = some .cl := by unfold own; rw [if_pos rfl, if_pos h]
theorem own_rd {i : Nat} (h : 5 ≤ i) : own 0 i = some .rd := by unfold own; rw [if_pos rfl, if_neg (by omega)]
theorem own_ou {i : Nat} : own 1 i = some .ou := by unfold own; rfl
theorem own_ft {i : Nat} : own 2 i = some .ft := by unfold own; rfl
theorem own_tb {i : Nat} : own 3 i = some .tb := by unfold own; rfl
theorem own_le {i : Nat} : own 4 i = some .le := by unfold own; rfl
theorem own_rs {i : Nat} : own 5 i = some .rs := by unfold own; rfl
theorem own_rt {i : Nat} : own 6 i = some .rt := by unfold own; rfl
theorem own_ln {L k : Nat} (hL : L < 12) (h : k < 10) : own (10 + L) k = some (.ln L) := by
  owt
  try simp only [Option.some.injEq, CK.ln.injEq, CK.st.injEq, CK.lo.injEq, CK.cd.injEq, CK.tt.injEq, CK.lc.injEq, CK.bp.injEq, CK.dl.injEq, CK.df.injEq, CK.is.injEq, CK.tx.injEq]
  try omega
theorem own_mv {L : Nat} (hL : L < 12)  : own (10 + L) 1060 = some (.ln L) := by
  owt
  try simp only [Option.some.injEq, CK.ln.injEq, CK.st.injEq, CK.lo.injEq, CK.cd.injEq, CK.tt.injEq, CK.lc.injEq, CK.bp.injEq, CK.dl.injEq, CK.df.injEq, CK.is.injEq, CK.tx.injEq]
  try omega
theorem own_tt {L k : Nat} (hL : L < 12) (h : k < 5) : own (10 + L) (12 + k) = some (.tt L) := by
  owt
  try simp only [Option.some.injEq, CK.ln.injEq, CK.st.injEq, CK.lo.injEq, CK.cd.injEq, CK.tt.injEq, CK.lc.injEq, CK.bp.injEq, CK.dl.injEq, CK.df.injEq, CK.is.injEq, CK.tx.injEq]
  try omega
theorem own_lc {L k : Nat} (hL : L < 12) (h : k < 30) : own (10 + L) (887 + k) = some (.lc L) := by
  owt
  try simp only [Option.some.injEq, CK.ln.injEq, CK.st.injEq, CK.lo.injEq, CK.cd.injEq, CK.tt.injEq, CK.lc.injEq, CK.bp.injEq, CK.dl.injEq, CK.df.injEq, CK.is.injEq, CK.tx.injEq]
  try omega
theorem own_st {L s k : Nat} (hL : L < 12) (hs : s < 6) (h : k < 16) : own (10 + L) (17 + 16 * s + k) = some (.st L s) := by
  owt
  try simp only [Option.some.injEq, CK.ln.injEq, CK.st.injEq, CK.lo.injEq, CK.cd.injEq, CK.tt.injEq, CK.lc.injEq, CK.bp.injEq, CK.dl.injEq, CK.df.injEq, CK.is.injEq, CK.tx.injEq]
  try omega
theorem own_lo {L s k : Nat} (hL : L < 12) (hs : s < 6) (h : k < 4) : own (10 + L) (113 + 4 * s + k) = some (.lo L s) := by
  owt
  try simp only [Option.some.injEq, CK.ln.injEq, CK.st.injEq, CK.lo.injEq, CK.cd.injEq, CK.tt.injEq, CK.lc.injEq, CK.bp.injEq, CK.dl.injEq, CK.df.injEq, CK.is.injEq, CK.tx.injEq]
  try omega
theorem own_lq {L s k : Nat} (hL : L < 12) (hs : s < 6) (h : k < 8) : own (10 + L) (1100 + 8 * s + k) = some (.lo L s) := by
  owt
  try simp only [Option.some.injEq, CK.ln.injEq, CK.st.injEq, CK.lo.injEq, CK.cd.injEq, CK.tt.injEq, CK.lc.injEq, CK.bp.injEq, CK.dl.injEq, CK.df.injEq, CK.is.injEq, CK.tx.injEq]
  try omega
theorem own_cd {L s k : Nat} (hL : L < 12) (hs : s < 30) (h : k < 25) : own (10 + L) (137 + 25 * s + k) = some (.cd L s) := by
  owt
  try simp only [Option.some.injEq, CK.ln.injEq, CK.st.injEq, CK.lo.injEq, CK.cd.injEq, CK.tt.injEq, CK.lc.injEq, CK.bp.injEq, CK.dl.injEq, CK.df.injEq, CK.is.injEq, CK.tx.injEq]
  try omega
theorem own_bp {L s k : Nat} (hL : L < 12) (hs : s < 6) : own (100 + 6 * L + s) k = some (.bp L s) := by
  owt
  try simp only [Option.some.injEq, CK.ln.injEq, CK.st.injEq, CK.lo.injEq, CK.cd.injEq, CK.tt.injEq, CK.lc.injEq, CK.bp.injEq, CK.dl.injEq, CK.df.injEq, CK.is.injEq, CK.tx.injEq]
  try omega
theorem own_dl {L s k : Nat} (hL : L < 12) (hs : s < 6) : own (200 + 6 * L + s) k = some (.dl L s) := by
  owt
  try simp only [Option.some.injEq, CK.ln.injEq, CK.st.injEq, CK.lo.injEq, CK.cd.injEq, CK.tt.injEq, CK.lc.injEq, CK.bp.injEq, CK.dl.injEq, CK.df.injEq, CK.is.injEq, CK.tx.injEq]
  try omega
theorem own_df {L s k : Nat} (hL : L < 12) (hs : s < 6) : own (300 + 6 * L + s) k = some (.df L s) := by
  owt
  try simp only [Option.some.injEq, CK.ln.injEq, CK.st.injEq, CK.lo.injEq, CK.cd.injEq, CK.tt.injEq, CK.lc.injEq, CK.bp.injEq, CK.dl.injEq, CK.df.injEq, CK.is.injEq, CK.tx.injEq]
  try omega
theorem own_is {L k : Nat} (hL : L < 12)  : own (400 + L) k = some (.is L) := by
  owt
  try simp only [Option.some.injEq, CK.ln.injEq, CK.st.injEq, CK.lo.injEq, CK.cd.injEq, CK.tt.injEq, CK.lc.injEq, CK.bp.injEq, CK.dl.injEq, CK.df.injEq, CK.is.injEq, CK.tx.injEq]
  try omega
theorem own_tx {t k : Nat} (h : 1 ≤ t) : own (500 + t) k = some (.tx t) := by
  owt
  try simp only [Option.some.injEq, CK.ln.injEq, CK.st.injEq, CK.lo.injEq, CK.cd.injEq, CK.tt.injEq, CK.lc.injEq, CK.bp.injEq, CK.dl.injEq, CK.df.injEq, CK.is.injEq, CK.tx.injEq]
  try omega
theorem cE_ext {cy : Nat → ClassId} {ad : CK → Nat} {g : CG} {u u2 : RS} {κ : CK} (h : has g κ) (e : ∀ R I, own R I = some κ → u2 R I = u R I) : cE cy ad g u2 κ = cE cy ad g u κ := by
  cases κ with
  | pa => rfl
  | sa => rfl
  | ss L => rfl
  | ls L => rfl
  | cs L => rfl
  | cl => simp only [cE, e 0 0 (own_cl (by decide)), e 0 1 (own_cl (by decide)), e 0 2 (own_cl (by decide)), e 0 3 (own_cl (by decide)), e 0 4 (own_cl (by decide))]
  | rd => simp only [cE, e 0 5 (own_rd (by decide)), e 0 6 (own_rd (by decide)), e 0 7 (own_rd (by decide)), e 0 8 (own_rd (by decide)), e 0 9 (own_rd (by decide)), e 0 10 (own_rd (by decide)), e 0 11 (own_rd (by decide))]
  | ln L => simp only [cE, e (10 + L) 0 (own_ln (inl_lt h) (by decide)), e (10 + L) 1 (own_ln (inl_lt h) (by decide)), e (10 + L) 2 (own_ln (inl_lt h) (by decide)), e (10 + L) 3 (own_ln (inl_lt h) (by decide)), e (10 + L) 4 (own_ln (inl_lt h) (by decide)), e (10 + L) 5 (own_ln (inl_lt h) (by decide)), e (10 + L) 6 (own_ln (inl_lt h) (by decide)), e (10 + L) 7 (own_ln (inl_lt h) (by decide)), e (10 + L) 8 (own_ln (inl_lt h) (by decide)), e (10 + L) 9 (own_ln (inl_lt h) (by decide)), e (10 + L) 1060 (own_mv (inl_lt h))]
  | st L s => simp only [cE, e (10 + L) (17 + 16 * s + 0) (own_st (inl_lt h.1) h.2 (by decide)), e (10 + L) (17 + 16 * s + 1) (own_st (inl_lt h.1) h.2 (by decide)), e (10 + L) (17 + 16 * s + 2) (own_st (inl_lt h.1) h.2 (by decide)), e (10 + L) (17 + 16 * s + 3) (own_st (inl_lt h.1) h.2 (by decide)), e (10 + L) (17 + 16 * s + 4) (own_st (inl_lt h.1) h.2 (by decide)), e (10 + L) (17 + 16 * s + 5) (own_st (inl_lt h.1) h.2 (by decide)), e (10 + L) (17 + 16 * s + 6) (own_st (inl_lt h.1) h.2 (by decide)), e (10 + L) (17 + 16 * s + 7) (own_st (inl_lt h.1) h.2 (by decide)), e (10 + L) (17 + 16 * s + 8) (own_st (inl_lt h.1) h.2 (by decide)), e (10 + L) (17 + 16 * s + 9) (own_st (inl_lt h.1) h.2 (by decide)), e (10 + L) (17 + 16 * s + 10) (own_st (inl_lt h.1) h.2 (by decide)), e (10 + L) (17 + 16 * s + 11) (own_st (inl_lt h.1) h.2 (by decide)), e (10 + L) (17 + 16 * s + 12) (own_st (inl_lt h.1) h.2 (by decide)), e (10 + L) (17 + 16 * s + 13) (own_st (inl_lt h.1) h.2 (by decide)), e (10 + L) (17 + 16 * s + 14) (own_st (inl_lt h.1) h.2 (by decide))]
  | lo L l => simp only [cE, e (10 + L) (113 + 4 * l + 0) (own_lo (inl_lt h.1) h.2 (by decide)), e (10 + L) (113 + 4 * l + 1) (own_lo (inl_lt h.1) h.2 (by decide)), e (10 + L) (113 + 4 * l + 2) (own_lo (inl_lt h.1) h.2 (by decide)), e (10 + L) (113 + 4 * l + 3) (own_lo (inl_lt h.1) h.2 (by decide)), e (10 + L) (1100 + 8 * l + 0) (own_lq (inl_lt h.1) h.2 (by decide)), e (10 + L) (1100 + 8 * l + 1) (own_lq (inl_lt h.1) h.2 (by decide)), e (10 + L) (1100 + 8 * l + 2) (own_lq (inl_lt h.1) h.2 (by decide)), e (10 + L) (1100 + 8 * l + 3) (own_lq (inl_lt h.1) h.2 (by decide)), e (10 + L) (1100 + 8 * l + 4) (own_lq (inl_lt h.1) h.2 (by decide))]
  | cd L c => simp only [cE, e (10 + L) (137 + 25 * c + 0) (own_cd (inl_lt h.1) h.2 (by decide)), e (10 + L) (137 + 25 * c + 1) (own_cd (inl_lt h.1) h.2 (by decide)), e (10 + L) (137 + 25 * c + 2) (own_cd (inl_lt h.1) h.2 (by decide)), e (10 + L) (137 + 25 * c + 3) (own_cd (inl_lt h.1) h.2 (by decide)), e (10 + L) (137 + 25 * c + 4) (own_cd (inl_lt h.1) h.2 (by decide)), e (10 + L) (137 + 25 * c + 5) (own_cd (inl_lt h.1) h.2 (by decide)), e (10 + L) (137 + 25 * c + 6) (own_cd (inl_lt h.1) h.2 (by decide)), e (10 + L) (137 + 25 * c + 7) (own_cd (inl_lt h.1) h.2 (by decide)), e (10 + L) (137 + 25 * c + 8) (own_cd (inl_lt h.1) h.2 (by decide))]
  | ou => simp only [cE, show u2 1 = u 1 from funext fun I => e 1 I (own_ou)]
  | ft => simp only [cE, show u2 2 = u 2 from funext fun I => e 2 I (own_ft)]
  | tb => simp only [cE, show u2 3 = u 3 from funext fun I => e 3 I (own_tb)]
  | le => simp only [cE, show u2 4 = u 4 from funext fun I => e 4 I (own_le)]
  | rs => simp only [cE, show u2 5 = u 5 from funext fun I => e 5 I (own_rs)]
  | rt => simp only [cE, show u2 6 = u 6 from funext fun I => e 6 I (own_rt)]
  | is L => simp only [cE, show u2 (400 + L) = u (400 + L) from funext fun I => e (400 + L) I (own_is (inl_lt h))]
  | bp L l => simp only [cE, show u2 (100 + 6 * L + l) = u (100 + 6 * L + l) from funext fun I => e (100 + 6 * L + l) I (own_bp (inl_lt h.1) h.2)]
  | dl L l => simp only [cE, show u2 (200 + 6 * L + l) = u (200 + 6 * L + l) from funext fun I => e (200 + 6 * L + l) I (own_dl (inl_lt h.1) h.2)]
  | df L l => simp only [cE, show u2 (300 + 6 * L + l) = u (300 + 6 * L + l) from funext fun I => e (300 + 6 * L + l) I (own_df (inl_lt h.1) h.2)]
  | lc L =>
    simp only [cE]; congr 4; funext I; split
    · rename_i q; exact e _ _ (own_lc (inl_lt h) q)
    · rfl
  | tt L =>
    simp only [cE]; congr 4; funext I; split
    · rename_i q; exact e _ _ (own_tt (inl_lt h) q)
    · rfl
  | tx t => simp only [cE, show u2 (500 + t) = u (500 + t) from funext fun I => e (500 + t) I (own_tx h.1)]
theorem wc_gen {cy : Nat → ClassId} {ad : CK → Nat} {ks : List CK} {g : CG} {u u2 : RS} {κ : CK} {y : va_E} (hk : GK g ks) (h : has g κ) (hd : ∀ R I, ¬ own R I = some κ → u2 R I = u R I) (hy : cE cy ad g u2 κ = y) : ∃ q : Nat, (WC cy ad ks g u)[q]? = some (ad κ, cE cy ad g u κ) ∧ (WC cy ad ks g u).set q (ad κ, y) = WC cy ad ks g u2 := by
  obtain ⟨q, hq⟩ := List.mem_iff_getElem?.mp ((hk.2 κ).mpr h)
  refine ⟨q, by unfold WC; rw [List.getElem?_map, hq]; rfl, ?_⟩
  apply List.ext_getElem?
  intro j
  unfold WC
  by_cases hj : q = j
  · subst hj
    rw [List.getElem?_set_self (by rw [List.length_map]; exact (List.getElem?_eq_some_iff.mp hq).1), List.getElem?_map, hq, ← hy]
    rfl
  · rw [List.getElem?_set_ne hj, List.getElem?_map, List.getElem?_map]
    cases hx : ks[j]? with
    | none => rfl
    | some κ2 =>
      have hm : κ2 ∈ ks := List.mem_of_getElem? hx
      show some (ad κ2, cE cy ad g u κ2) = some (ad κ2, cE cy ad g u2 κ2)
      rw [cE_ext ((hk.2 κ2).mp hm) fun R I ho => hd R I fun ho2 => ?_]
      have e : κ2 = κ := Option.some.inj (ho.symm.trans ho2)
      subst e
      have h1 := (List.getElem?_eq_some_iff.mp hq)
      have h2 := (List.getElem?_eq_some_iff.mp hx)
      obtain ⟨l1, e1⟩ := h1
      obtain ⟨l2, e2⟩ := h2
      have hp := List.pairwise_iff_getElem.mp hk.1
      rcases Nat.lt_trichotomy q j with h3 | h3 | h3
      · exact hp q j l1 l2 h3 (e1.trans e2.symm)
      · exact hj h3
      · exact hp j q l2 l1 h3 (e2.trans e1.symm)
theorem wc_set {cy : Nat → ClassId} {ad : CK → Nat} {ks : List CK} {g : CG} {u : RS} {κ : CK} {r i : Nat} {v : Int32} {y : va_E} (hk : GK g ks) (h : has g κ) (ho : own r i = some κ) (hy : cE cy ad g (up u r i v) κ = y) : ∃ q : Nat, (WC cy ad ks g u)[q]? = some (ad κ, cE cy ad g u κ) ∧ (WC cy ad ks g u).set q (ad κ, y) = WC cy ad ks g (up u r i v) :=
  wc_gen hk h (fun R I h2 => up_ne fun q => h2 (by rw [q.1, q.2]; exact ho)) hy
