noncomputable abbrev HE : Type := Nat → va_E
noncomputable abbrev HS : Type := Nat × Nat × HE
noncomputable def AD (nb ad : Nat → Nat) (k : Nat) : Nat := if k < 1000000 then ad k else nb (k - 1000000)
noncomputable def trV (f : Nat → Nat) (v : Value) : Value := match v with
  | .ref a => .ref (f a)
  | v => v
noncomputable def trE (cy : Nat → ClassId) (f : Nat → Nat) (x : va_E) : va_E := match x with
  | .inl (c, n, .inl g) => .inl (cy c, n, .inl g)
  | .inl (c, n, .inr (.inl g)) => .inl (cy c, n, .inr (.inl g))
  | .inl (c, n, .inr (.inr (.inl g))) => .inl (cy c, n, .inr (.inr (.inl g)))
  | .inl (c, n, .inr (.inr (.inr (.inl g)))) => .inl (cy c, n, .inr (.inr (.inr (.inl g))))
  | .inl (c, n, .inr (.inr (.inr (.inr g)))) => .inl (cy c, n, .inr (.inr (.inr (.inr fun i => (g i).map f))))
  | .inr (ci, fs) => .inr (ci, fs.map (trV f))
noncomputable def wl (N : Nat) (f : Nat → Nat × va_E) : va_W := (List.range N).map f
theorem wl_at {N k : Nat} {f : Nat → Nat × va_E} {x : Nat × va_E} (h : k < N) (e : f k = x) : (wl N f)[k]? = some x := by
  unfold wl
  rw [List.getElem?_map, List.getElem?_range h, ← e]
  rfl
theorem wl_len {N : Nat} {f : Nat → Nat × va_E} : (wl N f).length = N := by unfold wl; rw [List.length_map, List.length_range]
theorem wl_set {N k : Nat} {f g : Nat → Nat × va_E} {y : Nat × va_E} (hk : g k = y) (hg : ∀ j : Nat, j < N → j ≠ k → g j = f j) : (wl N f).set k y = wl N g := by
  apply List.ext_getElem?
  intro j
  by_cases hj : j < N
  · rw [wl_at (f := g) hj rfl]
    by_cases e : k = j
    · subst e
      rw [List.getElem?_set_self (by rw [wl_len]; exact hj), hk]
    · rw [List.getElem?_set_ne e, wl_at (f := f) hj rfl, hg j hj (fun q => e q.symm)]
  · rw [List.getElem?_eq_none (by rw [List.length_set, wl_len]; omega), List.getElem?_eq_none (by rw [wl_len]; omega)]
theorem wl_push {N : Nat} {f g : Nat → Nat × va_E} {y : Nat × va_E} (hk : g N = y) (hg : ∀ j : Nat, j < N → g j = f j) : wl N f ++ [y] = wl (N + 1) g := by
  unfold wl
  rw [List.range_succ, List.map_append, List.map_singleton, hk]
  congr 1
  exact List.map_congr_left fun k hk => (hg k (List.mem_range.mp hk)).symm
noncomputable def CH (cy : Nat → ClassId) (nb ad : Nat → Nat) (n : Nat) (E : HE) : va_W := wl n (fun k => (ad k, trE cy (AD nb ad) (E k)))
noncomputable def okI (n x : Nat) : Prop := x < n ∨ 1000000 ≤ x
noncomputable def okV (n : Nat) (v : Value) : Prop := match v with
  | .ref a => okI n a
  | _ => True
noncomputable def okE (n : Nat) (e : va_E) : Prop := match e with
  | .inl (_, _, .inr (.inr (.inr (.inr g)))) => ∀ i a : Nat, g i = some a → okI n a
  | .inl _ => True
  | .inr (_, fs) => ∀ v ∈ fs, okV n v
noncomputable def clo (n : Nat) (E : HE) : Prop := n ≤ 1000000 ∧ ∀ k : Nat, k < n → okE n (E k)
noncomputable def rf (nb ad : Nat → Nat) (n x a : Nat) : Prop := okI n x ∧ AD nb ad x = a
noncomputable def axh (n : Nat) (ad : Nat → Nat) (n2 : Nat) (ad2 : Nat → Nat) : Prop := n ≤ n2 ∧ ∀ k : Nat, k < n → ad2 k = ad k
theorem axh_refl {n : Nat} {ad : Nat → Nat} : axh n ad n ad := ⟨Nat.le_refl _, fun _ _ => rfl⟩
theorem axh.trans {n n2 n3 : Nat} {a a2 a3 : Nat → Nat} (h : axh n a n2 a2) (h2 : axh n2 a2 n3 a3) : axh n a n3 a3 := ⟨Nat.le_trans h.1 h2.1, fun k hk => (h2.2 k (Nat.lt_of_lt_of_le hk h.1)).trans (h.2 k hk)⟩
theorem okI.mono {n n2 x : Nat} (h : okI n x) (hn : n ≤ n2) : okI n2 x := h.elim (fun q => Or.inl (Nat.lt_of_lt_of_le q hn)) Or.inr
theorem okV.mono {n n2 : Nat} {v : Value} (h : okV n v) (hn : n ≤ n2) : okV n2 v := by
  cases v <;> first | trivial | exact okI.mono h hn
theorem okE.mono {n n2 : Nat} {e : va_E} (h : okE n e) (hn : n ≤ n2) : okE n2 e := by
  obtain ⟨c, m, g | g | g | g | g⟩ | ⟨ci, fs⟩ := e
  · trivial
  · trivial
  · trivial
  · trivial
  · exact fun i a q => (h i a q).mono hn
  · exact fun v q => (h v q).mono hn
theorem AD_ax {nb : Nat → Nat} {n n2 : Nat} {ad ad2 : Nat → Nat} {x : Nat} (h : axh n ad n2 ad2) (hn : n ≤ 1000000) (hx : okI n x) : AD nb ad2 x = AD nb ad x := by
  unfold AD
  by_cases c : x < 1000000
  · rw [if_pos c, if_pos c]
    exact h.2 x (hx.elim id (fun q => absurd q (by omega)))
  · rw [if_neg c, if_neg c]
theorem rf.mv {nb : Nat → Nat} {n n2 : Nat} {ad ad2 : Nat → Nat} {x a : Nat} (hr : rf nb ad n x a) (hn : n ≤ 1000000) (h : axh n ad n2 ad2) : rf nb ad2 n2 x a := ⟨hr.1.mono h.1, (AD_ax h hn hr.1).trans hr.2⟩
theorem rf_hp {nb ad : Nat → Nat} {n x a : Nat} (hr : rf nb ad n x a) (hx : x < n) (hn : n ≤ 1000000) : ad x = a := by
  have := hr.2
  unfold AD at this
  rwa [if_pos (by omega)] at this
theorem trE_ax {cy : Nat → ClassId} {nb : Nat → Nat} {n n2 : Nat} {ad ad2 : Nat → Nat} {e : va_E} (h : axh n ad n2 ad2) (hn : n ≤ 1000000) (he : okE n e) : trE cy (AD nb ad2) e = trE cy (AD nb ad) e := by
  obtain ⟨c, m, g | g | g | g | g⟩ | ⟨ci, fs⟩ := e
  · rfl
  · rfl
  · rfl
  · rfl
  · show (Sum.inl (cy c, m, .inr (.inr (.inr (.inr fun i => (g i).map (AD nb ad2))))) : va_E) = .inl (cy c, m, .inr (.inr (.inr (.inr fun i => (g i).map (AD nb ad)))))
    congr 7
    funext i
    cases e : g i with
    | none => rfl
    | some a => exact congrArg some (AD_ax h hn (he i a e))
  · show (Sum.inr (ci, fs.map (trV (AD nb ad2))) : va_E) = .inr (ci, fs.map (trV (AD nb ad)))
    congr 2
    exact List.map_congr_left fun v hv => by
      cases v with
      | ref a => exact congrArg Value.ref (AD_ax h hn (he _ hv))
      | _ => rfl
theorem ch_P {D : va_G} {cl : List vw_C} {cy : Nat → ClassId} {nb ad : Nat → Nat} {n x a : Nat} {E : HE} {H : Heap} (hP : va_P D cl (CH cy nb ad n E) H) (hC : clo n E) (hr : rf nb ad n x a) (hx : x < n) : va_P D cl [(a, trE cy (AD nb ad) (E x))] H := by
  have h1 := hP x _ (wl_at (f := fun k => (ad k, trE cy (AD nb ad) (E k))) hx rfl)
  rw [rf_hp hr hx hC.1] at h1
  intro k q hq
  match k, hq with
  | 0, hq => cases hq; exact h1
theorem ch_set {cy : Nat → ClassId} {nb ad : Nat → Nat} {n x a : Nat} {E : HE} {e : va_E} (hC : clo n E) (hr : rf nb ad n x a) (hx : x < n) : (CH cy nb ad n E).set x (a, trE cy (AD nb ad) e) = CH cy nb ad n (fun j => if j = x then e else E j) :=
  wl_set (by show (ad x, trE cy (AD nb ad) (if x = x then e else E x)) = _; rw [if_pos rfl, rf_hp hr hx hC.1]) (fun j _ hj => by show (ad j, trE cy (AD nb ad) (if j = x then e else E j)) = _; rw [if_neg hj])
theorem ch_at {cy : Nat → ClassId} {nb ad : Nat → Nat} {n x a : Nat} {E : HE} (hC : clo n E) (hr : rf nb ad n x a) (hx : x < n) : (CH cy nb ad n E)[x]? = some (a, trE cy (AD nb ad) (E x)) := wl_at hx (by rw [rf_hp hr hx hC.1])
noncomputable def upE (E : HE) (x : Nat) (e : va_E) : HE := fun j => if j = x then e else E j
theorem upE_s {E : HE} {x : Nat} {e : va_E} : upE E x e x = e := if_pos rfl
theorem upE_n {E : HE} {x j : Nat} {e : va_E} (h : j ≠ x) : upE E x e j = E j := if_neg h
theorem clo.up {n x : Nat} {E : HE} {e : va_E} (h : clo n E) (he : okE n e) : clo n (upE E x e) := ⟨h.1, fun k hk => by
  unfold upE; split
  · exact he
  · exact h.2 k hk⟩
noncomputable def adn (ad : Nat → Nat) (n q : Nat) : Nat → Nat := fun k => if k = n then q else ad k
theorem adn_ax {ad : Nat → Nat} {n q : Nat} : axh n ad (n + 1) (adn ad n q) := ⟨Nat.le_succ _, fun k hk => if_neg (by omega)⟩
theorem ch_push {cy : Nat → ClassId} {nb ad : Nat → Nat} {n q : Nat} {E : HE} {e : va_E} (hC : clo n E) (he : okE 0 e) : CH cy nb ad n E ++ [(q, trE cy (AD nb ad) e)] = CH cy nb (adn ad n q) (n + 1) (upE E n e) := by
  refine wl_push ?_ (fun j hj => ?_)
  · show (adn ad n q n, trE cy (AD nb (adn ad n q)) (upE E n e n)) = _
    rw [upE_s, trE_ax adn_ax hC.1 (he.mono (Nat.zero_le _))]
    show ((if n = n then q else ad n), _) = _
    rw [if_pos rfl]
  · show (adn ad n q j, trE cy (AD nb (adn ad n q)) (upE E n e j)) = _
    rw [upE_n (by omega), trE_ax adn_ax hC.1 (hC.2 j hj)]
    show ((if j = n then q else ad j), _) = _
    rw [if_neg (by omega)]
theorem clo.push {n : Nat} {E : HE} {e : va_E} (hC : clo n E) (he : okE 0 e) (hn : n < 1000000) : clo (n + 1) (upE E n e) := ⟨hn, fun k hk => by
  by_cases c : k = n
  · subst c; rw [upE_s]; exact he.mono (Nat.zero_le _)
  · rw [upE_n c]; exact (hC.2 k (by omega)).mono (Nat.le_succ _)⟩
theorem rf_new {nb ad : Nat → Nat} {n q : Nat} (hn : n < 1000000) : rf nb (adn ad n q) (n + 1) n q := ⟨Or.inl (Nat.lt_succ_self _), by unfold AD adn; rw [if_pos hn, if_pos rfl]⟩
noncomputable def fO (n : Nat) (E : HE) (o ci : Nat) : Option (List Value) := if o < n then (match E o with
  | .inr (c, fs) => if c = ci then some fs else none
  | .inl _ => none) else none
theorem fO_s {n o ci : Nat} {E : HE} {fs : List Value} (h : fO n E o ci = some fs) : o < n ∧ E o = .inr (ci, fs) := by
  unfold fO at h
  split at h
  · rename_i hlt
    refine ⟨hlt, ?_⟩
    split at h
    · rename_i c fs2 e
      split at h
      · rename_i e2
        cases h
        rw [e, e2]
      · cases h
    · cases h
  · cases h
theorem fO_i {n o ci : Nat} {E : HE} {fs : List Value} (h1 : o < n) (h2 : E o = .inr (ci, fs)) : fO n E o ci = some fs := by
  unfold fO
  rw [if_pos h1, h2]
  exact if_pos rfl
noncomputable def gI (n : Nat) (E : HE) (o ci k : Nat) : Option Int32 := (fO n E o ci).bind fun fs => match fs[k]? with
  | some (.int x) => some x
  | _ => none
noncomputable def gR (n : Nat) (E : HE) (o ci k : Nat) : Option Nat := (fO n E o ci).bind fun fs => match fs[k]? with
  | some (.ref x) => some x
  | _ => none
noncomputable def sI (n : Nat) (E : HE) (o ci k : Nat) (x : Int32) : Option HE := (fO n E o ci).bind fun fs => if k < fs.length then some (upE E o (.inr (ci, fs.set k (.int x)))) else none
noncomputable def sR (n : Nat) (E : HE) (o ci k x : Nat) : Option HE := (fO n E o ci).bind fun fs => if k < fs.length ∧ (x < n ∨ 1000000 ≤ x) then some (upE E o (.inr (ci, fs.set k (.ref x)))) else none
theorem gI_s {n o ci k : Nat} {E : HE} {x : Int32} (h : gI n E o ci k = some x) : ∃ fs, fO n E o ci = some fs ∧ fs[k]? = some (.int x) := by
  obtain ⟨fs, h1, h2⟩ := Option.bind_eq_some_iff.mp h
  refine ⟨fs, h1, ?_⟩
  split at h2
  · rename_i y e; cases h2; exact e
  · cases h2
theorem gR_s {n o ci k x : Nat} {E : HE} (h : gR n E o ci k = some x) : ∃ fs, fO n E o ci = some fs ∧ fs[k]? = some (.ref x) := by
  obtain ⟨fs, h1, h2⟩ := Option.bind_eq_some_iff.mp h
  refine ⟨fs, h1, ?_⟩
  split at h2
  · rename_i y e; cases h2; exact e
  · cases h2
theorem sI_s {n o ci k : Nat} {E E2 : HE} {x : Int32} (h : sI n E o ci k x = some E2) : ∃ fs, fO n E o ci = some fs ∧ k < fs.length ∧ E2 = upE E o (.inr (ci, fs.set k (.int x))) := by
  obtain ⟨fs, h1, h2⟩ := Option.bind_eq_some_iff.mp h
  split at h2
  · rename_i q; cases h2; exact ⟨fs, h1, q, rfl⟩
  · cases h2
theorem sR_s {n o ci k x : Nat} {E E2 : HE} (h : sR n E o ci k x = some E2) : ∃ fs, fO n E o ci = some fs ∧ k < fs.length ∧ okI n x ∧ E2 = upE E o (.inr (ci, fs.set k (.ref x))) := by
  obtain ⟨fs, h1, h2⟩ := Option.bind_eq_some_iff.mp h
  split at h2
  · rename_i q; cases h2; exact ⟨fs, h1, q.1, q.2, rfl⟩
  · cases h2
theorem okE_set {n ci k : Nat} {fs : List Value} {v : Value} (h : okE n (.inr (ci, fs))) (hv : okV n v) : okE n (.inr (ci, fs.set k v)) := fun w hw => by
  rcases List.mem_or_eq_of_mem_set hw with q | q
  · exact h w q
  · rw [q]; exact hv
theorem sI_clo {n o ci k : Nat} {E E2 : HE} {x : Int32} (h : sI n E o ci k x = some E2) (hC : clo n E) : clo n E2 := by
  obtain ⟨fs, h1, -, rfl⟩ := sI_s h
  obtain ⟨h2, h3⟩ := fO_s h1
  exact hC.up (okE_set (by rw [← h3]; exact hC.2 o h2) trivial)
theorem sR_clo {n o ci k x : Nat} {E E2 : HE} (h : sR n E o ci k x = some E2) (hC : clo n E) : clo n E2 := by
  obtain ⟨fs, h1, -, hx, rfl⟩ := sR_s h
  obtain ⟨h2, h3⟩ := fO_s h1
  exact hC.up (okE_set (by rw [← h3]; exact hC.2 o h2) hx)
section HsF
variable {D : va_G} {cl : List vw_C} {cy : Nat → ClassId} {nb ad : Nat → Nat} {n o a ci k : Nat} {E E2 : HE} {H : Heap}
theorem rdO {fs : List Value} (hP : va_P D cl (CH cy nb ad n E) H) (hC : clo n E) (hr : rf nb ad n o a) (h : fO n E o ci = some fs) : va_P D cl [(a, .inr (ci, fs.map (trV (AD nb ad))))] H := by
  obtain ⟨h1, h2⟩ := fO_s h
  have := ch_P hP hC hr h1
  rw [h2] at this
  exact this
theorem rdI {x : Int32} (hP : va_P D cl (CH cy nb ad n E) H) (hC : clo n E) (hr : rf nb ad n o a) (h : gI n E o ci k = some x) : ∃ fs, va_P D cl [(a, .inr (ci, fs))] H ∧ fs[k]? = some (.int x) := by
  obtain ⟨fs, h1, h2⟩ := gI_s h
  refine ⟨_, rdO hP hC hr h1, ?_⟩
  rw [List.getElem?_map, h2]
  rfl
theorem rdR {x : Nat} (hP : va_P D cl (CH cy nb ad n E) H) (hC : clo n E) (hr : rf nb ad n o a) (h : gR n E o ci k = some x) : rf nb ad n x (AD nb ad x) ∧ ∃ fs, va_P D cl [(a, .inr (ci, fs))] H ∧ fs[k]? = some (.ref (AD nb ad x)) := by
  obtain ⟨fs, h1, h2⟩ := gR_s h
  refine ⟨⟨?_, rfl⟩, _, rdO hP hC hr h1, ?_⟩
  · obtain ⟨h3, h4⟩ := fO_s h1
    have h5 := hC.2 o h3
    rw [h4] at h5
    exact h5 _ (List.mem_of_getElem? h2)
  · rw [List.getElem?_map, h2]
    rfl
theorem wrI {x : Int32} (hC : clo n E) (hr : rf nb ad n o a) (h : sI n E o ci k x = some E2) : ∃ q fs, (CH cy nb ad n E)[q]? = some (a, .inr (ci, fs)) ∧ (CH cy nb ad n E).set q (a, .inr (ci, fs.set k (.int x))) = CH cy nb ad n E2 := by
  obtain ⟨fs, h1, h2, rfl⟩ := sI_s h
  obtain ⟨h3, h4⟩ := fO_s h1
  refine ⟨o, fs.map (trV (AD nb ad)), ?_, ?_⟩
  · rw [ch_at hC hr h3, h4]; rfl
  · have := ch_set (cy := cy) (e := .inr (ci, fs.set k (.int x))) hC hr h3
    rw [← show CH cy nb ad n (fun j => if j = o then .inr (ci, fs.set k (.int x)) else E j) = CH cy nb ad n (upE E o (.inr (ci, fs.set k (.int x)))) from rfl, ← this]
    show _ = (CH cy nb ad n E).set o (a, .inr (ci, (fs.set k (.int x)).map (trV (AD nb ad))))
    rw [List.map_set]
    rfl
theorem wrR {x b : Nat} (hC : clo n E) (hr : rf nb ad n o a) (hb : rf nb ad n x b) (h : sR n E o ci k x = some E2) : ∃ q fs, (CH cy nb ad n E)[q]? = some (a, .inr (ci, fs)) ∧ (CH cy nb ad n E).set q (a, .inr (ci, fs.set k (.ref b))) = CH cy nb ad n E2 := by
  obtain ⟨fs, h1, h2, -, rfl⟩ := sR_s h
  obtain ⟨h3, h4⟩ := fO_s h1
  refine ⟨o, fs.map (trV (AD nb ad)), ?_, ?_⟩
  · rw [ch_at hC hr h3, h4]; rfl
  · have := ch_set (cy := cy) (e := .inr (ci, fs.set k (.ref x))) hC hr h3
    rw [← show CH cy nb ad n (fun j => if j = o then .inr (ci, fs.set k (.ref x)) else E j) = CH cy nb ad n (upE E o (.inr (ci, fs.set k (.ref x)))) from rfl, ← this]
    show _ = (CH cy nb ad n E).set o (a, .inr (ci, (fs.set k (.ref x)).map (trV (AD nb ad))))
    rw [List.map_set, ← hb.2]
    rfl
end HsF
noncomputable def aP (n : Nat) (E : HE) (o t : Nat) : Option (Nat × (Nat → Int32)) := if o < n then (match E o with
  | .inl (c, m, .inl f) => if c = t then some (m, f) else none
  | _ => none) else none
noncomputable def aQ (n : Nat) (E : HE) (o t : Nat) : Option (Nat × (Nat → Option Nat)) := if o < n then (match E o with
  | .inl (c, m, .inr (.inr (.inr (.inr f)))) => if c = t then some (m, f) else none
  | _ => none) else none
theorem aP_s {n o t m : Nat} {E : HE} {f : Nat → Int32} (h : aP n E o t = some (m, f)) : o < n ∧ E o = .inl (t, m, .inl f) := by
  unfold aP at h
  split at h
  · rename_i hlt
    refine ⟨hlt, ?_⟩
    split at h
    · rename_i c m2 f2 e
      split at h
      · rename_i e2; cases h; rw [e, e2]
      · cases h
    · cases h
  · cases h
theorem aQ_s {n o t m : Nat} {E : HE} {f : Nat → Option Nat} (h : aQ n E o t = some (m, f)) : o < n ∧ E o = .inl (t, m, .inr (.inr (.inr (.inr f)))) := by
  unfold aQ at h
  split at h
  · rename_i hlt
    refine ⟨hlt, ?_⟩
    split at h
    · rename_i c m2 f2 e
      split at h
      · rename_i e2; cases h; rw [e, e2]
      · cases h
    · cases h
  · cases h
theorem aP_i {n o t m : Nat} {E : HE} {f : Nat → Int32} (h1 : o < n) (h2 : E o = .inl (t, m, .inl f)) : aP n E o t = some (m, f) := by
  unfold aP
  rw [if_pos h1, h2]
  exact if_pos rfl
theorem aQ_i {n o t m : Nat} {E : HE} {f : Nat → Option Nat} (h1 : o < n) (h2 : E o = .inl (t, m, .inr (.inr (.inr (.inr f))))) : aQ n E o t = some (m, f) := by
  unfold aQ
  rw [if_pos h1, h2]
  exact if_pos rfl
noncomputable def gA (n : Nat) (E : HE) (o t : Nat) (i : Int32) : Option Int32 := (aP n E o t).bind fun a => if 0 ≤ i.toInt ∧ i.toInt < a.1 then some (a.2 i.toNatClampNeg) else none
noncomputable def sA (n : Nat) (E : HE) (o t : Nat) (i x : Int32) : Option HE := (aP n E o t).bind fun a => if 0 ≤ i.toInt ∧ i.toInt < a.1 then some (upE E o (.inl (t, a.1, .inl (upd a.2 i.toNatClampNeg x)))) else none
noncomputable def gQ (n : Nat) (E : HE) (o t : Nat) (i : Int32) : Option Nat := (aQ n E o t).bind fun a => if 0 ≤ i.toInt ∧ i.toInt < a.1 then a.2 i.toNatClampNeg else none
noncomputable def sQ (n : Nat) (E : HE) (o t : Nat) (i : Int32) (x : Nat) : Option HE := (aQ n E o t).bind fun a => if (0 ≤ i.toInt ∧ i.toInt < a.1) ∧ (x < n ∨ 1000000 ≤ x) then some (upE E o (.inl (t, a.1, .inr (.inr (.inr (.inr (va_up a.2 i.toNatClampNeg (some x)))))))) else none
noncomputable def sQN (n : Nat) (E : HE) (o t : Nat) (i : Int32) : Option HE := (aQ n E o t).bind fun a => if 0 ≤ i.toInt ∧ i.toInt < a.1 then some (upE E o (.inl (t, a.1, .inr (.inr (.inr (.inr (va_up a.2 i.toNatClampNeg none))))))) else none
noncomputable def lP (n : Nat) (E : HE) (o t : Nat) : Option Int32 := (aP n E o t).bind fun a => if a.1 < 2 ^ 31 then some (nI a.1) else none
noncomputable def lQ (n : Nat) (E : HE) (o t : Nat) : Option Int32 := (aQ n E o t).bind fun a => if a.1 < 2 ^ 31 then some (nI a.1) else none
theorem gA_s {n o t : Nat} {E : HE} {i x : Int32} (h : gA n E o t i = some x) : ∃ m f, aP n E o t = some (m, f) ∧ vp_in i m ∧ f i.toNatClampNeg = x := by
  obtain ⟨⟨m, f⟩, h1, h2⟩ := Option.bind_eq_some_iff.mp h
  split at h2
  · rename_i q; cases h2; exact ⟨m, f, h1, vp_in_iff.mpr q, rfl⟩
  · cases h2
theorem sA_s {n o t : Nat} {E E2 : HE} {i x : Int32} (h : sA n E o t i x = some E2) : ∃ m f, aP n E o t = some (m, f) ∧ vp_in i m ∧ E2 = upE E o (.inl (t, m, .inl (upd f i.toNatClampNeg x))) := by
  obtain ⟨⟨m, f⟩, h1, h2⟩ := Option.bind_eq_some_iff.mp h
  split at h2
  · rename_i q; cases h2; exact ⟨m, f, h1, vp_in_iff.mpr q, rfl⟩
  · cases h2
theorem gQ_s {n o t x : Nat} {E : HE} {i : Int32} (h : gQ n E o t i = some x) : ∃ m f, aQ n E o t = some (m, f) ∧ vp_in i m ∧ f i.toNatClampNeg = some x := by
  obtain ⟨⟨m, f⟩, h1, h2⟩ := Option.bind_eq_some_iff.mp h
  split at h2
  · rename_i q; exact ⟨m, f, h1, vp_in_iff.mpr q, h2⟩
  · cases h2
theorem sQ_s {n o t x : Nat} {E E2 : HE} {i : Int32} (h : sQ n E o t i x = some E2) : ∃ m f, aQ n E o t = some (m, f) ∧ vp_in i m ∧ okI n x ∧ E2 = upE E o (.inl (t, m, .inr (.inr (.inr (.inr (va_up f i.toNatClampNeg (some x))))))) := by
  obtain ⟨⟨m, f⟩, h1, h2⟩ := Option.bind_eq_some_iff.mp h
  split at h2
  · rename_i q; cases h2; exact ⟨m, f, h1, vp_in_iff.mpr q.1, q.2, rfl⟩
  · cases h2
theorem sQN_s {n o t : Nat} {E E2 : HE} {i : Int32} (h : sQN n E o t i = some E2) : ∃ m f, aQ n E o t = some (m, f) ∧ vp_in i m ∧ E2 = upE E o (.inl (t, m, .inr (.inr (.inr (.inr (va_up f i.toNatClampNeg none)))))) := by
  obtain ⟨⟨m, f⟩, h1, h2⟩ := Option.bind_eq_some_iff.mp h
  split at h2
  · rename_i q; cases h2; exact ⟨m, f, h1, vp_in_iff.mpr q, rfl⟩
  · cases h2
theorem sA_clo {n o t : Nat} {E E2 : HE} {i x : Int32} (h : sA n E o t i x = some E2) (hC : clo n E) : clo n E2 := by
  obtain ⟨m, f, -, -, rfl⟩ := sA_s h
  exact hC.up trivial
theorem sQ_clo {n o t x : Nat} {E E2 : HE} {i : Int32} (h : sQ n E o t i x = some E2) (hC : clo n E) : clo n E2 := by
  obtain ⟨m, f, h1, -, hx, rfl⟩ := sQ_s h
  obtain ⟨h3, h4⟩ := aQ_s h1
  refine hC.up (fun j b hb => ?_)
  have h5 := hC.2 o h3
  rw [h4] at h5
  unfold va_up at hb
  split at hb
  · cases hb; exact hx
  · exact h5 j b hb
theorem sQN_clo {n o t : Nat} {E E2 : HE} {i : Int32} (h : sQN n E o t i = some E2) (hC : clo n E) : clo n E2 := by
  obtain ⟨m, f, h1, -, rfl⟩ := sQN_s h
  obtain ⟨h3, h4⟩ := aQ_s h1
  refine hC.up (fun j b hb => ?_)
  have h5 := hC.2 o h3
  rw [h4] at h5
  unfold va_up at hb
  split at hb
  · cases hb
  · exact h5 j b hb
noncomputable def cpA (n : Nat) (E : HE) (a b t : Nat) (sp dp k : Int32) : Option HE := (aP n E a t).bind fun x => (aP n E b t).bind fun y => if (0 ≤ sp.toInt ∧ 0 ≤ dp.toInt ∧ 0 ≤ k.toInt ∧ sp.toNatClampNeg + k.toNatClampNeg ≤ x.1 ∧ dp.toNatClampNeg + k.toNatClampNeg ≤ y.1) then some (upE E b (.inl (t, y.1, .inl (va_cpy x.2 y.2 sp.toNatClampNeg dp.toNatClampNeg k.toNatClampNeg)))) else none
noncomputable def cpQ (n : Nat) (E : HE) (a b t : Nat) (sp dp k : Int32) : Option HE := (aQ n E a t).bind fun x => (aQ n E b t).bind fun y => if (0 ≤ sp.toInt ∧ 0 ≤ dp.toInt ∧ 0 ≤ k.toInt ∧ sp.toNatClampNeg + k.toNatClampNeg ≤ x.1 ∧ dp.toNatClampNeg + k.toNatClampNeg ≤ y.1) then some (upE E b (.inl (t, y.1, .inr (.inr (.inr (.inr (va_cpy x.2 y.2 sp.toNatClampNeg dp.toNatClampNeg k.toNatClampNeg))))))) else none
theorem cpA_s {n a b t : Nat} {E E2 : HE} {sp dp k : Int32} (h : cpA n E a b t sp dp k = some E2) : ∃ m f m2 g, aP n E a t = some (m, f) ∧ aP n E b t = some (m2, g) ∧ (0 ≤ sp.toInt ∧ 0 ≤ dp.toInt ∧ 0 ≤ k.toInt ∧ sp.toNatClampNeg + k.toNatClampNeg ≤ m ∧ dp.toNatClampNeg + k.toNatClampNeg ≤ m2) ∧ E2 = upE E b (.inl (t, m2, .inl (va_cpy f g sp.toNatClampNeg dp.toNatClampNeg k.toNatClampNeg))) := by
  obtain ⟨⟨m, f⟩, h1, h⟩ := Option.bind_eq_some_iff.mp h
  obtain ⟨⟨m2, g⟩, h2, h⟩ := Option.bind_eq_some_iff.mp h
  split at h
  · rename_i q; cases h; exact ⟨m, f, m2, g, h1, h2, q, rfl⟩
  · cases h
theorem cpQ_s {n a b t : Nat} {E E2 : HE} {sp dp k : Int32} (h : cpQ n E a b t sp dp k = some E2) : ∃ m f m2 g, aQ n E a t = some (m, f) ∧ aQ n E b t = some (m2, g) ∧ (0 ≤ sp.toInt ∧ 0 ≤ dp.toInt ∧ 0 ≤ k.toInt ∧ sp.toNatClampNeg + k.toNatClampNeg ≤ m ∧ dp.toNatClampNeg + k.toNatClampNeg ≤ m2) ∧ E2 = upE E b (.inl (t, m2, .inr (.inr (.inr (.inr (va_cpy f g sp.toNatClampNeg dp.toNatClampNeg k.toNatClampNeg)))))) := by
  obtain ⟨⟨m, f⟩, h1, h⟩ := Option.bind_eq_some_iff.mp h
  obtain ⟨⟨m2, g⟩, h2, h⟩ := Option.bind_eq_some_iff.mp h
  split at h
  · rename_i q; cases h; exact ⟨m, f, m2, g, h1, h2, q, rfl⟩
  · cases h
theorem cpA_clo {n a b t : Nat} {E E2 : HE} {sp dp k : Int32} (h : cpA n E a b t sp dp k = some E2) (hC : clo n E) : clo n E2 := by
  obtain ⟨m, f, m2, g, -, -, -, rfl⟩ := cpA_s h
  exact hC.up trivial
theorem cpQ_clo {n a b t : Nat} {E E2 : HE} {sp dp k : Int32} (h : cpQ n E a b t sp dp k = some E2) (hC : clo n E) : clo n E2 := by
  obtain ⟨m, f, m2, g, h1, h2, -, rfl⟩ := cpQ_s h
  obtain ⟨h3, h4⟩ := aQ_s h1
  obtain ⟨h5, h6⟩ := aQ_s h2
  have k1 := hC.2 a h3
  have k2 := hC.2 b h5
  rw [h4] at k1
  rw [h6] at k2
  refine hC.up (fun j q hq => ?_)
  unfold va_cpy at hq
  split at hq
  · exact k1 _ q hq
  · exact k2 _ q hq
section HsA
variable {D : va_G} {cl : List vw_C} {cy : Nat → ClassId} {nb ad : Nat → Nat} {n o a t : Nat} {E E2 : HE} {H : Heap}
theorem rdA {i x : Int32} (hP : va_P D cl (CH cy nb ad n E) H) (hC : clo n E) (hr : rf nb ad n o a) (h : gA n E o t i = some x) : ∃ (m : Nat) (f : Nat → Int32), va_P D cl [(a, .inl (cy t, m, .inl f))] H ∧ vp_in i m ∧ f i.toNatClampNeg = x := by
  obtain ⟨m, f, h1, h2, h3⟩ := gA_s h
  obtain ⟨h4, h5⟩ := aP_s h1
  have := ch_P hP hC hr h4
  rw [h5] at this
  exact ⟨m, f, this, h2, h3⟩
theorem rdL {x : Int32} (hP : va_P D cl (CH cy nb ad n E) H) (hC : clo n E) (hr : rf nb ad n o a) (h : lP n E o t = some x) : ∃ (m : Nat) (f : Nat → Int32), va_P D cl [(a, .inl (cy t, m, .inl f))] H ∧ Int32.ofNat m = x := by
  obtain ⟨⟨m, f⟩, h1, h2⟩ := Option.bind_eq_some_iff.mp h
  obtain ⟨h4, h5⟩ := aP_s h1
  have := ch_P hP hC hr h4
  rw [h5] at this
  split at h2
  · cases h2; exact ⟨m, f, this, rfl⟩
  · cases h2
theorem rdLQ {x : Int32} (hP : va_P D cl (CH cy nb ad n E) H) (hC : clo n E) (hr : rf nb ad n o a) (h : lQ n E o t = some x) : ∃ (m : Nat) (f : Nat → Option Nat), va_P D cl [(a, .inl (cy t, m, .inr (.inr (.inr (.inr f)))))] H ∧ Int32.ofNat m = x := by
  obtain ⟨⟨m, f⟩, h1, h2⟩ := Option.bind_eq_some_iff.mp h
  obtain ⟨h4, h5⟩ := aQ_s h1
  have := ch_P hP hC hr h4
  rw [h5] at this
  split at h2
  · cases h2; exact ⟨m, _, this, rfl⟩
  · cases h2
theorem rdQ {i : Int32} {x : Nat} (hP : va_P D cl (CH cy nb ad n E) H) (hC : clo n E) (hr : rf nb ad n o a) (h : gQ n E o t i = some x) : rf nb ad n x (AD nb ad x) ∧ ∃ (m : Nat) (f : Nat → Option Nat), va_P D cl [(a, .inl (cy t, m, .inr (.inr (.inr (.inr f)))))] H ∧ vp_in i m ∧ va_rf (f i.toNatClampNeg) = .ref (AD nb ad x) := by
  obtain ⟨m, f, h1, h2, h3⟩ := gQ_s h
  obtain ⟨h4, h5⟩ := aQ_s h1
  have := ch_P hP hC hr h4
  rw [h5] at this
  have h6 := hC.2 o h4
  rw [h5] at h6
  refine ⟨⟨h6 _ _ h3, rfl⟩, m, _, this, h2, ?_⟩
  show va_rf ((f i.toNatClampNeg).map _) = _
  rw [h3]
  rfl
theorem wrA {i x : Int32} (hC : clo n E) (hr : rf nb ad n o a) (h : sA n E o t i x = some E2) : ∃ (q m : Nat) (f : Nat → Int32), (CH cy nb ad n E)[q]? = some (a, .inl (cy t, m, .inl f)) ∧ vp_in i m ∧ (CH cy nb ad n E).set q (a, .inl (cy t, m, .inl (upd f i.toNatClampNeg x))) = CH cy nb ad n E2 := by
  obtain ⟨m, f, h1, h2, rfl⟩ := sA_s h
  obtain ⟨h3, h4⟩ := aP_s h1
  refine ⟨o, m, f, ?_, h2, ch_set (cy := cy) (e := .inl (t, m, .inl (upd f i.toNatClampNeg x))) hC hr h3⟩
  rw [ch_at hC hr h3, h4]; rfl
theorem wrQ {i : Int32} {x b : Nat} (hC : clo n E) (hr : rf nb ad n o a) (hb : rf nb ad n x b) (h : sQ n E o t i x = some E2) : ∃ (q m : Nat) (f : Nat → Option Nat), (CH cy nb ad n E)[q]? = some (a, .inl (cy t, m, .inr (.inr (.inr (.inr f))))) ∧ vp_in i m ∧ (CH cy nb ad n E).set q (a, .inl (cy t, m, .inr (.inr (.inr (.inr (va_up f i.toNatClampNeg (some b))))))) = CH cy nb ad n E2 := by
  obtain ⟨m, f, h1, h2, -, rfl⟩ := sQ_s h
  obtain ⟨h3, h4⟩ := aQ_s h1
  refine ⟨o, m, fun i => (f i).map (AD nb ad), ?_, h2, ?_⟩
  · rw [ch_at hC hr h3, h4]; rfl
  · refine Eq.trans ?_ (ch_set (cy := cy) (e := .inl (t, m, .inr (.inr (.inr (.inr (va_up f i.toNatClampNeg (some x))))))) hC hr h3)
    show _ = (CH cy nb ad n E).set o (a, .inl (cy t, m, .inr (.inr (.inr (.inr fun j => (va_up f i.toNatClampNeg (some x) j).map (AD nb ad))))))
    congr 8
    funext j
    unfold va_up
    split
    · exact congrArg some hb.2.symm
    · rfl
theorem wrQN {i : Int32} (hC : clo n E) (hr : rf nb ad n o a) (h : sQN n E o t i = some E2) : ∃ (q m : Nat) (f : Nat → Option Nat), (CH cy nb ad n E)[q]? = some (a, .inl (cy t, m, .inr (.inr (.inr (.inr f))))) ∧ vp_in i m ∧ (CH cy nb ad n E).set q (a, .inl (cy t, m, .inr (.inr (.inr (.inr (va_up f i.toNatClampNeg none)))))) = CH cy nb ad n E2 := by
  obtain ⟨m, f, h1, h2, rfl⟩ := sQN_s h
  obtain ⟨h3, h4⟩ := aQ_s h1
  refine ⟨o, m, fun i => (f i).map (AD nb ad), ?_, h2, ?_⟩
  · rw [ch_at hC hr h3, h4]; rfl
  · refine Eq.trans ?_ (ch_set (cy := cy) (e := .inl (t, m, .inr (.inr (.inr (.inr (va_up f i.toNatClampNeg none)))))) hC hr h3)
    show _ = (CH cy nb ad n E).set o (a, .inl (cy t, m, .inr (.inr (.inr (.inr fun j => (va_up f i.toNatClampNeg none j).map (AD nb ad))))))
    congr 8
    funext j
    unfold va_up
    split <;> rfl
end HsA
noncomputable def MHp {α : Type} (f : HS → Option (α × HS)) : Prop := ∀ (u : HS) (x : α) (u' : HS), f u = some (x, u') → u.1 ≤ u'.1 ∧ u.2.1 ≤ u'.2.1 ∧ (clo u.1 u.2.2 → clo u'.1 u'.2.2)
noncomputable def MH (α : Type) : Type := { f : HS → Option (α × HS) // MHp f }
noncomputable def mr {α : Type} (x : α) : MH α := ⟨fun u => some (x, u), fun u y u' h => by cases h; exact ⟨Nat.le_refl _, Nat.le_refl _, id⟩⟩
noncomputable def mb {α β : Type} (m : MH α) (k : α → MH β) : MH β := ⟨fun u => (m.1 u).bind fun t => (k t.1).1 t.2, fun u y u' h => by
  obtain ⟨⟨x, v⟩, h1, h2⟩ := Option.bind_eq_some_iff.mp h
  obtain ⟨a1, a2, a3⟩ := m.2 u x v h1
  obtain ⟨b1, b2, b3⟩ := (k x).2 v y u' h2
  exact ⟨Nat.le_trans a1 b1, Nat.le_trans a2 b2, fun q => b3 (a3 q)⟩⟩
noncomputable def m0 {α : Type} : MH α := ⟨fun _ => none, fun u y u' h => by cases h⟩
noncomputable def mp {α : Type} (o : Option α) : MH α := ⟨fun u => o.bind fun x => some (x, u), fun u y u' h => by
  obtain ⟨x, -, h2⟩ := Option.bind_eq_some_iff.mp h
  cases h2; exact ⟨Nat.le_refl _, Nat.le_refl _, id⟩⟩
noncomputable def mg {α : Type} (g : Nat → HE → Option α) : MH α := ⟨fun u => (g u.1 u.2.2).bind fun x => some (x, u), fun u y u' h => by
  obtain ⟨x, -, h2⟩ := Option.bind_eq_some_iff.mp h
  cases h2; exact ⟨Nat.le_refl _, Nat.le_refl _, id⟩⟩
noncomputable def mw (g : Nat → HE → Option HE) (hg : ∀ (n : Nat) (E E2 : HE), g n E = some E2 → clo n E → clo n E2) : MH Unit := ⟨fun u => (g u.1 u.2.2).bind fun E2 => some ((), u.1, u.2.1, E2), fun u y u' h => by
  obtain ⟨E2, h1, h2⟩ := Option.bind_eq_some_iff.mp h
  cases h2; exact ⟨Nat.le_refl _, Nat.le_refl _, hg _ _ _ h1⟩⟩
noncomputable def mn (k : Nat) (e : va_E) (he : okE 0 e) : MH Nat := ⟨fun u => if u.1 < 999999 then some (u.1, u.1 + 1, u.2.1 + k, upE u.2.2 u.1 e) else none, fun u y u' h => by
  split at h
  · cases h; exact ⟨Nat.le_succ _, Nat.le_add_right _ _, fun q => q.push he (by omega)⟩
  · cases h⟩
noncomputable def wI (o ci k : Nat) (x : Int32) : MH Unit := mw (fun n E => sI n E o ci k x) (fun _ _ _ h => sI_clo h)
noncomputable def wR (o ci k x : Nat) : MH Unit := mw (fun n E => sR n E o ci k x) (fun _ _ _ h => sR_clo h)
noncomputable def wA (o t : Nat) (i x : Int32) : MH Unit := mw (fun n E => sA n E o t i x) (fun _ _ _ h => sA_clo h)
noncomputable def wQ (o t : Nat) (i : Int32) (x : Nat) : MH Unit := mw (fun n E => sQ n E o t i x) (fun _ _ _ h => sQ_clo h)
noncomputable def wQN (o t : Nat) (i : Int32) : MH Unit := mw (fun n E => sQN n E o t i) (fun _ _ _ h => sQN_clo h)
noncomputable def mcA (a : Nat) (sp : Int32) (b : Nat) (dp k : Int32) (t : Nat) : MH Unit := mw (fun n E => cpA n E a b t sp dp k) (fun _ _ _ h => cpA_clo h)
noncomputable def mcQ (a : Nat) (sp : Int32) (b : Nat) (dp k : Int32) (t : Nat) : MH Unit := mw (fun n E => cpQ n E a b t sp dp k) (fun _ _ _ h => cpQ_clo h)
noncomputable def rI (o ci k : Nat) : MH Int32 := mg fun n E => gI n E o ci k
noncomputable def rR (o ci k : Nat) : MH Nat := mg fun n E => gR n E o ci k
noncomputable def rA (o t : Nat) (i : Int32) : MH Int32 := mg fun n E => gA n E o t i
noncomputable def rQ (o t : Nat) (i : Int32) : MH Nat := mg fun n E => gQ n E o t i
noncomputable def rL (o t : Nat) : MH Int32 := mg fun n E => lP n E o t
noncomputable def rLQ (o t : Nat) : MH Int32 := mg fun n E => lQ n E o t
noncomputable def ln (x : Int32) : Option Nat := if 0 ≤ x.toInt ∧ x.toInt ≤ 65536 then some x.toNatClampNeg else none
theorem ln_s {x : Int32} {k : Nat} (h : ln x = some k) : ¬ x < 0 ∧ x.toNatClampNeg = k ∧ k ≤ 65536 := by
  unfold ln at h
  split at h
  · rename_i q
    cases h
    refine ⟨?_, rfl, ?_⟩
    · rw [Int32.lt_iff_toInt_lt]
      have : (0 : Int32).toInt = 0 := rfl
      omega
    · have : x.toNatClampNeg = x.toInt.toNat := rfl
      omega
  · cases h
noncomputable def nA (t : Nat) (k : Nat) : MH Nat := mn k (.inl (t, k, .inl fun _ => 0)) trivial
noncomputable def nQ (t : Nat) (k : Nat) : MH Nat := mn k (.inl (t, k, .inr (.inr (.inr (.inr fun _ => none))))) (fun _ _ h => by cases h)
section HsM
variable {α β : Type} {n s n2 s2 : Nat} {E E2 : HE} {r : β × HS}
theorem mle {m : MH α} {x : α} (h : m.1 (n, s, E) = some (x, n2, s2, E2)) : n ≤ n2 ∧ s ≤ s2 ∧ (clo n E → clo n2 E2) := m.2 _ _ _ h
theorem mb_o {m : MH α} {K : α → MH β} (h : (mb m K).1 (n, s, E) = some r) : ∃ (x : α) (n2 s2 : Nat) (E2 : HE), m.1 (n, s, E) = some (x, n2, s2, E2) ∧ (K x).1 (n2, s2, E2) = some r := by
  obtain ⟨⟨x, v⟩, h1, h2⟩ := Option.bind_eq_some_iff.mp h
  exact ⟨x, v.1, v.2.1, v.2.2, h1, h2⟩
theorem mp_o {o : Option α} {K : α → MH β} (h : (mb (mp o) K).1 (n, s, E) = some r) : ∃ x, o = some x ∧ (K x).1 (n, s, E) = some r := by
  obtain ⟨⟨x, v⟩, h1, h2⟩ := Option.bind_eq_some_iff.mp h
  obtain ⟨y, h3, h4⟩ := Option.bind_eq_some_iff.mp h1
  cases h4
  exact ⟨y, h3, h2⟩
theorem mg_o {g : Nat → HE → Option α} {K : α → MH β} (h : (mb (mg g) K).1 (n, s, E) = some r) : ∃ x, g n E = some x ∧ (K x).1 (n, s, E) = some r := by
  obtain ⟨⟨x, v⟩, h1, h2⟩ := Option.bind_eq_some_iff.mp h
  obtain ⟨y, h3, h4⟩ := Option.bind_eq_some_iff.mp h1
  cases h4
  exact ⟨y, h3, h2⟩
theorem mw_o {g : Nat → HE → Option HE} {hg : ∀ (n : Nat) (E E2 : HE), g n E = some E2 → clo n E → clo n E2} {K : Unit → MH β} (h : (mb (mw g hg) K).1 (n, s, E) = some r) : ∃ E2, g n E = some E2 ∧ (K ()).1 (n, s, E2) = some r := by
  obtain ⟨⟨x, v⟩, h1, h2⟩ := Option.bind_eq_some_iff.mp h
  obtain ⟨y, h3, h4⟩ := Option.bind_eq_some_iff.mp h1
  cases h4
  exact ⟨y, h3, h2⟩
theorem mn_o {k : Nat} {e : va_E} {he : okE 0 e} {K : Nat → MH β} (h : (mb (mn k e he) K).1 (n, s, E) = some r) : ∃ (x n2 s2 : Nat) (E2 : HE), (x = n ∧ n2 = n + 1 ∧ s2 = s + k ∧ E2 = upE E n e ∧ n < 1000000) ∧ (K x).1 (n2, s2, E2) = some r := by
  obtain ⟨⟨x, v⟩, h1, h2⟩ := Option.bind_eq_some_iff.mp h
  have h1 : (if n < 999999 then some (n, n + 1, s + k, upE E n e) else none) = some (x, v) := h1
  split at h1
  · rename_i q
    cases h1
    exact ⟨_, _, _, _, ⟨rfl, rfl, rfl, rfl, by omega⟩, h2⟩
  · cases h1
theorem mr_o {x y : α} (h : (mr x).1 (n, s, E) = some (y, n2, s2, E2)) : x = y ∧ n = n2 ∧ s = s2 ∧ E = E2 := by
  have h : some (x, n, s, E) = some (y, n2, s2, E2) := h
  cases h; exact ⟨rfl, rfl, rfl, rfl⟩
theorem m0_o {u : HS} {x : α × HS} (h : (m0 : MH α).1 u = some x) : False := by cases h
theorem new_w {cy : Nat → ClassId} {nb ad : Nat → Nat} {k : Nat} {e e' : va_E} (he : okE 0 e) (ht : ∀ f, trE cy f e = e') (hC : clo n E) {x : Nat} (q : Nat) (hq : x = n ∧ n2 = n + 1 ∧ s2 = s + k ∧ E2 = upE E n e ∧ n < 1000000) : ∃ ad2 : Nat → Nat, axh n ad n2 ad2 ∧ rf nb ad2 n2 x q ∧ clo n2 E2 ∧ CH cy nb ad n E ++ [(q, e')] = CH cy nb ad2 n2 E2 := by
  obtain ⟨rfl, rfl, -, rfl, hn⟩ := hq
  exact ⟨adn ad n q, adn_ax, rf_new hn, hC.push he hn, by rw [← ht (AD nb ad)]; exact ch_push hC he⟩
end HsM
