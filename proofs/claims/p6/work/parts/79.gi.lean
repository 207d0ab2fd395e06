noncomputable abbrev ROW (r : RS) (k i : Nat) : Nat → Int32 := fun j => r k (1037 * i + j)
noncomputable def LQ (c : RS) (g : CG) (L : Nat) (v : Nat → Int32) (B : Nat) : Prop := ∃ sm lm cm, QY c g L v sm lm cm B B
noncomputable def PAi (r c : RS) (g : CG) (B o n : Nat) : Prop := o < 8 ∧ n ≤ 8 ∧ c 0 3 = nI o ∧ c 0 4 = nI n ∧ r 0 5 = nI n ∧ ∀ i, i < n → g.pl (2 + (o + i) % 8) = true ∧ LQ c g (2 + (o + i) % 8) (ROW r 3 i) B
noncomputable def PA (r c : RS) (g : CG) (B : Nat) : Prop := ∃ o n, PAi r c g B o n
noncomputable def SV (r c : RS) (g : CG) (B : Nat) : Prop := ∀ s, s < 2 → (r 5 s = nI 0 ∧ g.pl (10 + s) = false) ∨ (r 5 s = nI 1 ∧ g.pl (10 + s) = true ∧ LQ c g (10 + s) (ROW r 4 s) B)
noncomputable def BYT (x : Int32) : Prop := -128 ≤ x.toInt ∧ x.toInt < 128
noncomputable def BF (r c : RS) : Prop := c 5 0 = nI 0 ∧ ∃ n, n ≤ 600 ∧ c 0 5 = nI n ∧ r 0 8 = nI n ∧ ∀ k, k < n → c 3 k = r 6 k ∧ BYT (c 3 k)
noncomputable def ER (r c : RS) : Prop := c 0 1 = r 0 15 ∧ c 0 2 = r 0 16
noncomputable def OU (r c : RS) : Prop := ∃ a b, a ≤ 16 ∧ b ≤ 16 ∧ c 0 0 = nI a ∧ r 0 22 = nI b
noncomputable def TIn (c : RS) (nt : Nat) : Prop := ∀ L, L < 12 → TIr (c (10 + L)) nt
noncomputable def GI (r c : RS) (g : CG) (B T : Nat) : Prop := LQ c g 0 (r 1) B ∧ TIn c g.nt ∧ PA r c g B ∧ SV r c g B ∧ BF r c ∧ ER r c ∧ OU r c ∧ g.nt ≤ T
theorem GI.l {r c : RS} {g : CG} {B T : Nat} (h : GI r c g B T) : LQ c g 0 (r 1) B := h.1
theorem GI.ti {r c : RS} {g : CG} {B T : Nat} (h : GI r c g B T) : TIn c g.nt := h.2.1
theorem GI.p {r c : RS} {g : CG} {B T : Nat} (h : GI r c g B T) : PA r c g B := h.2.2.1
theorem GI.s {r c : RS} {g : CG} {B T : Nat} (h : GI r c g B T) : SV r c g B := h.2.2.2.1
theorem GI.b {r c : RS} {g : CG} {B T : Nat} (h : GI r c g B T) : BF r c := h.2.2.2.2.1
theorem GI.e {r c : RS} {g : CG} {B T : Nat} (h : GI r c g B T) : ER r c := h.2.2.2.2.2.1
theorem GI.o {r c : RS} {g : CG} {B T : Nat} (h : GI r c g B T) : OU r c := h.2.2.2.2.2.2.1
theorem GI.n {r c : RS} {g : CG} {B T : Nat} (h : GI r c g B T) : g.nt ≤ T := h.2.2.2.2.2.2.2
theorem TI_n {c : RS} {g : CG} : TI g c ↔ TIn c g.nt := by
  unfold TI TIn TIr
  constructor
  · intro h L hL
    refine ⟨fun s hs => ?_, fun q hq => ?_⟩
    · rw [← sS_r (v := c (10 + L)) hs (by omega)]; exact (h L hL).1 s hs
    · rw [← sC_r (v := c (10 + L)) hq (by omega)]; exact (h L hL).2 q hq
  · intro h L hL
    refine ⟨fun s hs => ?_, fun q hq => ?_⟩
    · rw [sS_r (v := c (10 + L)) hs (by omega)]; exact (h L hL).1 s hs
    · rw [sC_r (v := c (10 + L)) hq (by omega)]; exact (h L hL).2 q hq
theorem TIr.mono {w : Nat → Int32} {nt nt2 : Nat} (h : TIr w nt) (hn : nt ≤ nt2) : TIr w nt2 := ⟨fun s hs => Nat.le_trans (h.1 s hs) hn, fun s hs => Nat.le_trans (h.2 s hs) hn⟩
theorem LQ.mono {c : RS} {g : CG} {L B B2 : Nat} {v : Nat → Int32} (h : LQ c g L v B) (hB : B ≤ B2) (h2 : B2 < 2000000000) : LQ c g L v B2 := by
  obtain ⟨sm, lm, cm, h⟩ := h
  exact ⟨sm, lm, cm, h.mono hB h2 hB⟩
theorem LQ.frame {c c2 : RS} {g g2 : CG} {L B : Nat} {v : Nat → Int32} (hL : L < 12) (h : LQ c g L v B) (hn : g.nt ≤ g2.nt) (hb : ∀ R, OWN L R → c2 R = c R) (ht : ∀ t, 1 ≤ t → t ≤ g.nt → c2 (500 + t) = c (500 + t)) : LQ c2 g2 L v B := by
  obtain ⟨sm, lm, cm, h⟩ := h
  exact ⟨sm, lm, cm, h.frame hL hn hb ht⟩
theorem PAi.frame {r r2 c c2 : RS} {g g2 : CG} {B o n : Nat} (h : PAi r c g B o n) (hn : g.nt ≤ g2.nt) (hp : ∀ i, 2 ≤ i → i < 10 → g.pl i = true → g2.pl i = true) (hc3 : c2 0 3 = c 0 3) (hc4 : c2 0 4 = c 0 4) (hr5 : r2 0 5 = r 0 5) (hr3 : r2 3 = r 3) (hb : ∀ L R, 2 ≤ L → L < 10 → OWN L R → c2 R = c R) (ht : ∀ t, 1 ≤ t → t ≤ g.nt → c2 (500 + t) = c (500 + t)) : PAi r2 c2 g2 B o n := by
  obtain ⟨h1, h2, h3, h4, h5, h6⟩ := h
  refine ⟨h1, h2, hc3.trans h3, hc4.trans h4, hr5.trans h5, fun i hi => ?_⟩
  obtain ⟨a, b⟩ := h6 i hi
  have e : ROW r2 3 i = ROW r 3 i := by funext j; show r2 3 _ = r 3 _; rw [hr3]
  refine ⟨hp _ (by omega) (by omega) a, ?_⟩
  rw [e]
  exact b.frame (by omega) hn (fun R hR => hb _ R (by omega) (by omega) hR) ht
theorem PA.frame {r r2 c c2 : RS} {g g2 : CG} {B : Nat} (h : PA r c g B) (hn : g.nt ≤ g2.nt) (hp : ∀ i, 2 ≤ i → i < 10 → g.pl i = true → g2.pl i = true) (hc3 : c2 0 3 = c 0 3) (hc4 : c2 0 4 = c 0 4) (hr5 : r2 0 5 = r 0 5) (hr3 : r2 3 = r 3) (hb : ∀ L R, 2 ≤ L → L < 10 → OWN L R → c2 R = c R) (ht : ∀ t, 1 ≤ t → t ≤ g.nt → c2 (500 + t) = c (500 + t)) : PA r2 c2 g2 B := by
  obtain ⟨o, n, h⟩ := h
  exact ⟨o, n, h.frame hn hp hc3 hc4 hr5 hr3 hb ht⟩
theorem SV.frame {r r2 c c2 : RS} {g g2 : CG} {B : Nat} (h : SV r c g B) (hn : g.nt ≤ g2.nt) (hp : ∀ i, 10 ≤ i → i < 12 → g2.pl i = g.pl i) (hr5 : r2 5 = r 5) (hr4 : r2 4 = r 4) (hb : ∀ L R, 10 ≤ L → L < 12 → OWN L R → c2 R = c R) (ht : ∀ t, 1 ≤ t → t ≤ g.nt → c2 (500 + t) = c (500 + t)) : SV r2 c2 g2 B := by
  intro s hs
  rw [hr5, hp _ (by omega) (by omega)]
  rcases h s hs with q | ⟨q1, q2, q3⟩
  · exact Or.inl q
  · have e : ROW r2 4 s = ROW r 4 s := by funext j; show r2 4 _ = r 4 _; rw [hr4]
    refine Or.inr ⟨q1, q2, ?_⟩
    rw [e]
    exact q3.frame (by omega) hn (fun R hR => hb _ R (by omega) (by omega) hR) ht
theorem BF.frame {r r2 c c2 : RS} (h : BF r c) (h5 : c2 0 5 = c 0 5) (h8 : r2 0 8 = r 0 8) (h3 : c2 3 = c 3) (h6 : r2 6 = r 6) (hz : c2 5 = c 5) : BF r2 c2 := by
  obtain ⟨z, n, a1, a2, a3, a4⟩ := h
  exact ⟨by rw [hz]; exact z, n, a1, h5.trans a2, h8.trans a3, fun k hk => by rw [h3, h6]; exact a4 k hk⟩
theorem ER.frame {r r2 c c2 : RS} (h : ER r c) (h1 : c2 0 1 = c 0 1) (h2 : c2 0 2 = c 0 2) (h3 : r2 0 15 = r 0 15) (h4 : r2 0 16 = r 0 16) : ER r2 c2 := ⟨by rw [h1, h3]; exact h.1, by rw [h2, h4]; exact h.2⟩
theorem OU.frame {r r2 c c2 : RS} (h : OU r c) (h1 : c2 0 0 = c 0 0) (h2 : r2 0 22 = r 0 22) : OU r2 c2 := by
  obtain ⟨a, b, q1, q2, q3, q4⟩ := h
  exact ⟨a, b, q1, q2, h1.trans q3, h2.trans q4⟩
theorem PA.mono {r c : RS} {g : CG} {B B2 : Nat} (h : PA r c g B) (hB : B ≤ B2) (h2 : B2 < 2000000000) : PA r c g B2 := by
  obtain ⟨o, n, h1, h2', h3, h4, h5, h6⟩ := h
  exact ⟨o, n, h1, h2', h3, h4, h5, fun i hi => ⟨(h6 i hi).1, (h6 i hi).2.mono hB h2⟩⟩
theorem SV.mono {r c : RS} {g : CG} {B B2 : Nat} (h : SV r c g B) (hB : B ≤ B2) (h2 : B2 < 2000000000) : SV r c g B2 := by
  intro s hs
  rcases h s hs with q | ⟨q1, q2, q3⟩
  · exact Or.inl q
  · exact Or.inr ⟨q1, q2, q3.mono hB h2⟩
theorem GI.mono {r c : RS} {g : CG} {B B2 T T2 : Nat} (h : GI r c g B T) (hB : B ≤ B2) (h2 : B2 < 2000000000) (hT : T ≤ T2) : GI r c g B2 T2 :=
  ⟨h.l.mono hB h2, h.ti, h.p.mono hB h2, h.s.mono hB h2, h.b, h.e, h.o, Nat.le_trans h.n hT⟩
theorem GI.thr {r c : RS} {g : CG} {B T k : Nat} (h : GI r c g B T) : GI (th r k) c g B T := by
  refine ⟨?_, h.ti, ?_, ?_, ?_, ?_, ?_, h.n⟩
  · rw [th_o (by decide)]; exact h.l
  · exact h.p.frame (Nat.le_refl _) (fun _ _ _ q => q) rfl rfl (th_0 (by decide)) (th_o (by decide)) (fun _ _ _ _ _ => rfl) (fun _ _ _ => rfl)
  · exact h.s.frame (Nat.le_refl _) (fun _ _ _ => rfl) (th_o (by decide)) (th_o (by decide)) (fun _ _ _ _ _ => rfl) (fun _ _ _ => rfl)
  · exact h.b.frame rfl (th_0 (by decide)) rfl (th_o (by decide)) rfl
  · exact h.e.frame rfl rfl (th_0 (by decide)) (th_0 (by decide))
  · exact h.o.frame rfl (th_0 (by decide))
theorem QY.n7 {c : RS} {g : CG} {L sm lm cm B U : Nat} {v : Nat → Int32} (h : QY c g L v sm lm cm B U) : c (10 + L) 7 = nI sm := by rw [sA_r (v := c (10 + L)) (by omega)]; exact h.a.w7
theorem QY.n8 {c : RS} {g : CG} {L sm lm cm B U : Nat} {v : Nat → Int32} (h : QY c g L v sm lm cm B U) : c (10 + L) 8 = nI lm := by rw [sA_r (v := c (10 + L)) (by omega)]; exact h.a.w8
theorem QY.n9 {c : RS} {g : CG} {L sm lm cm B U : Nat} {v : Nat → Int32} (h : QY c g L v sm lm cm B U) : c (10 + L) 9 = nI cm := by rw [sA_r (v := c (10 + L)) (by omega)]; exact h.a.w9
theorem QY.v7 {c : RS} {g : CG} {L sm lm cm B U : Nat} {v : Nat → Int32} (h : QY c g L v sm lm cm B U) : v 7 = nI sm := by rw [QR.ra h (by omega) (by omega) (by omega)]; exact h.n7
theorem QY.v8 {c : RS} {g : CG} {L sm lm cm B U : Nat} {v : Nat → Int32} (h : QY c g L v sm lm cm B U) : v 8 = nI lm := by rw [QR.ra h (by omega) (by omega) (by omega)]; exact h.n8
theorem QY.v9 {c : RS} {g : CG} {L sm lm cm B U : Nat} {v : Nat → Int32} (h : QY c g L v sm lm cm B U) : v 9 = nI cm := by rw [QR.ra h (by omega) (by omega) (by omega)]; exact h.n9
