noncomputable def cnt : Nat → (Nat → Bool) → Nat
  | 0, _ => 0
  | n + 1, p => cnt n p + if p n then 1 else 0
noncomputable def sumI : Nat → (Nat → Int32) → Int32
  | 0, _ => 0
  | n + 1, f => sumI n f + f n
noncomputable abbrev QA (va wa : Nat → Int32) (sm lm cm B : Nat) : Prop := (sm ≤ 6) ∧ (lm ≤ 6) ∧ (cm ≤ 30) ∧ (B < 2000000000) ∧ (wa 7 = nI sm) ∧ (wa 8 = nI lm) ∧ (wa 9 = nI cm) ∧ (∀ i, i < 17 → i ≠ 10 → i ≠ 11 → va i = wa i) ∧ (∃ d, 1 ≤ d ∧ d ≤ 2000 ∧ wa 0 = nI d) ∧ (∃ t, t ≤ B ∧ wa 6 = nI t)
theorem QA.sm6 {va wa : Nat → Int32} {sm lm cm B : Nat} (h : QA va wa sm lm cm B) : sm ≤ 6 := h.1
theorem QA.lm6 {va wa : Nat → Int32} {sm lm cm B : Nat} (h : QA va wa sm lm cm B) : lm ≤ 6 := h.2.1
theorem QA.cm30 {va wa : Nat → Int32} {sm lm cm B : Nat} (h : QA va wa sm lm cm B) : cm ≤ 30 := h.2.2.1
theorem QA.bb {va wa : Nat → Int32} {sm lm cm B : Nat} (h : QA va wa sm lm cm B) : B < 2000000000 := h.2.2.2.1
theorem QA.w7 {va wa : Nat → Int32} {sm lm cm B : Nat} (h : QA va wa sm lm cm B) : wa 7 = nI sm := h.2.2.2.2.1
theorem QA.w8 {va wa : Nat → Int32} {sm lm cm B : Nat} (h : QA va wa sm lm cm B) : wa 8 = nI lm := h.2.2.2.2.2.1
theorem QA.w9 {va wa : Nat → Int32} {sm lm cm B : Nat} (h : QA va wa sm lm cm B) : wa 9 = nI cm := h.2.2.2.2.2.2.1
theorem QA.eqa {va wa : Nat → Int32} {sm lm cm B : Nat} (h : QA va wa sm lm cm B) : ∀ i, i < 17 → i ≠ 10 → i ≠ 11 → va i = wa i := h.2.2.2.2.2.2.2.1
theorem QA.day {va wa : Nat → Int32} {sm lm cm B : Nat} (h : QA va wa sm lm cm B) : ∃ d, 1 ≤ d ∧ d ≤ 2000 ∧ wa 0 = nI d := h.2.2.2.2.2.2.2.2.1
theorem QA.time {va wa : Nat → Int32} {sm lm cm B : Nat} (h : QA va wa sm lm cm B) : ∃ t, t ≤ B ∧ wa 6 = nI t := h.2.2.2.2.2.2.2.2.2
noncomputable abbrev QS (vs ws wc : Nat → Nat → Int32) (tx : Nat → Nat → Int32) (nt sm cm U : Nat) : Prop := (∀ s k, s < sm → k < 14 → k ≠ 8 → vs s k = ws s k) ∧ (∀ s, s < sm → ws s 0 = nI 3 → vs s 8 = ws s 8 ∧ ∃ a, a < 26 ∧ ws s 8 = nI a) ∧ (∀ s, s < sm → ws s 0 ≠ nI 3 → vs s 8 = m1) ∧ (∀ s, s < sm → ∃ p, 1 ≤ p ∧ p ≤ 99 ∧ ws s 1 = nI p) ∧ (∀ s, s < sm → ws s 2 = m1 ∨ ∃ c, c < cm ∧ ws s 2 = nI c ∧ wc c 3 = nI 1 ∧ wc c 4 = nI s) ∧ (∀ s, s < sm → ∃ n, n ≤ 1000 ∧ ws s 3 = nI n) ∧ (∀ s, s < sm → ∃ n, n ≤ U ∧ ws s 4 = nI n) ∧ (∀ s, s < sm → ws s 7 = nI 0 ∨ ws s 7 = nI 1) ∧ (∀ s, s < sm → ∃ t n, 1 ≤ t ∧ t ≤ nt ∧ ws s 14 = nI t ∧ tx t 0 = nI n ∧ 1 ≤ n ∧ n ≤ 12 ∧ vs s 14 = nI n ∧ ∀ k, k < n → (tx t (1 + k) = nI 49 ↔ (vs s 15 >>> nI k) &&& nI 1 = nI 1)) ∧ (∀ s, s < 6 → (ws s 14).toNatClampNeg ≤ nt)
theorem QS.eqs {vs ws wc : Nat → Nat → Int32} {tx : Nat → Nat → Int32} {nt sm cm U : Nat} (h : QS vs ws wc tx nt sm cm U) : ∀ s k, s < sm → k < 14 → k ≠ 8 → vs s k = ws s k := h.1
theorem QS.letter {vs ws wc : Nat → Nat → Int32} {tx : Nat → Nat → Int32} {nt sm cm U : Nat} (h : QS vs ws wc tx nt sm cm U) : ∀ s, s < sm → ws s 0 = nI 3 → vs s 8 = ws s 8 ∧ ∃ a, a < 26 ∧ ws s 8 = nI a := h.2.1
theorem QS.nolet {vs ws wc : Nat → Nat → Int32} {tx : Nat → Nat → Int32} {nt sm cm U : Nat} (h : QS vs ws wc tx nt sm cm U) : ∀ s, s < sm → ws s 0 ≠ nI 3 → vs s 8 = m1 := h.2.2.1
theorem QS.pace {vs ws wc : Nat → Nat → Int32} {tx : Nat → Nat → Int32} {nt sm cm U : Nat} (h : QS vs ws wc tx nt sm cm U) : ∀ s, s < sm → ∃ p, 1 ≤ p ∧ p ≤ 99 ∧ ws s 1 = nI p := h.2.2.2.1
theorem QS.hold {vs ws wc : Nat → Nat → Int32} {tx : Nat → Nat → Int32} {nt sm cm U : Nat} (h : QS vs ws wc tx nt sm cm U) : ∀ s, s < sm → ws s 2 = m1 ∨ ∃ c, c < cm ∧ ws s 2 = nI c ∧ wc c 3 = nI 1 ∧ wc c 4 = nI s := h.2.2.2.2.1
theorem QS.need {vs ws wc : Nat → Nat → Int32} {tx : Nat → Nat → Int32} {nt sm cm U : Nat} (h : QS vs ws wc tx nt sm cm U) : ∀ s, s < sm → ∃ n, n ≤ 1000 ∧ ws s 3 = nI n := h.2.2.2.2.2.1
theorem QS.used {vs ws wc : Nat → Nat → Int32} {tx : Nat → Nat → Int32} {nt sm cm U : Nat} (h : QS vs ws wc tx nt sm cm U) : ∀ s, s < sm → ∃ n, n ≤ U ∧ ws s 4 = nI n := h.2.2.2.2.2.2.1
theorem QS.stop {vs ws wc : Nat → Nat → Int32} {tx : Nat → Nat → Int32} {nt sm cm U : Nat} (h : QS vs ws wc tx nt sm cm U) : ∀ s, s < sm → ws s 7 = nI 0 ∨ ws s 7 = nI 1 := h.2.2.2.2.2.2.2.1
theorem QS.script {vs ws wc : Nat → Nat → Int32} {tx : Nat → Nat → Int32} {nt sm cm U : Nat} (h : QS vs ws wc tx nt sm cm U) : ∀ s, s < sm → ∃ t n, 1 ≤ t ∧ t ≤ nt ∧ ws s 14 = nI t ∧ tx t 0 = nI n ∧ 1 ≤ n ∧ n ≤ 12 ∧ vs s 14 = nI n ∧ ∀ k, k < n → (tx t (1 + k) = nI 49 ↔ (vs s 15 >>> nI k) &&& nI 1 = nI 1) := h.2.2.2.2.2.2.2.2.1
theorem QS.ti {vs ws wc : Nat → Nat → Int32} {tx : Nat → Nat → Int32} {nt sm cm U : Nat} (h : QS vs ws wc tx nt sm cm U) : ∀ s, s < 6 → (ws s 14).toNatClampNeg ≤ nt := h.2.2.2.2.2.2.2.2.2
noncomputable abbrev QC (vc wc : Nat → Nat → Int32) (tx : Nat → Nat → Int32) (nt lm cm : Nat) : Prop := (∀ c k, c < cm → k < 9 → k ≠ 2 → vc c k = wc c k) ∧ (∀ c, c < cm → ∃ l, l < lm ∧ wc c 0 = nI l) ∧ (∀ c, c < cm → ∃ a, a < 5 ∧ wc c 3 = nI a) ∧ (∀ c, c < cm → wc c 8 = nI 0 ∨ (wc c 8 = nI 1 ∧ wc c 3 = nI 0)) ∧ (∀ c, c < cm → ∃ t n, 1 ≤ t ∧ t ≤ nt ∧ wc c 2 = nI t ∧ tx t 0 = nI n ∧ 1 ≤ n ∧ n ≤ 16 ∧ vc c 2 = nI n ∧ ∀ k, k < n → vc c (9 + k) = tx t (1 + k) ∧ ∃ a, a < 26 ∧ tx t (1 + k) = nI a) ∧ (∀ c, c < 30 → (wc c 2).toNatClampNeg ≤ nt)
theorem QC.eqc {vc wc : Nat → Nat → Int32} {tx : Nat → Nat → Int32} {nt lm cm : Nat} (h : QC vc wc tx nt lm cm) : ∀ c k, c < cm → k < 9 → k ≠ 2 → vc c k = wc c k := h.1
theorem QC.lot {vc wc : Nat → Nat → Int32} {tx : Nat → Nat → Int32} {nt lm cm : Nat} (h : QC vc wc tx nt lm cm) : ∀ c, c < cm → ∃ l, l < lm ∧ wc c 0 = nI l := h.2.1
theorem QC.state {vc wc : Nat → Nat → Int32} {tx : Nat → Nat → Int32} {nt lm cm : Nat} (h : QC vc wc tx nt lm cm) : ∀ c, c < cm → ∃ a, a < 5 ∧ wc c 3 = nI a := h.2.2.1
theorem QC.rush {vc wc : Nat → Nat → Int32} {tx : Nat → Nat → Int32} {nt lm cm : Nat} (h : QC vc wc tx nt lm cm) : ∀ c, c < cm → wc c 8 = nI 0 ∨ (wc c 8 = nI 1 ∧ wc c 3 = nI 0) := h.2.2.2.1
theorem QC.text {vc wc : Nat → Nat → Int32} {tx : Nat → Nat → Int32} {nt lm cm : Nat} (h : QC vc wc tx nt lm cm) : ∀ c, c < cm → ∃ t n, 1 ≤ t ∧ t ≤ nt ∧ wc c 2 = nI t ∧ tx t 0 = nI n ∧ 1 ≤ n ∧ n ≤ 16 ∧ vc c 2 = nI n ∧ ∀ k, k < n → vc c (9 + k) = tx t (1 + k) ∧ ∃ a, a < 26 ∧ tx t (1 + k) = nI a := h.2.2.2.2.1
theorem QC.ti {vc wc : Nat → Nat → Int32} {tx : Nat → Nat → Int32} {nt lm cm : Nat} (h : QC vc wc tx nt lm cm) : ∀ c, c < 30 → (wc c 2).toNatClampNeg ≤ nt := h.2.2.2.2.2
noncomputable def stC (wc : Nat → Nat → Int32) (a : Nat) : Nat → Bool := fun c => decide (wc c 3 = nI a)
noncomputable def loC (wc : Nat → Nat → Int32) (l : Nat) : Nat → Bool := fun c => decide (wc c 0 = nI l)
noncomputable def lsC (wc : Nat → Nat → Int32) (l a : Nat) : Nat → Bool := fun c => decide (wc c 0 = nI l ∧ wc c 3 = nI a)
noncomputable def suC (wc : Nat → Nat → Int32) (l k : Nat) : Nat → Int32 := fun c => if wc c 0 = nI l then wc c k else nI 0
noncomputable abbrev QN (va vf wf : Nat → Int32) (wc : Nat → Nat → Int32) (iv : Nat → Int32) (cm : Nat) : Prop := (∀ a, a < 5 → iv a = nI (cnt cm (stC wc a))) ∧ (va 10 = iv 3) ∧ (∀ i, i < cnt cm (stC wc 3) → vf i = wf i)
theorem QN.ins {va vf wf : Nat → Int32} {wc : Nat → Nat → Int32} {iv : Nat → Int32} {cm : Nat} (h : QN va vf wf wc iv cm) : ∀ a, a < 5 → iv a = nI (cnt cm (stC wc a)) := h.1
theorem QN.nl {va vf wf : Nat → Int32} {wc : Nat → Nat → Int32} {iv : Nat → Int32} {cm : Nat} (h : QN va vf wf wc iv cm) : va 10 = iv 3 := h.2.1
theorem QN.left {va vf wf : Nat → Int32} {wc : Nat → Nat → Int32} {iv : Nat → Int32} {cm : Nat} (h : QN va vf wf wc iv cm) : ∀ i, i < cnt cm (stC wc 3) → vf i = wf i := h.2.2
noncomputable def fin (wc : Nat → Nat → Int32) (c : Nat) : Prop := wc c 3 = nI 3 ∨ wc c 3 = nI 4
noncomputable abbrev QL (vl wl we wc : Nat → Nat → Int32) (bp : Nat → Nat → Int32) (lm cm : Nat) : Prop := (∀ l k, l < lm → k < 4 → vl l k = wl l k) ∧ (∀ l, l < lm → ∃ p, p ≤ 9 ∧ wl l 0 = nI p) ∧ (∀ l, l < lm → we l 1 = nI (cnt cm (lsC wc l 3))) ∧ (∀ l, l < lm → we l 2 = nI (cnt cm (lsC wc l 4))) ∧ (∀ l, l < lm → we l 3 = sumI cm (suC wc l 5)) ∧ (∀ l, l < lm → we l 4 = sumI cm (suC wc l 6)) ∧ (∀ l, l < lm → wl l 1 = nI (cnt cm (loC wc l))) ∧ (∀ l, l < lm → ∀ p, p < cnt cm (loC wc l) → ∃ c, c < cm ∧ bp l p = nI c ∧ wc c 0 = nI l ∧ wc c 1 = nI p) ∧ (∀ l c, l < lm → c < cm → wc c 0 = nI l → ∃ p, p < cnt cm (loC wc l) ∧ wc c 1 = nI p ∧ bp l p = nI c) ∧ (∀ l, l < lm → ∃ q, q ≤ cnt cm (loC wc l) ∧ we l 0 = nI q ∧ (∀ p c, p < q → c < cm → bp l p = nI c → fin wc c) ∧ (∀ c, q < cnt cm (loC wc l) → c < cm → bp l q = nI c → ¬ fin wc c))
theorem QL.eql {vl wl we wc : Nat → Nat → Int32} {bp : Nat → Nat → Int32} {lm cm : Nat} (h : QL vl wl we wc bp lm cm) : ∀ l k, l < lm → k < 4 → vl l k = wl l k := h.1
theorem QL.rank {vl wl we wc : Nat → Nat → Int32} {bp : Nat → Nat → Int32} {lm cm : Nat} (h : QL vl wl we wc bp lm cm) : ∀ l, l < lm → ∃ p, p ≤ 9 ∧ wl l 0 = nI p := h.2.1
theorem QL.left {vl wl we wc : Nat → Nat → Int32} {bp : Nat → Nat → Int32} {lm cm : Nat} (h : QL vl wl we wc bp lm cm) : ∀ l, l < lm → we l 1 = nI (cnt cm (lsC wc l 3)) := h.2.2.1
theorem QL.gave {vl wl we wc : Nat → Nat → Int32} {bp : Nat → Nat → Int32} {lm cm : Nat} (h : QL vl wl we wc bp lm cm) : ∀ l, l < lm → we l 2 = nI (cnt cm (lsC wc l 4)) := h.2.2.2.1
theorem QL.fails {vl wl we wc : Nat → Nat → Int32} {bp : Nat → Nat → Int32} {lm cm : Nat} (h : QL vl wl we wc bp lm cm) : ∀ l, l < lm → we l 3 = sumI cm (suC wc l 5) := h.2.2.2.2.1
theorem QL.scraps {vl wl we wc : Nat → Nat → Int32} {bp : Nat → Nat → Int32} {lm cm : Nat} (h : QL vl wl we wc bp lm cm) : ∀ l, l < lm → we l 4 = sumI cm (suC wc l 6) := h.2.2.2.2.2.1
theorem QL.size {vl wl we wc : Nat → Nat → Int32} {bp : Nat → Nat → Int32} {lm cm : Nat} (h : QL vl wl we wc bp lm cm) : ∀ l, l < lm → wl l 1 = nI (cnt cm (loC wc l)) := h.2.2.2.2.2.2.1
theorem QL.byp {vl wl we wc : Nat → Nat → Int32} {bp : Nat → Nat → Int32} {lm cm : Nat} (h : QL vl wl we wc bp lm cm) : ∀ l, l < lm → ∀ p, p < cnt cm (loC wc l) → ∃ c, c < cm ∧ bp l p = nI c ∧ wc c 0 = nI l ∧ wc c 1 = nI p := h.2.2.2.2.2.2.2.1
theorem QL.place {vl wl we wc : Nat → Nat → Int32} {bp : Nat → Nat → Int32} {lm cm : Nat} (h : QL vl wl we wc bp lm cm) : ∀ l c, l < lm → c < cm → wc c 0 = nI l → ∃ p, p < cnt cm (loC wc l) ∧ wc c 1 = nI p ∧ bp l p = nI c := h.2.2.2.2.2.2.2.2.1
theorem QL.next {vl wl we wc : Nat → Nat → Int32} {bp : Nat → Nat → Int32} {lm cm : Nat} (h : QL vl wl we wc bp lm cm) : ∀ l, l < lm → ∃ q, q ≤ cnt cm (loC wc l) ∧ we l 0 = nI q ∧ (∀ p c, p < q → c < cm → bp l p = nI c → fin wc c) ∧ (∀ c, q < cnt cm (loC wc l) → c < cm → bp l q = nI c → ¬ fin wc c) := h.2.2.2.2.2.2.2.2.2
noncomputable def QW (wc : Nat → Nat → Int32) (cm : Nat) : Prop := ∀ c, c < cm → wc c 3 = nI 1 ∨ wc c 4 = m1
noncomputable abbrev QD (va vp wa : Nat → Int32) (dl df : Nat → Nat → Int32) (lm : Nat) : Prop := (∀ d t, d < 2 ^ 31 → t < 2 ^ 31 → wa 0 = nI d → wa 6 = nI t → va 11 = nI (min 10 (t / d))) ∧ (∀ d t l i, d < 2 ^ 31 → t < 2 ^ 31 → wa 0 = nI d → wa 6 = nI t → l < lm → i < min 10 (t / d) → vp (12 * i + 2 * l) = dl l ((t / d - 1 - i) % 10) ∧ vp (12 * i + 2 * l + 1) = df l ((t / d - 1 - i) % 10))
theorem QD.many {va vp wa : Nat → Int32} {dl df : Nat → Nat → Int32} {lm : Nat} (h : QD va vp wa dl df lm) : ∀ d t, d < 2 ^ 31 → t < 2 ^ 31 → wa 0 = nI d → wa 6 = nI t → va 11 = nI (min 10 (t / d)) := h.1
theorem QD.ring {va vp wa : Nat → Int32} {dl df : Nat → Nat → Int32} {lm : Nat} (h : QD va vp wa dl df lm) : ∀ d t l i, d < 2 ^ 31 → t < 2 ^ 31 → wa 0 = nI d → wa 6 = nI t → l < lm → i < min 10 (t / d) → vp (12 * i + 2 * l) = dl l ((t / d - 1 - i) % 10) ∧ vp (12 * i + 2 * l + 1) = df l ((t / d - 1 - i) % 10) := h.2
noncomputable abbrev QR (v w iv : Nat → Int32) (bp dl df tx : Nat → Nat → Int32) (nt sm lm cm B U : Nat) : Prop := (QA (sA v) (sA w) sm lm cm B) ∧ (QS (sS v) (sS w) (sC w) tx nt sm cm U) ∧ (QC (sC v) (sC w) tx nt lm cm) ∧ (QN (sA v) (sF v) (sF w) (sC w) iv cm) ∧ (QL (sL v) (sL w) (sE w) (sC w) bp lm cm) ∧ (QD (sA v) (sP v) (sA w) dl df lm) ∧ (QW (sC w) cm)
theorem QR.a {v w iv : Nat → Int32} {bp dl df tx : Nat → Nat → Int32} {nt sm lm cm B U : Nat} (h : QR v w iv bp dl df tx nt sm lm cm B U) : QA (sA v) (sA w) sm lm cm B := h.1
theorem QR.s {v w iv : Nat → Int32} {bp dl df tx : Nat → Nat → Int32} {nt sm lm cm B U : Nat} (h : QR v w iv bp dl df tx nt sm lm cm B U) : QS (sS v) (sS w) (sC w) tx nt sm cm U := h.2.1
theorem QR.c {v w iv : Nat → Int32} {bp dl df tx : Nat → Nat → Int32} {nt sm lm cm B U : Nat} (h : QR v w iv bp dl df tx nt sm lm cm B U) : QC (sC v) (sC w) tx nt lm cm := h.2.2.1
theorem QR.n {v w iv : Nat → Int32} {bp dl df tx : Nat → Nat → Int32} {nt sm lm cm B U : Nat} (h : QR v w iv bp dl df tx nt sm lm cm B U) : QN (sA v) (sF v) (sF w) (sC w) iv cm := h.2.2.2.1
theorem QR.l {v w iv : Nat → Int32} {bp dl df tx : Nat → Nat → Int32} {nt sm lm cm B U : Nat} (h : QR v w iv bp dl df tx nt sm lm cm B U) : QL (sL v) (sL w) (sE w) (sC w) bp lm cm := h.2.2.2.2.1
theorem QR.d {v w iv : Nat → Int32} {bp dl df tx : Nat → Nat → Int32} {nt sm lm cm B U : Nat} (h : QR v w iv bp dl df tx nt sm lm cm B U) : QD (sA v) (sP v) (sA w) dl df lm := h.2.2.2.2.2.1
theorem QR.wh {v w iv : Nat → Int32} {bp dl df tx : Nat → Nat → Int32} {nt sm lm cm B U : Nat} (h : QR v w iv bp dl df tx nt sm lm cm B U) : QW (sC w) cm := h.2.2.2.2.2.2
