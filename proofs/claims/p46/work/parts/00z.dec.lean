noncomputable def dL (c : ByteArray) (p : Nat) : List UInt8 := c.data.toList.drop p
theorem dcBind {α β : Type} {r : _root_.Jvm.ClassFile.Decoder α} {f : α → _root_.Jvm.ClassFile.Decoder β} {b : ByteArray} {p : Nat} : (r >>= f) b p = (Except.bind (r b p) fun v => f v.1 b v.2) := rfl
theorem dcU1 {b : ByteArray} {p : Nat} : (_root_.Jvm.ClassFile.Reader.u1 : _root_.Jvm.ClassFile.Decoder Nat) b p = if h : p < b.size then .ok ((b[p]'h).toNat, p + 1) else .error (.truncated p) := by
  by_cases hp : p < b.size
  · rw [dif_pos hp]
    show (dite (p < b.size) (fun h => (do set (p + 1); pure (b[p]'h).toNat : _root_.Jvm.ClassFile.Decoder Nat)) (fun _ => throw (_root_.Jvm.ClassFile.HasTruncated.truncated p))) b p = _
    rw [dif_pos hp]
    rfl
  · rw [dif_neg hp]
    show (dite (p < b.size) (fun h => (do set (p + 1); pure (b[p]'h).toNat : _root_.Jvm.ClassFile.Decoder Nat)) (fun _ => throw (_root_.Jvm.ClassFile.HasTruncated.truncated p))) b p = _
    rw [dif_neg hp]
    rfl
theorem dcAt {b : ByteArray} {p : Nat} {x : UInt8} {r : List UInt8} (h : dL b p = x :: r) : (_root_.Jvm.ClassFile.Reader.u1 : _root_.Jvm.ClassFile.Decoder Nat) b p = .ok (x.toNat, p + 1) ∧ dL b (p + 1) = r := by
  obtain ⟨b⟩ := b
  have h1 : b.toList.drop p = x :: r := h
  have e : b.toList[p]? = some x := by
    have e0 := congrArg (fun l : List UInt8 => l[0]?) h1
    simpa [List.getElem?_drop] using e0
  obtain ⟨a1, a2⟩ := List.getElem?_eq_some_iff.mp e
  constructor
  · rw [dcU1]
    have hp : p < (ByteArray.mk b).size := a1
    rw [dif_pos hp]
    have a3 : b.toList[p]'a1 = x := a2
    rw [Array.getElem_toList] at a3
    have a4 : (ByteArray.mk b)[p]'hp = x := a3
    rw [a4]
  · show b.toList.drop (p + 1) = r
    rw [← List.drop_drop, h1]
    rfl
theorem dcU2 {b : ByteArray} {p : Nat} {x y : UInt8} {r : List UInt8} (h : dL b p = x :: y :: r) : (_root_.Jvm.ClassFile.Reader.u2 : _root_.Jvm.ClassFile.Decoder Nat) b p = .ok (x.toNat * 256 + y.toNat, p + 1 + 1) := by
  obtain ⟨h1, h2⟩ := dcAt h
  obtain ⟨h3, -⟩ := dcAt h2
  unfold _root_.Jvm.ClassFile.Reader.u2
  rw [dcBind, h1]
  show (_root_.Jvm.ClassFile.Reader.u1 >>= fun lo => pure (x.toNat * 256 + lo) : _root_.Jvm.ClassFile.Decoder Nat) b (p + 1) = _
  rw [dcBind, h3]
  rfl
theorem dcS1 {b : ByteArray} {p : Nat} {x : UInt8} {r : List UInt8} (h : dL b p = x :: r) : (_root_.Jvm.ClassFile.Reader.s1 : _root_.Jvm.ClassFile.Decoder Int) b p = .ok (_root_.Jvm.ClassFile.Reader.signed 8 x.toNat, p + 1) := by
  unfold _root_.Jvm.ClassFile.Reader.s1
  rw [map_eq_pure_bind, dcBind, (dcAt h).1]
  rfl
theorem dcS2 {b : ByteArray} {p : Nat} {x y : UInt8} {r : List UInt8} (h : dL b p = x :: y :: r) : (_root_.Jvm.ClassFile.Reader.s2 : _root_.Jvm.ClassFile.Decoder Int) b p = .ok (_root_.Jvm.ClassFile.Reader.signed 16 (x.toNat * 256 + y.toNat), p + 1 + 1) := by
  unfold _root_.Jvm.ClassFile.Reader.s2
  rw [map_eq_pure_bind, dcBind, dcU2 h]
  rfl
theorem dcDec {c : ByteArray} {pc q n : Nat} {i : _root_.Jvm.ClassFile.Instr} (h : _root_.Jvm.ClassFile.Decoder.instr pc c pc = .ok (i, q)) (hq : q = pc + n) : decode c pc = .ok (i, n) := by
  have e : decode c pc = (Except.bind (_root_.Jvm.ClassFile.Decoder.instr pc c pc) fun v => .ok (v.1, v.2 - pc)) := rfl
  rw [e, h, hq]
  show (Except.ok (i, pc + n - pc) : Except _root_.Jvm.ClassFile.DecodeError (_root_.Jvm.ClassFile.Instr × Nat)) = _
  rw [Nat.add_sub_cancel_left]
noncomputable def dB0 (l : List UInt8) (op : Nat) : Bool := match l with
  | x :: _ => x.toNat == op
  | _ => false
noncomputable def dB1 (l : List UInt8) (op v : Nat) : Bool := match l with
  | x :: y :: _ => x.toNat == op && y.toNat == v
  | _ => false
noncomputable def dB2 (l : List UInt8) (op v : Nat) : Bool := match l with
  | x :: y :: z :: _ => x.toNat == op && y.toNat * 256 + z.toNat == v
  | _ => false
noncomputable def dBs1 (l : List UInt8) (op : Nat) (v : Int) : Bool := match l with
  | x :: y :: _ => x.toNat == op && _root_.Jvm.ClassFile.Reader.signed 8 y.toNat == v
  | _ => false
noncomputable def dBs2 (l : List UInt8) (op : Nat) (v : Int) : Bool := match l with
  | x :: y :: z :: _ => x.toNat == op && _root_.Jvm.ClassFile.Reader.signed 16 (y.toNat * 256 + z.toNat) == v
  | _ => false
noncomputable def dBi (l : List UInt8) (op a : Nat) (v : Int) : Bool := match l with
  | x :: y :: z :: _ => x.toNat == op && (y.toNat == a && _root_.Jvm.ClassFile.Reader.signed 8 z.toNat == v)
  | _ => false
theorem dB0_e {l : List UInt8} {op : Nat} (h : dB0 l op = true) : ∃ x r, l = x :: r ∧ x.toNat = op := by
  unfold dB0 at h; split at h
  · exact ⟨_, _, rfl, eq_of_beq h⟩
  · cases h
theorem dB1_e {l : List UInt8} {op v : Nat} (h : dB1 l op v = true) : ∃ x y r, l = x :: y :: r ∧ x.toNat = op ∧ y.toNat = v := by
  unfold dB1 at h; split at h
  · obtain ⟨a, b⟩ := Bool.and_eq_true_iff.mp h
    exact ⟨_, _, _, rfl, eq_of_beq a, eq_of_beq b⟩
  · cases h
theorem dB2_e {l : List UInt8} {op v : Nat} (h : dB2 l op v = true) : ∃ x y z r, l = x :: y :: z :: r ∧ x.toNat = op ∧ y.toNat * 256 + z.toNat = v := by
  unfold dB2 at h; split at h
  · obtain ⟨a, b⟩ := Bool.and_eq_true_iff.mp h
    exact ⟨_, _, _, _, rfl, eq_of_beq a, eq_of_beq b⟩
  · cases h
theorem dBs1_e {l : List UInt8} {op : Nat} {v : Int} (h : dBs1 l op v = true) : ∃ x y r, l = x :: y :: r ∧ x.toNat = op ∧ _root_.Jvm.ClassFile.Reader.signed 8 y.toNat = v := by
  unfold dBs1 at h; split at h
  · obtain ⟨a, b⟩ := Bool.and_eq_true_iff.mp h
    exact ⟨_, _, _, rfl, eq_of_beq a, eq_of_beq b⟩
  · cases h
theorem dBs2_e {l : List UInt8} {op : Nat} {v : Int} (h : dBs2 l op v = true) : ∃ x y z r, l = x :: y :: z :: r ∧ x.toNat = op ∧ _root_.Jvm.ClassFile.Reader.signed 16 (y.toNat * 256 + z.toNat) = v := by
  unfold dBs2 at h; split at h
  · obtain ⟨a, b⟩ := Bool.and_eq_true_iff.mp h
    exact ⟨_, _, _, _, rfl, eq_of_beq a, eq_of_beq b⟩
  · cases h
theorem dBi_e {l : List UInt8} {op a : Nat} {v : Int} (h : dBi l op a v = true) : ∃ x y z r, l = x :: y :: z :: r ∧ x.toNat = op ∧ y.toNat = a ∧ _root_.Jvm.ClassFile.Reader.signed 8 z.toNat = v := by
  unfold dBi at h; split at h
  · obtain ⟨a, b⟩ := Bool.and_eq_true_iff.mp h
    obtain ⟨b, d⟩ := Bool.and_eq_true_iff.mp b
    exact ⟨_, _, _, _, rfl, eq_of_beq a, eq_of_beq b, eq_of_beq d⟩
  · cases h
noncomputable def dcSub (b : List UInt8) (c : ByteArray) (o : Nat) : Bool := decide ((c.data.toList.drop o).take b.length = b)
theorem dcP {b : List UInt8} {c : ByteArray} {o p : Nat} (h : dcSub b c o = true) : p ≤ b.length → ∃ r, dL c (o + p) = b.drop p ++ r := by
  intro hp
  have e : (c.data.toList.drop o).take b.length = b := of_decide_eq_true h
  refine ⟨(c.data.toList.drop o).drop b.length, ?_⟩
  show c.data.toList.drop (o + p) = _
  rw [← List.drop_drop]
  have e2 := (List.take_append_drop b.length (c.data.toList.drop o)).symm
  rw [e] at e2
  rw [e2, List.drop_append_of_le_length hp]
  simp
theorem dB0_p {b : List UInt8} {c : ByteArray} {o p op : Nat} (hs : dcSub b c o = true) (h : dB0 (b.drop p) op = true) : dB0 (dL c (o + p)) op = true := by
  obtain ⟨x, r, e, -⟩ := dB0_e h
  have hp : p ≤ b.length := by
    refine Nat.le_of_not_lt fun q => ?_
    rw [List.drop_eq_nil_of_le (Nat.le_of_lt q)] at e; cases e
  obtain ⟨r2, e2⟩ := dcP hs hp
  rw [e2, e]; rw [e] at h; exact h
theorem dB1_p {b : List UInt8} {c : ByteArray} {o p op v : Nat} (hs : dcSub b c o = true) (h : dB1 (b.drop p) op v = true) : dB1 (dL c (o + p)) op v = true := by
  obtain ⟨x, y, r, e, -⟩ := dB1_e h
  have hp : p ≤ b.length := by
    refine Nat.le_of_not_lt fun q => ?_
    rw [List.drop_eq_nil_of_le (Nat.le_of_lt q)] at e; cases e
  obtain ⟨r2, e2⟩ := dcP hs hp
  rw [e2, e]; rw [e] at h; exact h
theorem dB2_p {b : List UInt8} {c : ByteArray} {o p op v : Nat} (hs : dcSub b c o = true) (h : dB2 (b.drop p) op v = true) : dB2 (dL c (o + p)) op v = true := by
  obtain ⟨x, y, z, r, e, -⟩ := dB2_e h
  have hp : p ≤ b.length := by
    refine Nat.le_of_not_lt fun q => ?_
    rw [List.drop_eq_nil_of_le (Nat.le_of_lt q)] at e; cases e
  obtain ⟨r2, e2⟩ := dcP hs hp
  rw [e2, e]; rw [e] at h; exact h
theorem dBs1_p {b : List UInt8} {c : ByteArray} {o p op : Nat} {v : Int} (hs : dcSub b c o = true) (h : dBs1 (b.drop p) op v = true) : dBs1 (dL c (o + p)) op v = true := by
  obtain ⟨x, y, r, e, -⟩ := dBs1_e h
  have hp : p ≤ b.length := by
    refine Nat.le_of_not_lt fun q => ?_
    rw [List.drop_eq_nil_of_le (Nat.le_of_lt q)] at e; cases e
  obtain ⟨r2, e2⟩ := dcP hs hp
  rw [e2, e]; rw [e] at h; exact h
theorem dBs2_p {b : List UInt8} {c : ByteArray} {o p op : Nat} {v : Int} (hs : dcSub b c o = true) (h : dBs2 (b.drop p) op v = true) : dBs2 (dL c (o + p)) op v = true := by
  obtain ⟨x, y, z, r, e, -⟩ := dBs2_e h
  have hp : p ≤ b.length := by
    refine Nat.le_of_not_lt fun q => ?_
    rw [List.drop_eq_nil_of_le (Nat.le_of_lt q)] at e; cases e
  obtain ⟨r2, e2⟩ := dcP hs hp
  rw [e2, e]; rw [e] at h; exact h
theorem dBi_p {b : List UInt8} {c : ByteArray} {o p op a : Nat} {v : Int} (hs : dcSub b c o = true) (h : dBi (b.drop p) op a v = true) : dBi (dL c (o + p)) op a v = true := by
  obtain ⟨x, y, z, r, e, -⟩ := dBi_e h
  have hp : p ≤ b.length := by
    refine Nat.le_of_not_lt fun q => ?_
    rw [List.drop_eq_nil_of_le (Nat.le_of_lt q)] at e; cases e
  obtain ⟨r2, e2⟩ := dcP hs hp
  rw [e2, e]; rw [e] at h; exact h
set_option maxRecDepth 20000 in
theorem d_2 {c : ByteArray} {pc : Nat} (h : dB0 (dL c pc) 2 = true) : decode c pc = .ok ((.iconst (-1)), 1) := by
  obtain ⟨x, r, e, e1⟩ := dB0_e h
  refine dcDec (q := pc + 1) ?_ rfl
  unfold _root_.Jvm.ClassFile.Decoder.instr
  rw [dcBind, (dcAt e).1, e1]
  rfl
set_option maxRecDepth 20000 in
theorem d_3 {c : ByteArray} {pc : Nat} (h : dB0 (dL c pc) 3 = true) : decode c pc = .ok ((.iconst 0), 1) := by
  obtain ⟨x, r, e, e1⟩ := dB0_e h
  refine dcDec (q := pc + 1) ?_ rfl
  unfold _root_.Jvm.ClassFile.Decoder.instr
  rw [dcBind, (dcAt e).1, e1]
  rfl
set_option maxRecDepth 20000 in
theorem d_4 {c : ByteArray} {pc : Nat} (h : dB0 (dL c pc) 4 = true) : decode c pc = .ok ((.iconst 1), 1) := by
  obtain ⟨x, r, e, e1⟩ := dB0_e h
  refine dcDec (q := pc + 1) ?_ rfl
  unfold _root_.Jvm.ClassFile.Decoder.instr
  rw [dcBind, (dcAt e).1, e1]
  rfl
set_option maxRecDepth 20000 in
theorem d_5 {c : ByteArray} {pc : Nat} (h : dB0 (dL c pc) 5 = true) : decode c pc = .ok ((.iconst 2), 1) := by
  obtain ⟨x, r, e, e1⟩ := dB0_e h
  refine dcDec (q := pc + 1) ?_ rfl
  unfold _root_.Jvm.ClassFile.Decoder.instr
  rw [dcBind, (dcAt e).1, e1]
  rfl
set_option maxRecDepth 20000 in
theorem d_6 {c : ByteArray} {pc : Nat} (h : dB0 (dL c pc) 6 = true) : decode c pc = .ok ((.iconst 3), 1) := by
  obtain ⟨x, r, e, e1⟩ := dB0_e h
  refine dcDec (q := pc + 1) ?_ rfl
  unfold _root_.Jvm.ClassFile.Decoder.instr
  rw [dcBind, (dcAt e).1, e1]
  rfl
set_option maxRecDepth 20000 in
theorem d_7 {c : ByteArray} {pc : Nat} (h : dB0 (dL c pc) 7 = true) : decode c pc = .ok ((.iconst 4), 1) := by
  obtain ⟨x, r, e, e1⟩ := dB0_e h
  refine dcDec (q := pc + 1) ?_ rfl
  unfold _root_.Jvm.ClassFile.Decoder.instr
  rw [dcBind, (dcAt e).1, e1]
  rfl
set_option maxRecDepth 20000 in
theorem d_8 {c : ByteArray} {pc : Nat} (h : dB0 (dL c pc) 8 = true) : decode c pc = .ok ((.iconst 5), 1) := by
  obtain ⟨x, r, e, e1⟩ := dB0_e h
  refine dcDec (q := pc + 1) ?_ rfl
  unfold _root_.Jvm.ClassFile.Decoder.instr
  rw [dcBind, (dcAt e).1, e1]
  rfl
set_option maxRecDepth 20000 in
theorem d_9 {c : ByteArray} {pc : Nat} (h : dB0 (dL c pc) 9 = true) : decode c pc = .ok ((.lconst 0), 1) := by
  obtain ⟨x, r, e, e1⟩ := dB0_e h
  refine dcDec (q := pc + 1) ?_ rfl
  unfold _root_.Jvm.ClassFile.Decoder.instr
  rw [dcBind, (dcAt e).1, e1]
  rfl
set_option maxRecDepth 20000 in
theorem d_10 {c : ByteArray} {pc : Nat} (h : dB0 (dL c pc) 10 = true) : decode c pc = .ok ((.lconst 1), 1) := by
  obtain ⟨x, r, e, e1⟩ := dB0_e h
  refine dcDec (q := pc + 1) ?_ rfl
  unfold _root_.Jvm.ClassFile.Decoder.instr
  rw [dcBind, (dcAt e).1, e1]
  rfl
set_option maxRecDepth 20000 in
theorem d_11 {c : ByteArray} {pc : Nat} (h : dB0 (dL c pc) 11 = true) : decode c pc = .ok ((.fconst 0), 1) := by
  obtain ⟨x, r, e, e1⟩ := dB0_e h
  refine dcDec (q := pc + 1) ?_ rfl
  unfold _root_.Jvm.ClassFile.Decoder.instr
  rw [dcBind, (dcAt e).1, e1]
  rfl
set_option maxRecDepth 20000 in
theorem d_14 {c : ByteArray} {pc : Nat} (h : dB0 (dL c pc) 14 = true) : decode c pc = .ok ((.dconst 0), 1) := by
  obtain ⟨x, r, e, e1⟩ := dB0_e h
  refine dcDec (q := pc + 1) ?_ rfl
  unfold _root_.Jvm.ClassFile.Decoder.instr
  rw [dcBind, (dcAt e).1, e1]
  rfl
set_option maxRecDepth 20000 in
theorem d_16 {c : ByteArray} {pc : Nat} {v : Int} (h : dBs1 (dL c pc) 16 v = true) : decode c pc = .ok (.bipush v, 2) := by
  obtain ⟨x, y, r, e, e1, e2⟩ := dBs1_e h
  refine dcDec (q := pc + 2) ?_ rfl
  unfold _root_.Jvm.ClassFile.Decoder.instr
  rw [dcBind, (dcAt e).1, e1]
  show (_root_.Jvm.ClassFile.Reader.s1 >>= fun a => pure (.bipush a) : _root_.Jvm.ClassFile.Decoder _root_.Jvm.ClassFile.Instr) c (pc + 1) = _
  rw [dcBind, dcS1 (dcAt e).2, e2]
  rfl
set_option maxRecDepth 20000 in
theorem d_17 {c : ByteArray} {pc : Nat} {v : Int} (h : dBs2 (dL c pc) 17 v = true) : decode c pc = .ok (.sipush v, 3) := by
  obtain ⟨x, y, z, r, e, e1, e2⟩ := dBs2_e h
  refine dcDec (q := pc + 3) ?_ rfl
  unfold _root_.Jvm.ClassFile.Decoder.instr
  rw [dcBind, (dcAt e).1, e1]
  show (_root_.Jvm.ClassFile.Reader.s2 >>= fun a => pure (.sipush a) : _root_.Jvm.ClassFile.Decoder _root_.Jvm.ClassFile.Instr) c (pc + 1) = _
  rw [dcBind, dcS2 (dcAt e).2, e2]
  rfl
set_option maxRecDepth 20000 in
theorem d_18 {c : ByteArray} {pc v : Nat} (h : dB1 (dL c pc) 18 v = true) : decode c pc = .ok (.ldc v, 2) := by
  obtain ⟨x, y, r, e, e1, e2⟩ := dB1_e h
  refine dcDec (q := pc + 2) ?_ rfl
  unfold _root_.Jvm.ClassFile.Decoder.instr
  rw [dcBind, (dcAt e).1, e1]
  show (_root_.Jvm.ClassFile.Reader.u1 >>= fun a => pure (.ldc a) : _root_.Jvm.ClassFile.Decoder _root_.Jvm.ClassFile.Instr) c (pc + 1) = _
  rw [dcBind, (dcAt (dcAt e).2).1, e2]
  rfl
set_option maxRecDepth 20000 in
theorem d_19 {c : ByteArray} {pc v : Nat} (h : dB2 (dL c pc) 19 v = true) : decode c pc = .ok (.ldc_w v, 3) := by
  obtain ⟨x, y, z, r, e, e1, e2⟩ := dB2_e h
  refine dcDec (q := pc + 3) ?_ rfl
  unfold _root_.Jvm.ClassFile.Decoder.instr
  rw [dcBind, (dcAt e).1, e1]
  show (_root_.Jvm.ClassFile.Reader.u2 >>= fun a => pure (.ldc_w a) : _root_.Jvm.ClassFile.Decoder _root_.Jvm.ClassFile.Instr) c (pc + 1) = _
  rw [dcBind, dcU2 (dcAt e).2, e2]
  rfl
set_option maxRecDepth 20000 in
theorem d_20 {c : ByteArray} {pc v : Nat} (h : dB2 (dL c pc) 20 v = true) : decode c pc = .ok (.ldc2_w v, 3) := by
  obtain ⟨x, y, z, r, e, e1, e2⟩ := dB2_e h
  refine dcDec (q := pc + 3) ?_ rfl
  unfold _root_.Jvm.ClassFile.Decoder.instr
  rw [dcBind, (dcAt e).1, e1]
  show (_root_.Jvm.ClassFile.Reader.u2 >>= fun a => pure (.ldc2_w a) : _root_.Jvm.ClassFile.Decoder _root_.Jvm.ClassFile.Instr) c (pc + 1) = _
  rw [dcBind, dcU2 (dcAt e).2, e2]
  rfl
set_option maxRecDepth 20000 in
theorem d_21 {c : ByteArray} {pc v : Nat} (h : dB1 (dL c pc) 21 v = true) : decode c pc = .ok (.iload v, 2) := by
  obtain ⟨x, y, r, e, e1, e2⟩ := dB1_e h
  refine dcDec (q := pc + 2) ?_ rfl
  unfold _root_.Jvm.ClassFile.Decoder.instr
  rw [dcBind, (dcAt e).1, e1]
  show (_root_.Jvm.ClassFile.Reader.u1 >>= fun a => pure (.iload a) : _root_.Jvm.ClassFile.Decoder _root_.Jvm.ClassFile.Instr) c (pc + 1) = _
  rw [dcBind, (dcAt (dcAt e).2).1, e2]
  rfl
set_option maxRecDepth 20000 in
theorem d_22 {c : ByteArray} {pc v : Nat} (h : dB1 (dL c pc) 22 v = true) : decode c pc = .ok (.lload v, 2) := by
  obtain ⟨x, y, r, e, e1, e2⟩ := dB1_e h
  refine dcDec (q := pc + 2) ?_ rfl
  unfold _root_.Jvm.ClassFile.Decoder.instr
  rw [dcBind, (dcAt e).1, e1]
  show (_root_.Jvm.ClassFile.Reader.u1 >>= fun a => pure (.lload a) : _root_.Jvm.ClassFile.Decoder _root_.Jvm.ClassFile.Instr) c (pc + 1) = _
  rw [dcBind, (dcAt (dcAt e).2).1, e2]
  rfl
set_option maxRecDepth 20000 in
theorem d_25 {c : ByteArray} {pc v : Nat} (h : dB1 (dL c pc) 25 v = true) : decode c pc = .ok (.aload v, 2) := by
  obtain ⟨x, y, r, e, e1, e2⟩ := dB1_e h
  refine dcDec (q := pc + 2) ?_ rfl
  unfold _root_.Jvm.ClassFile.Decoder.instr
  rw [dcBind, (dcAt e).1, e1]
  show (_root_.Jvm.ClassFile.Reader.u1 >>= fun a => pure (.aload a) : _root_.Jvm.ClassFile.Decoder _root_.Jvm.ClassFile.Instr) c (pc + 1) = _
  rw [dcBind, (dcAt (dcAt e).2).1, e2]
  rfl
set_option maxRecDepth 20000 in
theorem d_26 {c : ByteArray} {pc : Nat} (h : dB0 (dL c pc) 26 = true) : decode c pc = .ok ((.iload_n 0), 1) := by
  obtain ⟨x, r, e, e1⟩ := dB0_e h
  refine dcDec (q := pc + 1) ?_ rfl
  unfold _root_.Jvm.ClassFile.Decoder.instr
  rw [dcBind, (dcAt e).1, e1]
  rfl
set_option maxRecDepth 20000 in
theorem d_27 {c : ByteArray} {pc : Nat} (h : dB0 (dL c pc) 27 = true) : decode c pc = .ok ((.iload_n 1), 1) := by
  obtain ⟨x, r, e, e1⟩ := dB0_e h
  refine dcDec (q := pc + 1) ?_ rfl
  unfold _root_.Jvm.ClassFile.Decoder.instr
  rw [dcBind, (dcAt e).1, e1]
  rfl
set_option maxRecDepth 20000 in
theorem d_28 {c : ByteArray} {pc : Nat} (h : dB0 (dL c pc) 28 = true) : decode c pc = .ok ((.iload_n 2), 1) := by
  obtain ⟨x, r, e, e1⟩ := dB0_e h
  refine dcDec (q := pc + 1) ?_ rfl
  unfold _root_.Jvm.ClassFile.Decoder.instr
  rw [dcBind, (dcAt e).1, e1]
  rfl
set_option maxRecDepth 20000 in
theorem d_29 {c : ByteArray} {pc : Nat} (h : dB0 (dL c pc) 29 = true) : decode c pc = .ok ((.iload_n 3), 1) := by
  obtain ⟨x, r, e, e1⟩ := dB0_e h
  refine dcDec (q := pc + 1) ?_ rfl
  unfold _root_.Jvm.ClassFile.Decoder.instr
  rw [dcBind, (dcAt e).1, e1]
  rfl
set_option maxRecDepth 20000 in
theorem d_30 {c : ByteArray} {pc : Nat} (h : dB0 (dL c pc) 30 = true) : decode c pc = .ok ((.lload_n 0), 1) := by
  obtain ⟨x, r, e, e1⟩ := dB0_e h
  refine dcDec (q := pc + 1) ?_ rfl
  unfold _root_.Jvm.ClassFile.Decoder.instr
  rw [dcBind, (dcAt e).1, e1]
  rfl
set_option maxRecDepth 20000 in
theorem d_31 {c : ByteArray} {pc : Nat} (h : dB0 (dL c pc) 31 = true) : decode c pc = .ok ((.lload_n 1), 1) := by
  obtain ⟨x, r, e, e1⟩ := dB0_e h
  refine dcDec (q := pc + 1) ?_ rfl
  unfold _root_.Jvm.ClassFile.Decoder.instr
  rw [dcBind, (dcAt e).1, e1]
  rfl
set_option maxRecDepth 20000 in
theorem d_32 {c : ByteArray} {pc : Nat} (h : dB0 (dL c pc) 32 = true) : decode c pc = .ok ((.lload_n 2), 1) := by
  obtain ⟨x, r, e, e1⟩ := dB0_e h
  refine dcDec (q := pc + 1) ?_ rfl
  unfold _root_.Jvm.ClassFile.Decoder.instr
  rw [dcBind, (dcAt e).1, e1]
  rfl
set_option maxRecDepth 20000 in
theorem d_42 {c : ByteArray} {pc : Nat} (h : dB0 (dL c pc) 42 = true) : decode c pc = .ok ((.aload_n 0), 1) := by
  obtain ⟨x, r, e, e1⟩ := dB0_e h
  refine dcDec (q := pc + 1) ?_ rfl
  unfold _root_.Jvm.ClassFile.Decoder.instr
  rw [dcBind, (dcAt e).1, e1]
  rfl
set_option maxRecDepth 20000 in
theorem d_43 {c : ByteArray} {pc : Nat} (h : dB0 (dL c pc) 43 = true) : decode c pc = .ok ((.aload_n 1), 1) := by
  obtain ⟨x, r, e, e1⟩ := dB0_e h
  refine dcDec (q := pc + 1) ?_ rfl
  unfold _root_.Jvm.ClassFile.Decoder.instr
  rw [dcBind, (dcAt e).1, e1]
  rfl
set_option maxRecDepth 20000 in
theorem d_44 {c : ByteArray} {pc : Nat} (h : dB0 (dL c pc) 44 = true) : decode c pc = .ok ((.aload_n 2), 1) := by
  obtain ⟨x, r, e, e1⟩ := dB0_e h
  refine dcDec (q := pc + 1) ?_ rfl
  unfold _root_.Jvm.ClassFile.Decoder.instr
  rw [dcBind, (dcAt e).1, e1]
  rfl
set_option maxRecDepth 20000 in
theorem d_45 {c : ByteArray} {pc : Nat} (h : dB0 (dL c pc) 45 = true) : decode c pc = .ok ((.aload_n 3), 1) := by
  obtain ⟨x, r, e, e1⟩ := dB0_e h
  refine dcDec (q := pc + 1) ?_ rfl
  unfold _root_.Jvm.ClassFile.Decoder.instr
  rw [dcBind, (dcAt e).1, e1]
  rfl
set_option maxRecDepth 20000 in
theorem d_46 {c : ByteArray} {pc : Nat} (h : dB0 (dL c pc) 46 = true) : decode c pc = .ok (.iaload, 1) := by
  obtain ⟨x, r, e, e1⟩ := dB0_e h
  refine dcDec (q := pc + 1) ?_ rfl
  unfold _root_.Jvm.ClassFile.Decoder.instr
  rw [dcBind, (dcAt e).1, e1]
  rfl
set_option maxRecDepth 20000 in
theorem d_50 {c : ByteArray} {pc : Nat} (h : dB0 (dL c pc) 50 = true) : decode c pc = .ok (.aaload, 1) := by
  obtain ⟨x, r, e, e1⟩ := dB0_e h
  refine dcDec (q := pc + 1) ?_ rfl
  unfold _root_.Jvm.ClassFile.Decoder.instr
  rw [dcBind, (dcAt e).1, e1]
  rfl
set_option maxRecDepth 20000 in
theorem d_51 {c : ByteArray} {pc : Nat} (h : dB0 (dL c pc) 51 = true) : decode c pc = .ok (.baload, 1) := by
  obtain ⟨x, r, e, e1⟩ := dB0_e h
  refine dcDec (q := pc + 1) ?_ rfl
  unfold _root_.Jvm.ClassFile.Decoder.instr
  rw [dcBind, (dcAt e).1, e1]
  rfl
set_option maxRecDepth 20000 in
theorem d_54 {c : ByteArray} {pc v : Nat} (h : dB1 (dL c pc) 54 v = true) : decode c pc = .ok (.istore v, 2) := by
  obtain ⟨x, y, r, e, e1, e2⟩ := dB1_e h
  refine dcDec (q := pc + 2) ?_ rfl
  unfold _root_.Jvm.ClassFile.Decoder.instr
  rw [dcBind, (dcAt e).1, e1]
  show (_root_.Jvm.ClassFile.Reader.u1 >>= fun a => pure (.istore a) : _root_.Jvm.ClassFile.Decoder _root_.Jvm.ClassFile.Instr) c (pc + 1) = _
  rw [dcBind, (dcAt (dcAt e).2).1, e2]
  rfl
set_option maxRecDepth 20000 in
theorem d_56 {c : ByteArray} {pc v : Nat} (h : dB1 (dL c pc) 56 v = true) : decode c pc = .ok (.fstore v, 2) := by
  obtain ⟨x, y, r, e, e1, e2⟩ := dB1_e h
  refine dcDec (q := pc + 2) ?_ rfl
  unfold _root_.Jvm.ClassFile.Decoder.instr
  rw [dcBind, (dcAt e).1, e1]
  show (_root_.Jvm.ClassFile.Reader.u1 >>= fun a => pure (.fstore a) : _root_.Jvm.ClassFile.Decoder _root_.Jvm.ClassFile.Instr) c (pc + 1) = _
  rw [dcBind, (dcAt (dcAt e).2).1, e2]
  rfl
set_option maxRecDepth 20000 in
theorem d_57 {c : ByteArray} {pc v : Nat} (h : dB1 (dL c pc) 57 v = true) : decode c pc = .ok (.dstore v, 2) := by
  obtain ⟨x, y, r, e, e1, e2⟩ := dB1_e h
  refine dcDec (q := pc + 2) ?_ rfl
  unfold _root_.Jvm.ClassFile.Decoder.instr
  rw [dcBind, (dcAt e).1, e1]
  show (_root_.Jvm.ClassFile.Reader.u1 >>= fun a => pure (.dstore a) : _root_.Jvm.ClassFile.Decoder _root_.Jvm.ClassFile.Instr) c (pc + 1) = _
  rw [dcBind, (dcAt (dcAt e).2).1, e2]
  rfl
set_option maxRecDepth 20000 in
theorem d_58 {c : ByteArray} {pc v : Nat} (h : dB1 (dL c pc) 58 v = true) : decode c pc = .ok (.astore v, 2) := by
  obtain ⟨x, y, r, e, e1, e2⟩ := dB1_e h
  refine dcDec (q := pc + 2) ?_ rfl
  unfold _root_.Jvm.ClassFile.Decoder.instr
  rw [dcBind, (dcAt e).1, e1]
  show (_root_.Jvm.ClassFile.Reader.u1 >>= fun a => pure (.astore a) : _root_.Jvm.ClassFile.Decoder _root_.Jvm.ClassFile.Instr) c (pc + 1) = _
  rw [dcBind, (dcAt (dcAt e).2).1, e2]
  rfl
set_option maxRecDepth 20000 in
theorem d_60 {c : ByteArray} {pc : Nat} (h : dB0 (dL c pc) 60 = true) : decode c pc = .ok ((.istore_n 1), 1) := by
  obtain ⟨x, r, e, e1⟩ := dB0_e h
  refine dcDec (q := pc + 1) ?_ rfl
  unfold _root_.Jvm.ClassFile.Decoder.instr
  rw [dcBind, (dcAt e).1, e1]
  rfl
set_option maxRecDepth 20000 in
theorem d_61 {c : ByteArray} {pc : Nat} (h : dB0 (dL c pc) 61 = true) : decode c pc = .ok ((.istore_n 2), 1) := by
  obtain ⟨x, r, e, e1⟩ := dB0_e h
  refine dcDec (q := pc + 1) ?_ rfl
  unfold _root_.Jvm.ClassFile.Decoder.instr
  rw [dcBind, (dcAt e).1, e1]
  rfl
set_option maxRecDepth 20000 in
theorem d_62 {c : ByteArray} {pc : Nat} (h : dB0 (dL c pc) 62 = true) : decode c pc = .ok ((.istore_n 3), 1) := by
  obtain ⟨x, r, e, e1⟩ := dB0_e h
  refine dcDec (q := pc + 1) ?_ rfl
  unfold _root_.Jvm.ClassFile.Decoder.instr
  rw [dcBind, (dcAt e).1, e1]
  rfl
set_option maxRecDepth 20000 in
theorem d_76 {c : ByteArray} {pc : Nat} (h : dB0 (dL c pc) 76 = true) : decode c pc = .ok ((.astore_n 1), 1) := by
  obtain ⟨x, r, e, e1⟩ := dB0_e h
  refine dcDec (q := pc + 1) ?_ rfl
  unfold _root_.Jvm.ClassFile.Decoder.instr
  rw [dcBind, (dcAt e).1, e1]
  rfl
set_option maxRecDepth 20000 in
theorem d_77 {c : ByteArray} {pc : Nat} (h : dB0 (dL c pc) 77 = true) : decode c pc = .ok ((.astore_n 2), 1) := by
  obtain ⟨x, r, e, e1⟩ := dB0_e h
  refine dcDec (q := pc + 1) ?_ rfl
  unfold _root_.Jvm.ClassFile.Decoder.instr
  rw [dcBind, (dcAt e).1, e1]
  rfl
set_option maxRecDepth 20000 in
theorem d_78 {c : ByteArray} {pc : Nat} (h : dB0 (dL c pc) 78 = true) : decode c pc = .ok ((.astore_n 3), 1) := by
  obtain ⟨x, r, e, e1⟩ := dB0_e h
  refine dcDec (q := pc + 1) ?_ rfl
  unfold _root_.Jvm.ClassFile.Decoder.instr
  rw [dcBind, (dcAt e).1, e1]
  rfl
set_option maxRecDepth 20000 in
theorem d_79 {c : ByteArray} {pc : Nat} (h : dB0 (dL c pc) 79 = true) : decode c pc = .ok (.iastore, 1) := by
  obtain ⟨x, r, e, e1⟩ := dB0_e h
  refine dcDec (q := pc + 1) ?_ rfl
  unfold _root_.Jvm.ClassFile.Decoder.instr
  rw [dcBind, (dcAt e).1, e1]
  rfl
set_option maxRecDepth 20000 in
theorem d_80 {c : ByteArray} {pc : Nat} (h : dB0 (dL c pc) 80 = true) : decode c pc = .ok (.lastore, 1) := by
  obtain ⟨x, r, e, e1⟩ := dB0_e h
  refine dcDec (q := pc + 1) ?_ rfl
  unfold _root_.Jvm.ClassFile.Decoder.instr
  rw [dcBind, (dcAt e).1, e1]
  rfl
set_option maxRecDepth 20000 in
theorem d_82 {c : ByteArray} {pc : Nat} (h : dB0 (dL c pc) 82 = true) : decode c pc = .ok (.dastore, 1) := by
  obtain ⟨x, r, e, e1⟩ := dB0_e h
  refine dcDec (q := pc + 1) ?_ rfl
  unfold _root_.Jvm.ClassFile.Decoder.instr
  rw [dcBind, (dcAt e).1, e1]
  rfl
set_option maxRecDepth 20000 in
theorem d_83 {c : ByteArray} {pc : Nat} (h : dB0 (dL c pc) 83 = true) : decode c pc = .ok (.aastore, 1) := by
  obtain ⟨x, r, e, e1⟩ := dB0_e h
  refine dcDec (q := pc + 1) ?_ rfl
  unfold _root_.Jvm.ClassFile.Decoder.instr
  rw [dcBind, (dcAt e).1, e1]
  rfl
set_option maxRecDepth 20000 in
theorem d_84 {c : ByteArray} {pc : Nat} (h : dB0 (dL c pc) 84 = true) : decode c pc = .ok (.bastore, 1) := by
  obtain ⟨x, r, e, e1⟩ := dB0_e h
  refine dcDec (q := pc + 1) ?_ rfl
  unfold _root_.Jvm.ClassFile.Decoder.instr
  rw [dcBind, (dcAt e).1, e1]
  rfl
set_option maxRecDepth 20000 in
theorem d_87 {c : ByteArray} {pc : Nat} (h : dB0 (dL c pc) 87 = true) : decode c pc = .ok (.pop, 1) := by
  obtain ⟨x, r, e, e1⟩ := dB0_e h
  refine dcDec (q := pc + 1) ?_ rfl
  unfold _root_.Jvm.ClassFile.Decoder.instr
  rw [dcBind, (dcAt e).1, e1]
  rfl
set_option maxRecDepth 20000 in
theorem d_89 {c : ByteArray} {pc : Nat} (h : dB0 (dL c pc) 89 = true) : decode c pc = .ok (.dup, 1) := by
  obtain ⟨x, r, e, e1⟩ := dB0_e h
  refine dcDec (q := pc + 1) ?_ rfl
  unfold _root_.Jvm.ClassFile.Decoder.instr
  rw [dcBind, (dcAt e).1, e1]
  rfl
set_option maxRecDepth 20000 in
theorem d_92 {c : ByteArray} {pc : Nat} (h : dB0 (dL c pc) 92 = true) : decode c pc = .ok (.dup2, 1) := by
  obtain ⟨x, r, e, e1⟩ := dB0_e h
  refine dcDec (q := pc + 1) ?_ rfl
  unfold _root_.Jvm.ClassFile.Decoder.instr
  rw [dcBind, (dcAt e).1, e1]
  rfl
set_option maxRecDepth 20000 in
theorem d_96 {c : ByteArray} {pc : Nat} (h : dB0 (dL c pc) 96 = true) : decode c pc = .ok (.iadd, 1) := by
  obtain ⟨x, r, e, e1⟩ := dB0_e h
  refine dcDec (q := pc + 1) ?_ rfl
  unfold _root_.Jvm.ClassFile.Decoder.instr
  rw [dcBind, (dcAt e).1, e1]
  rfl
set_option maxRecDepth 20000 in
theorem d_100 {c : ByteArray} {pc : Nat} (h : dB0 (dL c pc) 100 = true) : decode c pc = .ok (.isub, 1) := by
  obtain ⟨x, r, e, e1⟩ := dB0_e h
  refine dcDec (q := pc + 1) ?_ rfl
  unfold _root_.Jvm.ClassFile.Decoder.instr
  rw [dcBind, (dcAt e).1, e1]
  rfl
set_option maxRecDepth 20000 in
theorem d_104 {c : ByteArray} {pc : Nat} (h : dB0 (dL c pc) 104 = true) : decode c pc = .ok (.imul, 1) := by
  obtain ⟨x, r, e, e1⟩ := dB0_e h
  refine dcDec (q := pc + 1) ?_ rfl
  unfold _root_.Jvm.ClassFile.Decoder.instr
  rw [dcBind, (dcAt e).1, e1]
  rfl
set_option maxRecDepth 20000 in
theorem d_108 {c : ByteArray} {pc : Nat} (h : dB0 (dL c pc) 108 = true) : decode c pc = .ok (.idiv, 1) := by
  obtain ⟨x, r, e, e1⟩ := dB0_e h
  refine dcDec (q := pc + 1) ?_ rfl
  unfold _root_.Jvm.ClassFile.Decoder.instr
  rw [dcBind, (dcAt e).1, e1]
  rfl
set_option maxRecDepth 20000 in
theorem d_110 {c : ByteArray} {pc : Nat} (h : dB0 (dL c pc) 110 = true) : decode c pc = .ok (.fdiv, 1) := by
  obtain ⟨x, r, e, e1⟩ := dB0_e h
  refine dcDec (q := pc + 1) ?_ rfl
  unfold _root_.Jvm.ClassFile.Decoder.instr
  rw [dcBind, (dcAt e).1, e1]
  rfl
set_option maxRecDepth 20000 in
theorem d_111 {c : ByteArray} {pc : Nat} (h : dB0 (dL c pc) 111 = true) : decode c pc = .ok (.ddiv, 1) := by
  obtain ⟨x, r, e, e1⟩ := dB0_e h
  refine dcDec (q := pc + 1) ?_ rfl
  unfold _root_.Jvm.ClassFile.Decoder.instr
  rw [dcBind, (dcAt e).1, e1]
  rfl
set_option maxRecDepth 20000 in
theorem d_112 {c : ByteArray} {pc : Nat} (h : dB0 (dL c pc) 112 = true) : decode c pc = .ok (.irem, 1) := by
  obtain ⟨x, r, e, e1⟩ := dB0_e h
  refine dcDec (q := pc + 1) ?_ rfl
  unfold _root_.Jvm.ClassFile.Decoder.instr
  rw [dcBind, (dcAt e).1, e1]
  rfl
set_option maxRecDepth 20000 in
theorem d_120 {c : ByteArray} {pc : Nat} (h : dB0 (dL c pc) 120 = true) : decode c pc = .ok (.ishl, 1) := by
  obtain ⟨x, r, e, e1⟩ := dB0_e h
  refine dcDec (q := pc + 1) ?_ rfl
  unfold _root_.Jvm.ClassFile.Decoder.instr
  rw [dcBind, (dcAt e).1, e1]
  rfl
set_option maxRecDepth 20000 in
theorem d_121 {c : ByteArray} {pc : Nat} (h : dB0 (dL c pc) 121 = true) : decode c pc = .ok (.lshl, 1) := by
  obtain ⟨x, r, e, e1⟩ := dB0_e h
  refine dcDec (q := pc + 1) ?_ rfl
  unfold _root_.Jvm.ClassFile.Decoder.instr
  rw [dcBind, (dcAt e).1, e1]
  rfl
set_option maxRecDepth 20000 in
theorem d_122 {c : ByteArray} {pc : Nat} (h : dB0 (dL c pc) 122 = true) : decode c pc = .ok (.ishr, 1) := by
  obtain ⟨x, r, e, e1⟩ := dB0_e h
  refine dcDec (q := pc + 1) ?_ rfl
  unfold _root_.Jvm.ClassFile.Decoder.instr
  rw [dcBind, (dcAt e).1, e1]
  rfl
set_option maxRecDepth 20000 in
theorem d_123 {c : ByteArray} {pc : Nat} (h : dB0 (dL c pc) 123 = true) : decode c pc = .ok (.lshr, 1) := by
  obtain ⟨x, r, e, e1⟩ := dB0_e h
  refine dcDec (q := pc + 1) ?_ rfl
  unfold _root_.Jvm.ClassFile.Decoder.instr
  rw [dcBind, (dcAt e).1, e1]
  rfl
set_option maxRecDepth 20000 in
theorem d_125 {c : ByteArray} {pc : Nat} (h : dB0 (dL c pc) 125 = true) : decode c pc = .ok (.lushr, 1) := by
  obtain ⟨x, r, e, e1⟩ := dB0_e h
  refine dcDec (q := pc + 1) ?_ rfl
  unfold _root_.Jvm.ClassFile.Decoder.instr
  rw [dcBind, (dcAt e).1, e1]
  rfl
set_option maxRecDepth 20000 in
theorem d_126 {c : ByteArray} {pc : Nat} (h : dB0 (dL c pc) 126 = true) : decode c pc = .ok (.iand, 1) := by
  obtain ⟨x, r, e, e1⟩ := dB0_e h
  refine dcDec (q := pc + 1) ?_ rfl
  unfold _root_.Jvm.ClassFile.Decoder.instr
  rw [dcBind, (dcAt e).1, e1]
  rfl
set_option maxRecDepth 20000 in
theorem d_127 {c : ByteArray} {pc : Nat} (h : dB0 (dL c pc) 127 = true) : decode c pc = .ok (.land, 1) := by
  obtain ⟨x, r, e, e1⟩ := dB0_e h
  refine dcDec (q := pc + 1) ?_ rfl
  unfold _root_.Jvm.ClassFile.Decoder.instr
  rw [dcBind, (dcAt e).1, e1]
  rfl
set_option maxRecDepth 20000 in
theorem d_128 {c : ByteArray} {pc : Nat} (h : dB0 (dL c pc) 128 = true) : decode c pc = .ok (.ior, 1) := by
  obtain ⟨x, r, e, e1⟩ := dB0_e h
  refine dcDec (q := pc + 1) ?_ rfl
  unfold _root_.Jvm.ClassFile.Decoder.instr
  rw [dcBind, (dcAt e).1, e1]
  rfl
set_option maxRecDepth 20000 in
theorem d_129 {c : ByteArray} {pc : Nat} (h : dB0 (dL c pc) 129 = true) : decode c pc = .ok (.lor, 1) := by
  obtain ⟨x, r, e, e1⟩ := dB0_e h
  refine dcDec (q := pc + 1) ?_ rfl
  unfold _root_.Jvm.ClassFile.Decoder.instr
  rw [dcBind, (dcAt e).1, e1]
  rfl
set_option maxRecDepth 20000 in
theorem d_132 {c : ByteArray} {pc a : Nat} {v : Int} (h : dBi (dL c pc) 132 a v = true) : decode c pc = .ok (.iinc a v, 3) := by
  obtain ⟨x, y, z, r, e, e1, e2, e3⟩ := dBi_e h
  refine dcDec (q := pc + 3) ?_ rfl
  unfold _root_.Jvm.ClassFile.Decoder.instr
  rw [dcBind, (dcAt e).1, e1]
  show (_root_.Jvm.ClassFile.Reader.u1 >>= fun a => _root_.Jvm.ClassFile.Reader.s1 >>= fun b => pure (.iinc a b) : _root_.Jvm.ClassFile.Decoder _root_.Jvm.ClassFile.Instr) c (pc + 1) = _
  rw [dcBind, (dcAt (dcAt e).2).1, e2]
  show (_root_.Jvm.ClassFile.Reader.s1 >>= fun b => pure (.iinc a b) : _root_.Jvm.ClassFile.Decoder _root_.Jvm.ClassFile.Instr) c (pc + 1 + 1) = _
  rw [dcBind, dcS1 (dcAt (dcAt e).2).2, e3]
  rfl
set_option maxRecDepth 20000 in
theorem d_133 {c : ByteArray} {pc : Nat} (h : dB0 (dL c pc) 133 = true) : decode c pc = .ok (.i2l, 1) := by
  obtain ⟨x, r, e, e1⟩ := dB0_e h
  refine dcDec (q := pc + 1) ?_ rfl
  unfold _root_.Jvm.ClassFile.Decoder.instr
  rw [dcBind, (dcAt e).1, e1]
  rfl
set_option maxRecDepth 20000 in
theorem d_134 {c : ByteArray} {pc : Nat} (h : dB0 (dL c pc) 134 = true) : decode c pc = .ok (.i2f, 1) := by
  obtain ⟨x, r, e, e1⟩ := dB0_e h
  refine dcDec (q := pc + 1) ?_ rfl
  unfold _root_.Jvm.ClassFile.Decoder.instr
  rw [dcBind, (dcAt e).1, e1]
  rfl
set_option maxRecDepth 20000 in
theorem d_135 {c : ByteArray} {pc : Nat} (h : dB0 (dL c pc) 135 = true) : decode c pc = .ok (.i2d, 1) := by
  obtain ⟨x, r, e, e1⟩ := dB0_e h
  refine dcDec (q := pc + 1) ?_ rfl
  unfold _root_.Jvm.ClassFile.Decoder.instr
  rw [dcBind, (dcAt e).1, e1]
  rfl
set_option maxRecDepth 20000 in
theorem d_136 {c : ByteArray} {pc : Nat} (h : dB0 (dL c pc) 136 = true) : decode c pc = .ok (.l2i, 1) := by
  obtain ⟨x, r, e, e1⟩ := dB0_e h
  refine dcDec (q := pc + 1) ?_ rfl
  unfold _root_.Jvm.ClassFile.Decoder.instr
  rw [dcBind, (dcAt e).1, e1]
  rfl
set_option maxRecDepth 20000 in
theorem d_141 {c : ByteArray} {pc : Nat} (h : dB0 (dL c pc) 141 = true) : decode c pc = .ok (.f2d, 1) := by
  obtain ⟨x, r, e, e1⟩ := dB0_e h
  refine dcDec (q := pc + 1) ?_ rfl
  unfold _root_.Jvm.ClassFile.Decoder.instr
  rw [dcBind, (dcAt e).1, e1]
  rfl
set_option maxRecDepth 20000 in
theorem d_145 {c : ByteArray} {pc : Nat} (h : dB0 (dL c pc) 145 = true) : decode c pc = .ok (.i2b, 1) := by
  obtain ⟨x, r, e, e1⟩ := dB0_e h
  refine dcDec (q := pc + 1) ?_ rfl
  unfold _root_.Jvm.ClassFile.Decoder.instr
  rw [dcBind, (dcAt e).1, e1]
  rfl
set_option maxRecDepth 20000 in
theorem d_146 {c : ByteArray} {pc : Nat} (h : dB0 (dL c pc) 146 = true) : decode c pc = .ok (.i2c, 1) := by
  obtain ⟨x, r, e, e1⟩ := dB0_e h
  refine dcDec (q := pc + 1) ?_ rfl
  unfold _root_.Jvm.ClassFile.Decoder.instr
  rw [dcBind, (dcAt e).1, e1]
  rfl
set_option maxRecDepth 20000 in
theorem d_148 {c : ByteArray} {pc : Nat} (h : dB0 (dL c pc) 148 = true) : decode c pc = .ok (.lcmp, 1) := by
  obtain ⟨x, r, e, e1⟩ := dB0_e h
  refine dcDec (q := pc + 1) ?_ rfl
  unfold _root_.Jvm.ClassFile.Decoder.instr
  rw [dcBind, (dcAt e).1, e1]
  rfl
set_option maxRecDepth 20000 in
theorem d_153 {c : ByteArray} {pc : Nat} {v : Int} (h : dBs2 (dL c pc) 153 v = true) : decode c pc = .ok (.ifCond .eq v, 3) := by
  obtain ⟨x, y, z, r, e, e1, e2⟩ := dBs2_e h
  refine dcDec (q := pc + 3) ?_ rfl
  unfold _root_.Jvm.ClassFile.Decoder.instr
  rw [dcBind, (dcAt e).1, e1]
  show (_root_.Jvm.ClassFile.Reader.s2 >>= fun a => pure (.ifCond .eq a) : _root_.Jvm.ClassFile.Decoder _root_.Jvm.ClassFile.Instr) c (pc + 1) = _
  rw [dcBind, dcS2 (dcAt e).2, e2]
  rfl
set_option maxRecDepth 20000 in
theorem d_154 {c : ByteArray} {pc : Nat} {v : Int} (h : dBs2 (dL c pc) 154 v = true) : decode c pc = .ok (.ifCond .ne v, 3) := by
  obtain ⟨x, y, z, r, e, e1, e2⟩ := dBs2_e h
  refine dcDec (q := pc + 3) ?_ rfl
  unfold _root_.Jvm.ClassFile.Decoder.instr
  rw [dcBind, (dcAt e).1, e1]
  show (_root_.Jvm.ClassFile.Reader.s2 >>= fun a => pure (.ifCond .ne a) : _root_.Jvm.ClassFile.Decoder _root_.Jvm.ClassFile.Instr) c (pc + 1) = _
  rw [dcBind, dcS2 (dcAt e).2, e2]
  rfl
set_option maxRecDepth 20000 in
theorem d_155 {c : ByteArray} {pc : Nat} {v : Int} (h : dBs2 (dL c pc) 155 v = true) : decode c pc = .ok (.ifCond .lt v, 3) := by
  obtain ⟨x, y, z, r, e, e1, e2⟩ := dBs2_e h
  refine dcDec (q := pc + 3) ?_ rfl
  unfold _root_.Jvm.ClassFile.Decoder.instr
  rw [dcBind, (dcAt e).1, e1]
  show (_root_.Jvm.ClassFile.Reader.s2 >>= fun a => pure (.ifCond .lt a) : _root_.Jvm.ClassFile.Decoder _root_.Jvm.ClassFile.Instr) c (pc + 1) = _
  rw [dcBind, dcS2 (dcAt e).2, e2]
  rfl
set_option maxRecDepth 20000 in
theorem d_156 {c : ByteArray} {pc : Nat} {v : Int} (h : dBs2 (dL c pc) 156 v = true) : decode c pc = .ok (.ifCond .ge v, 3) := by
  obtain ⟨x, y, z, r, e, e1, e2⟩ := dBs2_e h
  refine dcDec (q := pc + 3) ?_ rfl
  unfold _root_.Jvm.ClassFile.Decoder.instr
  rw [dcBind, (dcAt e).1, e1]
  show (_root_.Jvm.ClassFile.Reader.s2 >>= fun a => pure (.ifCond .ge a) : _root_.Jvm.ClassFile.Decoder _root_.Jvm.ClassFile.Instr) c (pc + 1) = _
  rw [dcBind, dcS2 (dcAt e).2, e2]
  rfl
set_option maxRecDepth 20000 in
theorem d_157 {c : ByteArray} {pc : Nat} {v : Int} (h : dBs2 (dL c pc) 157 v = true) : decode c pc = .ok (.ifCond .gt v, 3) := by
  obtain ⟨x, y, z, r, e, e1, e2⟩ := dBs2_e h
  refine dcDec (q := pc + 3) ?_ rfl
  unfold _root_.Jvm.ClassFile.Decoder.instr
  rw [dcBind, (dcAt e).1, e1]
  show (_root_.Jvm.ClassFile.Reader.s2 >>= fun a => pure (.ifCond .gt a) : _root_.Jvm.ClassFile.Decoder _root_.Jvm.ClassFile.Instr) c (pc + 1) = _
  rw [dcBind, dcS2 (dcAt e).2, e2]
  rfl
set_option maxRecDepth 20000 in
theorem d_158 {c : ByteArray} {pc : Nat} {v : Int} (h : dBs2 (dL c pc) 158 v = true) : decode c pc = .ok (.ifCond .le v, 3) := by
  obtain ⟨x, y, z, r, e, e1, e2⟩ := dBs2_e h
  refine dcDec (q := pc + 3) ?_ rfl
  unfold _root_.Jvm.ClassFile.Decoder.instr
  rw [dcBind, (dcAt e).1, e1]
  show (_root_.Jvm.ClassFile.Reader.s2 >>= fun a => pure (.ifCond .le a) : _root_.Jvm.ClassFile.Decoder _root_.Jvm.ClassFile.Instr) c (pc + 1) = _
  rw [dcBind, dcS2 (dcAt e).2, e2]
  rfl
set_option maxRecDepth 20000 in
theorem d_159 {c : ByteArray} {pc : Nat} {v : Int} (h : dBs2 (dL c pc) 159 v = true) : decode c pc = .ok (.if_icmp .eq v, 3) := by
  obtain ⟨x, y, z, r, e, e1, e2⟩ := dBs2_e h
  refine dcDec (q := pc + 3) ?_ rfl
  unfold _root_.Jvm.ClassFile.Decoder.instr
  rw [dcBind, (dcAt e).1, e1]
  show (_root_.Jvm.ClassFile.Reader.s2 >>= fun a => pure (.if_icmp .eq a) : _root_.Jvm.ClassFile.Decoder _root_.Jvm.ClassFile.Instr) c (pc + 1) = _
  rw [dcBind, dcS2 (dcAt e).2, e2]
  rfl
set_option maxRecDepth 20000 in
theorem d_160 {c : ByteArray} {pc : Nat} {v : Int} (h : dBs2 (dL c pc) 160 v = true) : decode c pc = .ok (.if_icmp .ne v, 3) := by
  obtain ⟨x, y, z, r, e, e1, e2⟩ := dBs2_e h
  refine dcDec (q := pc + 3) ?_ rfl
  unfold _root_.Jvm.ClassFile.Decoder.instr
  rw [dcBind, (dcAt e).1, e1]
  show (_root_.Jvm.ClassFile.Reader.s2 >>= fun a => pure (.if_icmp .ne a) : _root_.Jvm.ClassFile.Decoder _root_.Jvm.ClassFile.Instr) c (pc + 1) = _
  rw [dcBind, dcS2 (dcAt e).2, e2]
  rfl
set_option maxRecDepth 20000 in
theorem d_161 {c : ByteArray} {pc : Nat} {v : Int} (h : dBs2 (dL c pc) 161 v = true) : decode c pc = .ok (.if_icmp .lt v, 3) := by
  obtain ⟨x, y, z, r, e, e1, e2⟩ := dBs2_e h
  refine dcDec (q := pc + 3) ?_ rfl
  unfold _root_.Jvm.ClassFile.Decoder.instr
  rw [dcBind, (dcAt e).1, e1]
  show (_root_.Jvm.ClassFile.Reader.s2 >>= fun a => pure (.if_icmp .lt a) : _root_.Jvm.ClassFile.Decoder _root_.Jvm.ClassFile.Instr) c (pc + 1) = _
  rw [dcBind, dcS2 (dcAt e).2, e2]
  rfl
set_option maxRecDepth 20000 in
theorem d_162 {c : ByteArray} {pc : Nat} {v : Int} (h : dBs2 (dL c pc) 162 v = true) : decode c pc = .ok (.if_icmp .ge v, 3) := by
  obtain ⟨x, y, z, r, e, e1, e2⟩ := dBs2_e h
  refine dcDec (q := pc + 3) ?_ rfl
  unfold _root_.Jvm.ClassFile.Decoder.instr
  rw [dcBind, (dcAt e).1, e1]
  show (_root_.Jvm.ClassFile.Reader.s2 >>= fun a => pure (.if_icmp .ge a) : _root_.Jvm.ClassFile.Decoder _root_.Jvm.ClassFile.Instr) c (pc + 1) = _
  rw [dcBind, dcS2 (dcAt e).2, e2]
  rfl
set_option maxRecDepth 20000 in
theorem d_163 {c : ByteArray} {pc : Nat} {v : Int} (h : dBs2 (dL c pc) 163 v = true) : decode c pc = .ok (.if_icmp .gt v, 3) := by
  obtain ⟨x, y, z, r, e, e1, e2⟩ := dBs2_e h
  refine dcDec (q := pc + 3) ?_ rfl
  unfold _root_.Jvm.ClassFile.Decoder.instr
  rw [dcBind, (dcAt e).1, e1]
  show (_root_.Jvm.ClassFile.Reader.s2 >>= fun a => pure (.if_icmp .gt a) : _root_.Jvm.ClassFile.Decoder _root_.Jvm.ClassFile.Instr) c (pc + 1) = _
  rw [dcBind, dcS2 (dcAt e).2, e2]
  rfl
set_option maxRecDepth 20000 in
theorem d_164 {c : ByteArray} {pc : Nat} {v : Int} (h : dBs2 (dL c pc) 164 v = true) : decode c pc = .ok (.if_icmp .le v, 3) := by
  obtain ⟨x, y, z, r, e, e1, e2⟩ := dBs2_e h
  refine dcDec (q := pc + 3) ?_ rfl
  unfold _root_.Jvm.ClassFile.Decoder.instr
  rw [dcBind, (dcAt e).1, e1]
  show (_root_.Jvm.ClassFile.Reader.s2 >>= fun a => pure (.if_icmp .le a) : _root_.Jvm.ClassFile.Decoder _root_.Jvm.ClassFile.Instr) c (pc + 1) = _
  rw [dcBind, dcS2 (dcAt e).2, e2]
  rfl
set_option maxRecDepth 20000 in
theorem d_167 {c : ByteArray} {pc : Nat} {v : Int} (h : dBs2 (dL c pc) 167 v = true) : decode c pc = .ok (.goto v, 3) := by
  obtain ⟨x, y, z, r, e, e1, e2⟩ := dBs2_e h
  refine dcDec (q := pc + 3) ?_ rfl
  unfold _root_.Jvm.ClassFile.Decoder.instr
  rw [dcBind, (dcAt e).1, e1]
  show (_root_.Jvm.ClassFile.Reader.s2 >>= fun a => pure (.goto a) : _root_.Jvm.ClassFile.Decoder _root_.Jvm.ClassFile.Instr) c (pc + 1) = _
  rw [dcBind, dcS2 (dcAt e).2, e2]
  rfl
set_option maxRecDepth 20000 in
theorem d_172 {c : ByteArray} {pc : Nat} (h : dB0 (dL c pc) 172 = true) : decode c pc = .ok (.ireturn, 1) := by
  obtain ⟨x, r, e, e1⟩ := dB0_e h
  refine dcDec (q := pc + 1) ?_ rfl
  unfold _root_.Jvm.ClassFile.Decoder.instr
  rw [dcBind, (dcAt e).1, e1]
  rfl
set_option maxRecDepth 20000 in
theorem d_174 {c : ByteArray} {pc : Nat} (h : dB0 (dL c pc) 174 = true) : decode c pc = .ok (.freturn, 1) := by
  obtain ⟨x, r, e, e1⟩ := dB0_e h
  refine dcDec (q := pc + 1) ?_ rfl
  unfold _root_.Jvm.ClassFile.Decoder.instr
  rw [dcBind, (dcAt e).1, e1]
  rfl
set_option maxRecDepth 20000 in
theorem d_175 {c : ByteArray} {pc : Nat} (h : dB0 (dL c pc) 175 = true) : decode c pc = .ok (.dreturn, 1) := by
  obtain ⟨x, r, e, e1⟩ := dB0_e h
  refine dcDec (q := pc + 1) ?_ rfl
  unfold _root_.Jvm.ClassFile.Decoder.instr
  rw [dcBind, (dcAt e).1, e1]
  rfl
set_option maxRecDepth 20000 in
theorem d_176 {c : ByteArray} {pc : Nat} (h : dB0 (dL c pc) 176 = true) : decode c pc = .ok (.areturn, 1) := by
  obtain ⟨x, r, e, e1⟩ := dB0_e h
  refine dcDec (q := pc + 1) ?_ rfl
  unfold _root_.Jvm.ClassFile.Decoder.instr
  rw [dcBind, (dcAt e).1, e1]
  rfl
set_option maxRecDepth 20000 in
theorem d_177 {c : ByteArray} {pc : Nat} (h : dB0 (dL c pc) 177 = true) : decode c pc = .ok (.return_, 1) := by
  obtain ⟨x, r, e, e1⟩ := dB0_e h
  refine dcDec (q := pc + 1) ?_ rfl
  unfold _root_.Jvm.ClassFile.Decoder.instr
  rw [dcBind, (dcAt e).1, e1]
  rfl
set_option maxRecDepth 20000 in
theorem d_178 {c : ByteArray} {pc v : Nat} (h : dB2 (dL c pc) 178 v = true) : decode c pc = .ok (.getstatic v, 3) := by
  obtain ⟨x, y, z, r, e, e1, e2⟩ := dB2_e h
  refine dcDec (q := pc + 3) ?_ rfl
  unfold _root_.Jvm.ClassFile.Decoder.instr
  rw [dcBind, (dcAt e).1, e1]
  show (_root_.Jvm.ClassFile.Reader.u2 >>= fun a => pure (.getstatic a) : _root_.Jvm.ClassFile.Decoder _root_.Jvm.ClassFile.Instr) c (pc + 1) = _
  rw [dcBind, dcU2 (dcAt e).2, e2]
  rfl
set_option maxRecDepth 20000 in
theorem d_180 {c : ByteArray} {pc v : Nat} (h : dB2 (dL c pc) 180 v = true) : decode c pc = .ok (.getfield v, 3) := by
  obtain ⟨x, y, z, r, e, e1, e2⟩ := dB2_e h
  refine dcDec (q := pc + 3) ?_ rfl
  unfold _root_.Jvm.ClassFile.Decoder.instr
  rw [dcBind, (dcAt e).1, e1]
  show (_root_.Jvm.ClassFile.Reader.u2 >>= fun a => pure (.getfield a) : _root_.Jvm.ClassFile.Decoder _root_.Jvm.ClassFile.Instr) c (pc + 1) = _
  rw [dcBind, dcU2 (dcAt e).2, e2]
  rfl
set_option maxRecDepth 20000 in
theorem d_181 {c : ByteArray} {pc v : Nat} (h : dB2 (dL c pc) 181 v = true) : decode c pc = .ok (.putfield v, 3) := by
  obtain ⟨x, y, z, r, e, e1, e2⟩ := dB2_e h
  refine dcDec (q := pc + 3) ?_ rfl
  unfold _root_.Jvm.ClassFile.Decoder.instr
  rw [dcBind, (dcAt e).1, e1]
  show (_root_.Jvm.ClassFile.Reader.u2 >>= fun a => pure (.putfield a) : _root_.Jvm.ClassFile.Decoder _root_.Jvm.ClassFile.Instr) c (pc + 1) = _
  rw [dcBind, dcU2 (dcAt e).2, e2]
  rfl
set_option maxRecDepth 20000 in
theorem d_182 {c : ByteArray} {pc v : Nat} (h : dB2 (dL c pc) 182 v = true) : decode c pc = .ok (.invokevirtual v, 3) := by
  obtain ⟨x, y, z, r, e, e1, e2⟩ := dB2_e h
  refine dcDec (q := pc + 3) ?_ rfl
  unfold _root_.Jvm.ClassFile.Decoder.instr
  rw [dcBind, (dcAt e).1, e1]
  show (_root_.Jvm.ClassFile.Reader.u2 >>= fun a => pure (.invokevirtual a) : _root_.Jvm.ClassFile.Decoder _root_.Jvm.ClassFile.Instr) c (pc + 1) = _
  rw [dcBind, dcU2 (dcAt e).2, e2]
  rfl
set_option maxRecDepth 20000 in
theorem d_183 {c : ByteArray} {pc v : Nat} (h : dB2 (dL c pc) 183 v = true) : decode c pc = .ok (.invokespecial v, 3) := by
  obtain ⟨x, y, z, r, e, e1, e2⟩ := dB2_e h
  refine dcDec (q := pc + 3) ?_ rfl
  unfold _root_.Jvm.ClassFile.Decoder.instr
  rw [dcBind, (dcAt e).1, e1]
  show (_root_.Jvm.ClassFile.Reader.u2 >>= fun a => pure (.invokespecial a) : _root_.Jvm.ClassFile.Decoder _root_.Jvm.ClassFile.Instr) c (pc + 1) = _
  rw [dcBind, dcU2 (dcAt e).2, e2]
  rfl
set_option maxRecDepth 20000 in
theorem d_184 {c : ByteArray} {pc v : Nat} (h : dB2 (dL c pc) 184 v = true) : decode c pc = .ok (.invokestatic v, 3) := by
  obtain ⟨x, y, z, r, e, e1, e2⟩ := dB2_e h
  refine dcDec (q := pc + 3) ?_ rfl
  unfold _root_.Jvm.ClassFile.Decoder.instr
  rw [dcBind, (dcAt e).1, e1]
  show (_root_.Jvm.ClassFile.Reader.u2 >>= fun a => pure (.invokestatic a) : _root_.Jvm.ClassFile.Decoder _root_.Jvm.ClassFile.Instr) c (pc + 1) = _
  rw [dcBind, dcU2 (dcAt e).2, e2]
  rfl
set_option maxRecDepth 20000 in
theorem d_187 {c : ByteArray} {pc v : Nat} (h : dB2 (dL c pc) 187 v = true) : decode c pc = .ok (.new v, 3) := by
  obtain ⟨x, y, z, r, e, e1, e2⟩ := dB2_e h
  refine dcDec (q := pc + 3) ?_ rfl
  unfold _root_.Jvm.ClassFile.Decoder.instr
  rw [dcBind, (dcAt e).1, e1]
  show (_root_.Jvm.ClassFile.Reader.u2 >>= fun a => pure (.new a) : _root_.Jvm.ClassFile.Decoder _root_.Jvm.ClassFile.Instr) c (pc + 1) = _
  rw [dcBind, dcU2 (dcAt e).2, e2]
  rfl
set_option maxRecDepth 20000 in
theorem d_189 {c : ByteArray} {pc v : Nat} (h : dB2 (dL c pc) 189 v = true) : decode c pc = .ok (.anewarray v, 3) := by
  obtain ⟨x, y, z, r, e, e1, e2⟩ := dB2_e h
  refine dcDec (q := pc + 3) ?_ rfl
  unfold _root_.Jvm.ClassFile.Decoder.instr
  rw [dcBind, (dcAt e).1, e1]
  show (_root_.Jvm.ClassFile.Reader.u2 >>= fun a => pure (.anewarray a) : _root_.Jvm.ClassFile.Decoder _root_.Jvm.ClassFile.Instr) c (pc + 1) = _
  rw [dcBind, dcU2 (dcAt e).2, e2]
  rfl
set_option maxRecDepth 20000 in
theorem d_190 {c : ByteArray} {pc : Nat} (h : dB0 (dL c pc) 190 = true) : decode c pc = .ok (.arraylength, 1) := by
  obtain ⟨x, r, e, e1⟩ := dB0_e h
  refine dcDec (q := pc + 1) ?_ rfl
  unfold _root_.Jvm.ClassFile.Decoder.instr
  rw [dcBind, (dcAt e).1, e1]
  rfl
set_option maxRecDepth 20000 in
theorem d_191 {c : ByteArray} {pc : Nat} (h : dB0 (dL c pc) 191 = true) : decode c pc = .ok (.athrow, 1) := by
  obtain ⟨x, r, e, e1⟩ := dB0_e h
  refine dcDec (q := pc + 1) ?_ rfl
  unfold _root_.Jvm.ClassFile.Decoder.instr
  rw [dcBind, (dcAt e).1, e1]
  rfl
set_option maxRecDepth 20000 in
theorem d_198 {c : ByteArray} {pc : Nat} {v : Int} (h : dBs2 (dL c pc) 198 v = true) : decode c pc = .ok (.ifnull v, 3) := by
  obtain ⟨x, y, z, r, e, e1, e2⟩ := dBs2_e h
  refine dcDec (q := pc + 3) ?_ rfl
  unfold _root_.Jvm.ClassFile.Decoder.instr
  rw [dcBind, (dcAt e).1, e1]
  show (_root_.Jvm.ClassFile.Reader.s2 >>= fun a => pure (.ifnull a) : _root_.Jvm.ClassFile.Decoder _root_.Jvm.ClassFile.Instr) c (pc + 1) = _
  rw [dcBind, dcS2 (dcAt e).2, e2]
  rfl
set_option maxRecDepth 20000 in
theorem d_199 {c : ByteArray} {pc : Nat} {v : Int} (h : dBs2 (dL c pc) 199 v = true) : decode c pc = .ok (.ifnonnull v, 3) := by
  obtain ⟨x, y, z, r, e, e1, e2⟩ := dBs2_e h
  refine dcDec (q := pc + 3) ?_ rfl
  unfold _root_.Jvm.ClassFile.Decoder.instr
  rw [dcBind, (dcAt e).1, e1]
  show (_root_.Jvm.ClassFile.Reader.s2 >>= fun a => pure (.ifnonnull a) : _root_.Jvm.ClassFile.Decoder _root_.Jvm.ClassFile.Instr) c (pc + 1) = _
  rw [dcBind, dcS2 (dcAt e).2, e2]
  rfl
