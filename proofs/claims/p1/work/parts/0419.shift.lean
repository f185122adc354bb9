/-! ===== decoding a row of bytes out of its middle ===== -/
def am_sub (b : ByteArray) (d n : Nat) : ByteArray := ⟨⟨(b.data.toList.drop d).take n⟩⟩
theorem am_u1y {l : List UInt8} {p : Nat} (c : p < l.length) : Jvm.ClassFile.Reader.runAt (Jvm.ClassFile.Reader.u1 : Jvm.ClassFile.Decoder Nat) (⟨⟨l⟩⟩ : ByteArray) p = .ok ((l[p]'c).toNat, p + 1) := by
  have c' : p < (⟨⟨l⟩⟩ : ByteArray).size := c
  have e : Jvm.ClassFile.Reader.runAt (Jvm.ClassFile.Reader.u1 : Jvm.ClassFile.Decoder Nat) (⟨⟨l⟩⟩ : ByteArray) p = Jvm.ClassFile.Reader.runAt ((if h : p < (⟨⟨l⟩⟩ : ByteArray).size then (do set (p + 1); pure ((⟨⟨l⟩⟩ : ByteArray)[p]'h).toNat) else throw (Jvm.ClassFile.HasTruncated.truncated p)) : Jvm.ClassFile.Decoder Nat) (⟨⟨l⟩⟩ : ByteArray) p := rfl
  rw [e, dif_pos c']
  rfl
theorem am_u1n {l : List UInt8} {p : Nat} (c : ¬ p < l.length) : Jvm.ClassFile.Reader.runAt (Jvm.ClassFile.Reader.u1 : Jvm.ClassFile.Decoder Nat) (⟨⟨l⟩⟩ : ByteArray) p = .error (.truncated p) := by
  have c' : ¬ p < (⟨⟨l⟩⟩ : ByteArray).size := c
  have e : Jvm.ClassFile.Reader.runAt (Jvm.ClassFile.Reader.u1 : Jvm.ClassFile.Decoder Nat) (⟨⟨l⟩⟩ : ByteArray) p = Jvm.ClassFile.Reader.runAt ((if h : p < (⟨⟨l⟩⟩ : ByteArray).size then (do set (p + 1); pure ((⟨⟨l⟩⟩ : ByteArray)[p]'h).toNat) else throw (Jvm.ClassFile.HasTruncated.truncated p)) : Jvm.ClassFile.Decoder Nat) (⟨⟨l⟩⟩ : ByteArray) p := rfl
  rw [e, dif_neg c']
  rfl
/-- what a reader gives in a cut it gives in the whole -/
def am_sm {α : Type} (l : List UInt8) (d n : Nat) (r r' : Jvm.ClassFile.Decoder α) : Prop := ∀ (p : Nat) (x : α) (q : Nat), Jvm.ClassFile.Reader.runAt r (⟨⟨(l.drop d).take n⟩⟩ : ByteArray) p = .ok (x, q) → Jvm.ClassFile.Reader.runAt r' (⟨⟨l⟩⟩ : ByteArray) (d + p) = .ok (x, d + q)
theorem am_smu1 {l : List UInt8} {d n : Nat} : am_sm l d n Jvm.ClassFile.Reader.u1 Jvm.ClassFile.Reader.u1 := by
  intro p x q h
  by_cases c : p < ((l.drop d).take n).length
  · rw [am_u1y c] at h
    have c1 : p < n ∧ d + p < l.length := by
      rw [List.length_take, List.length_drop] at c
      omega
    have e1 : ((l.drop d).take n)[p]? = some (((l.drop d).take n)[p]'c) := List.getElem?_eq_getElem c
    have e2 : l[d + p]? = some (l[d + p]'c1.2) := List.getElem?_eq_getElem c1.2
    rw [List.getElem?_take_of_lt c1.1, List.getElem?_drop, e2] at e1
    injection e1 with e1
    injection h with h
    injection h with h1 h2
    rw [am_u1y c1.2, e1, h1, ← h2]
    rfl
  · rw [am_u1n c] at h
    cases h
theorem am_bR {α β : Type} (r : Jvm.ClassFile.Decoder α) (f : α → Jvm.ClassFile.Decoder β) (b : ByteArray) (p : Nat) : Jvm.ClassFile.Reader.runAt (r >>= f) b p = Except.bind (Jvm.ClassFile.Reader.runAt r b p) (fun v => Jvm.ClassFile.Reader.runAt (f v.1) b v.2) := rfl
theorem am_mR {α β : Type} (r : Jvm.ClassFile.Decoder α) (f : α → β) (b : ByteArray) (p : Nat) : Jvm.ClassFile.Reader.runAt (f <$> r) b p = Except.bind (Jvm.ClassFile.Reader.runAt r b p) (fun v => Except.ok (f v.1, v.2)) := rfl
theorem am_smp {α : Type} {l : List UInt8} {d n : Nat} {x : α} : am_sm l d n (pure x) (pure x) := by
  intro p y q h
  have h : (Except.ok (x, p) : Except Jvm.ClassFile.DecodeError (α × Nat)) = .ok (y, q) := h
  injection h with h
  injection h with h1 h2
  rw [← h1, ← h2]
  rfl
theorem am_smb {α β : Type} {l : List UInt8} {d n : Nat} {r r' : Jvm.ClassFile.Decoder α} {f f' : α → Jvm.ClassFile.Decoder β} (hr : am_sm l d n r r') (hf : ∀ x, am_sm l d n (f x) (f' x)) : am_sm l d n (r >>= f) (r' >>= f') := by
  intro p y q h
  rw [am_bR] at h ⊢
  cases e : Jvm.ClassFile.Reader.runAt r (⟨⟨(l.drop d).take n⟩⟩ : ByteArray) p with
  | error z =>
    rw [e] at h
    have h : (Except.error z : Except Jvm.ClassFile.DecodeError (β × Nat)) = .ok (y, q) := h
    cases h
  | ok v =>
    rw [e] at h
    rw [hr p v.1 v.2 e]
    exact hf v.1 v.2 y q h
theorem am_smm {α β : Type} {l : List UInt8} {d n : Nat} {r r' : Jvm.ClassFile.Decoder α} {f : α → β} (hr : am_sm l d n r r') : am_sm l d n (f <$> r) (f <$> r') := by
  intro p y q h
  rw [am_mR] at h ⊢
  cases e : Jvm.ClassFile.Reader.runAt r (⟨⟨(l.drop d).take n⟩⟩ : ByteArray) p with
  | error z =>
    rw [e] at h
    have h : (Except.error z : Except Jvm.ClassFile.DecodeError (β × Nat)) = .ok (y, q) := h
    cases h
  | ok v =>
    rw [e] at h
    have h : (Except.ok (f v.1, v.2) : Except Jvm.ClassFile.DecodeError (β × Nat)) = .ok (y, q) := h
    injection h with h
    injection h with h1 h2
    rw [hr p v.1 v.2 e, ← h1, ← h2]
    rfl
theorem am_smu2 {l : List UInt8} {d n : Nat} : am_sm l d n Jvm.ClassFile.Reader.u2 Jvm.ClassFile.Reader.u2 := by
  unfold Jvm.ClassFile.Reader.u2
  exact am_smb am_smu1 fun _ => am_smb am_smu1 fun _ => am_smp
theorem am_sms1 {l : List UInt8} {d n : Nat} : am_sm l d n Jvm.ClassFile.Reader.s1 Jvm.ClassFile.Reader.s1 := by
  unfold Jvm.ClassFile.Reader.s1
  exact am_smm am_smu1
theorem am_sms2 {l : List UInt8} {d n : Nat} : am_sm l d n Jvm.ClassFile.Reader.s2 Jvm.ClassFile.Reader.s2 := by
  unfold Jvm.ClassFile.Reader.s2
  exact am_smm am_smu2
/-- opcodes whose operands are read without looking where they stand -/
def am_ops : List Nat := [2, 3, 4, 5, 6, 7, 8, 9, 10, 16, 20, 21, 22, 42, 43, 44, 45, 46, 47, 54, 55, 96, 121, 127, 129, 132, 133, 148, 153, 154, 155, 156, 157, 158, 159, 160, 161, 162, 163, 164, 167, 172, 182, 184]
set_option maxRecDepth 100000 in
theorem am_smi {l : List UInt8} {d n p q o s : Nat} {i : Instr} (h0 : Jvm.ClassFile.Reader.runAt (Jvm.ClassFile.Reader.u1 : Jvm.ClassFile.Decoder Nat) (⟨⟨(l.drop d).take n⟩⟩ : ByteArray) p = .ok (o, s)) (ho : o ∈ am_ops) (h : Jvm.ClassFile.Reader.runAt (Jvm.ClassFile.Decoder.instr p) (⟨⟨(l.drop d).take n⟩⟩ : ByteArray) p = .ok (i, q)) : Jvm.ClassFile.Reader.runAt (Jvm.ClassFile.Decoder.instr (d + p)) (⟨⟨l⟩⟩ : ByteArray) (d + p) = .ok (i, d + q) := by
  unfold Jvm.ClassFile.Decoder.instr at h ⊢
  rw [am_bR, h0] at h
  rw [am_bR, am_smu1 _ _ _ h0]
  dsimp only [Except.bind] at h ⊢
  simp only [am_ops, List.mem_cons, List.not_mem_nil, or_false] at ho
  rcases ho with rfl | rfl | rfl | rfl | rfl | rfl | rfl | rfl | rfl | rfl | rfl | rfl | rfl | rfl | rfl | rfl | rfl | rfl | rfl | rfl | rfl | rfl | rfl | rfl | rfl | rfl | rfl | rfl | rfl | rfl | rfl | rfl | rfl | rfl | rfl | rfl | rfl | rfl | rfl | rfl | rfl | rfl | rfl | rfl
  · first | exact am_smp _ _ _ h | (dsimp only at h ⊢; exact am_smp _ _ _ h)
  · first | exact am_smp _ _ _ h | (dsimp only at h ⊢; exact am_smp _ _ _ h)
  · first | exact am_smp _ _ _ h | (dsimp only at h ⊢; exact am_smp _ _ _ h)
  · first | exact am_smp _ _ _ h | (dsimp only at h ⊢; exact am_smp _ _ _ h)
  · first | exact am_smp _ _ _ h | (dsimp only at h ⊢; exact am_smp _ _ _ h)
  · first | exact am_smp _ _ _ h | (dsimp only at h ⊢; exact am_smp _ _ _ h)
  · first | exact am_smp _ _ _ h | (dsimp only at h ⊢; exact am_smp _ _ _ h)
  · first | exact am_smp _ _ _ h | (dsimp only at h ⊢; exact am_smp _ _ _ h)
  · first | exact am_smp _ _ _ h | (dsimp only at h ⊢; exact am_smp _ _ _ h)
  · first | exact (am_smb am_sms1 fun _ => am_smp) _ _ _ h | (dsimp only at h ⊢; exact (am_smb am_sms1 fun _ => am_smp) _ _ _ h)
  · first | exact (am_smb am_smu2 fun _ => am_smp) _ _ _ h | (dsimp only at h ⊢; exact (am_smb am_smu2 fun _ => am_smp) _ _ _ h)
  · first | exact (am_smb am_smu1 fun _ => am_smp) _ _ _ h | (dsimp only at h ⊢; exact (am_smb am_smu1 fun _ => am_smp) _ _ _ h)
  · first | exact (am_smb am_smu1 fun _ => am_smp) _ _ _ h | (dsimp only at h ⊢; exact (am_smb am_smu1 fun _ => am_smp) _ _ _ h)
  · first | exact am_smp _ _ _ h | (dsimp only at h ⊢; exact am_smp _ _ _ h)
  · first | exact am_smp _ _ _ h | (dsimp only at h ⊢; exact am_smp _ _ _ h)
  · first | exact am_smp _ _ _ h | (dsimp only at h ⊢; exact am_smp _ _ _ h)
  · first | exact am_smp _ _ _ h | (dsimp only at h ⊢; exact am_smp _ _ _ h)
  · first | exact am_smp _ _ _ h | (dsimp only at h ⊢; exact am_smp _ _ _ h)
  · first | exact am_smp _ _ _ h | (dsimp only at h ⊢; exact am_smp _ _ _ h)
  · first | exact (am_smb am_smu1 fun _ => am_smp) _ _ _ h | (dsimp only at h ⊢; exact (am_smb am_smu1 fun _ => am_smp) _ _ _ h)
  · first | exact (am_smb am_smu1 fun _ => am_smp) _ _ _ h | (dsimp only at h ⊢; exact (am_smb am_smu1 fun _ => am_smp) _ _ _ h)
  · first | exact am_smp _ _ _ h | (dsimp only at h ⊢; exact am_smp _ _ _ h)
  · first | exact am_smp _ _ _ h | (dsimp only at h ⊢; exact am_smp _ _ _ h)
  · first | exact am_smp _ _ _ h | (dsimp only at h ⊢; exact am_smp _ _ _ h)
  · first | exact am_smp _ _ _ h | (dsimp only at h ⊢; exact am_smp _ _ _ h)
  · first | exact (am_smb am_smu1 fun _ => am_smb am_sms1 fun _ => am_smp) _ _ _ h | (dsimp only at h ⊢; exact (am_smb am_smu1 fun _ => am_smb am_sms1 fun _ => am_smp) _ _ _ h)
  · first | exact am_smp _ _ _ h | (dsimp only at h ⊢; exact am_smp _ _ _ h)
  · first | exact am_smp _ _ _ h | (dsimp only at h ⊢; exact am_smp _ _ _ h)
  · first | exact (am_smb am_sms2 fun _ => am_smp) _ _ _ h | (dsimp only at h ⊢; exact (am_smb am_sms2 fun _ => am_smp) _ _ _ h)
  · first | exact (am_smb am_sms2 fun _ => am_smp) _ _ _ h | (dsimp only at h ⊢; exact (am_smb am_sms2 fun _ => am_smp) _ _ _ h)
  · first | exact (am_smb am_sms2 fun _ => am_smp) _ _ _ h | (dsimp only at h ⊢; exact (am_smb am_sms2 fun _ => am_smp) _ _ _ h)
  · first | exact (am_smb am_sms2 fun _ => am_smp) _ _ _ h | (dsimp only at h ⊢; exact (am_smb am_sms2 fun _ => am_smp) _ _ _ h)
  · first | exact (am_smb am_sms2 fun _ => am_smp) _ _ _ h | (dsimp only at h ⊢; exact (am_smb am_sms2 fun _ => am_smp) _ _ _ h)
  · first | exact (am_smb am_sms2 fun _ => am_smp) _ _ _ h | (dsimp only at h ⊢; exact (am_smb am_sms2 fun _ => am_smp) _ _ _ h)
  · first | exact (am_smb am_sms2 fun _ => am_smp) _ _ _ h | (dsimp only at h ⊢; exact (am_smb am_sms2 fun _ => am_smp) _ _ _ h)
  · first | exact (am_smb am_sms2 fun _ => am_smp) _ _ _ h | (dsimp only at h ⊢; exact (am_smb am_sms2 fun _ => am_smp) _ _ _ h)
  · first | exact (am_smb am_sms2 fun _ => am_smp) _ _ _ h | (dsimp only at h ⊢; exact (am_smb am_sms2 fun _ => am_smp) _ _ _ h)
  · first | exact (am_smb am_sms2 fun _ => am_smp) _ _ _ h | (dsimp only at h ⊢; exact (am_smb am_sms2 fun _ => am_smp) _ _ _ h)
  · first | exact (am_smb am_sms2 fun _ => am_smp) _ _ _ h | (dsimp only at h ⊢; exact (am_smb am_sms2 fun _ => am_smp) _ _ _ h)
  · first | exact (am_smb am_sms2 fun _ => am_smp) _ _ _ h | (dsimp only at h ⊢; exact (am_smb am_sms2 fun _ => am_smp) _ _ _ h)
  · first | exact (am_smb am_sms2 fun _ => am_smp) _ _ _ h | (dsimp only at h ⊢; exact (am_smb am_sms2 fun _ => am_smp) _ _ _ h)
  · first | exact am_smp _ _ _ h | (dsimp only at h ⊢; exact am_smp _ _ _ h)
  · first | exact (am_smb am_smu2 fun _ => am_smp) _ _ _ h | (dsimp only at h ⊢; exact (am_smb am_smu2 fun _ => am_smp) _ _ _ h)
  · first | exact (am_smb am_smu2 fun _ => am_smp) _ _ _ h | (dsimp only at h ⊢; exact (am_smb am_smu2 fun _ => am_smp) _ _ _ h)
/-- an instruction's check, in a cut -/
def am_ds (b : ByteArray) (d n pc : Nat) (i : Instr) : Bool := Nat.ble d pc && (am_dec (am_sub b d n) (pc - d) i && (match Jvm.ClassFile.Reader.runAt (Jvm.ClassFile.Reader.u1 : Jvm.ClassFile.Decoder Nat) (am_sub b d n) (pc - d) with
  | .ok v => decide (v.1 ∈ am_ops)
  | .error _ => false))
theorem am_ds_ok {b : ByteArray} {d n pc : Nat} {i : Instr} (h : am_ds b d n pc i = true) : am_dec b pc i = true := by
  unfold am_ds at h
  rw [Bool.and_eq_true, Bool.and_eq_true] at h
  obtain ⟨h1, h2, h3⟩ := h
  have h1 := Nat.le_of_ble_eq_true h1
  obtain ⟨p, rfl⟩ : ∃ p, pc = d + p := ⟨pc - d, by omega⟩
  rw [Nat.add_sub_cancel_left] at h2 h3
  obtain ⟨⟨l⟩⟩ := b
  obtain ⟨len, e, hl⟩ := am_dec_sw h2
  have e2 : decode (⟨⟨l⟩⟩ : ByteArray) (d + p) = .ok (i, len) := by
    cases e0 : Jvm.ClassFile.Reader.runAt (Jvm.ClassFile.Reader.u1 : Jvm.ClassFile.Decoder Nat) (am_sub ⟨⟨l⟩⟩ d n) p with
    | error z =>
      rw [e0] at h3
      cases h3
    | ok v =>
      rw [e0] at h3
      have ho : v.1 ∈ am_ops := of_decide_eq_true h3
      unfold decode at e ⊢
      cases e1 : Jvm.ClassFile.Reader.runAt (Jvm.ClassFile.Decoder.instr p) (am_sub ⟨⟨l⟩⟩ d n) p with
      | error z =>
        rw [e1] at e
        have e : (Except.error z : Except Jvm.ClassFile.DecodeError (Instr × Nat)) = .ok (i, len) := e
        cases e
      | ok w =>
        rw [e1] at e
        have e : (Except.ok (w.1, w.2 - p) : Except Jvm.ClassFile.DecodeError (Instr × Nat)) = .ok (i, len) := e
        injection e with e
        injection e with ej el
        rw [am_smi (l := l) (d := d) (n := n) (p := p) (o := v.1) (s := v.2) (i := w.1) (q := w.2) e0 ho e1]
        show (Except.ok (w.1, d + w.2 - (d + p)) : Except Jvm.ClassFile.DecodeError (Instr × Nat)) = .ok (i, len)
        rw [Nat.add_sub_add_left, ej, el]
  unfold am_dec
  rw [e2]
  show (decide (i = i) && (am_sw i || len == am_len i)) = true
  rw [Bool.and_eq_true, decide_eq_true_eq, Bool.or_eq_true, beq_iff_eq]
  exact ⟨rfl, hl⟩
theorem am_dsa {c : am_C} {m : am_M} {d n : Nat} (h : (c.all fun q => am_ds (am_by m) d n q.1 q.2.1 && am_lk m q.1 q.2.1 q.2.2) = true) : (c.all fun q => am_dec (am_by m) q.1 q.2.1 && am_lk m q.1 q.2.1 q.2.2) = true := by
  rw [List.all_eq_true] at h ⊢
  intro q hq
  have k : (am_ds (am_by m) d n q.1 q.2.1 && am_lk m q.1 q.2.1 q.2.2) = true := h q hq
  show (am_dec (am_by m) q.1 q.2.1 && am_lk m q.1 q.2.1 q.2.2) = true
  rw [Bool.and_eq_true] at k ⊢
  exact ⟨am_ds_ok k.1, k.2⟩
