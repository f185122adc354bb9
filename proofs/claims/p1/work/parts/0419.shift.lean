/-! ===== decoding a row of bytes out of its middle ===== -/
def am_sub (b : ByteArray) (d n : Nat) : ByteArray := ⟨⟨(b.data.toList.drop d).take n⟩⟩
theorem am_u1y {l : List UInt8} {p : Nat} (c : p < l.length) : Jvm.ClassFile.Reader.runAt (Jvm.ClassFile.Reader.u1 : Jvm.ClassFile.Decoder Nat) (⟨⟨l⟩⟩ : ByteArray) p = .ok ((l[p]'c).toNat, p + 1) := sorry
theorem am_u1n {l : List UInt8} {p : Nat} (c : ¬ p < l.length) : Jvm.ClassFile.Reader.runAt (Jvm.ClassFile.Reader.u1 : Jvm.ClassFile.Decoder Nat) (⟨⟨l⟩⟩ : ByteArray) p = .error (.truncated p) := sorry
/-- what a reader gives in a cut it gives in the whole -/
def am_sm {α : Type} (l : List UInt8) (d n : Nat) (r r' : Jvm.ClassFile.Decoder α) : Prop := ∀ (p : Nat) (x : α) (q : Nat), Jvm.ClassFile.Reader.runAt r (⟨⟨(l.drop d).take n⟩⟩ : ByteArray) p = .ok (x, q) → Jvm.ClassFile.Reader.runAt r' (⟨⟨l⟩⟩ : ByteArray) (d + p) = .ok (x, d + q)
theorem am_smu1 {l : List UInt8} {d n : Nat} : am_sm l d n Jvm.ClassFile.Reader.u1 Jvm.ClassFile.Reader.u1 := sorry
theorem am_bR {α β : Type} (r : Jvm.ClassFile.Decoder α) (f : α → Jvm.ClassFile.Decoder β) (b : ByteArray) (p : Nat) : Jvm.ClassFile.Reader.runAt (r >>= f) b p = Except.bind (Jvm.ClassFile.Reader.runAt r b p) (fun v => Jvm.ClassFile.Reader.runAt (f v.1) b v.2) := rfl
theorem am_mR {α β : Type} (r : Jvm.ClassFile.Decoder α) (f : α → β) (b : ByteArray) (p : Nat) : Jvm.ClassFile.Reader.runAt (f <$> r) b p = Except.bind (Jvm.ClassFile.Reader.runAt r b p) (fun v => Except.ok (f v.1, v.2)) := rfl
theorem am_smp {α : Type} {l : List UInt8} {d n : Nat} {x : α} : am_sm l d n (pure x) (pure x) := sorry
theorem am_smb {α β : Type} {l : List UInt8} {d n : Nat} {r r' : Jvm.ClassFile.Decoder α} {f f' : α → Jvm.ClassFile.Decoder β} (hr : am_sm l d n r r') (hf : ∀ x, am_sm l d n (f x) (f' x)) : am_sm l d n (r >>= f) (r' >>= f') := sorry
theorem am_smm {α β : Type} {l : List UInt8} {d n : Nat} {r r' : Jvm.ClassFile.Decoder α} {f : α → β} (hr : am_sm l d n r r') : am_sm l d n (f <$> r) (f <$> r') := sorry
theorem am_smu2 {l : List UInt8} {d n : Nat} : am_sm l d n Jvm.ClassFile.Reader.u2 Jvm.ClassFile.Reader.u2 := sorry
theorem am_sms1 {l : List UInt8} {d n : Nat} : am_sm l d n Jvm.ClassFile.Reader.s1 Jvm.ClassFile.Reader.s1 := sorry
theorem am_sms2 {l : List UInt8} {d n : Nat} : am_sm l d n Jvm.ClassFile.Reader.s2 Jvm.ClassFile.Reader.s2 := sorry
/-- opcodes whose operands are read without looking where they stand -/
def am_ops : List Nat := [2, 3, 4, 5, 6, 7, 8, 9, 10, 16, 20, 21, 22, 42, 43, 44, 45, 46, 47, 54, 55, 96, 121, 127, 129, 132, 133, 148, 153, 154, 155, 156, 157, 158, 159, 160, 161, 162, 163, 164, 167, 172, 182, 184]
set_option maxRecDepth 100000 in
theorem am_smi {l : List UInt8} {d n p q o s : Nat} {i : Instr} (h0 : Jvm.ClassFile.Reader.runAt (Jvm.ClassFile.Reader.u1 : Jvm.ClassFile.Decoder Nat) (⟨⟨(l.drop d).take n⟩⟩ : ByteArray) p = .ok (o, s)) (ho : o ∈ am_ops) (h : Jvm.ClassFile.Reader.runAt (Jvm.ClassFile.Decoder.instr p) (⟨⟨(l.drop d).take n⟩⟩ : ByteArray) p = .ok (i, q)) : Jvm.ClassFile.Reader.runAt (Jvm.ClassFile.Decoder.instr (d + p)) (⟨⟨l⟩⟩ : ByteArray) (d + p) = .ok (i, d + q) := sorry
/-- an instruction's check, in a cut -/
def am_ds (b : ByteArray) (d n pc : Nat) (i : Instr) : Bool := Nat.ble d pc && (am_dec (am_sub b d n) (pc - d) i && (match Jvm.ClassFile.Reader.runAt (Jvm.ClassFile.Reader.u1 : Jvm.ClassFile.Decoder Nat) (am_sub b d n) (pc - d) with
  | .ok v => decide (v.1 ∈ am_ops)
  | .error _ => false))
theorem am_ds_ok {b : ByteArray} {d n pc : Nat} {i : Instr} (h : am_ds b d n pc i = true) : am_dec b pc i = true := sorry
theorem am_dsa {c : am_C} {m : am_M} {d n : Nat} (h : (c.all fun q => am_ds (am_by m) d n q.1 q.2.1 && am_lk m q.1 q.2.1 q.2.2) = true) : (c.all fun q => am_dec (am_by m) q.1 q.2.1 && am_lk m q.1 q.2.1 q.2.2) = true := sorry