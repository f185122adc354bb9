/-- the heap grows alone -/
def am_le (h h1 : am_H) : Prop := h.length ≤ h1.length ∧ am_sz h ≤ am_sz h1
theorem am_le.rf (h : am_H) : am_le h h := ⟨Nat.le_refl _, Nat.le_refl _⟩
theorem am_le.tr {a b c : am_H} (h1 : am_le a b) (h2 : am_le b c) : am_le a c := ⟨Nat.le_trans h1.1 h2.1, Nat.le_trans h1.2 h2.2⟩
theorem am_le.push (h : am_H) (e : am_E) : am_le h (h ++ [e]) := ⟨by simp, by rw [am_sz_push]; omega⟩
theorem am_le.set {h : am_H} {a : Nat} {e0 e : am_E} (ha : h[a]? = some e0) (he : am_sz1 e = am_sz1 e0) : am_le h (h.set a e) := ⟨by simp, by rw [am_sz_set ha he]; exact Nat.le_refl _⟩
theorem am_iald_h {t pc : Nat} {lv : am_LV} {st : List Value} {h : am_H} {q : am_S} (hs : am_iald t pc lv st h = some q) : am_le h q.2.2.2 := sorry
theorem am_iast_h {t pc : Nat} {lv : am_LV} {st : List Value} {h : am_H} {q : am_S} (hs : am_iast t pc lv st h = some q) : am_le h q.2.2.2 := sorry
theorem am_newa_h {t n pc : Nat} {lv : am_LV} {st : List Value} {h : am_H} {q : am_S} (hs : am_newa t n pc lv st h = some q) : am_le h q.2.2.2 := sorry
theorem am_s1_h {X : am_X} {i : Instr} {r pc : Nat} {lv : am_LV} {st : List Value} {h : am_H} {q : am_S} (hs : am_s1 X i r pc lv st h = some q) : am_le h q.2.2.2 := sorry
/-- the heap that a run leaves -/
def am_oh : am_O → am_H
  | .inl (_, h) => h
  | .inr (_, h) => h
theorem am_ret_h {m : am_M} {i : Instr} {st : List Value} {h : am_H} {o : am_O} (hs : am_ret m i st h = some o) : am_oh o = h := sorry
theorem am_run_h {X : am_X} : ∀ (n d y pc : Nat) (lv : am_LV) (st : List Value) (h : am_H) (o : am_O), am_run X n d y pc lv st h = some o → am_le h (am_oh o) := sorry