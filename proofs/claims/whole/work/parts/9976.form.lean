/-! ===== the form of a sound tree ===== -/
theorem kid_len (s : Nat) (c : Nat × Nat × Nat) : (kid s c).length = arN s := by
  unfold kid
  rw [List.length_map, List.length_range]
theorem okF_ne {c : Nat × Nat × Nat} {st : List (Nat × Nat × Nat)} {l : List (Nat × Nat)} (h : okF (c :: st) l) : ∃ x r, l = x :: r := by
  cases l with
  | nil => exact absurd h (fun e => e)
  | cons x r => exact ⟨x, r, rfl⟩
theorem okF_F : ∀ (l : List (Nat × Nat)) (st : List (Nat × Nat × Nat)), okF st l → isF st.length l := by
  intro l
  induction l with
  | nil =>
    intro st h
    cases st with
    | nil => exact trivial
    | cons c st => exact absurd h (fun e => e)
  | cons x l ih =>
    intro st h
    cases st with
    | nil => exact absurd h (fun e => e)
    | cons c st =>
      have h1 := ih _ h.2.2.2.2.2
      rw [List.length_append, kid_len, Nat.add_comm] at h1
      exact h1
/-- what each node was wanted as -/
def cxl : List (Nat × Nat × Nat) → List (Nat × Nat) → List (Nat × Nat × Nat)
  | c :: st, x :: l => c :: cxl (kid x.1 c ++ st) l
  | _, _ => []
theorem cxl_c (c : Nat × Nat × Nat) (st : List (Nat × Nat × Nat)) (x : Nat × Nat) (l : List (Nat × Nat)) : cxl (c :: st) (x :: l) = c :: cxl (kid x.1 c ++ st) l := by rw [cxl]
theorem cxl_at : ∀ (l : List (Nat × Nat)) (st0 : List (Nat × Nat × Nat)) (k : Nat) (x : Nat × Nat) (r : List (Nat × Nat)), okF st0 l → l.drop k = x :: r → ∃ c st, okF (c :: st) (x :: r) ∧ (cxl st0 l).drop k = cxl (c :: st) (x :: r) := by
  intro l
  induction l with
  | nil => intro st0 k x r _ h; rw [List.drop_nil] at h; cases h
  | cons y l ih =>
    intro st0 k x r ho h
    cases st0 with
    | nil => exact absurd ho (fun e => e)
    | cons c st =>
      cases k with
      | zero =>
        rw [List.drop_zero] at h
        rw [h] at ho
        exact ⟨c, st, ho, by rw [List.drop_zero, h]⟩
      | succ k =>
        rw [List.drop_succ_cons] at h
        obtain ⟨c', st', h1, h2⟩ := ih _ k x r ho.2.2.2.2.2 h
        exact ⟨c', st', h1, by rw [cxl_c, List.drop_succ_cons]; exact h2⟩
theorem cxl_tk : ∀ (l : List (Nat × Nat)) (st : List (Nat × Nat × Nat)) (p : Nat), okF st l → p ≤ st.length → okF (st.drop p) (l.drop (tk p l)) ∧ (cxl st l).drop (tk p l) = cxl (st.drop p) (l.drop (tk p l)) := by
  intro l
  induction l with
  | nil =>
    intro st p h hp
    cases st with
    | nil =>
      obtain rfl : p = 0 := Nat.le_zero.mp hp
      rw [tk_0, List.drop_zero, List.drop_zero]
      exact ⟨h, rfl⟩
    | cons c st => exact absurd h (fun e => e)
  | cons x l ih =>
    intro st p h hp
    cases st with
    | nil => exact absurd h (fun e => e)
    | cons c st =>
      cases p with
      | zero =>
        rw [tk_0, List.drop_zero, List.drop_zero, List.drop_zero]
        exact ⟨h, rfl⟩
      | succ p =>
        have hp : p ≤ st.length := by rw [List.length_cons] at hp; omega
        have h1 := ih (kid x.1 c ++ st) (p + arN x.1) h.2.2.2.2.2 (by rw [List.length_append, kid_len]; omega)
        have e : (kid x.1 c ++ st).drop (p + arN x.1) = st.drop p := by
          rw [List.drop_append, kid_len, List.drop_eq_nil_of_le (by rw [kid_len]; omega), List.nil_append, show p + arN x.1 - arN x.1 = p by omega]
        rw [e] at h1
        rw [tk_c, show 1 + tk (p + arN x.1) l = tk (p + arN x.1) l + 1 by omega, List.drop_succ_cons, List.drop_succ_cons, cxl_c, List.drop_succ_cons]
        exact h1
theorem drop_get {α : Type} {l r : List α} {x d : α} {k : Nat} (h : l.drop k = x :: r) : l.getD k d = x := by
  have h1 : l[k]? = some x := by
    have e : (l.drop k)[0]? = some x := by rw [h]; rfl
    rw [List.getElem?_drop, Nat.add_zero] at e
    exact e
  rw [List.getD_eq_getElem?_getD, h1]
  rfl
theorem kid_at {s p : Nat} {c : Nat × Nat × Nat} (hp : p < arN s) : (kid s c).drop p = (twN s p, c.2.1 + 1, if s = 19 ∧ p = 1 then 1 else c.2.2) :: (kid s c).drop (p + 1) := by
  have h : (kid s c)[p]? = some (twN s p, c.2.1 + 1, if s = 19 ∧ p = 1 then 1 else c.2.2) := by
    unfold kid
    rw [List.getElem?_map, List.getElem?_range hp]
    rfl
  obtain ⟨hl, e⟩ := List.getElem?_eq_some_iff.mp h
  rw [List.drop_eq_getElem_cons hl, e]
/-- where a node ends -/
def enL (l : List (Nat × Nat)) (k : Nat) : Nat := k + tk 1 (l.drop k)
/-- how a node was wanted -/
def cxK (l : List (Nat × Nat)) (k : Nat) : Nat × Nat × Nat := (cxl [(0, 1, 0)] l).getD k (0, 0, 0)
/-- a node, its parts and how they are wanted -/
theorem form_at {l r : List (Nat × Nat)} {x : Nat × Nat} {k : Nat} (ho : okF [(0, 1, 0)] l) (hd : l.drop k = x :: r) : x.1 ≤ 20 ∧ truN x.1 = (cxK l k).1 ∧ (cxK l k).2.1 ≤ 12 ∧ ((cxK l k).2.2 = 0 → x.1 ≠ 5 ∧ x.1 ≠ 6) ∧ ((cxK l k).2.2 = 1 → x.1 ≠ 19) ∧ ∀ p, p < arN x.1 → ∃ y r2, l.drop (k + 1 + tk p r) = y :: r2 ∧ cxK l (k + 1 + tk p r) = (twN x.1 p, (cxK l k).2.1 + 1, if x.1 = 19 ∧ p = 1 then 1 else (cxK l k).2.2) := by
  obtain ⟨c, st, h1, h2⟩ := cxl_at l _ k x r ho hd
  rw [cxl_c] at h2
  have ck : cxK l k = c := drop_get h2
  rw [ck]
  obtain ⟨q1, q2, q3, q4, q5, q6⟩ := h1
  refine ⟨q1, q2, q3, q4, q5, fun p hp => ?_⟩
  have hl : p ≤ (kid x.1 c ++ st).length := by rw [List.length_append, kid_len]; omega
  obtain ⟨w1, w2⟩ := cxl_tk r (kid x.1 c ++ st) p q6 hl
  have e : (kid x.1 c ++ st).drop p = (twN x.1 p, c.2.1 + 1, if x.1 = 19 ∧ p = 1 then 1 else c.2.2) :: ((kid x.1 c).drop (p + 1) ++ st) := by
    rw [List.drop_append_of_le_length (by rw [kid_len]; omega), kid_at hp, List.cons_append]
  rw [e] at w1 w2
  obtain ⟨y, r2, w3⟩ := okF_ne w1
  refine ⟨y, r2, by rw [drop_s hd]; exact w3, ?_⟩
  rw [w3, cxl_c] at w2
  have e2 : (cxl [(0, 1, 0)] l).drop (k + 1 + tk p r) = (twN x.1 p, c.2.1 + 1, if x.1 = 19 ∧ p = 1 then 1 else c.2.2) :: cxl (kid y.1 (twN x.1 p, c.2.1 + 1, if x.1 = 19 ∧ p = 1 then 1 else c.2.2) ++ ((kid x.1 c).drop (p + 1) ++ st)) r2 := by
    rw [show k + 1 + tk p r = k + (1 + tk p r) by omega, ← List.drop_drop, h2, show 1 + tk p r = tk p r + 1 by omega, List.drop_succ_cons]
    exact w2
  exact drop_get e2
/-- what the runs need of a tree: sorts, ends, depths -/
theorem form_ev {l : List (Nat × Nat)} (ho : okF [(0, 1, 0)] l) : ∀ k x r, l.drop k = x :: r → x.1 ≤ 20 ∧ (cxK l k).2.1 ≤ 12 ∧ k < enL l k ∧ enL l k ≤ l.length ∧ (7 ≤ x.1 → k + 1 < l.length ∧ (cxK l (k + 1)).2.1 = (cxK l k).2.1 + 1) ∧ (10 ≤ x.1 → enL l (k + 1) < l.length ∧ (cxK l (enL l (k + 1))).2.1 = (cxK l k).2.1 + 1) ∧ (x.1 = 20 → enL l (enL l (k + 1)) < l.length ∧ (cxK l (enL l (enL l (k + 1)))).2.1 = (cxK l k).2.1 + 1) ∧ (∀ y r2, x.1 = 9 ∨ x.1 = 17 ∨ x.1 = 18 ∨ x.1 = 20 → l.drop (k + 1) = y :: r2 → truN y.1 = 1) ∧ (∀ y r2, x.1 = 17 ∨ x.1 = 18 → l.drop (enL l (k + 1)) = y :: r2 → truN y.1 = 1) := by
  intro k x r hd
  obtain ⟨q1, q2, q3, q4, q5, q6⟩ := form_at ho hd
  have len := drop_len hd
  have d1 : l.drop (k + 1) = r := by
    have := drop_s hd 0
    rw [List.drop_zero] at this
    exact this
  have a7 : 7 ≤ x.1 → 1 ≤ arN x.1 := fun h => by
    unfold arN
    rw [if_neg (by omega)]
    split
    · omega
    · split <;> omega
  have a10 : 10 ≤ x.1 → 2 ≤ arN x.1 := fun h => by
    unfold arN
    rw [if_neg (by omega), if_neg (by omega)]
    split <;> omega
  have a20 : x.1 = 20 → arN x.1 = 3 := fun h => by rw [h]; rfl
  have e1 : enL l (k + 1) = k + 1 + tk 1 r := by
    unfold enL
    rw [d1]
  have e2 : enL l (k + 1 + tk 1 r) = k + 1 + tk 2 r := by
    unfold enL
    rw [drop_s hd, show (2 : Nat) = 1 + 1 from rfl, tk_add r 1 1]
    omega
  have at_lt : ∀ p, p < arN x.1 → k + 1 + tk p r < l.length := fun p hp => by
    obtain ⟨y, r2, w1, -⟩ := q6 p hp
    have := drop_len w1
    omega
  refine ⟨q1, q3, ?_, ?_, fun h => ?_, fun h => ?_, fun h => ?_, fun y r2 h hy => ?_, fun y r2 h hy => ?_⟩
  · unfold enL
    rw [hd, show (1 : Nat) = 0 + 1 from rfl, tk_c]
    omega
  · unfold enL
    have := tk_le (l.drop k) 1
    have e : (l.drop k).length = l.length - k := List.length_drop
    omega
  · have w := at_lt 0 (by have := a7 h; omega)
    obtain ⟨y, r2, w1, w2⟩ := q6 0 (by have := a7 h; omega)
    rw [tk_0, Nat.add_zero] at w w2
    exact ⟨w, by rw [w2]⟩
  · have w := at_lt 1 (by have := a10 h; omega)
    obtain ⟨y, r2, w1, w2⟩ := q6 1 (by have := a10 h; omega)
    rw [e1]
    exact ⟨w, by rw [w2]⟩
  · have w := at_lt 2 (by rw [a20 h]; omega)
    obtain ⟨y, r2, w1, w2⟩ := q6 2 (by rw [a20 h]; omega)
    rw [e1, e2]
    exact ⟨w, by rw [w2]⟩
  · obtain ⟨y', r2', w1, w2⟩ := q6 0 (by have := a7 (by omega); omega)
    rw [tk_0, Nat.add_zero] at w1 w2
    obtain ⟨-, u2, -⟩ := form_at ho hy
    rw [u2, w2]
    show twN x.1 0 = 1
    unfold twN
    rw [if_pos (by omega)]
  · rw [e1] at hy
    obtain ⟨y', r2', w1, w2⟩ := q6 1 (by have := a10 (by omega); omega)
    obtain ⟨-, u2, -⟩ := form_at ho hy
    rw [u2, w2]
    show twN x.1 1 = 1
    unfold twN
    rw [if_pos (by omega)]
