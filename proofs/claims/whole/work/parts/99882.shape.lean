/-! ===== what a node's form is: heights, folds, loose leaves ===== -/
def mxR (f : Nat → Nat) (a : Nat) : Nat → Nat
  | 0 => 0
  | m + 1 => max (mxR f a m) (f (a + m))
theorem mxR_add (f : Nat → Nat) (a m : Nat) : ∀ n, mxR f a (m + n) = max (mxR f a m) (mxR f (a + m) n) := by
  intro n
  induction n with
  | zero => exact (Nat.max_eq_left (Nat.zero_le _)).symm
  | succ n ih =>
    show max (mxR f a (m + n)) (f (a + (m + n))) = max (mxR f a m) (max (mxR f (a + m) n) (f (a + m + n)))
    rw [ih, Nat.max_assoc, Nat.add_assoc]
theorem mxR_ge {f : Nat → Nat} {a : Nat} : ∀ m, 1 ≤ m → f a ≤ mxR f a m := by
  intro m
  induction m with
  | zero => intro h; omega
  | succ m ih =>
    intro _
    show f a ≤ max (mxR f a m) (f (a + m))
    by_cases c : m = 0
    · rw [c]; exact Nat.le_max_right _ _
    · exact Nat.le_trans (ih (by omega)) (Nat.le_max_left _ _)
theorem mxR_le {f : Nat → Nat} {a B : Nat} : ∀ m, (∀ j, a ≤ j → j < a + m → f j ≤ B) → mxR f a m ≤ B := by
  intro m
  induction m with
  | zero => intro _; exact Nat.zero_le _
  | succ m ih =>
    intro h
    exact Nat.max_le.mpr ⟨ih (fun j h1 h2 => h j h1 (by omega)), h _ (by omega) (by omega)⟩
def anR (P : Nat → Bool) (a : Nat) : Nat → Bool
  | 0 => false
  | m + 1 => anR P a m || P (a + m)
theorem anR_add (P : Nat → Bool) (a m : Nat) : ∀ n, anR P a (m + n) = (anR P a m || anR P (a + m) n) := by
  intro n
  induction n with
  | zero => exact (Bool.or_false _).symm
  | succ n ih =>
    show (anR P a (m + n) || P (a + (m + n))) = (anR P a m || (anR P (a + m) n || P (a + m + n)))
    rw [ih, Bool.or_assoc, Nat.add_assoc]
def dpL (l : List (Nat × Nat)) (k : Nat) : Nat := (cxK l k).2.1
def inL (l : List (Nat × Nat)) (k : Nat) : Nat := (cxK l k).2.2
def isFo (l : List (Nat × Nat)) (j : Nat) : Bool := decide (sL l j = 19)
def isLf (l : List (Nat × Nat)) (j : Nat) : Bool := decide (sL l j = 5) || decide (sL l j = 6)
def tlL (l : List (Nat × Nat)) (k : Nat) : Nat := mxR (dpL l) k (tk 1 (l.drop k)) + 1 - dpL l k
def foL (l : List (Nat × Nat)) (k : Nat) : Bool := anR (isFo l) k (tk 1 (l.drop k))
def loL (l : List (Nat × Nat)) (k : Nat) : Bool := decide (inL l k = 1) && anR (isLf l) k (tk 1 (l.drop k))
theorem kid_le {s : Nat} {c : Nat × Nat × Nat} (h : c.2.2 ≤ 1) : ∀ y, y ∈ kid s c → y.2.2 ≤ 1 := by
  intro y hy
  unfold kid at hy
  obtain ⟨p, -, rfl⟩ := List.mem_map.mp hy
  show (if s = 19 ∧ p = 1 then 1 else c.2.2) ≤ 1
  split
  · exact Nat.le_refl _
  · exact h
theorem cx_le : ∀ (l : List (Nat × Nat)) (st : List (Nat × Nat × Nat)), (∀ c, c ∈ st → c.2.2 ≤ 1) → ∀ c, c ∈ cxl st l → c.2.2 ≤ 1 := by
  intro l
  induction l with
  | nil =>
    intro st _ c hc
    cases st with
    | nil => cases hc
    | cons a st => cases hc
  | cons x l ih =>
    intro st h c hc
    cases st with
    | nil => cases hc
    | cons a st =>
      rw [cxl_c] at hc
      rcases List.mem_cons.mp hc with rfl | hc
      · exact h _ (List.mem_cons_self ..)
      · refine ih _ (fun y hy => ?_) c hc
        rcases List.mem_append.mp hy with hy | hy
        · exact kid_le (h a (List.mem_cons_self ..)) y hy
        · exact h y (List.mem_cons_of_mem _ hy)
theorem in_le1 (l : List (Nat × Nat)) (k : Nat) : inL l k ≤ 1 := by
  unfold inL cxK
  rw [List.getD_eq_getElem?_getD]
  cases e : (cxl [(0, 1, 0)] l)[k]? with
  | none => exact Nat.zero_le _
  | some c =>
    refine cx_le l [(0, 1, 0)] (fun c hc => ?_) c (List.mem_of_getElem? e)
    rcases List.mem_cons.mp hc with rfl | hc
    · exact Nat.zero_le _
    · cases hc
/-- a node and its part p -/
theorem fm_part {l r : List (Nat × Nat)} {x : Nat × Nat} {k p : Nat} (ho : okF [(0, 1, 0)] l) (hd : l.drop k = x :: r) (hp : p < arN x.1) : k + 1 + tk p r < l.length ∧ dpL l (k + 1 + tk p r) = dpL l k + 1 ∧ inL l (k + 1 + tk p r) = (if x.1 = 19 ∧ p = 1 then 1 else inL l k) ∧ 1 ≤ tk 1 (l.drop (k + 1 + tk p r)) ∧ 1 + tk (p + 1) r = (1 + tk p r) + tk 1 (l.drop (k + 1 + tk p r)) ∧ enL l (k + 1 + tk p r) = k + 1 + tk (p + 1) r := by
  obtain ⟨-, -, -, -, -, q6⟩ := form_at ho hd
  obtain ⟨y, r2, w1, w2⟩ := q6 p hp
  have e1 : tk 1 (l.drop (k + 1 + tk p r)) = tk 1 (r.drop (tk p r)) := by rw [drop_s hd]
  have e2 := tk_add r p 1
  have e3 : 1 ≤ tk 1 (l.drop (k + 1 + tk p r)) := by
    rw [w1, show (1 : Nat) = 0 + 1 from rfl, tk_c]
    omega
  refine ⟨by have := drop_len w1; omega, by unfold dpL; rw [w2], by unfold inL; rw [w2], e3, by omega, by unfold enL; omega⟩
theorem tl_s {l r : List (Nat × Nat)} {x : Nat × Nat} {k p : Nat} (ho : okF [(0, 1, 0)] l) (hd : l.drop k = x :: r) (hp : p < arN x.1) : max (mxR (dpL l) k (1 + tk p r) + 1 - dpL l k) (tlL l (k + 1 + tk p r) + 1) = mxR (dpL l) k (1 + tk (p + 1) r) + 1 - dpL l k := by
  obtain ⟨-, d, -, e3, e4, -⟩ := fm_part ho hd hp
  have g1 : dpL l k ≤ mxR (dpL l) k (1 + tk p r) := mxR_ge _ (by omega)
  have g2 : dpL l (k + 1 + tk p r) ≤ mxR (dpL l) (k + 1 + tk p r) (tk 1 (l.drop (k + 1 + tk p r))) := mxR_ge _ e3
  have a := mxR_add (dpL l) k (1 + tk p r) (tk 1 (l.drop (k + 1 + tk p r)))
  rw [show k + (1 + tk p r) = k + 1 + tk p r by omega, ← e4] at a
  rw [a]
  unfold tlL
  omega
theorem fo_s {l r : List (Nat × Nat)} {x : Nat × Nat} {k p : Nat} (ho : okF [(0, 1, 0)] l) (hd : l.drop k = x :: r) (hp : p < arN x.1) : (anR (isFo l) k (1 + tk p r) || foL l (k + 1 + tk p r)) = anR (isFo l) k (1 + tk (p + 1) r) := by
  obtain ⟨-, -, -, e3, e4, -⟩ := fm_part ho hd hp
  rw [e4, anR_add _ _ (1 + tk p r), show k + (1 + tk p r) = k + 1 + tk p r by omega]
  rfl
theorem lo_s {l r : List (Nat × Nat)} {x : Nat × Nat} {k p : Nat} (ho : okF [(0, 1, 0)] l) (hd : l.drop k = x :: r) (hp : p < arN x.1) : ((decide (inL l k = 1) && anR (isLf l) k (1 + tk p r)) || (loL l (k + 1 + tk p r) && !(decide (x.1 = 19 ∧ p = 1)))) = (decide (inL l k = 1) && anR (isLf l) k (1 + tk (p + 1) r)) := by
  obtain ⟨-, -, di, e3, e4, -⟩ := fm_part ho hd hp
  obtain ⟨-, -, -, -, q5, -⟩ := form_at ho hd
  have i1 := in_le1 l k
  rw [e4, anR_add _ _ (1 + tk p r), show k + (1 + tk p r) = k + 1 + tk p r by omega]
  unfold loL
  rw [di]
  by_cases c : inL l k = 1
  · have n19 : x.1 ≠ 19 := q5 c
    rw [if_neg (fun e => n19 e.1), c, decide_eq_false (p := x.1 = 19 ∧ p = 1) (fun e => n19 e.1)]
    simp
  · by_cases d : x.1 = 19 ∧ p = 1
    · rw [decide_eq_false c, decide_eq_true d]
      simp
    · rw [if_neg d, decide_eq_false c]
      simp
theorem tl_e {l r : List (Nat × Nat)} {x : Nat × Nat} {k : Nat} (hd : l.drop k = x :: r) : tk 1 (l.drop k) = 1 + tk (arN x.1) r := by
  rw [hd, show (1 : Nat) = 0 + 1 from rfl, tk_c, Nat.zero_add]
theorem mx_1 (f : Nat → Nat) (k : Nat) : mxR f k (1 + 0) = f k := Nat.max_eq_right (Nat.zero_le _)
theorem an_1 (P : Nat → Bool) (k : Nat) : anR P k (1 + 0) = P k := Bool.false_or _
theorem lf_0 {l r : List (Nat × Nat)} {x : Nat × Nat} {k : Nat} (ho : okF [(0, 1, 0)] l) (hd : l.drop k = x :: r) : (decide (inL l k = 1) && isLf l k) = (decide (x.1 = 5) || decide (x.1 = 6)) := by
  obtain ⟨-, -, -, q4, -, -⟩ := form_at ho hd
  have i1 := in_le1 l k
  unfold isLf
  rw [sL_at hd]
  by_cases c : inL l k = 1
  · rw [decide_eq_true c, Bool.true_and]
  · obtain ⟨n5, n6⟩ := q4 (show (cxK l k).2.2 = 0 by unfold inL at c i1; omega)
    rw [decide_eq_false n5, decide_eq_false n6, Bool.or_false, Bool.and_false]
theorem afB (b : Bool) : am_afit 2 (nI b.toNat) = true := by cases b <;> rfl
theorem tl_b {l : List (Nat × Nat)} (ho : okF [(0, 1, 0)] l) (hl : l.length ≤ 60) {k : Nat} (hk : k < l.length) : dpL l k ≤ 12 := by
  obtain ⟨x, r, m, hd, hm⟩ := isF_at (okF_F l _ ho) hk
  exact (form_at ho hd).2.2.1
theorem tk_1le {l : List (Nat × Nat)} {k : Nat} (hk : k ≤ l.length) : k + tk 1 (l.drop k) ≤ l.length := by
  have := tk_le (l.drop k) 1
  rw [List.length_drop] at this
  omega
theorem mx_b {l : List (Nat × Nat)} (ho : okF [(0, 1, 0)] l) (hl : l.length ≤ 60) {k m : Nat} (h : k + m ≤ l.length) : mxR (dpL l) k m ≤ 12 := mxR_le _ (fun j _ h2 => tl_b ho hl (by omega))
