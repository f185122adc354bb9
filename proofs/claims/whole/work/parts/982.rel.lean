/-! ===== what both sides keep between calls ===== -/
def wdN (kd : Nat) : Nat := if kd = 2 then 5 else 2
/-- the numbers of the items, as the class lays them; s, v: sorts and values, as the reference lays them -/
def itm (kd : Nat) (s v : Nat → Int32) (sz : Nat) (f : Nat → Int32) : Prop := if kd = 2 then (∀ k, k < sz → f (k * 5) = s k ∧ ∀ c, c < 4 → f (k * 5 + (1 + c)) = pv_367 (v k) (nI c)) else (∀ k, k < sz → f (k * 2) = s k ∧ f (k * 2 + 1) = v k)
/-- a number of two digits with a sign -/
def two (x : Int32) : Prop := (∃ a, a ≤ 99 ∧ x = nI a) ∨ (∃ a, a ≤ 99 ∧ x = - nI a)
/-- what a node's parts want: a truth, how deep, within a fold -/
def kid (s : Nat) (c : Nat × Nat × Nat) : List (Nat × Nat × Nat) := (List.range (arN s)).map (fun p => (twN s p, c.2.1 + 1, if s = 19 ∧ p = 1 then 1 else c.2.2))
/-- sorts that make trees, by what each place still wants -/
def okF : List (Nat × Nat × Nat) → List (Nat × Nat) → Prop
  | [], [] => True
  | [], _ :: _ => False
  | _ :: _, [] => False
  | c :: st, x :: l => x.1 ≤ 20 ∧ truN x.1 = c.1 ∧ c.2.1 ≤ 12 ∧ (c.2.2 = 0 → x.1 ≠ 5 ∧ x.1 ≠ 6) ∧ (c.2.2 = 1 → x.1 ≠ 19) ∧ okF (kid x.1 c ++ st) l
def okT (sz : Nat) (s v : Nat → Int32) : Prop := ∃ l : List (Nat × Nat), l.length = sz ∧ okF [(0, 1, 0)] l ∧ ∀ k x r, l.drop k = x :: r → s k = nI x.1 ∧ (x.1 = 0 → two (v k)) ∧ (x.1 ≠ 0 → v k = 0)
def tkN (s : Nat) : Nat := if s < 5 then 0 else if s < 7 then 1 else if s < 14 then 2 else if s = 15 then 2 else if s = 17 then 0 else 1
def ptN (s : Nat) : Nat := if s < 14 then 1 else if s < 16 then 2 else 0
/-- sorts and arguments that are sound code; ht: the pile's heights -/
def okC (sz : Nat) (s v : Nat → Int32) : Prop := ∃ (l a ht : Nat → Nat), ht 0 = 0 ∧ ht sz = 1 ∧ (∀ k, k < sz → l k ≤ 18 ∧ s k = nI (l k) ∧ (l k = 0 → two (v k)) ∧ (l k ≠ 0 → v k = nI (a k) ∧ a k ≤ 99) ∧ (l k < 17 → l k ≠ 0 → a k = 0) ∧ tkN (l k) ≤ ht k ∧ ht k - tkN (l k) + ptN (l k) ≤ 8 ∧ (l k ≠ 17 → ht (k + 1) = ht k - tkN (l k) + ptN (l k)) ∧ (17 ≤ l k → k + 1 + a k ≤ sz ∧ ht (k + 1 + a k) = ht k - tkN (l k) + ptN (l k)))
def okM (sz : Nat) (s v : Nat → Int32) : Prop := sz ≤ 6 ∧ ∀ k, k < sz → two (s k) ∧ ∃ e0 e1 e2 e3, e0 < sz ∧ e1 < sz ∧ e2 < sz ∧ e3 < sz ∧ v k = nI (e0 + 8 * e1 + 64 * e2 + 512 * e3)
def okN (ln sz : Nat) (s v : Nat → Int32) : Prop := 2 ≤ ln ∧ ln ≤ 8 ∧ sz ≤ 40 ∧ ∀ k, k < sz → ∃ i j, i < j ∧ j < ln ∧ s k = nI i ∧ v k = nI j
/-- a sound program -/
def sound (kd ln sz : Nat) (s v : Nat → Int32) : Prop := kd ≤ 3 ∧ sz ≤ 60 ∧ (kd ≠ 3 → 1 ≤ sz ∧ ln = 0) ∧ (kd = 0 → okT sz s v) ∧ (kd = 1 → okC sz s v) ∧ (kd = 2 → okM sz s v) ∧ (kd = 3 → okN ln sz s v)
/-- where a birth comes from -/
def ped (b : Nat) (wy f1 f2 hw nb : Int32) : Prop := ∃ w, w ≤ 7 ∧ wy = nI w ∧ (f1 = -1 ∨ ∃ p, p < b ∧ f1 = nI p) ∧ (f2 = -1 ∨ ∃ p, p < b ∧ f2 = nI p) ∧ (3 ≤ w → f1 ≠ -1) ∧ (w = 4 → f2 ≠ -1 ∧ hw = -1) ∧ (w = 3 → f2 = -1 ∧ ∃ j, j ≤ 4 ∧ hw = nI j) ∧ (nb = -1 ∨ ∃ j, j < 1000000 ∧ nb = nI j)
/-- a birth of both sides -/
def bOk (I : Nat → Nat → Int32) (L : Nat → Nat → Int64) (R : Nat → Nat → Option Nat) (tl : am_H) (b : Nat) : Prop := ∃ (kd ln sz a it : Nat) (f : Nat → Int32), I 175 b = nI kd ∧ I 176 b = nI sz ∧ I 177 b = nI ln ∧ R 1 b = some (269 + a) ∧ tl[a]? = some (.inr (3, [.ref (269 + it), .int (nI kd), .int (nI ln), .int (nI sz), .int (nI (wdN kd)), .int (I 178 b), .int (I 179 b), .int (I 180 b), .int (I 181 b), .int (I 182 b), .long (L 183 b)])) ∧ tl[it]? = some (.inl (0, sz * wdN kd, .inl f)) ∧ itm kd (fun k => I 184 (60 * b + k)) (fun k => I 185 (60 * b + k)) sz f ∧ sound kd ln sz (fun k => I 184 (60 * b + k)) (fun k => I 185 (60 * b + k)) ∧ ped b (I 178 b) (I 179 b) (I 180 b) (I 181 b) (I 182 b)
def rBn (V : Nat → Nat → Value) (n : Nat) : Prop := n ≤ 600 ∧ V 0 1 = .int (nI n) ∧ V 174 1 = .int (nI n)
def rBp (I : Nat → Nat → Int32) (L : Nat → Nat → Int64) (R : Nat → Nat → Option Nat) (tl : am_H) (n : Nat) : Prop := ∀ b, b < n → bOk I L R tl b
/-- the text -/
def rTx (V : Nat → Nat → Value) (I : Nat → Nat → Int32) : Prop := ∃ m, m ≤ 240 ∧ V 2 1 = .int (nI m) ∧ V 174 68 = .int (nI m) ∧ ∀ j, j < m → I 218 j = I 3 j ∧ ∃ c, c < 256 ∧ I 3 j = nI c
/-- a case -/
def cOk (I : Nat → Nat → Int32) (k : Nat) : Prop := I 15 (15 * k) = I 197 k ∧ I 15 (15 * k + 1) = I 198 k ∧ I 15 (15 * k + 2) = I 199 k ∧ I 15 (15 * k + 3) = I 200 k ∧ (∃ w, 1 ≤ w ∧ w ≤ 9 ∧ I 201 k = nI w ∧ I 15 (15 * k + 4) = nI w) ∧ (∃ d, d ≤ 1 ∧ I 202 k = nI d ∧ I 15 (15 * k + 5) = nI d) ∧ (∃ s, s ≤ 8 ∧ I 203 k = nI s ∧ I 15 (15 * k + 6) = nI s) ∧ ∀ i, i < 8 → I 15 (15 * k + (7 + i)) = I 204 (8 * k + i)
def rCs (V : Nat → Nat → Value) (I : Nat → Nat → Int32) : Prop := ∃ m, m ≤ 24 ∧ V 14 1 = .int (nI m) ∧ V 174 31 = .int (nI m) ∧ ∀ k, k < m → cOk I k
/-- the row that is put -/
def rDr (V : Nat → Nat → Value) (I : Nat → Nat → Int32) : Prop := ∃ s, s ≤ 8 ∧ I 164 6 = nI s ∧ V 174 40 = .int (nI s) ∧ (∀ i, i < s → I 164 (7 + i) = I 205 i) ∧ (∀ i, s ≤ i → i < 8 → I 164 (7 + i) = 0)
def rSe (V : Nat → Nat → Value) (I : Nat → Nat → Int32) : Prop := ∃ a b c d e, 10 ≤ a ∧ a ≤ 2000 ∧ b ≤ 4 ∧ 1 ≤ c ∧ c ≤ 5 ∧ d ≤ 100 ∧ e ≤ 2 ∧ V 16 0 = .int (nI a) ∧ V 27 0 = .int (nI a) ∧ I 38 0 = nI a ∧ I 206 0 = nI a ∧ I 38 1 = nI b ∧ I 206 1 = nI b ∧ I 38 2 = nI c ∧ I 206 2 = nI c ∧ I 38 3 = nI d ∧ I 206 3 = nI d ∧ I 38 4 = nI e ∧ I 206 4 = nI e
/-- an island -/
def sOk (V : Nat → Nat → Value) (I : Nat → Nat → Int32) (L : Nat → Nat → Int64) (n i : Nat) : Prop := ∃ c kd, c ≤ 16 ∧ V (40 + 9 * i) 0 = .int (nI c) ∧ I 233 i = nI c ∧ V (42 + 9 * i) 0 = .long (L 235 i) ∧ ∀ k, k < c → ∃ b, b < n ∧ I (41 + 9 * i) k = nI b ∧ I 234 (16 * i + k) = nI b ∧ I 175 b = nI kd
def rIs (V : Nat → Nat → Value) (I : Nat → Nat → Int32) (L : Nat → Nat → Int64) (n : Nat) : Prop := sOk V I L n 0 ∧ sOk V I L n 1 ∧ sOk V I L n 2 ∧ sOk V I L n 3
def rTo (V : Nat → Nat → Value) : Prop := ∃ x y, V 0 12 = .int x ∧ V 174 56 = .int x ∧ V 0 13 = .int y ∧ V 174 57 = .int y
/-- a regrown tree comes from a tree, a cross from two of a kind -/
def gen1 (I : Nat → Nat → Int32) (b : Nat) (x1 x2 x3 x4 _x5 : Int32) : Prop := (x1 = nI 3 → x4 = nI 4 → ∃ q, q < b ∧ x2 = nI q ∧ I 175 q = nI 0) ∧ (x1 = nI 4 → ∃ q r, q < b ∧ r < b ∧ x2 = nI q ∧ x3 = nI r ∧ I 175 q = I 175 r)
/-- behind a case's row are zeros -/
def zr (I : Nat → Nat → Int32) (k : Nat) : Prop := ∃ s, s ≤ 8 ∧ I 203 k = nI s ∧ ∀ i, s ≤ i → i < 8 → I 204 (8 * k + i) = 0
def rUn (I : Nat → Nat → Int32) (n : Nat) : Prop := (∀ j, j < 15 → I 166 j = I 254 j) ∧ (∀ j, 10 ≤ j → j < 15 → I 165 j = 0) ∧ (∀ k, k < 24 → zr I k) ∧ ∀ b, b < n → gen1 I b (I 178 b) (I 179 b) (I 180 b) (I 181 b) (I 182 b)
/-- the rows of the last simplifying -/
def rRu (V : Nat → Nat → Value) (I : Nat → Nat → Int32) : Prop := ∃ m, m ≤ 60 ∧ V 118 2 = .int (nI m) ∧ V 174 115 = .int (nI m) ∧ ∀ k, k < m → I 119 k = I 248 k ∧ I 120 k = I 249 k ∧ (∃ a, a < 60 ∧ I 119 k = nI a) ∧ ∃ a, a ≤ 8 ∧ I 120 k = nI a
def rRk (V : Nat → Nat → Value) (L : Nat → Nat → Int64) : Prop := L 77 = tW ∧ L 78 = tT ∧ rInv V L
/-- search's tables: p of them are made -/
def rSr (R : Nat → Nat → Option Nat) (tl : am_H) (p : Nat) : Prop := p ≤ 24 ∧ (∀ k, k < p → ∃ (a : Nat) (f : Nat → Int64), R 87 k = some (269 + a) ∧ tl[a]? = some (.inl (1, 7070, .inr (.inl f)))) ∧ ∀ k, p ≤ k → R 87 k = none
/-- the scalars have their types -/
def wt (V : Nat → Nat → Value) : Prop := (∀ a j, j ∈ fI a → ∃ x, V a j = .int x) ∧ (∀ a j, j ∈ fL a → ∃ x, V a j = .long x)
def rel (V : Nat → Nat → Value) (I : Nat → Nat → Int32) (L : Nat → Nat → Int64) (R : Nat → Nat → Option Nat) (tl : am_H) (n p : Nat) : Prop := rBn V n ∧ rBp I L R tl n ∧ rTx V I ∧ rCs V I ∧ rDr V I ∧ rSe V I ∧ rIs V I L n ∧ rTo V ∧ rUn I n ∧ rRu V I ∧ rRk V L ∧ rSr R tl p ∧ wt V
/-- the room, after j turns with n births -/
def room (tl : am_H) (n p j : Nat) : Prop := tl.length ≤ 2 * n + p + j ∧ am_sz tl ≤ 200 * n + 7200 * p + 50 * j
def invW (j : Nat) (h : am_H) : Prop := ∃ V I L R tl n p, h = fx V I L R ++ tl ∧ rel V I L R tl n p ∧ room tl n p j
theorem wt_i {V : Nat → Nat → Value} {a j : Nat} {x : Int32} (h : wt V) (hl : ¬ j ∈ fL a) : wt (vup V a j (.int x)) := by
  refine ⟨fun b k hk => ?_, fun b k hk => ?_⟩
  · rw [vup_at]
    by_cases c : b = a
    · rw [if_pos c]
      by_cases d : k = j
      · rw [if_pos d]; exact ⟨x, rfl⟩
      · rw [if_neg d]; exact h.1 b k hk
    · rw [if_neg c]; exact h.1 b k hk
  · rw [vup_at]
    by_cases c : b = a
    · rw [if_pos c]
      by_cases d : k = j
      · subst c; subst d; exact absurd hk hl
      · rw [if_neg d]; exact h.2 b k hk
    · rw [if_neg c]; exact h.2 b k hk
theorem wt_l {V : Nat → Nat → Value} {a j : Nat} {x : Int64} (h : wt V) (hl : ¬ j ∈ fI a) : wt (vup V a j (.long x)) := by
  refine ⟨fun b k hk => ?_, fun b k hk => ?_⟩
  · rw [vup_at]
    by_cases c : b = a
    · rw [if_pos c]
      by_cases d : k = j
      · subst c; subst d; exact absurd hk hl
      · rw [if_neg d]; exact h.1 b k hk
    · rw [if_neg c]; exact h.1 b k hk
  · rw [vup_at]
    by_cases c : b = a
    · rw [if_pos c]
      by_cases d : k = j
      · rw [if_pos d]; exact ⟨x, rfl⟩
      · rw [if_neg d]; exact h.2 b k hk
    · rw [if_neg c]; exact h.2 b k hk
theorem rel_thr {V : Nat → Nat → Value} {I : Nat → Nat → Int32} {L : Nat → Nat → Int64} {R : Nat → Nat → Option Nat} {tl : am_H} {n p : Nat} (x : Int32) (h : rel V I L R tl n p) : rel (vup V 174 0 (.int x)) I L R tl n p := by
  obtain ⟨a1, a2, a3, a4, a5, a6, a7, a8, a9, a10, a11, a12, w⟩ := h
  exact ⟨a1, a2, a3, a4, a5, a6, a7, a8, a9, a10, a11, a12, wt_i w (by decide)⟩
theorem rel_out {V : Nat → Nat → Value} {I : Nat → Nat → Int32} {L : Nat → Nat → Int64} {R : Nat → Nat → Option Nat} {tl : am_H} {n p : Nat} (f : Nat → Int64) (h : rel V I L R tl n p) : rel V I (lup L 268 f) R tl n p := by
  obtain ⟨a1, a2, a3, a4, a5, a6, a7, a8, a9, a10, a11, a12, w⟩ := h
  exact ⟨a1, a2, a3, a4, a5, a6, a7, a8, a9, a10, a11, a12, w⟩
theorem get_app {tl t2 : am_H} {a : Nat} {e : am_E} (h : tl[a]? = some e) : (tl ++ t2)[a]? = some e := by
  rw [List.getElem?_append_left (List.getElem?_eq_some_iff.mp h).1]
  exact h
theorem rel_dum {V : Nat → Nat → Value} {I : Nat → Nat → Int32} {L : Nat → Nat → Int64} {R : Nat → Nat → Option Nat} {tl t2 : am_H} {n p : Nat} (h : rel V I L R tl n p) : rel V I L R (tl ++ t2) n p := by
  obtain ⟨a1, a2, a3, a4, a5, a6, a7, a8, a9, a10, a11, a12, w⟩ := h
  refine ⟨a1, fun b hb => ?_, a3, a4, a5, a6, a7, a8, a9, a10, a11, ⟨a12.1, fun k hk => ?_, a12.2.2⟩, w⟩
  · obtain ⟨kd, ln, sz, a, it, f, q1, q2, q3, q4, q5, q6, q7⟩ := a2 b hb
    exact ⟨kd, ln, sz, a, it, f, q1, q2, q3, q4, get_app q5, get_app q6, q7⟩
  · obtain ⟨a, f, q1, q2⟩ := a12.2.1 k hk
    exact ⟨a, f, q1, get_app q2⟩
theorem room_dum {tl : am_H} {n p j : Nat} (h : room tl n p j) : room (tl ++ [am_dummy]) n p (j + 1) := by
  refine ⟨?_, ?_⟩
  · rw [List.length_append]
    have := h.1
    show tl.length + 1 ≤ _
    omega
  · have e : am_sz (tl ++ [am_dummy]) = am_sz tl + am_sz [am_dummy] := by unfold am_sz; rw [List.map_append, List.sum_append]
    have k : am_sz [am_dummy] ≤ 50 := by decide
    have := h.2
    omega
theorem room_up {tl : am_H} {n p j : Nat} (h : room tl n p j) : room tl n p (j + 1) := by
  have := h.1
  have := h.2
  exact ⟨by omega, by omega⟩
theorem tl_at {V : Nat → Nat → Value} {I : Nat → Nat → Int32} {L : Nat → Nat → Int64} {R : Nat → Nat → Option Nat} {tl : am_H} {a : Nat} : (fx V I L R ++ tl)[269 + a]? = tl[a]? := by
  rw [List.getElem?_append_right (by rw [fx_len]; omega), fx_len, Nat.add_sub_cancel_left]
theorem rdI {V : Nat → Nat → Value} {a j : Nat} {x : Int32} (h : V a j = .int x) : am_vI (some (V a j)) = some x := by rw [h]; rfl
theorem rdL {V : Nat → Nat → Value} {a j : Nat} {x : Int64} (h : V a j = .long x) : am_vL (some (V a j)) = some x := by rw [h]; rfl
