/-! ===== trees written one node behind another ===== -/
/-- the weight of the first n trees of a row of nodes -/
def sw (w : Nat × Nat → Nat) : Nat → List (Nat × Nat) → Nat
  | _, [] => 0
  | 0, _ :: _ => 0
  | n + 1, x :: l => w x + sw w (n + arN x.1) l
/-- how many nodes they have -/
def tk (n : Nat) (l : List (Nat × Nat)) : Nat := sw (fun _ => 1) n l
/-- a row of nodes is n trees -/
def isF : Nat → List (Nat × Nat) → Prop
  | 0, [] => True
  | _ + 1, [] => False
  | 0, _ :: _ => False
  | n + 1, x :: l => isF (n + arN x.1) l
theorem sw_0 (w : Nat × Nat → Nat) : ∀ l, sw w 0 l = 0
  | [] => rfl
  | _ :: _ => rfl
theorem sw_n (w : Nat × Nat → Nat) : ∀ n, sw w n [] = 0
  | 0 => rfl
  | _ + 1 => rfl
theorem sw_c (w : Nat × Nat → Nat) (n : Nat) (x : Nat × Nat) (l : List (Nat × Nat)) : sw w (n + 1) (x :: l) = w x + sw w (n + arN x.1) l := rfl
theorem tk_c (n : Nat) (x : Nat × Nat) (l : List (Nat × Nat)) : tk (n + 1) (x :: l) = 1 + tk (n + arN x.1) l := rfl
theorem tk_0 (l : List (Nat × Nat)) : tk 0 l = 0 := sw_0 _ l
theorem sw_le {w : Nat × Nat → Nat} {B : Nat} (hw : ∀ x, w x ≤ B) : ∀ (l : List (Nat × Nat)) (n : Nat), sw w n l ≤ B * l.length := sorry
theorem tk_le (l : List (Nat × Nat)) (n : Nat) : tk n l ≤ l.length := sorry
theorem sw_add (w : Nat × Nat → Nat) : ∀ (l : List (Nat × Nat)) (n m : Nat), sw w (n + m) l = sw w n l + sw w m (l.drop (tk n l)) := sorry
theorem tk_add (l : List (Nat × Nat)) (n m : Nat) : tk (n + m) l = tk n l + tk m (l.drop (tk n l)) := sw_add _ l n m
theorem isF_add : ∀ (l : List (Nat × Nat)) (n m : Nat), isF (n + m) l → isF m (l.drop (tk n l)) := sorry
theorem isF_app : ∀ (l r : List (Nat × Nat)) (n m : Nat), isF n l → isF m r → isF (n + m) (l ++ r) := sorry
theorem isF_ne {n : Nat} {l : List (Nat × Nat)} (h : isF (n + 1) l) : ∃ x r, l = x :: r ∧ isF (n + arN x.1) r := sorry
theorem isF_drop : ∀ (l : List (Nat × Nat)) (n k : Nat), isF n l → k ≤ l.length → ∃ m, isF m (l.drop k) := sorry
theorem tk_pos {n : Nat} {l : List (Nat × Nat)} (h : isF (n + 1) l) (m : Nat) : 1 ≤ tk (m + 1) l := sorry
theorem isF_at {l : List (Nat × Nat)} {n k : Nat} (h : isF n l) (hk : k < l.length) : ∃ x r m, l.drop k = x :: r ∧ isF (m + arN x.1) r := sorry
theorem drop_s {l r : List (Nat × Nat)} {x : Nat × Nat} {k : Nat} (h : l.drop k = x :: r) (j : Nat) : l.drop (k + 1 + j) = r.drop j := sorry
theorem drop_len {l r : List (Nat × Nat)} {x : Nat × Nat} {k : Nat} (h : l.drop k = x :: r) : r.length + k + 1 = l.length := sorry
/-- a part of a node begins within the row -/
theorem part_lt {l r : List (Nat × Nat)} {x : Nat × Nat} {k m p : Nat} (h : l.drop k = x :: r) (hF : isF (m + arN x.1) r) (hp : p < arN x.1) : k + 1 + tk p r < l.length := sorry
theorem wA_lt : ∀ (l : List (Nat × Nat)) (f : Nat → Int32) (s k : Nat), k < s → wA f s l k = f k := sorry
theorem wA_at : ∀ (l : List (Nat × Nat)) (f : Nat → Int32) (s k : Nat) (x : Nat × Nat) (r : List (Nat × Nat)), l.drop k = x :: r → wA f s l (s + k) = nI x.1 := sorry
theorem wB_lt : ∀ (l : List (Nat × Nat)) (f : Nat → Int32) (s k : Nat), k < s → wB f s l k = f k := sorry
theorem wB_at : ∀ (l : List (Nat × Nat)) (f : Nat → Int32) (s k : Nat) (x : Nat × Nat) (r : List (Nat × Nat)), l.drop k = x :: r → wB f s l (s + k) = nI x.2 := sorry
/-- a row of small numbers -/
def sml (f : Nat → Int32) : Prop := ∀ j, ∃ n, n < 1000 ∧ f j = nI n
theorem sml_upd {f : Nat → Int32} {i n : Nat} (h : sml f) (hn : n < 1000) : sml (upd f i (nI n)) := sorry
theorem sml_wB : ∀ (l : List (Nat × Nat)) (f : Nat → Int32) (s : Nat), sml f → (∀ x, x ∈ l → x.2 < 1000) → sml (wB f s l) := sorry
theorem prt_len (c n S P : Nat) : (prt c n S P).length = arN S := sorry
/-- the form of a tree with a place -/
theorem un_form : ∀ n, n ≤ 12 → 1 ≤ n → ∀ c p, c < 6 → p < uT c n → isF 1 (un c n p) ∧ (un c n p).length = n ∧ ∀ x, x ∈ un c n p → x.1 ≤ 20 ∧ x.2 ≤ 10 := sorry