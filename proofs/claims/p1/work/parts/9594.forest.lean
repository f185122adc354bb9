/-! ===== trees written one node behind another ===== -/
/-- the weight of the first n trees of a row of nodes -/
def sw (w : Nat × Nat → Nat) : Nat → List (Nat × Nat) → Nat
  | _, [] => 0
  | 0, _ :: _ => 0
  | n + 1, x :: l => w x + sw w (n + arN x.1) l
/-- how many nodes they have -/
def tk (n : Nat) (l : List (Nat × Nat)) : Nat := sw (fun _ => 1) n l
/-- a row of nodes is n trees -/
def isF : Nat → List (Nat × Nat) → Prop
  | 0, [] => True
  | _ + 1, [] => False
  | 0, _ :: _ => False
  | n + 1, x :: l => isF (n + arN x.1) l
theorem sw_0 (w : Nat × Nat → Nat) : ∀ l, sw w 0 l = 0
  | [] => rfl
  | _ :: _ => rfl
theorem sw_n (w : Nat × Nat → Nat) : ∀ n, sw w n [] = 0
  | 0 => rfl
  | _ + 1 => rfl
theorem sw_c (w : Nat × Nat → Nat) (n : Nat) (x : Nat × Nat) (l : List (Nat × Nat)) : sw w (n + 1) (x :: l) = w x + sw w (n + arN x.1) l := rfl
theorem tk_c (n : Nat) (x : Nat × Nat) (l : List (Nat × Nat)) : tk (n + 1) (x :: l) = 1 + tk (n + arN x.1) l := rfl
theorem tk_0 (l : List (Nat × Nat)) : tk 0 l = 0 := sw_0 _ l
theorem sw_le {w : Nat × Nat → Nat} {B : Nat} (hw : ∀ x, w x ≤ B) : ∀ (l : List (Nat × Nat)) (n : Nat), sw w n l ≤ B * l.length := by
  intro l
  induction l with
  | nil => intro n; rw [sw_n]; exact Nat.zero_le _
  | cons x l ih =>
    intro n
    cases n with
    | zero => rw [sw_0]; exact Nat.zero_le _
    | succ n =>
      rw [sw_c, List.length_cons, Nat.mul_add]
      have := ih (n + arN x.1)
      have := hw x
      omega
theorem tk_le (l : List (Nat × Nat)) (n : Nat) : tk n l ≤ l.length := by
  have := sw_le (w := fun _ => 1) (B := 1) (fun _ => Nat.le_refl _) l n
  unfold tk
  omega
theorem sw_add (w : Nat × Nat → Nat) : ∀ (l : List (Nat × Nat)) (n m : Nat), sw w (n + m) l = sw w n l + sw w m (l.drop (tk n l)) := by
  intro l
  induction l with
  | nil => intro n m; rw [sw_n, sw_n, List.drop_nil, sw_n]
  | cons x l ih =>
    intro n m
    cases n with
    | zero => rw [sw_0, tk_0, Nat.zero_add, Nat.zero_add, List.drop_zero]
    | succ n =>
      rw [show n + 1 + m = n + m + 1 by omega, sw_c, sw_c, tk_c, show n + m + arN x.1 = n + arN x.1 + m by omega, ih, show 1 + tk (n + arN x.1) l = tk (n + arN x.1) l + 1 by omega, List.drop_succ_cons]
      omega
theorem tk_add (l : List (Nat × Nat)) (n m : Nat) : tk (n + m) l = tk n l + tk m (l.drop (tk n l)) := sw_add _ l n m
theorem isF_add : ∀ (l : List (Nat × Nat)) (n m : Nat), isF (n + m) l → isF m (l.drop (tk n l)) := by
  intro l
  induction l with
  | nil =>
    intro n m h
    rw [List.drop_nil]
    cases m with
    | zero => exact trivial
    | succ m => exact h
  | cons x l ih =>
    intro n m h
    cases n with
    | zero => rw [tk_0, List.drop_zero]; rw [Nat.zero_add] at h; exact h
    | succ n =>
      rw [tk_c, show 1 + tk (n + arN x.1) l = tk (n + arN x.1) l + 1 by omega, List.drop_succ_cons]
      rw [show n + 1 + m = n + m + 1 by omega] at h
      have h2 : isF (n + m + arN x.1) l := h
      rw [show n + m + arN x.1 = n + arN x.1 + m by omega] at h2
      exact ih _ _ h2
theorem isF_app : ∀ (l r : List (Nat × Nat)) (n m : Nat), isF n l → isF m r → isF (n + m) (l ++ r) := by
  intro l
  induction l with
  | nil =>
    intro r n m h1 h2
    cases n with
    | zero => rw [Nat.zero_add]; exact h2
    | succ n => exact absurd h1 (fun e => e)
  | cons x l ih =>
    intro r n m h1 h2
    cases n with
    | zero => exact absurd h1 (fun e => e)
    | succ n =>
      rw [show n + 1 + m = n + m + 1 by omega]
      show isF (n + m + arN x.1) (l ++ r)
      rw [show n + m + arN x.1 = n + arN x.1 + m by omega]
      exact ih r _ m h1 h2
theorem isF_ne {n : Nat} {l : List (Nat × Nat)} (h : isF (n + 1) l) : ∃ x r, l = x :: r ∧ isF (n + arN x.1) r := by
  cases l with
  | nil => exact absurd h (fun e => e)
  | cons x r => exact ⟨x, r, rfl, h⟩
theorem isF_drop : ∀ (l : List (Nat × Nat)) (n k : Nat), isF n l → k ≤ l.length → ∃ m, isF m (l.drop k) := by
  intro l
  induction l with
  | nil => intro n k h hk; exact ⟨n, by rw [List.drop_nil]; exact h⟩
  | cons x l ih =>
    intro n k h hk
    cases k with
    | zero => exact ⟨n, h⟩
    | succ k =>
      cases n with
      | zero => exact absurd h (fun e => e)
      | succ n => exact ih _ k h (by rw [List.length_cons] at hk; omega)
theorem tk_pos {n : Nat} {l : List (Nat × Nat)} (h : isF (n + 1) l) (m : Nat) : 1 ≤ tk (m + 1) l := by
  obtain ⟨x, r, rfl, -⟩ := isF_ne h
  rw [tk_c]
  omega
theorem isF_at {l : List (Nat × Nat)} {n k : Nat} (h : isF n l) (hk : k < l.length) : ∃ x r m, l.drop k = x :: r ∧ isF (m + arN x.1) r := by
  obtain ⟨m, hm⟩ := isF_drop l n k h (by omega)
  cases m with
  | zero =>
    have : (l.drop k).length = l.length - k := List.length_drop
    cases hd : l.drop k with
    | nil => rw [hd] at this; have t2 : 0 = l.length - k := this; omega
    | cons x r => rw [hd] at hm; exact absurd hm (fun e => e)
  | succ m =>
    obtain ⟨x, r, h1, h2⟩ := isF_ne hm
    exact ⟨x, r, m, h1, h2⟩
theorem drop_s {l r : List (Nat × Nat)} {x : Nat × Nat} {k : Nat} (h : l.drop k = x :: r) (j : Nat) : l.drop (k + 1 + j) = r.drop j := by
  rw [show k + 1 + j = k + (1 + j) by omega, ← List.drop_drop, h, show 1 + j = j + 1 by omega, List.drop_succ_cons]
theorem drop_len {l r : List (Nat × Nat)} {x : Nat × Nat} {k : Nat} (h : l.drop k = x :: r) : r.length + k + 1 = l.length := by
  have : (l.drop k).length = l.length - k := List.length_drop
  rw [h, List.length_cons] at this
  omega
/-- a part of a node begins within the row -/
theorem part_lt {l r : List (Nat × Nat)} {x : Nat × Nat} {k m p : Nat} (h : l.drop k = x :: r) (hF : isF (m + arN x.1) r) (hp : p < arN x.1) : k + 1 + tk p r < l.length := by
  have h2 := isF_add r p (m + arN x.1 - p) (by rw [show p + (m + arN x.1 - p) = m + arN x.1 by omega]; exact hF)
  obtain ⟨j, hj⟩ : ∃ j, m + arN x.1 - p = j + 1 := ⟨m + arN x.1 - p - 1, by omega⟩
  rw [hj] at h2
  obtain ⟨y, s, h3, -⟩ := isF_ne h2
  have h4 : (r.drop (tk p r)).length = r.length - tk p r := List.length_drop
  rw [h3, List.length_cons] at h4
  have := drop_len h
  omega
theorem wA_lt : ∀ (l : List (Nat × Nat)) (f : Nat → Int32) (s k : Nat), k < s → wA f s l k = f k := by
  intro l
  induction l with
  | nil => intro f s k h; rfl
  | cons x l ih =>
    intro f s k h
    show wA (upd f s (nI x.1)) (s + 1) l k = f k
    rw [ih _ _ _ (by omega)]
    exact upd_ne (by omega)
theorem wA_at : ∀ (l : List (Nat × Nat)) (f : Nat → Int32) (s k : Nat) (x : Nat × Nat) (r : List (Nat × Nat)), l.drop k = x :: r → wA f s l (s + k) = nI x.1 := by
  intro l
  induction l with
  | nil => intro f s k x r h; rw [List.drop_nil] at h; cases h
  | cons y l ih =>
    intro f s k x r h
    cases k with
    | zero =>
      cases h
      show wA (upd f s (nI y.1)) (s + 1) l (s + 0) = nI y.1
      rw [wA_lt _ _ _ _ (by omega)]
      exact upd_eq
    | succ k =>
      show wA (upd f s (nI y.1)) (s + 1) l (s + (k + 1)) = nI x.1
      rw [show s + (k + 1) = s + 1 + k by omega]
      exact ih _ _ _ _ _ h
theorem wB_lt : ∀ (l : List (Nat × Nat)) (f : Nat → Int32) (s k : Nat), k < s → wB f s l k = f k := by
  intro l
  induction l with
  | nil => intro f s k h; rfl
  | cons x l ih =>
    intro f s k h
    show wB (upd f s (nI x.2)) (s + 1) l k = f k
    rw [ih _ _ _ (by omega)]
    exact upd_ne (by omega)
theorem wB_at : ∀ (l : List (Nat × Nat)) (f : Nat → Int32) (s k : Nat) (x : Nat × Nat) (r : List (Nat × Nat)), l.drop k = x :: r → wB f s l (s + k) = nI x.2 := by
  intro l
  induction l with
  | nil => intro f s k x r h; rw [List.drop_nil] at h; cases h
  | cons y l ih =>
    intro f s k x r h
    cases k with
    | zero =>
      cases h
      show wB (upd f s (nI y.2)) (s + 1) l (s + 0) = nI y.2
      rw [wB_lt _ _ _ _ (by omega)]
      exact upd_eq
    | succ k =>
      show wB (upd f s (nI y.2)) (s + 1) l (s + (k + 1)) = nI x.2
      rw [show s + (k + 1) = s + 1 + k by omega]
      exact ih _ _ _ _ _ h
/-- a row of small numbers -/
def sml (f : Nat → Int32) : Prop := ∀ j, ∃ n, n < 1000 ∧ f j = nI n
theorem sml_upd {f : Nat → Int32} {i n : Nat} (h : sml f) (hn : n < 1000) : sml (upd f i (nI n)) := by
  intro j
  by_cases c : j = i
  · exact ⟨n, hn, by rw [c]; exact upd_eq⟩
  · obtain ⟨m, h1, h2⟩ := h j
    exact ⟨m, h1, by rw [upd_ne c]; exact h2⟩
theorem sml_wB : ∀ (l : List (Nat × Nat)) (f : Nat → Int32) (s : Nat), sml f → (∀ x, x ∈ l → x.2 < 1000) → sml (wB f s l) := by
  intro l
  induction l with
  | nil => intro f s h _; exact h
  | cons x l ih =>
    intro f s h hx
    exact ih _ _ (sml_upd h (hx x (List.mem_cons_self ..))) (fun y hy => hx y (List.mem_cons_of_mem _ hy))
theorem prt_len (c n S P : Nat) : (prt c n S P).length = arN S := by
  unfold prt
  have := ar_le S
  split
  · rename_i h; rw [h]; rfl
  · split
    · rename_i h; rw [h]; rfl
    · split
      · rename_i h; rw [h]; rfl
      · show 3 = arN S
        omega
/-- the form of a tree with a place -/
theorem un_form : ∀ n, n ≤ 12 → 1 ≤ n → ∀ c p, c < 6 → p < uT c n → isF 1 (un c n p) ∧ (un c n p).length = n ∧ ∀ x, x ∈ un c n p → x.1 ≤ 20 ∧ x.2 ≤ 10 := by
  intro n
  induction n using Nat.strongRecOn with
  | _ n ih =>
    intro hn h1 c p hc hp
    have aux : ∀ st : List (Nat × Nat × Nat), tok st → tsum st < n → isF st.length (tun st) ∧ (tun st).length = tsum st ∧ ∀ x, x ∈ tun st → x.1 ≤ 20 ∧ x.2 ≤ 10 := by
      intro st
      induction st with
      | nil => intro _ _; exact ⟨trivial, rfl, fun x hx => by cases hx⟩
      | cons y st ih2 =>
        intro h2 h3
        obtain ⟨k1, k2, k3, k4, k5⟩ := h2
        have h3 : y.2.1 + tsum st < n := h3
        obtain ⟨a1, a2, a3⟩ := ih y.2.1 (by omega) k3 k2 y.1 y.2.2 k1 k4
        obtain ⟨b1, b2, b3⟩ := ih2 k5 (by omega)
        refine ⟨?_, ?_, ?_⟩
        · show isF (st.length + 1) (un y.1 y.2.1 y.2.2 ++ tun st)
          rw [Nat.add_comm]
          exact isF_app _ _ _ _ a1 b1
        · show (un y.1 y.2.1 y.2.2 ++ tun st).length = y.2.1 + tsum st
          rw [List.length_append, a2, b2]
        · intro x hx
          rcases List.mem_append.mp hx with h | h
          · exact a3 x h
          · exact b3 x h
    obtain ⟨v1, v2, v3, v4, v5⟩ := un_prt hn h1 hc hp
    obtain ⟨w1, w2, w3⟩ := aux _ v2 (by omega)
    rw [v1]
    refine ⟨?_, ?_, ?_⟩
    · show isF (0 + arN (pk c n 20 0 p).1) _
      rw [prt_len] at w1
      rw [Nat.zero_add]
      exact w1
    · rw [List.length_cons, w2]
      exact v3
    · intro x hx
      rcases List.mem_cons.mp hx with h | h
      · rw [h]
        refine ⟨v4, ?_⟩
        show (if (pk c n 20 0 p).1 = 0 then (pk c n 20 0 p).2 else 0) ≤ 10
        by_cases c0 : (pk c n 20 0 p).1 = 0
        · rw [if_pos c0]
          have us := u_s h1 hn hc (s := (pk c n 20 0 p).1) (by omega) (by omega)
          have u1 := (us.2.1 (by rw [c0]; rfl)).2
          omega
        · rw [if_neg c0]
          omega
      · exact w3 x h
