/-! ===== surgery on trees ===== -/
theorem okF_app : ∀ (l1 : List (Nat × Nat)) (st1 : List (Nat × Nat × Nat)) (l2 : List (Nat × Nat)) (st2 : List (Nat × Nat × Nat)), okF st1 l1 → okF st2 l2 → okF (st1 ++ st2) (l1 ++ l2) := by
  intro l1
  induction l1 with
  | nil =>
    intro st1 l2 st2 h1 h2
    cases st1 with
    | nil => exact h2
    | cons c st => rw [okF] at h1; exact absurd h1 id
  | cons x r ih =>
    intro st1 l2 st2 h1 h2
    cases st1 with
    | nil => rw [okF] at h1; exact absurd h1 id
    | cons c st =>
      rw [okF] at h1
      rw [List.cons_append, List.cons_append, okF]
      obtain ⟨a1, a2, a3, a4, a5, a6⟩ := h1
      refine ⟨a1, a2, a3, a4, a5, ?_⟩
      rw [← List.append_assoc]
      exact ih (kid x.1 c ++ st) l2 st2 a6 h2
theorem okF_spl : ∀ (l : List (Nat × Nat)) (st1 st2 : List (Nat × Nat × Nat)), okF (st1 ++ st2) l → okF st1 (l.take (tk st1.length l)) ∧ okF st2 (l.drop (tk st1.length l)) := by
  intro l
  induction l with
  | nil =>
    intro st1 st2 h
    cases st1 with
    | nil => rw [List.take_nil, List.drop_nil]; exact ⟨by rw [okF]; trivial, h⟩
    | cons c s => rw [List.cons_append, okF] at h; exact absurd h id
  | cons x r ih =>
    intro st1 st2 h
    cases st1 with
    | nil =>
      rw [List.length_nil, tk_0, List.take_zero, List.drop_zero]
      exact ⟨by rw [okF]; trivial, h⟩
    | cons c s =>
      rw [List.cons_append, okF] at h
      obtain ⟨a1, a2, a3, a4, a5, a6⟩ := h
      rw [← List.append_assoc] at a6
      have h1 := ih (kid x.1 c ++ s) st2 a6
      rw [List.length_append, kid_len, Nat.add_comm] at h1
      rw [List.length_cons, tk_c, Nat.add_comm 1, List.take_succ_cons, List.drop_succ_cons, okF]
      exact ⟨⟨a1, a2, a3, a4, a5, h1.1⟩, h1.2⟩
/-- another tree may stand where one stood -/
theorem okF_hole : ∀ (l : List (Nat × Nat)) (st : List (Nat × Nat × Nat)) (k : Nat) (c : Nat × Nat × Nat) (t : List (Nat × Nat)), okF st l → (cxl st l)[k]? = some c → okF [c] t → okF st (l.take k ++ (t ++ l.drop (k + tk 1 (l.drop k)))) := by
  intro l
  induction l with
  | nil =>
    intro st k c t h hc ht
    have e : cxl st [] = [] := by cases st <;> rfl
    rw [e] at hc
    simp at hc
  | cons x r ih =>
    intro st k c t h hc ht
    cases st with
    | nil => rw [okF] at h; exact absurd h id
    | cons c0 st =>
      cases k with
      | zero =>
        rw [cxl_c, List.getElem?_cons_zero] at hc
        have e : c0 = c := Option.some.inj hc
        subst e
        rw [List.take_zero, List.nil_append, List.drop_zero, Nat.zero_add]
        have h2 := (okF_spl (x :: r) [c0] st h).2
        exact okF_app t [c0] _ st ht h2
      | succ k =>
        rw [cxl_c, List.getElem?_cons_succ] at hc
        rw [okF] at h
        obtain ⟨a1, a2, a3, a4, a5, a6⟩ := h
        have h1 := ih (kid x.1 c0 ++ st) k c t a6 hc ht
        rw [List.take_succ_cons, List.drop_succ_cons, show k + 1 + tk 1 (r.drop k) = (k + tk 1 (r.drop k)) + 1 by omega, List.drop_succ_cons, List.cons_append, okF]
        exact ⟨a1, a2, a3, a4, a5, h1⟩
theorem okF_sub : ∀ (l : List (Nat × Nat)) (st : List (Nat × Nat × Nat)) (k : Nat) (c : Nat × Nat × Nat), okF st l → (cxl st l)[k]? = some c → okF [c] ((l.drop k).take (tk 1 (l.drop k))) := by
  intro l
  induction l with
  | nil =>
    intro st k c h hc
    have e : cxl st [] = [] := by cases st <;> rfl
    rw [e] at hc
    simp at hc
  | cons x r ih =>
    intro st k c h hc
    cases st with
    | nil => rw [okF] at h; exact absurd h id
    | cons c0 st =>
      cases k with
      | zero =>
        rw [cxl_c, List.getElem?_cons_zero] at hc
        have e : c0 = c := Option.some.inj hc
        subst e
        rw [List.drop_zero]
        exact (okF_spl (x :: r) [c0] st h).1
      | succ k =>
        rw [cxl_c, List.getElem?_cons_succ] at hc
        rw [okF] at h
        rw [List.drop_succ_cons]
        exact ih (kid x.1 c0 ++ st) k c h.2.2.2.2.2 hc
/-- less deep -/
def dm : List (Nat × Nat × Nat) → List (Nat × Nat × Nat) → Prop
  | [], [] => True
  | c :: s, c' :: s' => (c'.1 = c.1 ∧ c'.2.1 ≤ c.2.1 ∧ c'.2.2 = c.2.2) ∧ dm s s'
  | _, _ => False
theorem dm_map {α : Type} (f g : α → Nat × Nat × Nat) (h : ∀ x, (g x).1 = (f x).1 ∧ (g x).2.1 ≤ (f x).2.1 ∧ (g x).2.2 = (f x).2.2) : ∀ (l : List α) (s s' : List (Nat × Nat × Nat)), dm s s' → dm (l.map f ++ s) (l.map g ++ s') := by
  intro l
  induction l with
  | nil => intro s s' hs; exact hs
  | cons x l ih =>
    intro s s' hs
    rw [List.map_cons, List.map_cons, List.cons_append, List.cons_append, dm]
    exact ⟨h x, ih s s' hs⟩
theorem okF_mn : ∀ (l : List (Nat × Nat)) (st st' : List (Nat × Nat × Nat)), okF st l → dm st st' → okF st' l := by
  intro l
  induction l with
  | nil =>
    intro st st' h hd
    cases st with
    | nil =>
      cases st' with
      | nil => exact h
      | cons c s => exact absurd hd id
    | cons c s => rw [okF] at h; exact absurd h id
  | cons x r ih =>
    intro st st' h hd
    cases st with
    | nil => rw [okF] at h; exact absurd h id
    | cons c s =>
      cases st' with
      | nil => exact absurd hd id
      | cons c' s' =>
        rw [dm] at hd
        obtain ⟨⟨d1, d2, d3⟩, d4⟩ := hd
        rw [okF] at h ⊢
        obtain ⟨a1, a2, a3, a4, a5, a6⟩ := h
        refine ⟨a1, a2.trans d1.symm, Nat.le_trans d2 a3, fun e => a4 (d3.symm.trans e), fun e => a5 (d3.symm.trans e), ih _ _ a6 ?_⟩
        unfold kid
        refine dm_map (fun p => (twN x.1 p, c.2.1 + 1, if x.1 = 19 ∧ p = 1 then 1 else c.2.2)) (fun p => (twN x.1 p, c'.2.1 + 1, if x.1 = 19 ∧ p = 1 then 1 else c'.2.2)) (fun p => ⟨rfl, by show c'.2.1 + 1 ≤ c.2.1 + 1; omega, ?_⟩) _ _ _ d4
        show (if x.1 = 19 ∧ p = 1 then 1 else c'.2.2) = (if x.1 = 19 ∧ p = 1 then 1 else c.2.2)
        rw [d3]
theorem okF_dn {l : List (Nat × Nat)} {c c' : Nat × Nat × Nat} (h : okF [c] l) (h1 : c'.1 = c.1) (h2 : c'.2.1 ≤ c.2.1) (h3 : c'.2.2 = c.2.2) : okF [c'] l := okF_mn l [c] [c'] h (by rw [dm, dm]; exact ⟨⟨h1, h2, h3⟩, trivial⟩)
/-! trees with their numbers -/
abbrev xT := List (Nat × Int32)
def sl (P : xT) : List (Nat × Nat) := P.map (fun x => (x.1, 0))
def okP (P : xT) : Prop := okF [(0, 1, 0)] (sl P) ∧ ∀ x, x ∈ P → (x.1 = 0 → two x.2) ∧ (x.1 ≠ 0 → x.2 = 0)
def layP (s v : Nat → Int32) (P : xT) : Prop := ∀ k x, P[k]? = some x → s k = nI x.1 ∧ v k = x.2
def xS (P : xT) (k : Nat) : Nat := (P.getD k (0, 0)).1
def xV (P : xT) (k : Nat) : Int32 := (P.getD k (0, 0)).2
def xE (P : xT) (k : Nat) : Nat := enL (sl P) k
def seg (P : xT) (i j : Nat) : xT := (P.drop i).take (j - i)
/-- another tree m for the one at k -/
def rp (P : xT) (k : Nat) (m : xT) : xT := P.take k ++ (m ++ P.drop (xE P k))
theorem sl_len {P : xT} : (sl P).length = P.length := List.length_map ..
theorem sl_app {P Q : xT} : sl (P ++ Q) = sl P ++ sl Q := List.map_append ..
theorem sl_take {P : xT} {k : Nat} : sl (P.take k) = (sl P).take k := List.map_take ..
theorem sl_drop {P : xT} {k : Nat} : sl (P.drop k) = (sl P).drop k := List.map_drop ..
theorem xS_at {P : xT} {k : Nat} (hk : k < P.length) : P[k]? = some (xS P k, xV P k) := by
  unfold xS xV
  rw [List.getD_eq_getElem?_getD, List.getElem?_eq_getElem hk]
  rfl
theorem sl_at {P : xT} {k : Nat} (hk : k < P.length) : (sl P).drop k = (xS P k, 0) :: (sl P).drop (k + 1) := by
  have h : k < (sl P).length := by rw [sl_len]; exact hk
  have e : (sl P)[k]? = some (xS P k, 0) := by
    unfold sl
    rw [List.getElem?_map, xS_at hk]
    rfl
  rw [List.getElem?_eq_getElem h] at e
  rw [List.drop_eq_getElem_cons h, Option.some.inj e]
theorem layP_s {s v : Nat → Int32} {P : xT} (h : layP s v P) {k : Nat} (hk : k < P.length) : s k = nI (xS P k) ∧ v k = xV P k := h k _ (xS_at hk)
theorem layP_at {s v : Nat → Int32} {P : xT} (h : layP s v P) : ∀ k x r, (sl P).drop k = x :: r → s k = nI x.1 := by
  intro k x r hd
  have hk : k < P.length := by
    have := drop_len hd
    rw [sl_len] at this
    omega
  rw [sl_at hk] at hd
  rw [(layP_s h hk).1]
  injection hd with h1 h2
  rw [← h1]
theorem seg_len {P : xT} {i j : Nat} (hj : j ≤ P.length) : (seg P i j).length = j - i := by
  unfold seg
  rw [List.length_take, List.length_drop]
  omega
theorem xE_le {P : xT} {k : Nat} (hk : k ≤ P.length) : xE P k ≤ P.length := by
  have h := tk_1le (l := sl P) (k := k) (by rw [sl_len]; exact hk)
  rw [sl_len] at h
  exact h
theorem xE_ge {P : xT} {k : Nat} : k ≤ xE P k := Nat.le_add_right _ _
theorem xE_gt {P : xT} {k : Nat} (hk : k < P.length) : k < xE P k := by
  unfold xE enL
  rw [sl_at hk, tk_c]
  omega
theorem rp_len {P m : xT} {k : Nat} (hk : k < P.length) : (rp P k m).length = k + m.length + (P.length - xE P k) := by
  unfold rp
  rw [List.length_append, List.length_append, List.length_take, List.length_drop]
  omega
theorem mem_seg {P : xT} {i j : Nat} {x : Nat × Int32} (h : x ∈ seg P i j) : x ∈ P := List.mem_of_mem_drop (List.mem_of_mem_take h)
theorem mem_rp {P m : xT} {k : Nat} {x : Nat × Int32} (h : x ∈ rp P k m) : x ∈ P ∨ x ∈ m := by
  unfold rp at h
  rw [List.mem_append, List.mem_append] at h
  rcases h with h | h | h
  · exact .inl (List.mem_of_mem_take h)
  · exact .inr h
  · exact .inl (List.mem_of_mem_drop h)
/-- how a node is wanted -/
def cxP (P : xT) (k : Nat) : Nat × Nat × Nat := cxK (sl P) k
theorem cxl_len : ∀ (l : List (Nat × Nat)) (st : List (Nat × Nat × Nat)), okF st l → (cxl st l).length = l.length := by
  intro l
  induction l with
  | nil =>
    intro st h
    cases st with
    | nil => rfl
    | cons c s => rw [okF] at h; exact absurd h id
  | cons x r ih =>
    intro st h
    cases st with
    | nil => rw [okF] at h; exact absurd h id
    | cons c s =>
      rw [okF] at h
      rw [cxl_c, List.length_cons, List.length_cons, ih _ h.2.2.2.2.2]
theorem cx_at {P : xT} (ho : okP P) {k : Nat} (hk : k < P.length) : (cxl [(0, 1, 0)] (sl P))[k]? = some (cxP P k) := by
  have h : k < (cxl [(0, 1, 0)] (sl P)).length := by rw [cxl_len _ _ ho.1, sl_len]; exact hk
  unfold cxP cxK
  rw [List.getD_eq_getElem?_getD, List.getElem?_eq_getElem h]
  rfl
theorem rp_ok {P m : xT} {k : Nat} (ho : okP P) (hk : k < P.length) (hm : okF [cxP P k] (sl m)) (hv : ∀ x, x ∈ m → (x.1 = 0 → two x.2) ∧ (x.1 ≠ 0 → x.2 = 0)) : okP (rp P k m) := by
  refine ⟨?_, fun x hx => ?_⟩
  · have h := okF_hole (sl P) [(0, 1, 0)] k (cxP P k) (sl m) ho.1 (cx_at ho hk) hm
    unfold rp
    rw [sl_app, sl_app, sl_take, sl_drop]
    exact h
  · rcases mem_rp hx with h | h
    · exact ho.2 x h
    · exact hv x h
theorem seg_ok {P : xT} {k : Nat} (ho : okP P) (hk : k < P.length) : okF [cxP P k] (sl (seg P k (xE P k))) := by
  have h := okF_sub (sl P) [(0, 1, 0)] k (cxP P k) ho.1 (cx_at ho hk)
  unfold seg
  rw [sl_take, sl_drop]
  unfold xE enL
  rw [Nat.add_sub_cancel_left]
  exact h
/-- a node and its parts -/
theorem nd_at {P : xT} (ho : okP P) {k : Nat} (hk : k < P.length) : xS P k ≤ 20 ∧ truN (xS P k) = (cxP P k).1 ∧ (cxP P k).2.1 ≤ 12 ∧ (7 ≤ xS P k → k + 1 < P.length ∧ xE P (k + 1) ≤ xE P k ∧ cxP P (k + 1) = (twN (xS P k) 0, (cxP P k).2.1 + 1, (cxP P k).2.2)) ∧ (10 ≤ xS P k → xE P (k + 1) < P.length ∧ xE P (xE P (k + 1)) ≤ xE P k ∧ (xS P k ≠ 19 → cxP P (xE P (k + 1)) = (twN (xS P k) 1, (cxP P k).2.1 + 1, (cxP P k).2.2))) ∧ (xS P k = 20 → xE P (xE P (k + 1)) < P.length ∧ xE P (xE P (xE P (k + 1))) = xE P k ∧ cxP P (xE P (xE P (k + 1))) = (0, (cxP P k).2.1 + 1, (cxP P k).2.2)) ∧ (xS P k < 7 → xE P k = k + 1) ∧ (7 ≤ xS P k → xS P k < 10 → xE P (k + 1) = xE P k) ∧ (10 ≤ xS P k → xS P k < 20 → xE P (xE P (k + 1)) = xE P k) := by
  have hd := sl_at hk
  obtain ⟨f1, f2, f3, f4, f5, f6⟩ := form_at ho.1 hd
  have hd' : tk 1 ((sl P).drop k) = 1 + tk (arN (xS P k)) ((sl P).drop (k + 1)) := by rw [hd, tk_c, Nat.zero_add]
  have e0 : xE P k = k + 1 + tk (arN (xS P k)) ((sl P).drop (k + 1)) := by unfold xE enL; rw [hd']; omega
  have e1 : xE P (k + 1) = k + 1 + tk 1 ((sl P).drop (k + 1)) := rfl
  have e2 : xE P (xE P (k + 1)) = k + 1 + tk 2 ((sl P).drop (k + 1)) := en_2 hd
  have e3 : xE P (xE P (xE P (k + 1))) = k + 1 + tk 3 ((sl P).drop (k + 1)) := by
    have h : xE P (k + 1 + tk 2 ((sl P).drop (k + 1))) = k + 1 + tk 2 ((sl P).drop (k + 1)) + tk 1 (((sl P).drop (k + 1)).drop (tk 2 ((sl P).drop (k + 1)))) := by
      unfold xE enL
      rw [List.drop_drop]
    rw [e2, h, Nat.add_assoc (k + 1), ← tk_add]
  have mn : ∀ a b, a ≤ b → tk a ((sl P).drop (k + 1)) ≤ tk b ((sl P).drop (k + 1)) := fun a b h => by
    rw [show b = a + (b - a) by omega, tk_add]
    omega
  have ar1 : 7 ≤ xS P k → 1 ≤ arN (xS P k) := fun h => by unfold arN; rw [if_neg (by omega)]; split <;> (try split) <;> omega
  have ar2 : 10 ≤ xS P k → 2 ≤ arN (xS P k) := fun h => by unfold arN; rw [if_neg (by omega), if_neg (by omega)]; split <;> omega
  refine ⟨f1, f2, f3, fun h => ?_, fun h => ?_, fun h => ?_, fun h => ?_, fun h h' => ?_, fun h h' => ?_⟩
  · obtain ⟨y, r2, g1, g2⟩ := f6 0 (show 0 < arN (xS P k) by have := ar1 h; omega)
    rw [tk_0, Nat.add_zero] at g1 g2
    have := drop_len g1
    rw [sl_len] at this
    refine ⟨by omega, by rw [e0, e1]; have := mn 1 (arN (xS P k)) (ar1 h); omega, ?_⟩
    show cxK (sl P) (k + 1) = _
    rw [g2, if_neg (by omega)]
    rfl
  · obtain ⟨y, r2, g1, g2⟩ := f6 1 (show 1 < arN (xS P k) by have := ar2 h; omega)
    have := drop_len g1
    rw [sl_len] at this
    refine ⟨by rw [e1]; omega, by rw [e0, e2]; have := mn 2 (arN (xS P k)) (ar2 h); omega, fun h19 => ?_⟩
    show cxK (sl P) (xE P (k + 1)) = _
    rw [e1, g2, if_neg (by intro c; exact h19 c.1)]
    rfl
  · have a3 : arN (xS P k) = 3 := by rw [h]; rfl
    obtain ⟨y, r2, g1, g2⟩ := f6 2 (show 2 < arN (xS P k) by rw [a3]; omega)
    have := drop_len g1
    rw [sl_len] at this
    refine ⟨by rw [e2]; omega, by rw [e3, e0, a3], ?_⟩
    show cxK (sl P) (xE P (xE P (k + 1))) = _
    rw [e2, g2, if_neg (by rw [h]; decide)]
    show (twN (xS P k) 2, _, _) = _
    rw [h]
    rfl
  · have a0 : arN (xS P k) = 0 := by unfold arN; rw [if_pos h]
    rw [e0, a0, tk_0]
  · have a1 : arN (xS P k) = 1 := by unfold arN; rw [if_neg (by omega), if_pos h']
    rw [e0, e1, a1]
  · have a2 : arN (xS P k) = 2 := by unfold arN; rw [if_neg (by omega), if_neg (by omega), if_pos h']
    rw [e0, e2, a2]
