/-! ===== forms that may be too deep ===== -/
def okX : List (Nat × Nat × Nat) → List (Nat × Nat) → Prop
  | [], [] => True
  | [], _ :: _ => False
  | _ :: _, [] => False
  | c :: st, x :: l => x.1 ≤ 20 ∧ truN x.1 = c.1 ∧ c.2.1 ≤ 100 ∧ (c.2.2 = 0 → x.1 ≠ 5 ∧ x.1 ≠ 6) ∧ (c.2.2 = 1 → x.1 ≠ 19) ∧ okX (kid x.1 c ++ st) l
theorem okX_W : ∀ (l : List (Nat × Nat)) (st : List (Nat × Nat × Nat)), okX st l → okW st l := by
  intro l
  induction l with
  | nil =>
    intro st h
    cases st with
    | nil => exact trivial
    | cons c st => exact absurd h id
  | cons x l ih =>
    intro st h
    cases st with
    | nil => exact absurd h id
    | cons c st => exact ⟨h.1, trivial, h.2.2.1, h.2.2.2.1, h.2.2.2.2.1, ih _ h.2.2.2.2.2⟩
theorem okW_t {l : List (Nat × Nat)} {t t' d f : Nat} {st : List (Nat × Nat × Nat)} (h : okW ((t, d, f) :: st) l) : okW ((t', d, f) :: st) l := by
  cases l with
  | nil => exact absurd h id
  | cons x l => exact ⟨h.1, trivial, h.2.2.1, h.2.2.2.1, h.2.2.2.2.1, h.2.2.2.2.2⟩
theorem okX_app : ∀ (l1 : List (Nat × Nat)) (st1 : List (Nat × Nat × Nat)) (l2 : List (Nat × Nat)) (st2 : List (Nat × Nat × Nat)), okX st1 l1 → okX st2 l2 → okX (st1 ++ st2) (l1 ++ l2) := by
  intro l1
  induction l1 with
  | nil =>
    intro st1 l2 st2 h1 h2
    cases st1 with
    | nil => exact h2
    | cons c st => exact absurd h1 id
  | cons x l ih =>
    intro st1 l2 st2 h1 h2
    cases st1 with
    | nil => exact absurd h1 id
    | cons c st =>
      obtain ⟨a1, a2, a3, a4, a5, a6⟩ := h1
      refine ⟨a1, a2, a3, a4, a5, ?_⟩
      have := ih _ l2 st2 a6 h2
      rw [List.append_assoc] at this
      exact this
theorem okF_X : ∀ (l : List (Nat × Nat)) (st st' : List (Nat × Nat × Nat)), st.length = st'.length → (∀ (i : Nat) (c c' : Nat × Nat × Nat), st[i]? = some c → st'[i]? = some c' → c'.1 = c.1 ∧ c'.2.1 ≤ c.2.1 + 80 ∧ c'.2.2 = c.2.2) → okF st l → okX st' l := by
  intro l
  induction l with
  | nil =>
    intro st st' hl hc ho
    cases st with
    | cons c st => exact absurd ho id
    | nil => cases st' with
      | nil => exact trivial
      | cons c st' => exact absurd hl (by simp)
  | cons x l ih =>
    intro st st' hl hc ho
    cases st with
    | nil => exact absurd ho id
    | cons c st => cases st' with
      | nil => exact absurd hl (by simp)
      | cons c' st' =>
        obtain ⟨a1, a2, a3, a4, a5, a6⟩ := ho
        obtain ⟨b1, b2, b3⟩ := hc 0 c c' rfl rfl
        refine ⟨a1, by rw [b1]; exact a2, by omega, by rw [b3]; exact a4, by rw [b3]; exact a5, ih _ _ ?_ ?_ a6⟩
        · rw [List.length_append, List.length_append]
          unfold kid
          rw [List.length_map, List.length_map]
          simp only [List.length_cons] at hl
          omega
        · intro i d d' hd hd'
          have lk : ∀ z, (kid x.1 z).length = arN x.1 := fun z => by unfold kid; rw [List.length_map, List.length_range]
          by_cases q : i < arN x.1
          · rw [List.getElem?_append_left (by rw [lk]; exact q)] at hd hd'
            unfold kid at hd hd'
            rw [List.getElem?_map, List.getElem?_range q] at hd hd'
            rw [← Option.some.inj hd, ← Option.some.inj hd']
            refine ⟨rfl, by show c'.2.1 + 1 ≤ c.2.1 + 1 + 80; omega, ?_⟩
            show (if x.1 = 19 ∧ i = 1 then 1 else c'.2.2) = (if x.1 = 19 ∧ i = 1 then 1 else c.2.2)
            rw [b3]
          · rw [List.getElem?_append_right (by rw [lk]; omega), lk] at hd hd'
            exact hc (i - arN x.1 + 1) d d' (by rw [List.getElem?_cons_succ]; exact hd) (by rw [List.getElem?_cons_succ]; exact hd')
theorem okF_X1 {l : List (Nat × Nat)} {t d f : Nat} (h : okF [(t, 1, f)] l) (hd : d ≤ 81) : okX [(t, d, f)] l := okF_X l [(t, 1, f)] [(t, d, f)] rfl (fun i c c' e e' => by
  cases i with
  | zero =>
    have h1 : (t, 1, f) = c := Option.some.inj e
    have h2 : (t, d, f) = c' := Option.some.inj e'
    rw [← h1, ← h2]
    exact ⟨rfl, by show d ≤ 1 + 80; omega, rfl⟩
  | succ i => cases e) h
theorem okX_F : ∀ (l : List (Nat × Nat)) (st : List (Nat × Nat × Nat)), okX st l → ((∀ c, c ∈ cxl st l → c.2.1 ≤ 12) ↔ okF st l) := by
  intro l
  induction l with
  | nil =>
    intro st h
    cases st with
    | nil => exact ⟨fun _ => trivial, fun _ c hc => absurd hc (by simp [cxl])⟩
    | cons c st => exact absurd h id
  | cons x l ih =>
    intro st h
    cases st with
    | nil => exact absurd h id
    | cons c st =>
      rw [cxl_c]
      obtain ⟨a1, a2, a3, a4, a5, a6⟩ := h
      have g := ih _ a6
      refine ⟨fun h => ⟨a1, a2, h c (List.mem_cons_self ..), a4, a5, g.mp (fun d hd => h d (List.mem_cons_of_mem _ hd))⟩, fun h d hd => ?_⟩
      cases hd with
      | head => exact h.2.2.1
      | tail _ hd => exact g.mpr h.2.2.2.2.2 d hd
theorem mxR_mem {f : Nat → Nat} {a : Nat} : ∀ m j, a ≤ j → j < a + m → f j ≤ mxR f a m := by
  intro m
  induction m with
  | zero => intro j h1 h2; omega
  | succ m ih =>
    intro j h1 h2
    show f j ≤ max (mxR f a m) (f (a + m))
    by_cases c : j = a + m
    · rw [c]; exact Nat.le_max_right _ _
    · exact Nat.le_trans (ih j h1 (by omega)) (Nat.le_max_left _ _)
theorem cxX_len : ∀ (l : List (Nat × Nat)) (st : List (Nat × Nat × Nat)), okX st l → (cxl st l).length = l.length := by
  intro l
  induction l with
  | nil =>
    intro st h
    cases st with
    | nil => rfl
    | cons c st => exact absurd h id
  | cons x l ih =>
    intro st h
    cases st with
    | nil => exact absurd h id
    | cons c st => rw [cxl_c, List.length_cons, List.length_cons, ih _ h.2.2.2.2.2]
theorem tl_12 {l : List (Nat × Nat)} {t : Nat} (h : okX [(t, 1, 0)] l) : tlL l 0 ≤ 12 ↔ okF [(t, 1, 0)] l := by
  rw [← okX_F l _ h]
  cases l with
  | nil => exact absurd h id
  | cons x r =>
    have hF : isF 1 (x :: r) := okF_Fw (x :: r) [(t, 1, 0)] (okX_W _ _ h)
    have ln := cxX_len _ _ h
    have tk1 : tk 1 ((x :: r).drop 0) = (x :: r).length := isF_tk _ 1 hF
    have cx0 : cxl [(0, 1, 0)] (x :: r) = (0, 1, 0) :: cxl (kid x.1 (t, 1, 0) ++ []) r := cxl_c ..
    have cxt : cxl [(t, 1, 0)] (x :: r) = (t, 1, 0) :: cxl (kid x.1 (t, 1, 0) ++ []) r := cxl_c ..
    have d0 : dpL (x :: r) 0 = 1 := by unfold dpL cxK; rw [cx0]; rfl
    have dk : ∀ k c, (cxl [(t, 1, 0)] (x :: r))[k]? = some c → dpL (x :: r) k = c.2.1 := fun k c e => by
      unfold dpL cxK
      rw [cx0, List.getD_eq_getElem?_getD]
      rw [cxt] at e
      cases k with
      | zero => rw [List.getElem?_cons_zero] at e ⊢; rw [← Option.some.inj e]; rfl
      | succ k => rw [List.getElem?_cons_succ] at e ⊢; rw [e]; rfl
    have tl : tlL (x :: r) 0 = mxR (dpL (x :: r)) 0 (x :: r).length + 1 - dpL (x :: r) 0 := by unfold tlL; rw [tk1]
    rw [tl, d0]
    refine ⟨fun hm c hc => ?_, fun hm => ?_⟩
    · obtain ⟨k, hk, e⟩ := List.mem_iff_getElem.mp hc
      have e2 := dk k c (by rw [List.getElem?_eq_getElem hk, e])
      have := mxR_mem (f := dpL (x :: r)) (a := 0) (x :: r).length k (by omega) (by rw [ln] at hk; omega)
      omega
    · have := mxR_le (f := dpL (x :: r)) (a := 0) (B := 12) (x :: r).length (fun j _ hj => by
        have hj2 : j < (cxl [(t, 1, 0)] (x :: r)).length := by rw [ln]; omega
        rw [dk j _ (List.getElem?_eq_getElem hj2)]
        exact hm _ (List.getElem_mem hj2))
      omega
