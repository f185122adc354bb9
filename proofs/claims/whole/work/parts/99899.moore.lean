/-! ===== states that can't be told apart ===== -/
def all4 (P : Nat → Bool) : Bool := P 0 && P 1 && P 2 && P 3
theorem all4_iff {P : Nat → Bool} : all4 P = true ↔ ∀ c, c < 4 → P c = true := by
  unfold all4
  constructor
  · intro h c hc
    rw [Bool.and_eq_true, Bool.and_eq_true, Bool.and_eq_true] at h
    rcases (by omega : c = 0 ∨ c = 1 ∨ c = 2 ∨ c = 3) with rfl | rfl | rfl | rfl
    · exact h.1.1.1
    · exact h.1.1.2
    · exact h.1.2
    · exact h.2
  · intro h
    rw [h 0 (by omega), h 1 (by omega), h 2 (by omega), h 3 (by omega)]
    rfl
/-- alike for r steps -/
def eqv (val : Nat → Int32) (nxt : Nat → Nat → Nat) : Nat → Nat → Nat → Bool
  | 0, i, j => decide (val i = val j)
  | r + 1, i, j => eqv val nxt r i j && all4 (fun c => eqv val nxt r (nxt i c) (nxt j c))
theorem eqv_s {val : Nat → Int32} {nxt : Nat → Nat → Nat} {r i j : Nat} : eqv val nxt (r + 1) i j = true ↔ eqv val nxt r i j = true ∧ ∀ c, c < 4 → eqv val nxt r (nxt i c) (nxt j c) = true := by
  rw [eqv, Bool.and_eq_true, all4_iff]
theorem eqv_refl {val : Nat → Int32} {nxt : Nat → Nat → Nat} : ∀ r i, eqv val nxt r i i = true := by
  intro r
  induction r with
  | zero => intro i; exact decide_eq_true rfl
  | succ r ih => intro i; exact eqv_s.mpr ⟨ih i, fun c _ => ih _⟩
theorem eqv_symm {val : Nat → Int32} {nxt : Nat → Nat → Nat} : ∀ r i j, eqv val nxt r i j = true → eqv val nxt r j i = true := by
  intro r
  induction r with
  | zero => intro i j h; exact decide_eq_true (of_decide_eq_true h).symm
  | succ r ih => intro i j h; exact eqv_s.mpr ⟨ih _ _ (eqv_s.mp h).1, fun c hc => ih _ _ ((eqv_s.mp h).2 c hc)⟩
theorem eqv_trans {val : Nat → Int32} {nxt : Nat → Nat → Nat} : ∀ r i j k, eqv val nxt r i j = true → eqv val nxt r j k = true → eqv val nxt r i k = true := by
  intro r
  induction r with
  | zero => intro i j k h1 h2; exact decide_eq_true ((of_decide_eq_true h1).trans (of_decide_eq_true h2))
  | succ r ih => intro i j k h1 h2; exact eqv_s.mpr ⟨ih _ _ _ (eqv_s.mp h1).1 (eqv_s.mp h2).1, fun c hc => ih _ _ _ ((eqv_s.mp h1).2 c hc) ((eqv_s.mp h2).2 c hc)⟩
theorem eqv_dn {val : Nat → Int32} {nxt : Nat → Nat → Nat} {r i j : Nat} : ∀ d, eqv val nxt (r + d) i j = true → eqv val nxt r i j = true := by
  intro d
  induction d with
  | zero => intro h; exact h
  | succ d ih => intro h; exact ih (eqv_s.mp h).1
/-- the first from y on, m of them -/
def lsU (E : Nat → Bool) : Nat → Nat → Nat
  | 0, y => y
  | m + 1, y => if E y = true then y else lsU E m (y + 1)
theorem lsU_le (E : Nat → Bool) : ∀ m y, y ≤ lsU E m y ∧ lsU E m y ≤ y + m := by
  intro m
  induction m with
  | zero => intro y; exact ⟨Nat.le_refl _, Nat.le_refl _⟩
  | succ m ih =>
    intro y
    rw [lsU]
    split
    · omega
    · have := ih (y + 1); omega
theorem lsU_no (E : Nat → Bool) : ∀ m y z, y ≤ z → z < lsU E m y → E z = false := by
  intro m
  induction m with
  | zero => intro y z h1 h2; rw [lsU] at h2; omega
  | succ m ih =>
    intro y z h1 h2
    by_cases c : E y = true
    · rw [lsU, if_pos c] at h2; omega
    · rw [lsU, if_neg c] at h2
      by_cases e : z = y
      · rw [e]; cases h : E y with
        | true => exact absurd h c
        | false => rfl
      · exact ih (y + 1) z (by omega) h2
theorem lsU_yes (E : Nat → Bool) : ∀ m y, E (y + m) = true → E (lsU E m y) = true := by
  intro m
  induction m with
  | zero => intro y h; exact h
  | succ m ih =>
    intro y h
    by_cases c : E y = true
    · rw [lsU, if_pos c]; exact c
    · rw [lsU, if_neg c]; exact ih (y + 1) (by rw [show y + 1 + m = y + (m + 1) by omega]; exact h)
theorem lsU_un {E : Nat → Bool} {m y z : Nat} (h1 : y ≤ z) (h2 : z ≤ y + m) (hz : E z = true ∨ z = y + m) (hn : ∀ w, y ≤ w → w < z → E w = false) : lsU E m y = z := by
  have b := lsU_le E m y
  rcases Nat.lt_trichotomy (lsU E m y) z with c | c | c
  · have e := hn _ b.1 c
    have : lsU E m y = y + m := by
      have key : ∀ m y, lsU E m y = y + m ∨ E (lsU E m y) = true := by
        intro m
        induction m with
        | zero => intro y; exact .inl rfl
        | succ m ih =>
          intro y
          by_cases c : E y = true
          · rw [lsU, if_pos c]; exact .inr c
          · rw [lsU, if_neg c]
            rcases ih (y + 1) with h | h
            · exact .inl (by omega)
            · exact .inr h
      rcases key m y with h | h
      · exact h
      · rw [e] at h; cases h
    omega
  · exact c
  · rcases hz with hz | hz
    · have := lsU_no E m y z h1 c
      rw [hz] at this; cases this
    · omega
/-- the least state that is alike for r steps -/
def clR (val : Nat → Int32) (nxt : Nat → Nat → Nat) (r x : Nat) : Nat := lsU (fun y => eqv val nxt r y x) x 0
theorem clR_le {val : Nat → Int32} {nxt : Nat → Nat → Nat} {r x : Nat} : clR val nxt r x ≤ x := by
  have := (lsU_le (fun y => eqv val nxt r y x) x 0).2
  unfold clR
  omega
theorem clR_e {val : Nat → Int32} {nxt : Nat → Nat → Nat} {r x : Nat} : eqv val nxt r (clR val nxt r x) x = true := lsU_yes (fun y => eqv val nxt r y x) x 0 (by show eqv val nxt r (0 + x) x = true; rw [Nat.zero_add]; exact eqv_refl r x)
theorem clR_no {val : Nat → Int32} {nxt : Nat → Nat → Nat} {r x y : Nat} (h : y < clR val nxt r x) : eqv val nxt r y x = false := lsU_no (fun y => eqv val nxt r y x) x 0 y (by omega) h
theorem clR_min {val : Nat → Int32} {nxt : Nat → Nat → Nat} {r x y : Nat} (h : eqv val nxt r y x = true) : clR val nxt r x ≤ y := by
  by_cases c : clR val nxt r x ≤ y
  · exact c
  · have := clR_no (r := r) (val := val) (nxt := nxt) (x := x) (y := y) (by omega)
    rw [h] at this; cases this
theorem clR_iff {val : Nat → Int32} {nxt : Nat → Nat → Nat} {r x y : Nat} : clR val nxt r x = clR val nxt r y ↔ eqv val nxt r x y = true := by
  constructor
  · intro h
    have a := clR_e (val := val) (nxt := nxt) (r := r) (x := x)
    have b := clR_e (val := val) (nxt := nxt) (r := r) (x := y)
    rw [h] at a
    exact eqv_trans _ _ _ _ (eqv_symm _ _ _ a) b
  · intro h
    have a : clR val nxt r x ≤ clR val nxt r y := clR_min (eqv_trans _ _ _ _ clR_e (eqv_symm _ _ _ h))
    have b : clR val nxt r y ≤ clR val nxt r x := clR_min (eqv_trans _ _ _ _ clR_e h)
    omega
theorem clR_id {val : Nat → Int32} {nxt : Nat → Nat → Nat} {r x : Nat} : clR val nxt r (clR val nxt r x) = clR val nxt r x := clR_iff.mpr clR_e
theorem clR_up {val : Nat → Int32} {nxt : Nat → Nat → Nat} {r x : Nat} (h : clR val nxt r x = x) : clR val nxt (r + 1) x = x := by
  have a : clR val nxt r x ≤ clR val nxt (r + 1) x := clR_min (eqv_s.mp clR_e).1
  have b := clR_le (val := val) (nxt := nxt) (r := r + 1) (x := x)
  omega
def rpN (val : Nat → Int32) (nxt : Nat → Nat → Nat) (r x : Nat) : Nat := if clR val nxt r x = x then 1 else 0
theorem su_le {g : Nat → Nat} (h : ∀ k, g k ≤ 1) : ∀ n, suN g n ≤ n := by
  intro n
  induction n with
  | zero => exact Nat.le_refl _
  | succ n ih => have := h n; show suN g n + g n ≤ n + 1; omega
theorem su_mono {g f : Nat → Nat} : ∀ n, (∀ k, k < n → g k ≤ f k) → suN g n ≤ suN f n := by
  intro n
  induction n with
  | zero => intro _; exact Nat.le_refl _
  | succ n ih => intro h; have a := ih (fun k hk => h k (by omega)); have b := h n (by omega); show suN g n + g n ≤ suN f n + f n; omega
theorem su_lt {g f : Nat → Nat} : ∀ n, (∀ k, k < n → g k ≤ f k) → (∃ k, k < n ∧ g k < f k) → suN g n < suN f n := by
  intro n
  induction n with
  | zero => intro _ ⟨k, h, _⟩; omega
  | succ n ih =>
    intro h ⟨k, h1, h2⟩
    show suN g n + g n < suN f n + f n
    by_cases c : k = n
    · have a := su_mono n (fun k hk => h k (by omega)); rw [c] at h2; omega
    · have a := ih (fun k hk => h k (by omega)) ⟨k, by omega, h2⟩
      have b := h n (by omega)
      omega
/-- six steps are enough for six states -/
theorem moore {val : Nat → Int32} {nxt : Nat → Nat → Nat} {sz : Nat} (hs : sz ≤ 6) (hn : ∀ i c, i < sz → c < 4 → nxt i c < sz) : ∀ d i j, i < sz → j < sz → eqv val nxt 6 i j = true → eqv val nxt (6 + d) i j = true := by
  have rp1 : ∀ r k, rpN val nxt r k ≤ 1 := fun r k => by unfold rpN; split <;> omega
  have step : ∀ r, (∀ i j, i < sz → j < sz → eqv val nxt r i j = true → eqv val nxt (r + 1) i j = true) ∨ suN (rpN val nxt r) sz < suN (rpN val nxt (r + 1)) sz := fun r => by
    by_cases c : ∀ i j, i < sz → j < sz → eqv val nxt r i j = true → eqv val nxt (r + 1) i j = true
    · exact .inl c
    · refine .inr (su_lt sz (fun k _ => ?_) ?_)
      · unfold rpN
        by_cases e : clR val nxt r k = k
        · rw [if_pos e, if_pos (clR_up e)]; exact Nat.le_refl _
        · rw [if_neg e]; exact Nat.zero_le _
      · -- two that part now
        have : ∃ i j, i < sz ∧ j < sz ∧ eqv val nxt r i j = true ∧ ¬ eqv val nxt (r + 1) i j = true := by
          refine Classical.byContradiction (fun h => c (fun i j hi hj e => ?_))
          refine Classical.byContradiction (fun h2 => h ⟨i, j, hi, hj, e, h2⟩)
        obtain ⟨i, j, hi, hj, e1, e2⟩ := this
        have ac := (clR_iff (val := val) (nxt := nxt) (r := r) (x := i) (y := j)).mpr e1
        have pick : ∃ x, x < sz ∧ eqv val nxt r (clR val nxt r i) x = true ∧ ¬ eqv val nxt (r + 1) (clR val nxt r i) x = true := by
          by_cases h : eqv val nxt (r + 1) (clR val nxt r i) i = true
          · refine ⟨j, hj, ?_, fun h2 => e2 (eqv_trans _ _ _ _ (eqv_symm _ _ _ h) h2)⟩
            rw [ac]; exact clR_e
          · exact ⟨i, hi, clR_e, h⟩
        obtain ⟨x, hx, p1, p2⟩ := pick
        have yl := clR_le (val := val) (nxt := nxt) (r := r + 1) (x := x)
        refine ⟨clR val nxt (r + 1) x, by omega, ?_⟩
        have ye : eqv val nxt (r + 1) (clR val nxt (r + 1) x) x = true := clR_e
        have ne : clR val nxt r (clR val nxt (r + 1) x) ≠ clR val nxt (r + 1) x := fun e => by
          have a1 : clR val nxt r (clR val nxt (r + 1) x) = clR val nxt r x := clR_iff.mpr (eqv_s.mp ye).1
          have a2 : clR val nxt r (clR val nxt r i) = clR val nxt r x := clR_iff.mpr p1
          rw [clR_id] at a2
          rw [← e, a1, ← a2] at ye
          exact p2 ye
        unfold rpN
        rw [if_neg ne, if_pos clR_id]
        omega
  have stab : ∀ r, (∀ i j, i < sz → j < sz → eqv val nxt r i j = true → eqv val nxt (r + 1) i j = true) → ∀ d i j, i < sz → j < sz → eqv val nxt r i j = true → eqv val nxt (r + d) i j = true := fun r h d => by
    induction d with
    | zero => intro i j _ _ e; exact e
    | succ d ih =>
      intro i j hi hj e
      exact eqv_s.mpr ⟨ih i j hi hj e, fun c hc => ih _ _ (hn i c hi hc) (hn j c hj hc) ((eqv_s.mp (h i j hi hj e)).2 c hc)⟩
  have key : ∃ r, r ≤ 6 ∧ ∀ i j, i < sz → j < sz → eqv val nxt r i j = true → eqv val nxt (r + 1) i j = true := by
    refine Classical.byContradiction (fun h => ?_)
    have lt : ∀ r, r ≤ 6 → suN (rpN val nxt r) sz < suN (rpN val nxt (r + 1)) sz := fun r hr => (step r).resolve_left (fun e => h ⟨r, hr, e⟩)
    have a0 : suN (rpN val nxt 0) sz < suN (rpN val nxt 1) sz := lt 0 (by omega)
    have a1 : suN (rpN val nxt 1) sz < suN (rpN val nxt 2) sz := lt 1 (by omega)
    have a2 : suN (rpN val nxt 2) sz < suN (rpN val nxt 3) sz := lt 2 (by omega)
    have a3 : suN (rpN val nxt 3) sz < suN (rpN val nxt 4) sz := lt 3 (by omega)
    have a4 : suN (rpN val nxt 4) sz < suN (rpN val nxt 5) sz := lt 4 (by omega)
    have a5 : suN (rpN val nxt 5) sz < suN (rpN val nxt 6) sz := lt 5 (by omega)
    have a6 : suN (rpN val nxt 6) sz < suN (rpN val nxt 7) sz := lt 6 (by omega)
    have b := su_le (rp1 7) sz
    omega
  obtain ⟨r, r6, hr⟩ := key
  intro d i j hi hj e
  have e1 : eqv val nxt r i j = true := eqv_dn (6 - r) (by rw [show r + (6 - r) = 6 by omega]; exact e)
  have := stab r hr (6 - r + d) i j hi hj e1
  rw [show r + (6 - r + d) = 6 + d by omega] at this
  exact this
