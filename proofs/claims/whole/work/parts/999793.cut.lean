/-! ===== trees: when a part fits at another place ===== -/
def ok1 (c : Nat × Nat × Nat) (x : Nat × Nat) : Prop := x.1 ≤ 20 ∧ truN x.1 = c.1 ∧ c.2.1 ≤ 12 ∧ (c.2.2 = 0 → x.1 ≠ 5 ∧ x.1 ≠ 6) ∧ (c.2.2 = 1 → x.1 ≠ 19)
theorem cxl_nil (st : List (Nat × Nat × Nat)) : cxl st [] = [] := by cases st <;> rfl
theorem okF_zp : ∀ (l : List (Nat × Nat)) (st : List (Nat × Nat × Nat)), okF st l ↔ isF st.length l ∧ ∀ p, p ∈ (cxl st l).zip l → ok1 p.1 p.2 := by
  intro l
  induction l with
  | nil =>
    intro st
    cases st with
    | nil => exact ⟨fun _ => ⟨by rw [List.length_nil, isF]; trivial, fun p h => by rw [cxl_nil, List.zip_nil_right] at h; exact absurd h (by simp)⟩, fun _ => by rw [okF]; trivial⟩
    | cons c s => exact ⟨fun h => by rw [okF] at h; exact absurd h id, fun h => by have := h.1; rw [List.length_cons, isF] at this; exact absurd this id⟩
  | cons x r ih =>
    intro st
    cases st with
    | nil => exact ⟨fun h => by rw [okF] at h; exact absurd h id, fun h => by have := h.1; rw [List.length_nil, isF] at this; exact absurd this id⟩
    | cons c s =>
      rw [okF, ih, cxl_c, List.zip_cons_cons, List.length_cons, isF, List.length_append, kid_len, Nat.add_comm (arN x.1)]
      constructor
      · rintro ⟨a1, a2, a3, a4, a5, b1, b2⟩
        refine ⟨b1, fun p hp => ?_⟩
        rcases List.mem_cons.mp hp with rfl | hp
        · exact ⟨a1, a2, a3, a4, a5⟩
        · exact b2 p hp
      · rintro ⟨b1, b2⟩
        obtain ⟨a1, a2, a3, a4, a5⟩ := b2 (c, x) List.mem_cons_self
        exact ⟨a1, a2, a3, a4, a5, b1, fun p hp => b2 p (List.mem_cons_of_mem _ hp)⟩
def phi (a b : Nat) (F : Nat → Nat) (c : Nat × Nat × Nat) : Nat × Nat × Nat := (c.1, c.2.1 + a - b, F c.2.2)
theorem kid_ge {s b : Nat} {c : Nat × Nat × Nat} (h : b ≤ c.2.1) : ∀ y, y ∈ kid s c → b ≤ y.2.1 := by
  intro y hy
  unfold kid at hy
  obtain ⟨p, -, rfl⟩ := List.mem_map.mp hy
  exact Nat.le_succ_of_le h
theorem cxl_phi {a b : Nat} {F : Nat → Nat} : ∀ (l : List (Nat × Nat)) (st : List (Nat × Nat × Nat)), (∀ c, c ∈ st → b ≤ c.2.1) → (∀ x, x ∈ l → x.1 = 19 → F 1 = 1) → cxl (st.map (phi a b F)) l = (cxl st l).map (phi a b F) := by
  intro l
  induction l with
  | nil => intro st _ _; rw [cxl_nil, cxl_nil]; rfl
  | cons x r ih =>
    intro st hst hx
    cases st with
    | nil => rfl
    | cons c s =>
      have hc := hst c List.mem_cons_self
      rw [List.map_cons, cxl_c, cxl_c, List.map_cons, ← ih (kid x.1 c ++ s) (fun d hd => by
        rcases List.mem_append.mp hd with h | h
        · exact kid_ge hc d h
        · exact hst d (List.mem_cons_of_mem _ h)) (fun y hy => hx y (List.mem_cons_of_mem _ hy)), List.map_append]
      have e : kid x.1 (phi a b F c) = (kid x.1 c).map (phi a b F) := by
        unfold kid
        rw [List.map_map]
        refine List.map_congr_left (fun p _ => ?_)
        show (twN x.1 p, c.2.1 + a - b + 1, if x.1 = 19 ∧ p = 1 then 1 else F c.2.2) = (twN x.1 p, c.2.1 + 1 + a - b, F (if x.1 = 19 ∧ p = 1 then 1 else c.2.2))
        by_cases h : x.1 = 19 ∧ p = 1
        · rw [if_pos h, if_pos h, hx x List.mem_cons_self h.1, show c.2.1 + a - b + 1 = c.2.1 + 1 + a - b by omega]
        · rw [if_neg h, if_neg h, show c.2.1 + a - b + 1 = c.2.1 + 1 + a - b by omega]
      rw [e]
theorem cxl_all {q : Nat × Nat × Nat → Prop} (hq : ∀ s c, q c → ∀ y, y ∈ kid s c → q y) : ∀ (l : List (Nat × Nat)) (st : List (Nat × Nat × Nat)), (∀ c, c ∈ st → q c) → ∀ c, c ∈ cxl st l → q c := by
  intro l
  induction l with
  | nil => intro st _ c hc; rw [cxl_nil] at hc; exact absurd hc (by simp)
  | cons x r ih =>
    intro st hst c hc
    cases st with
    | nil => exact absurd hc (by simp [cxl])
    | cons c0 s =>
      rw [cxl_c] at hc
      rcases List.mem_cons.mp hc with rfl | hc
      · exact hst _ List.mem_cons_self
      · refine ih _ (fun d hd => ?_) c hc
        rcases List.mem_append.mp hd with h | h
        · exact hq _ _ (hst c0 List.mem_cons_self) d h
        · exact hst d (List.mem_cons_of_mem _ h)
theorem cxl_spl : ∀ (l : List (Nat × Nat)) (st1 st2 : List (Nat × Nat × Nat)), okF (st1 ++ st2) l → cxl (st1 ++ st2) l = cxl st1 (l.take (tk st1.length l)) ++ cxl st2 (l.drop (tk st1.length l)) := by
  intro l
  induction l with
  | nil => intro st1 st2 _; rw [List.take_nil, List.drop_nil, cxl_nil, cxl_nil, cxl_nil]; rfl
  | cons x r ih =>
    intro st1 st2 h
    cases st1 with
    | nil =>
      rw [List.length_nil, tk_0, List.take_zero, List.drop_zero, cxl_nil]
      rfl
    | cons c s =>
      rw [List.cons_append, okF] at h
      obtain ⟨a1, a2, a3, a4, a5, a6⟩ := h
      rw [← List.append_assoc] at a6
      have h1 := ih (kid x.1 c ++ s) st2 a6
      rw [List.length_append, kid_len, Nat.add_comm] at h1
      rw [List.length_cons, tk_c, Nat.add_comm 1, List.take_succ_cons, List.drop_succ_cons, List.cons_append, cxl_c, cxl_c, ← List.append_assoc, h1]
      rfl
theorem cxl_sub : ∀ (l : List (Nat × Nat)) (st : List (Nat × Nat × Nat)) (k : Nat) (c : Nat × Nat × Nat), okF st l → (cxl st l)[k]? = some c → cxl [c] ((l.drop k).take (tk 1 (l.drop k))) = ((cxl st l).drop k).take (tk 1 (l.drop k)) := by
  intro l
  induction l with
  | nil => intro st k c h hc; rw [cxl_nil] at hc; simp at hc
  | cons x r ih =>
    intro st k c h hc
    cases st with
    | nil => rw [okF] at h; exact absurd h id
    | cons c0 st =>
      cases k with
      | zero =>
        rw [cxl_c, List.getElem?_cons_zero] at hc
        have e : c0 = c := Option.some.inj hc
        subst e
        rw [List.drop_zero, List.drop_zero]
        have h1 := (okF_spl (x :: r) [c0] st h).1
        have h2 := cxl_spl (x :: r) [c0] st h
        have h3 := cxl_len _ _ h1
        rw [List.length_take, Nat.min_eq_left (tk_le _ _)] at h3
        rw [show [c0] ++ st = c0 :: st from rfl] at h2
        rw [h2]
        exact (List.take_left' h3).symm
      | succ k =>
        rw [cxl_c, List.getElem?_cons_succ] at hc
        rw [okF] at h
        rw [List.drop_succ_cons, cxl_c, List.drop_succ_cons]
        exact ih (kid x.1 c0 ++ st) k c h.2.2.2.2.2 hc
theorem cxK_at {l : List (Nat × Nat)} (ho : okF [(0, 1, 0)] l) {k : Nat} (hk : k < l.length) : (cxl [(0, 1, 0)] l)[k]? = some (cxK l k) := by
  unfold cxK
  rw [List.getD_eq_getElem?_getD, List.getElem?_eq_getElem (by rw [cxl_len _ _ ho]; exact hk)]
  rfl
theorem cxK_f1 {l : List (Nat × Nat)} (ho : okF [(0, 1, 0)] l) {k : Nat} (hk : k < l.length) : (cxK l k).2.2 ≤ 1 ∧ 1 ≤ (cxK l k).2.1 := by
  have m := List.mem_of_getElem? (cxK_at ho hk)
  exact ⟨cxl_all (q := fun c => c.2.2 ≤ 1) (fun s c h => kid_le h) l _ (fun c hc => by rw [List.mem_singleton.mp hc]; decide) _ m, cxl_all (q := fun c => 1 ≤ c.2.1) (fun s c h => kid_ge h) l _ (fun c hc => by rw [List.mem_singleton.mp hc]; decide) _ m⟩
theorem sub_z {l : List (Nat × Nat)} (ho : okF [(0, 1, 0)] l) {k : Nat} (hk : k < l.length) (p : (Nat × Nat × Nat) × (Nat × Nat)) : p ∈ (cxl [cxK l k] ((l.drop k).take (tk 1 (l.drop k)))).zip ((l.drop k).take (tk 1 (l.drop k))) ↔ ∃ j, k ≤ j ∧ j < k + tk 1 (l.drop k) ∧ p = (cxK l j, l.getD j (0, 0)) := by
  rw [cxl_sub l _ k _ ho (cxK_at ho hk)]
  have hn : k + tk 1 (l.drop k) ≤ l.length := tk_1le (by omega)
  constructor
  · intro h
    obtain ⟨i, hi⟩ := List.mem_iff_getElem?.mp h
    rw [List.getElem?_zip_eq_some] at hi
    obtain ⟨h1, h2⟩ := hi
    rw [List.getElem?_take] at h1 h2
    by_cases c : i < tk 1 (l.drop k)
    · rw [if_pos c, List.getElem?_drop] at h1 h2
      rw [cxK_at ho (by omega)] at h1
      refine ⟨k + i, by omega, by omega, ?_⟩
      rw [List.getD_eq_getElem?_getD, h2, Option.some.inj h1]
      rfl
    · rw [if_neg c] at h1; exact absurd h1 (by simp)
  · rintro ⟨j, j1, j2, rfl⟩
    refine List.mem_iff_getElem?.mpr ⟨j - k, ?_⟩
    rw [List.getElem?_zip_eq_some, List.getElem?_take, List.getElem?_take, if_pos (by omega), if_pos (by omega), List.getElem?_drop, List.getElem?_drop, show k + (j - k) = j by omega, cxK_at ho (by omega)]
    refine ⟨rfl, ?_⟩
    rw [List.getD_eq_getElem?_getD, List.getElem?_eq_getElem (by omega)]
    rfl
theorem anR_f {P : Nat → Bool} {a : Nat} : ∀ m, anR P a m = false ↔ ∀ j, a ≤ j → j < a + m → P j = false := by
  intro m
  induction m with
  | zero => exact ⟨fun _ j h1 h2 => by omega, fun _ => rfl⟩
  | succ m ih =>
    show (anR P a m || P (a + m)) = false ↔ _
    rw [Bool.or_eq_false_iff, ih]
    constructor
    · rintro ⟨h1, h2⟩ j a1 a2
      by_cases c : j = a + m
      · rw [c]; exact h2
      · exact h1 j a1 (by omega)
    · intro h
      exact ⟨fun j a1 a2 => h j a1 (by omega), h _ (by omega) (by omega)⟩
/-- a part at another place, place by place -/
theorem sub_phi {l : List (Nat × Nat)} (ho : okF [(0, 1, 0)] l) {k : Nat} (hk : k < l.length) {c : Nat × Nat × Nat} {F : Nat → Nat} (h1 : c.1 = (cxK l k).1) (hF : F (cxK l k).2.2 = c.2.2) (h19 : ∀ j, k ≤ j → j < k + tk 1 (l.drop k) → sL l j = 19 → F 1 = 1) : okF [c] ((l.drop k).take (tk 1 (l.drop k))) ↔ ∀ j, k ≤ j → j < k + tk 1 (l.drop k) → dpL l j + c.2.1 - dpL l k ≤ 12 ∧ (F (inL l j) = 0 → sL l j ≠ 5 ∧ sL l j ≠ 6) ∧ (F (inL l j) = 1 → sL l j ≠ 19) := by
  have hT := okF_sub l _ k _ ho (cxK_at ho hk)
  have z0 := (okF_zp _ _).mp hT
  have hn : k + tk 1 (l.drop k) ≤ l.length := tk_1le (by omega)
  have ec : [c] = [cxK l k].map (phi c.2.1 (cxK l k).2.1 F) := by
    rw [List.map_cons, List.map_nil]
    congr 1
    unfold phi
    rw [← h1, hF, show (cxK l k).2.1 + c.2.1 - (cxK l k).2.1 = c.2.1 by omega]
  have e2 := cxl_phi (a := c.2.1) (b := (cxK l k).2.1) (F := F) ((l.drop k).take (tk 1 (l.drop k))) [cxK l k] (fun d hd => by rw [List.mem_singleton.mp hd]; exact Nat.le_refl _) (fun x hx e => by
    obtain ⟨i, hi⟩ := List.mem_iff_getElem?.mp hx
    rw [List.getElem?_take] at hi
    by_cases q : i < tk 1 (l.drop k)
    · rw [if_pos q, List.getElem?_drop] at hi
      refine h19 (k + i) (by omega) (by omega) ?_
      unfold sL
      rw [List.getD_eq_getElem?_getD, hi]
      exact e
    · rw [if_neg q] at hi; exact absurd hi (by simp))
  rw [← ec] at e2
  rw [okF_zp, e2, List.zip_map_left]
  constructor
  · rintro ⟨-, h⟩ j j1 j2
    have := h (phi c.2.1 (cxK l k).2.1 F (cxK l j), l.getD j (0, 0)) (List.mem_map.mpr ⟨(cxK l j, l.getD j (0, 0)), (sub_z ho hk _).mpr ⟨j, j1, j2, rfl⟩, rfl⟩)
    exact ⟨this.2.2.1, this.2.2.2.1, this.2.2.2.2⟩
  · intro h
    refine ⟨z0.1, fun p hp => ?_⟩
    obtain ⟨q, q1, rfl⟩ := List.mem_map.mp hp
    obtain ⟨j, j1, j2, rfl⟩ := (sub_z ho hk q).mp q1
    obtain ⟨a1, a2, a3, a4, a5⟩ := z0.2 _ q1
    obtain ⟨b1, b2, b3⟩ := h j j1 j2
    exact ⟨a1, a2, b1, b2, b3⟩
theorem no_19 {l : List (Nat × Nat)} (ho : okF [(0, 1, 0)] l) {k : Nat} (hk : k < l.length) (h1 : (cxK l k).2.2 = 1) : ∀ j, k ≤ j → j < k + tk 1 (l.drop k) → sL l j ≠ 19 := by
  have hT := okF_sub l _ k _ ho (cxK_at ho hk)
  have := (sub_phi ho hk (c := cxK l k) (F := fun _ => 1) rfl h1.symm (fun _ _ _ _ => rfl)).mp hT
  exact fun j a b => (this j a b).2.2 rfl
theorem dep_iff {l : List (Nat × Nat)} {k d : Nat} (hn : 1 ≤ tk 1 (l.drop k)) (hd : 1 ≤ d) : (∀ j, k ≤ j → j < k + tk 1 (l.drop k) → dpL l j + d - dpL l k ≤ 12) ↔ d - 1 + tlL l k ≤ 12 := by
  have hm : dpL l k ≤ mxR (dpL l) k (tk 1 (l.drop k)) := mxR_ge _ hn
  unfold tlL
  constructor
  · intro h
    have h0 := h k (Nat.le_refl _) (by omega)
    have : mxR (dpL l) k (tk 1 (l.drop k)) ≤ 12 + dpL l k - d := mxR_le _ (fun j a b => by have := h j a b; omega)
    omega
  · intro h j a b
    have := mxR_mem (f := dpL l) (a := k) (tk 1 (l.drop k)) j a b
    omega
/-- when a part fits at another place -/
theorem fit_iff {l : List (Nat × Nat)} (ho : okF [(0, 1, 0)] l) {k : Nat} (hk : k < l.length) {c : Nat × Nat × Nat} (hc : c.2.2 ≤ 1) (hd : 1 ≤ c.2.1) : okF [c] ((l.drop k).take (tk 1 (l.drop k))) ↔ truN (sL l k) = c.1 ∧ c.2.1 - 1 + tlL l k ≤ 12 ∧ (c.2.2 = 1 → foL l k = false) ∧ (c.2.2 = 0 → loL l k = false) := by
  obtain ⟨x, r, hx⟩ : ∃ x r, l.drop k = x :: r := ⟨_, _, List.drop_eq_getElem_cons hk⟩
  have hT := okF_sub l _ k _ ho (cxK_at ho hk)
  have hn : 1 ≤ tk 1 (l.drop k) := by rw [hx, tk_c]; omega
  have hsx := sL_at hx
  have t' := (form_at ho hx).2.1
  rw [← hsx] at t'
  obtain ⟨f1, -⟩ := cxK_f1 ho hk
  have dp := dep_iff (l := l) (k := k) (d := c.2.1) hn hd
  have fo : foL l k = false ↔ ∀ j, k ≤ j → j < k + tk 1 (l.drop k) → sL l j ≠ 19 := by
    unfold foL
    rw [anR_f]
    exact ⟨fun h j a b e => by have := h j a b; unfold isFo at this; exact absurd e (of_decide_eq_false this), fun h j a b => by unfold isFo; exact decide_eq_false (h j a b)⟩
  have lf : anR (isLf l) k (tk 1 (l.drop k)) = false ↔ ∀ j, k ≤ j → j < k + tk 1 (l.drop k) → sL l j ≠ 5 ∧ sL l j ≠ 6 := by
    rw [anR_f]
    refine ⟨fun h j a b => ?_, fun h j a b => ?_⟩
    · have := h j a b
      unfold isLf at this
      rw [Bool.or_eq_false_iff] at this
      exact ⟨of_decide_eq_false this.1, of_decide_eq_false this.2⟩
    · unfold isLf
      rw [decide_eq_false (h j a b).1, decide_eq_false (h j a b).2]
      rfl
  have root : okF [c] ((l.drop k).take (tk 1 (l.drop k))) → truN (sL l k) = c.1 := fun h => by
    rw [hx, tk_c, Nat.add_comm 1, List.take_succ_cons, okF] at h
    rw [hsx]
    exact h.2.1
  constructor
  · intro h
    have h1 := root h
    refine ⟨h1, ?_⟩
    have hc1 : c.1 = (cxK l k).1 := h1.symm.trans t'
    by_cases e : c.2.2 = (cxK l k).2.2
    · have g := (sub_phi ho hk (F := id) hc1 e.symm (fun _ _ _ _ => rfl)).mp h
      refine ⟨dp.mp (fun j a b => (g j a b).1), fun e1 => fo.mpr (no_19 ho hk (by omega)), fun e0 => ?_⟩
      unfold loL
      rw [decide_eq_false (show ¬ inL l k = 1 by unfold inL; omega)]
      rfl
    · by_cases e1 : c.2.2 = 1
      · have g := (sub_phi ho hk (F := fun _ => 1) hc1 e1.symm (fun _ _ _ _ => rfl)).mp h
        exact ⟨dp.mp (fun j a b => (g j a b).1), fun _ => fo.mpr (fun j a b => (g j a b).2.2 rfl), fun e0 => by omega⟩
      · have n19 := no_19 ho hk (by omega)
        have g := (sub_phi ho hk (F := fun _ => 0) hc1 (show 0 = c.2.2 by omega) (fun j a b e => absurd e (n19 j a b))).mp h
        refine ⟨dp.mp (fun j a b => (g j a b).1), fun e => by omega, fun _ => ?_⟩
        unfold loL
        rw [lf.mpr (fun j a b => (g j a b).2.1 rfl), Bool.and_false]
  · rintro ⟨h1, h2, h3, h4⟩
    have hc1 : c.1 = (cxK l k).1 := h1.symm.trans t'
    have hdp := dp.mpr h2
    have z := (sub_phi ho hk (c := cxK l k) (F := id) rfl rfl (fun _ _ _ _ => rfl)).mp hT
    by_cases e : c.2.2 = (cxK l k).2.2
    · exact (sub_phi ho hk (F := id) hc1 e.symm (fun _ _ _ _ => rfl)).mpr (fun j a b => ⟨hdp j a b, (z j a b).2⟩)
    · by_cases e1 : c.2.2 = 1
      · exact (sub_phi ho hk (F := fun _ => 1) hc1 e1.symm (fun _ _ _ _ => rfl)).mpr (fun j a b => ⟨hdp j a b, fun h => absurd h (show ¬ (1 : Nat) = 0 by decide), fun _ => fo.mp (h3 e1) j a b⟩)
      · have n19 := no_19 ho hk (by omega)
        have h4 := h4 (by omega)
        unfold loL at h4
        rw [decide_eq_true (show inL l k = 1 by unfold inL; omega), Bool.true_and] at h4
        exact (sub_phi ho hk (F := fun _ => 0) hc1 (show 0 = c.2.2 by omega) (fun j a b e => absurd e (n19 j a b))).mpr (fun j a b => ⟨hdp j a b, fun _ => lf.mp h4 j a b, fun h => absurd h (show ¬ (0 : Nat) = 1 by decide)⟩)
/-- where another tree stands, it fits -/
theorem hole_r : ∀ (l : List (Nat × Nat)) (st : List (Nat × Nat × Nat)) (k : Nat) (c : Nat × Nat × Nat) (t : List (Nat × Nat)), okF st l → (cxl st l)[k]? = some c → isF 1 t → okF st (l.take k ++ (t ++ l.drop (k + tk 1 (l.drop k)))) → okF [c] t := by
  intro l
  induction l with
  | nil => intro st k c t h hc _ _; rw [cxl_nil] at hc; simp at hc
  | cons x r ih =>
    intro st k c t h hc ht hg
    cases st with
    | nil => rw [okF] at h; exact absurd h id
    | cons c0 st =>
      cases k with
      | zero =>
        rw [cxl_c, List.getElem?_cons_zero] at hc
        have e : c0 = c := Option.some.inj hc
        subst e
        rw [List.take_zero, List.nil_append] at hg
        have h2 := (okF_spl _ [c0] st hg).1
        rw [show [c0].length = 1 from rfl, tk_app _ _ _ ht, List.take_left] at h2
        exact h2
      | succ k =>
        rw [cxl_c, List.getElem?_cons_succ] at hc
        rw [okF] at h
        obtain ⟨a1, a2, a3, a4, a5, a6⟩ := h
        rw [List.take_succ_cons, List.drop_succ_cons, show k + 1 + tk 1 (r.drop k) = (k + tk 1 (r.drop k)) + 1 by omega, List.drop_succ_cons, List.cons_append, okF] at hg
        exact ih (kid x.1 c0 ++ st) k c t a6 hc ht hg.2.2.2.2.2
theorem hole_iff {l : List (Nat × Nat)} (ho : okF [(0, 1, 0)] l) {k : Nat} (hk : k < l.length) {t : List (Nat × Nat)} (ht : isF 1 t) : okF [(0, 1, 0)] (l.take k ++ (t ++ l.drop (k + tk 1 (l.drop k)))) ↔ okF [cxK l k] t := ⟨hole_r l _ k _ t ho (cxK_at ho hk) ht, okF_hole l _ k _ t ho (cxK_at ho hk)⟩
