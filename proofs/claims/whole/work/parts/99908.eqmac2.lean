/-! ===== equal(a, b): two machines, the class's row ===== -/
/-- the letters to a pair, the last one first -/
def pth (cf : Nat → Int32) : Nat → Nat → List Nat
  | 0, _ => []
  | d + 1, x => if x = 0 then [] else (clN cf x % 4) :: pth cf d (clN cf x / 4)
theorem pth_0 {cf : Nat → Int32} {d : Nat} : pth cf d 0 = [] := by
  cases d with
  | zero => rfl
  | succ d => rw [pth, if_pos rfl]
/-- one step back -/
theorem q_back {z1 z2 j : Nat} {st : bS} (h : qInv z1 z2 st) (h1 : 1 ≤ j) (hj : j < st.1) : ∃ i c, i < j ∧ c < 4 ∧ st.2.2 j ≠ 0 ∧ st.2.2 j < 36 ∧ st.2.2 i < 36 ∧ st.2.1 (st.2.2 j) = nI (4 * st.2.2 i + c) ∧ clN st.2.1 (st.2.2 j) = 4 * st.2.2 i + c ∧ ∀ d, pth st.2.1 (d + 1) (st.2.2 j) = c :: pth st.2.1 d (st.2.2 i) := by
  obtain ⟨e1, i, c, e2, e3, e4⟩ := h.2.2.2.1 j h1 hj
  have a := (h.2.1 j hj).2.2
  have b := (h.2.1 i (by omega)).2.2
  have k : clN st.2.1 (st.2.2 j) = 4 * st.2.2 i + c := by unfold clN; rw [e4, nI_clamp (by omega)]
  refine ⟨i, c, e2, e3, e1, a, b, e4, k, fun d => ?_⟩
  rw [pth, if_neg e1, k, show (4 * st.2.2 i + c) % 4 = c by omega, show (4 * st.2.2 i + c) / 4 = st.2.2 i by omega]
theorem pth_le {z1 z2 : Nat} {st : bS} (h : qInv z1 z2 st) : ∀ d j, j ≤ d → j < st.1 → (pth st.2.1 d (st.2.2 j)).length ≤ j := by
  intro d
  induction d with
  | zero => intro j hj _; exact Nat.zero_le _
  | succ d ih =>
    intro j hj hl
    by_cases e : j = 0
    · rw [e, h.2.2.1, pth_0]; exact Nat.le_refl _
    · obtain ⟨i, c, i1, -, -, -, -, -, -, k⟩ := q_back h (show 1 ≤ j by omega) hl
      rw [k, List.length_cons]
      have := ih i (by omega) (by omega)
      omega
set_option maxRecDepth 100000 in
set_option maxHeartbeats 1600000 in
theorem c_289a {V : Nat → Nat → Value} {I : Nat → Nat → Int32} {L : Nat → Nat → Int64} {R : Nat → Nat → Option Nat} {tl : am_H} {N z1 z2 last : Nat} {st : bS} {g : Nat → Int32} {X : Value} (hi : qInv z1 z2 st) (hg : ∀ x, x < 36 → I 146 x = st.2.1 x) : ∀ (d j len K : Nat), j ≤ d → j < st.1 → len + d ≤ 35 → d < K → fg_289_5 N K (.ref 131) (nI last) X (nI len) (nI (st.2.2 j)) (fx V I L R ++ tl) = fg_289_33 N (.ref 131) (nI last) X (nI (len + (pth st.2.1 d (st.2.2 j)).length)) (fx V I L R ++ tl) := by
  intro d
  induction d with
  | zero =>
    intro j len K hj hl h35 hK
    obtain ⟨K, rfl⟩ : ∃ k, K = k + 1 := ⟨K - 1, by omega⟩
    obtain rfl : j = 0 := by omega
    rw [fg_289_5, hi.2.2.1]
    exact ev_t rfl rfl
  | succ d ih =>
    intro j len K hj hl h35 hK
    obtain ⟨K, rfl⟩ : ∃ k, K = k + 1 := ⟨K - 1, by omega⟩
    by_cases e : j = 0
    · rw [e, fg_289_5, hi.2.2.1, pth_0]
      exact ev_t rfl rfl
    · obtain ⟨i, c, i1, c4, x0, xl, yl, e4, -, k⟩ := q_back hi (show 1 ≤ j by omega) hl
      have q := ih i (len + 1) K (by omega) (by omega) (by omega) (by omega)
      rw [k d, List.length_cons, show len + ((pth st.2.1 d (st.2.2 i)).length + 1) = len + 1 + (pth st.2.1 d (st.2.2 i)).length by omega, ← q, fg_289_5]
      refine ev_f (fun e => x0 ((nI_eq (b := 0) (by omega) (by omega)).mp e)) (ev_f (nI_ge (b := 36) (by omega) (by decide)) (ev_b (a := Value.ref 146) rfl (ev_b (a := nI (4 * st.2.2 i + c)) ((qa_146 xl).trans (congrArg some ((hg _ xl).trans e4))) ?_)))
      rw [(dm4 _ (show 4 * st.2.2 i + c < 144 by omega)).1, show (4 * st.2.2 i + c) / 4 = st.2.2 i by omega, nI_1]
def wv (P : List Nat) (i : Nat) : Nat := P.getD (P.length - 1 - i) 0
def mwP (P : List Nat) (g g' : Nat → Int32) : Prop := ∀ j, j < 15 → g' j = if 4 ≤ j ∧ j - 4 < P.length then nI (wv P (j - 4)) else g j
theorem wv_c {c : Nat} {P : List Nat} {i : Nat} (h : i < P.length) : wv (c :: P) i = wv P i := by
  unfold wv
  rw [List.length_cons, show P.length + 1 - 1 - i = (P.length - 1 - i) + 1 by omega, List.getD_cons_succ]
theorem wv_h {c : Nat} {P : List Nat} : wv (c :: P) P.length = c := by
  unfold wv
  rw [List.length_cons, show P.length + 1 - 1 - P.length = 0 by omega, List.getD_cons_zero]
theorem mwP_s {c : Nat} {P : List Nat} {g g' : Nat → Int32} (h : mwP P (upd g (4 + P.length) (nI c)) g') : mwP (c :: P) g g' := by
  intro j hj
  rw [h j hj, List.length_cons]
  by_cases a : 4 ≤ j ∧ j - 4 < P.length
  · rw [if_pos a, if_pos ⟨a.1, by omega⟩, wv_c a.2]
  · rw [if_neg a]
    by_cases e : j = 4 + P.length
    · rw [e, upd_eq, if_pos ⟨by omega, by omega⟩, show 4 + P.length - 4 = P.length by omega, wv_h]
    · rw [upd_ne e, if_neg (fun b => a ⟨b.1, by omega⟩)]
theorem mwP_n {c : Nat} {P : List Nat} {g g' : Nat → Int32} (h : mwP P g g') (hl : 15 ≤ 4 + P.length) : mwP (c :: P) g g' := by
  intro j hj
  rw [h j hj, List.length_cons]
  by_cases a : 4 ≤ j ∧ j - 4 < P.length
  · rw [if_pos a, if_pos ⟨a.1, by omega⟩, wv_c a.2]
  · rw [if_neg a, if_neg (fun b => a ⟨b.1, by omega⟩)]
set_option maxRecDepth 100000 in
set_option maxHeartbeats 1600000 in
theorem c_289f {V : Nat → Nat → Value} {I : Nat → Nat → Int32} {L : Nat → Nat → Int64} {R : Nat → Nat → Option Nat} {tl : am_H} {N z1 z2 : Nat} {st : bS} (hi : qInv z1 z2 st) (hg : ∀ x, x < 36 → I 146 x = st.2.1 x) : ∀ (d j K : Nat) (g : Nat → Int32), j ≤ d → j < st.1 → d < K → ∃ g', mwP (pth st.2.1 d (st.2.2 j)) g g' ∧ fg_289_50 N K (.ref 131) (.ref 166) (nI (st.2.2 j)) (nI (pth st.2.1 d (st.2.2 j)).length + (-1)) (fx V (iup I 166 g) L R ++ tl) = some (.inl (none, fx V (iup I 166 g') L R ++ tl)) := by
  have l36 := q_le hi
  intro d
  induction d with
  | zero =>
    intro j K g hj hl hK
    obtain ⟨K, rfl⟩ : ∃ k, K = k + 1 := ⟨K - 1, by omega⟩
    refine ⟨g, fun j _ => (if_neg (fun b => absurd b.2 (Nat.not_lt_zero _))).symm, ?_⟩
    rw [fg_289_50]
    exact ev_t (show nI 0 + (-1) < 0 by decide) rfl
  | succ d ih =>
    intro j K g hj hl hK
    obtain ⟨K, rfl⟩ : ∃ k, K = k + 1 := ⟨K - 1, by omega⟩
    by_cases e : j = 0
    · rw [e, hi.2.2.1, pth_0]
      refine ⟨g, fun j _ => (if_neg (fun b => absurd b.2 (Nat.not_lt_zero _))).symm, ?_⟩
      rw [fg_289_50]
      exact ev_t (by decide) rfl
    · obtain ⟨i, c, i1, c4, x0, xl, yl, e4, -, k⟩ := q_back hi (show 1 ≤ j by omega) hl
      rw [k d, List.length_cons, nI_m1]
      obtain ⟨P, hP⟩ : ∃ P, P = pth st.2.1 d (st.2.2 i) := ⟨_, rfl⟩
      have pl : P.length ≤ 35 := by
        have := pth_le hi d i (by omega) (by omega)
        rw [← hP] at this
        omega
      have rg : ∀ g : Nat → Int32, am_pA 0 (.ref 146) (nI (st.2.2 j)) (fx V (iup I 166 g) L R ++ tl) = some (nI (4 * st.2.2 i + c)) := fun g => (qa_146 xl).trans (congrArg some ((hg _ xl).trans e4))
      obtain ⟨dm1, dm2⟩ := dm4 _ (show 4 * st.2.2 i + c < 144 by omega)
      rw [show (4 * st.2.2 i + c) / 4 = st.2.2 i by omega] at dm1
      rw [show (4 * st.2.2 i + c) % 4 = c by omega] at dm2
      rw [← hP]
      by_cases b : 15 ≤ 4 + P.length
      · obtain ⟨g', h1, h2⟩ := ih i K g (by omega) (by omega) (by omega)
        rw [← hP] at h1 h2
        refine ⟨g', mwP_n h1 b, ?_⟩
        rw [fg_289_50]
        dsimp only
        rw [show (4 : Int32) + nI P.length = nI (4 + P.length) from nI_add 4 _]
        refine ev_f (nI_pos (by omega)) (ev_b (a := nI 15) rfl (ev_t (nI_le b (by omega)) ?_))
        unfold fg_289_79
        refine ev_b (a := Value.ref 146) rfl (ev_b (rg g) ?_)
        rw [dm1]
        exact h2
      · obtain ⟨g', h1, h2⟩ := ih i K (upd g (4 + P.length) (nI c)) (by omega) (by omega) (by omega)
        rw [← hP] at h1 h2
        refine ⟨g', mwP_s h1, ?_⟩
        rw [fg_289_50]
        dsimp only
        rw [show (4 : Int32) + nI P.length = nI (4 + P.length) from nI_add 4 _]
        refine ev_f (nI_pos (by omega)) (ev_b (a := nI 15) rfl (ev_f (nI_ge (by omega) (by omega)) (ev_b (a := Value.ref 146) rfl (ev_b (rg g) ?_))))
        rw [dm2]
        refine ev_b (a := fx V (iup I 166 (upd g (4 + P.length) (nI c))) L R ++ tl) ((qs_166 (by omega)).trans (by rw [iup_eq, iup_iup])) ?_
        unfold fg_289_79
        refine ev_b (a := Value.ref 146) rfl (ev_b (rg _) ?_)
        rw [dm1]
        exact h2
/-- the row of the way -/
def mwI (P : List Nat) (g : Nat → Int32) : Prop := ∀ j, j < 15 → g j = if 4 ≤ j ∧ j - 4 < P.length then nI (wv P (j - 4)) else if j = 3 then nI P.length else 0
set_option maxRecDepth 100000 in
set_option maxHeartbeats 1600000 in
theorem c_289 {V : Nat → Nat → Value} {I : Nat → Nat → Int32} {L : Nat → Nat → Int64} {R : Nat → Nat → Option Nat} {tl : am_H} {N z1 z2 k : Nat} {st : bS} (hN : 100 < N) (hi : qInv z1 z2 st) (hk : k < st.1) (hg : ∀ x, x < 36 → I 146 x = st.2.1 x) : ∃ g, mwI (pth st.2.1 35 (st.2.2 k)) g ∧ fm_289 N (.ref 131) (nI (st.2.2 k)) (.ref 166) (fx V I L R ++ tl) = some (.inl (none, fx V (iup I 166 g) L R ++ tl)) := by
  have l36 := q_le hi
  obtain ⟨P, hP⟩ : ∃ P, P = pth st.2.1 35 (st.2.2 k) := ⟨_, rfl⟩
  have a := c_289a (V := V) (I := I) (L := L) (R := R) (tl := tl) (N := N) (last := st.2.2 k) (g := I 166) (X := .ref 166) hi hg 35 k 0 N (by omega) hk (by omega) (by omega)
  obtain ⟨g, b1, b2⟩ := c_289f (V := V) (I := I) (L := L) (R := R) (tl := tl) (N := N) hi hg 35 k N (upd (filf (I 166) 0 15) 3 (nI P.length)) (by omega) hk (by omega)
  rw [← hP, Nat.zero_add] at a
  rw [← hP] at b1 b2
  have pl : P.length ≤ 35 := by
    have := pth_le hi 35 k (by omega) hk
    rw [← hP] at this
    omega
  rw [← hP]
  refine ⟨g, fun j hj => ?_, ?_⟩
  · rw [b1 j hj]
    by_cases c : 4 ≤ j ∧ j - 4 < P.length
    · rw [if_pos c, if_pos c]
    · rw [if_neg c, if_neg c]
      by_cases e : j = 3
      · rw [e, upd_eq, if_pos rfl]
      · rw [upd_ne e, if_neg e]
        unfold filf
        rw [if_pos hj]
  · unfold fm_289 fg_289_0
    refine a.trans ?_
    unfold fg_289_33
    refine ev_cV (h1 := fx V (iup I 166 (filf (I 166) 0 15)) L R ++ tl) (e_53 (a := 166) (n := 15) (f := I 166) rfl (by omega) (by omega)) (ev_b (a := fx V (iup I 166 (upd (filf (I 166) 0 15) 3 (nI P.length))) L R ++ tl) ((qs_166 (k := 3) (by omega)).trans (by rw [iup_eq, iup_iup])) ?_)
    rw [Int32.sub_eq_add_neg]
    exact b2
