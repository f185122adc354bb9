/-! ===== the reference's heaps of trees: is a level a tree? ===== -/
/-- what looking at a level touches -/
def frHc (V W : Nat → Nat → Value) (I J : Nat → Nat → Int32) : Prop := (∀ a j, ¬ (a = 174 ∧ (j = 13 ∨ j = 14)) → W a j = V a j) ∧ (∀ y, y ≠ 186 → y ≠ 187 → y ≠ 194 → y ≠ 195 → y ≠ 196 → J y = I y) ∧ (wt V → wt W)
theorem frHc_t {V W X : Nat → Nat → Value} {I J K : Nat → Nat → Int32} (h : frHc V W I J) (g : frHc W X J K) : frHc V X I K := ⟨fun a j n => (g.1 a j n).trans (h.1 a j n), fun y a b c d e => (g.2.1 y a b c d e).trans (h.2.1 y a b c d e), fun w => g.2.2 (h.2.2 w)⟩
theorem hpL_c {I J : Nat → Nat → Int32} {q : Nat} {T : xT} (h0 : J 250 = I 250) (h1 : J 251 = I 251) (h2 : J 252 = I 252) (h : hpL I q T) : hpL J q T := by
  refine ⟨by rw [h2]; exact h.1, h.2.1, fun i x e => ?_⟩
  rw [h0, h1]
  exact h.2.2 i x e
theorem frHc_h {V W : Nat → Nat → Value} {I J : Nat → Nat → Int32} {q : Nat} {T : xT} (f : frHc V W I J) (h : hpL I q T) : hpL J q T := hpL_c (f.2.1 _ (by decide) (by decide) (by decide) (by decide) (by decide)) (f.2.1 _ (by decide) (by decide) (by decide) (by decide) (by decide)) (f.2.1 _ (by decide) (by decide) (by decide) (by decide) (by decide)) h
theorem frHc_d {V W : Nat → Nat → Value} {I J : Nat → Nat → Int32} (f : frDk V W I J) : frHc V W I J := ⟨fun a j n => f.1 a j (fun e => n ⟨e.1, .inr e.2⟩), fun y a b _ _ _ => f.2.1 y a b, f.2.2⟩
/-- a tree of numbers and truths, within its limits -/
def okV (T : xT) : Prop := T.length ≤ 60 ∧ okF [(truN (xS T 0), 1, 0)] (sl T)
set_option maxRecDepth 100000 in
set_option maxHeartbeats 4000000 in
theorem h563l {L : Nat → Nat → Int64} {R : Nat → Nat → Option Nat} {tl : am_H} {N q : Nat} {T : xT} (hN : 400 < N) (hq : q ≤ 8) (h0 : 0 < T.length) (hk : ∀ k, k < T.length → xS T k ≤ 20) (hF : isF 1 (sl T)) : ∀ (m k K : Nat) (V : Nat → Nat → Value) (I : Nat → Nat → Int32), k + m = T.length → m < K → hpL I q T → dkL V I (tI (T.take k)) → ∃ W J b, fg_563_12 N K (.ref 174) (nI q) (nI k) (fx V I L R ++ tl) = some (.inl (some (.int (bI b)), fx W J L R ++ tl)) ∧ (b = true ↔ okV T) ∧ dkL W J (tI T) ∧ W 174 13 = V 174 13 ∧ frHc V W I J := by
  intro m
  induction m with
  | zero =>
    intro k K V I hm hK h hd
    obtain ⟨K, rfl⟩ : ∃ k, K = k + 1 := ⟨K - 1, by omega⟩
    have l := h.2.1
    rw [List.take_of_length_le (by omega)] at hd
    have e1 := h562 (V := V) (L := L) (R := R) (tl := tl) hq h h0 (hk 0 h0) (nI q) rfl
    obtain ⟨J, b, e2, g2, f2⟩ := s446 (L := L) (R := R) (tl := tl) (t := truN (xS T 0)) (lp := 0) hN (by unfold truN; split <;> omega) (by omega) hk (by omega) hF hd
    refine ⟨V, J, b, ?_, g2, ⟨hd.1, by rw [f2 186 (by decide) (by decide) (by decide), f2 187 (by decide) (by decide) (by decide)]; exact hd.2⟩, rfl, ⟨fun _ _ _ => rfl, fun y _ _ a b c => f2 y a b c, id⟩⟩
    apply hd_563_12
    exact ev_b (rdR rfl) (ev_b ((qa_252 (by omega)).trans (congrArg some h.1)) (ev_t (nI_le (by omega) (by omega)) (ev_i rfl (ev_cI e1 (ev_i rfl (ev_cI e2 (ev_i (bI_fit b) rfl)))))))
  | succ m ih =>
    intro k K V I hm hK h hd
    obtain ⟨K, rfl⟩ : ∃ k, K = k + 1 := ⟨K - 1, by omega⟩
    have l := h.2.1
    have hk2 : k < T.length := by omega
    obtain ⟨c1, c2⟩ := h.2.2 k _ (List.getElem?_eq_getElem hk2)
    obtain ⟨W, J, e, d, f⟩ := s335 (L := L) (R := R) (tl := tl) (nI (T[k]).1) (T[k]).2 hd (by rw [tI_len, List.length_take]; omega)
    have d' : dkL W J (tI (T.take (k + 1))) := by
      rw [List.take_succ_eq_append_getElem hk2, tI_app]
      exact d
    obtain ⟨W2, J2, b, e2, g2, d2, z2, f2⟩ := ih (k + 1) K W J (by omega) (by omega) (frHc_h (frHc_d f) h) d'
    refine ⟨W2, J2, b, ?_, g2, d2, z2.trans (f.1 174 13 (by decide)), frHc_t (frHc_d f) f2⟩
    apply hd_563_12
    refine ev_b (rdR rfl) (ev_b ((qa_252 (by omega)).trans (congrArg some h.1)) (ev_f (nI_ge hk2 (by omega)) (ev_b (rdR rfl) ?_)))
    rw [x128, nI_1]
    exact ev_b ((qa_250 (by omega)).trans (congrArg some c1)) (ev_b (rdR rfl) (ev_b ((qa_251 (by omega)).trans (congrArg some c2)) (ev_i rfl (ev_cV e e2))))
theorem h563 {V : Nat → Nat → Value} {I : Nat → Nat → Int32} {L : Nat → Nat → Int64} {R : Nat → Nat → Option Nat} {tl : am_H} {N q : Nat} {T : xT} (hN : 400 < N) (hq : q ≤ 8) (h : hpL I q T) (h0 : 0 < T.length) (hk : ∀ k, k < T.length → xS T k ≤ 20) (hF : isF 1 (sl T)) (x : Int32) (hx : x = nI q) : ∃ W J b, fm_563 N (.ref 174) x (fx V I L R ++ tl) = some (.inl (some (.int (bI b)), fx W J L R ++ tl)) ∧ (b = true ↔ okV T) ∧ dkL W J (tI T) ∧ W 174 13 = .int 0 ∧ frHc V W I J := by
  subst hx
  have l := h.2.1
  obtain ⟨W, J, b, e, g, d, z, f⟩ := h563l (L := L) (R := R) (tl := tl) hN hq h0 hk hF T.length 0 N (vup (vup V 174 13 (.int 0)) 174 14 (.int 0)) I (by omega) (by omega) h ⟨rfl, lay2_nil⟩
  refine ⟨W, J, b, ?_, g, d, z.trans rfl, frHc_t ⟨fun a j n => by rw [vup_o (fun e => n ⟨e.1, .inr e.2⟩), vup_o (fun e => n ⟨e.1, .inl e.2⟩)], fun _ _ _ _ _ _ => rfl, fun w => wt_i (wt_i w (by decide)) (by decide)⟩ f⟩
  apply hm_563
  apply hd_563_0
  exact ev_b qp_174_13 (ev_b qp_174_14 e)
/-- a form that is deep enough is deep enough a level up -/
theorem okF_up : ∀ (l : List (Nat × Nat)) (st st' : List (Nat × Nat × Nat)), st.length = st'.length → (∀ (i : Nat) (c c' : Nat × Nat × Nat), st[i]? = some c → st'[i]? = some c' → c'.1 = c.1 ∧ c'.2.1 ≤ c.2.1 ∧ c'.2.2 = c.2.2) → okF st l → okF st' l := by
  intro l
  induction l with
  | nil =>
    intro st st' hl hc ho
    cases st with
    | cons c st => exact absurd ho id
    | nil => cases st' with
      | nil => exact trivial
      | cons c st' => exact absurd hl (by simp)
  | cons x l ih =>
    intro st st' hl hc ho
    cases st with
    | nil => exact absurd ho id
    | cons c st => cases st' with
      | nil => exact absurd hl (by simp)
      | cons c' st' =>
        obtain ⟨a1, a2, a3, a4, a5, a6⟩ := ho
        obtain ⟨b1, b2, b3⟩ := hc 0 c c' rfl rfl
        refine ⟨a1, by rw [b1]; exact a2, by omega, by rw [b3]; exact a4, by rw [b3]; exact a5, ih _ _ ?_ ?_ a6⟩
        · rw [List.length_append, List.length_append]
          unfold kid
          rw [List.length_map, List.length_map]
          simp only [List.length_cons] at hl
          omega
        · intro i d d' hd hd'
          have lk : ∀ z, (kid x.1 z).length = arN x.1 := fun z => by unfold kid; rw [List.length_map, List.length_range]
          by_cases q : i < arN x.1
          · rw [List.getElem?_append_left (by rw [lk]; exact q)] at hd hd'
            unfold kid at hd hd'
            rw [List.getElem?_map, List.getElem?_range q] at hd hd'
            rw [← Option.some.inj hd, ← Option.some.inj hd']
            refine ⟨rfl, by show c'.2.1 + 1 ≤ c.2.1 + 1; omega, ?_⟩
            show (if x.1 = 19 ∧ i = 1 then 1 else c'.2.2) = (if x.1 = 19 ∧ i = 1 then 1 else c.2.2)
            rw [b3]
          · rw [List.getElem?_append_right (by rw [lk]; omega), lk] at hd hd'
            exact hc (i - arN x.1 + 1) d d' (by rw [List.getElem?_cons_succ]; exact hd) (by rw [List.getElem?_cons_succ]; exact hd')
