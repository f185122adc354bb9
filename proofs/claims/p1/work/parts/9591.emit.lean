/-! ===== emit(): it ends ===== -/
def wp (P : Option Value → am_H → Prop) (o : Option am_O) : Prop := ∃ r h', o = some (.inl (r, h')) ∧ P r h'
theorem wp_b {α : Type} {P : Option Value → am_H → Prop} {o : Option α} {a : α} {f : α → Option am_O} (h : o = some a) (k : wp P (f a)) : wp P (o.bind f) := by rw [h]; exact k
theorem wp_i {P : Option Value → am_H → Prop} {c : Prop} [Decidable c] {a : Option am_O} (hc : c) (k : wp P a) : wp P (if c then a else none) := by rw [if_pos hc]; exact k
theorem wp_if {P : Option Value → am_H → Prop} {c : Prop} [Decidable c] {a b : Option am_O} (h1 : c → wp P a) (h2 : ¬ c → wp P b) : wp P (if c then a else b) := by
  by_cases hc : c
  · rw [if_pos hc]; exact h1 hc
  · rw [if_neg hc]; exact h2 hc
def iP (Q : Int32 → am_H → Prop) : Option Value → am_H → Prop := fun r h' => ∃ v, r = some (.int v) ∧ Q v h'
theorem wp_cI {t : Bool} {P : Option Value → am_H → Prop} {Q : Int32 → am_H → Prop} {F : Option am_O} {K : Int32 → am_H → Option am_O} (h : wp (iP Q) F) (k : ∀ v h', Q v h' → wp P (K v h')) : wp P (am_cI t F K) := by
  obtain ⟨r, h', h1, v, rfl, h2⟩ := h
  rw [h1]
  exact k v h' h2
theorem wp_cV {t : Bool} {P : Option Value → am_H → Prop} {F : Option am_O} {K : am_H → Option am_O} {h1 : am_H} (h : F = some (.inl (none, h1))) (k : wp P (K h1)) : wp P (am_cV t F K) := by rw [h]; exact k
theorem wp_cE {t : Bool} {P : Option Value → am_H → Prop} {F : Option am_O} {K : Int32 → am_H → Option am_O} {v : Int32} {h1 : am_H} (h : F = some (.inl (some (.int v), h1))) (k : wp P (K v h1)) : wp P (am_cI t F K) := by rw [h]; exact k
/-- a truth, and the class still at its code -/
def eQ (V : Nat → Nat → Value) (I : Nat → Nat → Int32) (L : Nat → Nat → Int64) (R : Nat → Nat → Option Nat) (tl : am_H) (v : Int32) (h' : am_H) : Prop := ∃ s f, h' = eS V I L R tl s f ∧ s ≤ 60 ∧ (v = 0 ∨ v = 1)
def eP (V : Nat → Nat → Value) (I : Nat → Nat → Int32) (L : Nat → Nat → Int64) (R : Nat → Nat → Option Nat) (tl : am_H) : Option Value → am_H → Prop := iP (eQ V I L R tl)
theorem wp_e {V : Nat → Nat → Value} {I : Nat → Nat → Int32} {L : Nat → Nat → Int64} {R : Nat → Nat → Option Nat} {tl : am_H} {s : Nat} {f : Nat → Int32} {v : Int32} (hs : s ≤ 60) (hv : v = 0 ∨ v = 1) : wp (eP V I L R tl) (some (.inl (some (.int v), eS V I L R tl s f))) := ⟨_, _, rfl, v, rfl, s, f, rfl, hs, hv⟩
theorem wp_r {V : Nat → Nat → Value} {I : Nat → Nat → Int32} {L : Nat → Nat → Int64} {R : Nat → Nat → Option Nat} {tl : am_H} {s : Nat} {f : Nat → Int32} {v : Int32} (hs : s ≤ 60) (hv : v = 0 ∨ v = 1) : wp (eP V I L R tl) (if am_rfit (some FieldType.boolean) v then some (.inl (some (.int v), eS V I L R tl s f)) else none) := wp_i (by rcases hv with rfl | rfl <;> decide) (wp_e hs hv)
theorem wp_41 {V : Nat → Nat → Value} {I : Nat → Nat → Int32} {L : Nat → Nat → Int64} {R : Nat → Nat → Option Nat} {tl : am_H} {N s : Nat} {f : Nat → Int32} (hN : 1 ≤ N) (hO : eO V) (hs : s ≤ 60) (a b : Int32) : wp (eP V I L R tl) (fm_41 N (.ref 167) a b (eS V I L R tl s f)) := by
  obtain ⟨r, s', f', h1, h2, h3, h4⟩ := e_41s (I := I) (L := L) (R := R) (tl := tl) (f := f) hN hO hs a b
  rw [h1]
  exact wp_e h3 h4
theorem e_g4 {V : Nat → Nat → Value} {I : Nat → Nat → Int32} {L : Nat → Nat → Int64} {R : Nat → Nat → Option Nat} {tl : am_H} {s : Nat} {f : Nat → Int32} (hO : eO V) : am_vR (am_pG 2564 (.ref 131) (eS V I L R tl s f)) = some (.ref 169) := by
  show am_vR (some (V 131 4)) = _
  rw [hO.1]
  rfl
theorem e_g5 {V : Nat → Nat → Value} {I : Nat → Nat → Int32} {L : Nat → Nat → Int64} {R : Nat → Nat → Option Nat} {tl : am_H} {s : Nat} {f : Nat → Int32} (hO : eO V) : am_vR (am_pG 2565 (.ref 131) (eS V I L R tl s f)) = some (.ref 167) := by
  show am_vR (some (V 131 5)) = _
  rw [hO.2.1]
  rfl
theorem e_gs {V : Nat → Nat → Value} {I : Nat → Nat → Int32} {L : Nat → Nat → Int64} {R : Nat → Nat → Option Nat} {tl : am_H} {s : Nat} {f : Nat → Int32} : am_vI (am_pG 771 (.ref 167) (eS V I L R tl s f)) = some (nI s) := rfl
set_option maxRecDepth 100000 in
set_option maxHeartbeats 4000000 in
/-- emitAnd, emitOr, emitIf end where emit does -/
theorem e_207 {V : Nat → Nat → Value} {I : Nat → Nat → Int32} {L : Nat → Nat → Int64} {R : Nat → Nat → Option Nat} {tl : am_H} {N : Nat} (hN : 1 ≤ N) (hO : eO V) (d : Int32) {r1 r2 r3 r4 : Value → Int32 → Int32 → am_H → Option am_O} (ih : ∀ (a : Int32) (s : Nat) (f : Nat → Int32), s ≤ 60 → wp (eP V I L R tl) (r1 (.ref 131) a d (eS V I L R tl s f))) (a : Int32) {s : Nat} {f : Nat → Int32} (hs : s ≤ 60) : wp (eP V I L R tl) (fo_207 N r1 r2 r3 r4 (.ref 131) a d (eS V I L R tl s f)) := by
  unfold fo_207 fg_207_0 fg_207_43
  refine wp_b (e_g5 hO) (wp_b e_gs (wp_b (e_g5 hO) (wp_i rfl (wp_cI (wp_41 hN hO hs _ _) ?_))))
  rintro v _ ⟨s, f, rfl, hs, hv⟩
  refine wp_if (fun _ => wp_e hs (.inl rfl)) (fun _ => wp_i rfl (wp_cI (ih _ _ _ hs) ?_))
  rintro v _ ⟨s, f, rfl, hs, hv⟩
  refine wp_if (fun _ => wp_e hs (.inl rfl)) (fun _ => wp_b (e_g5 hO) (wp_i rfl (wp_cI (wp_41 hN hO hs _ _) ?_)))
  rintro v _ ⟨s, f, rfl, hs, hv⟩
  refine wp_if (fun _ => wp_b (e_g5 hO) (wp_b (e_g5 hO) (wp_b e_gs (wp_i rfl ?_)))) (fun _ => wp_e hs (.inl rfl))
  obtain ⟨f', hf⟩ := e_51s (V := V) (I := I) (L := L) (R := R) (tl := tl) (f := f) hO hs _ _ _
  refine wp_cV hf (wp_b (e_g5 hO) (wp_i rfl (wp_cI (wp_41 hN hO hs _ _) ?_)))
  rintro v _ ⟨s, f, rfl, hs, hv⟩
  exact wp_r hs hv
set_option maxRecDepth 100000 in
set_option maxHeartbeats 4000000 in
theorem e_208 {V : Nat → Nat → Value} {I : Nat → Nat → Int32} {L : Nat → Nat → Int64} {R : Nat → Nat → Option Nat} {tl : am_H} {N : Nat} (hN : 1 ≤ N) (hO : eO V) (d : Int32) {r1 r2 r3 r4 : Value → Int32 → Int32 → am_H → Option am_O} (ih : ∀ (a : Int32) (s : Nat) (f : Nat → Int32), s ≤ 60 → wp (eP V I L R tl) (r1 (.ref 131) a d (eS V I L R tl s f))) (a : Int32) {s : Nat} {f : Nat → Int32} (hs : s ≤ 60) : wp (eP V I L R tl) (fo_208 N r1 r2 r3 r4 (.ref 131) a d (eS V I L R tl s f)) := by
  unfold fo_208 fg_208_0 fg_208_57 fg_208_25
  refine wp_b (e_g5 hO) (wp_i rfl (wp_cI (wp_41 hN hO hs _ _) ?_))
  rintro v _ ⟨s, f, rfl, hs, hv⟩
  refine wp_if (fun _ => wp_e hs (.inl rfl)) (fun _ => wp_b (e_g5 hO) (wp_i rfl (wp_cI (wp_41 hN hO hs _ _) ?_)))
  rintro v _ ⟨s, f, rfl, hs, hv⟩
  refine wp_if (fun _ => wp_b (e_g5 hO) (wp_b e_gs (wp_b (e_g5 hO) (wp_i rfl (wp_cI (wp_41 hN hO hs _ _) ?_))))) (fun _ => wp_e hs (.inl rfl))
  rintro v _ ⟨s, f, rfl, hs, hv⟩
  refine wp_if (fun _ => wp_e hs (.inl rfl)) (fun _ => wp_i rfl (wp_cI (ih _ _ _ hs) ?_))
  rintro v _ ⟨s, f, rfl, hs, hv⟩
  refine wp_if (fun _ => wp_b (e_g5 hO) (wp_b (e_g5 hO) (wp_b e_gs (wp_i rfl ?_)))) (fun _ => wp_e hs (.inl rfl))
  obtain ⟨f', hf⟩ := e_51s (V := V) (I := I) (L := L) (R := R) (tl := tl) (f := f) hO hs _ _ _
  exact wp_cV hf (wp_e hs (.inr rfl))
set_option maxRecDepth 100000 in
set_option maxHeartbeats 4000000 in
theorem e_209 {V : Nat → Nat → Value} {I : Nat → Nat → Int32} {L : Nat → Nat → Int64} {R : Nat → Nat → Option Nat} {tl : am_H} {N : Nat} (hN : 1 ≤ N) (hO : eO V) (d : Int32) {r1 r2 r3 r4 : Value → Int32 → Int32 → am_H → Option am_O} (ih : ∀ (a : Int32) (s : Nat) (f : Nat → Int32), s ≤ 60 → wp (eP V I L R tl) (r1 (.ref 131) a d (eS V I L R tl s f))) (a : Int32) {s : Nat} {f : Nat → Int32} (hs : s ≤ 60) : wp (eP V I L R tl) (fo_209 N r1 r2 r3 r4 (.ref 131) a d (eS V I L R tl s f)) := by
  unfold fo_209 fg_209_0 fg_209_30
  refine wp_b (e_g5 hO) (wp_b e_gs (wp_b (e_g5 hO) (wp_i rfl (wp_cI (wp_41 hN hO hs _ _) ?_))))
  rintro v _ ⟨s, f, rfl, hs, hv⟩
  refine wp_if (fun _ => wp_e hs (.inl rfl)) (fun _ => wp_i rfl (wp_cI (ih _ _ _ hs) ?_))
  rintro v _ ⟨s, f, rfl, hs, hv⟩
  refine wp_if (fun _ => wp_b (e_g5 hO) (wp_b e_gs (wp_b (e_g5 hO) (wp_i rfl (wp_cI (wp_41 hN hO hs _ _) ?_))))) (fun _ => wp_e hs (.inl rfl))
  rintro v _ ⟨s, f, rfl, hs, hv⟩
  refine wp_if (fun _ => wp_b (e_g5 hO) (wp_b (e_g5 hO) (wp_b e_gs (wp_i rfl ?_)))) (fun _ => wp_e hs (.inl rfl))
  obtain ⟨f', hf⟩ := e_51s (V := V) (I := I) (L := L) (R := R) (tl := tl) (f := f) hO hs _ _ _
  refine wp_cV hf (wp_b (a := .ref 132) rfl (wp_i rfl ?_))
  obtain ⟨v1, hv1⟩ := e_100 (V := V) (I := I) (L := L) (R := R) (tl := tl) (s := s) (f := f') hO a
  refine wp_cE hv1 (wp_i rfl (wp_cI (ih _ _ _ hs) ?_))
  rintro v _ ⟨s, f, rfl, hs, hv⟩
  refine wp_if (fun _ => wp_b (e_g5 hO) (wp_b (e_g5 hO) (wp_b e_gs (wp_i rfl ?_)))) (fun _ => wp_e hs (.inl rfl))
  obtain ⟨f', hf⟩ := e_51s (V := V) (I := I) (L := L) (R := R) (tl := tl) (f := f) hO hs _ _ _
  exact wp_cV hf (wp_e hs (.inr rfl))
set_option maxRecDepth 100000 in
set_option maxHeartbeats 4000000 in
theorem e_206 {V : Nat → Nat → Value} {I : Nat → Nat → Int32} {L : Nat → Nat → Int64} {R : Nat → Nat → Option Nat} {tl : am_H} {N : Nat} (hN : 1 ≤ N) (hO : eO V) : ∀ (m k K : Nat) (a : Int32) (s : Nat) (f : Nat → Int32), k + m = 13 → 2 * m + 1 ≤ K → s ≤ 60 → wp (eP V I L R tl) (gr_206 N K 206 [.ref 131, .int a, .int (nI k)] (eS V I L R tl s f)) := by
  intro m
  induction m with
  | zero =>
    intro k K a s f hk hK hs
    obtain ⟨K, rfl⟩ : ∃ j, K = j + 1 := ⟨K - 1, by omega⟩
    show wp _ (fo_206 N _ _ _ _ (.ref 131) a (nI k) _)
    unfold fo_206 fg_206_0 fg_206_33
    obtain ⟨v, hv⟩ := e_54 (V := V) (I := I) (L := L) (R := R) (tl := tl) (s := s) (f := f) hO a 0
    refine wp_b (e_g4 hO) (wp_i rfl (wp_cE hv ?_))
    exact wp_if (fun _ => wp_e hs (.inl rfl)) (fun c => absurd (show (12 : Int32) < nI k by rw [show k = 13 by omega]; decide) c)
  | succ m ih =>
    intro k K a s f hk hK hs
    obtain ⟨K, rfl⟩ : ∃ j, K = j + 1 := ⟨K - 1, by omega⟩
    have iH : ∀ (a : Int32) (s : Nat) (f : Nat → Int32), s ≤ 60 → wp (eP V I L R tl) (gr_206 N K 206 [.ref 131, .int a, .int (nI k + 1)] (eS V I L R tl s f)) := fun a s f hs => by rw [nI_1]; exact ih (k + 1) K a s f (by omega) (by omega) hs
    obtain ⟨J, rfl⟩ : ∃ j, K = j + 1 := ⟨K - 1, by omega⟩
    have iJ : ∀ (a : Int32) (s : Nat) (f : Nat → Int32), s ≤ 60 → wp (eP V I L R tl) (gr_206 N J 206 [.ref 131, .int a, .int (nI k + 1)] (eS V I L R tl s f)) := fun a s f hs => by rw [nI_1]; exact ih (k + 1) J a s f (by omega) (by omega) hs
    show wp _ (fo_206 N _ _ _ _ (.ref 131) a (nI k) _)
    unfold fo_206 fg_206_0 fg_206_33 fg_206_219 fg_206_220 fg_206_121 fg_206_122
    obtain ⟨v, hv⟩ := e_54 (V := V) (I := I) (L := L) (R := R) (tl := tl) (s := s) (f := f) hO a 0
    refine wp_b (e_g4 hO) (wp_i rfl (wp_cE hv ?_))
    refine wp_if (fun _ => wp_e hs (.inl rfl)) (fun _ => wp_if (fun _ => wp_e hs (.inl rfl)) (fun _ => wp_if (fun _ => wp_e hs (.inl rfl)) (fun _ => wp_if (fun _ => wp_if (fun _ => ?_) (fun _ => ?_)) (fun _ => wp_e hs (.inl rfl)))))
    · obtain ⟨v1, hv1⟩ := e_100 (V := V) (I := I) (L := L) (R := R) (tl := tl) (s := s) (f := f) hO (a + 1)
      refine wp_b (a := .ref 132) rfl (wp_i rfl (wp_cE hv1 (wp_i rfl (wp_cI (iH _ _ _ hs) ?_))))
      rintro w _ ⟨s, f, rfl, hs, hw⟩
      refine wp_if (fun _ => wp_if (fun _ => wp_if (fun _ => wp_if (fun _ => wp_if (fun _ => wp_if (fun _ => ?_) (fun _ => ?_)) (fun _ => ?_)) (fun _ => ?_)) (fun _ => ?_)) (fun _ => ?_)) (fun _ => wp_e hs (.inl rfl))
      · refine wp_i rfl (wp_cI (iH _ _ _ hs) ?_)
        rintro w _ ⟨s, f, rfl, hs, hw⟩
        refine wp_if (fun _ => wp_r hs (.inl rfl)) (fun _ => wp_b (e_g5 hO) (wp_i rfl (wp_cI (wp_41 hN hO hs _ _) ?_)))
        rintro w _ ⟨s, f, rfl, hs, hw⟩
        exact wp_if (fun _ => wp_r hs (.inl rfl)) (fun _ => wp_r hs (.inr rfl))
      · refine wp_i rfl (wp_cI (e_209 hN hO _ iJ _ hs) ?_)
        rintro w _ ⟨s, f, rfl, hs, hw⟩
        exact wp_r hs hw
      · refine wp_i rfl (wp_cI (e_208 hN hO _ iJ _ hs) ?_)
        rintro w _ ⟨s, f, rfl, hs, hw⟩
        exact wp_r hs hw
      · refine wp_i rfl (wp_cI (e_207 hN hO _ iJ _ hs) ?_)
        rintro w _ ⟨s, f, rfl, hs, hw⟩
        exact wp_r hs hw
      · refine wp_b (e_g5 hO) (wp_i rfl (wp_cI (wp_41 hN hO hs _ _) ?_))
        rintro w _ ⟨s, f, rfl, hs, hw⟩
        exact wp_r hs hw
      · refine wp_b (e_g5 hO) (wp_i rfl (wp_cI (wp_41 hN hO hs _ _) ?_))
        rintro w _ ⟨s, f, rfl, hs, hw⟩
        refine wp_if (fun _ => wp_r hs (.inl rfl)) (fun _ => wp_b (e_g5 hO) (wp_i rfl (wp_cI (wp_41 hN hO hs _ _) ?_)))
        rintro w _ ⟨s, f, rfl, hs, hw⟩
        exact wp_if (fun _ => wp_r hs (.inl rfl)) (fun _ => wp_r hs (.inr rfl))
    · refine wp_b (e_g5 hO) (wp_b (e_g4 hO) (wp_i rfl ?_))
      obtain ⟨v1, hv1⟩ := e_54 (V := V) (I := I) (L := L) (R := R) (tl := tl) (s := s) (f := f) hO a 1
      refine wp_cE hv1 (wp_i rfl (wp_cI (wp_41 hN hO hs _ _) ?_))
      rintro w _ ⟨s, f, rfl, hs, hw⟩
      exact wp_r hs hw
