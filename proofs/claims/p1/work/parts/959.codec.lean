/-! ===== codeOf(): it ends, whatever stands there ===== -/
/-- the class while it makes code in the spare program out of the other one -/
def eS (V : Nat → Nat → Value) (I : Nat → Nat → Int32) (L : Nat → Nat → Int64) (R : Nat → Nat → Option Nat) (tl : am_H) (s : Nat) (f : Nat → Int32) : am_H := fx (vup V 167 3 (.int (nI s))) (iup I 168 f) L R ++ tl
/-- what is wanted of it -/
def eO (V : Nat → Nat → Value) : Prop := V 131 4 = .ref 169 ∧ V 131 5 = .ref 167 ∧ V 167 4 = .int 2 ∧ V 169 4 = .int 2 ∧ (∃ t, t ≤ 60 ∧ V 169 3 = .int (nI t)) ∧ (∃ u, u ≤ 60 ∧ V 132 7 = .int (nI u))
set_option maxRecDepth 100000 in
set_option maxHeartbeats 4000000 in
theorem e_54 {V : Nat → Nat → Value} {I : Nat → Nat → Int32} {L : Nat → Nat → Int64} {R : Nat → Nat → Option Nat} {tl : am_H} {s : Nat} {f : Nat → Int32} (hO : eO V) (i j : Int32) : ∃ v, fm_54 (.ref 169) i j (eS V I L R tl s f) = some (.inl (some (.int v), eS V I L R tl s f)) := by
  obtain ⟨o1, o2, o3, o4, ⟨t, t1, t2⟩, -⟩ := hO
  have g3 : am_vI (am_pG 771 (.ref 169) (eS V I L R tl s f)) = some (nI t) := by show am_vI (some (V 169 3)) = _; rw [t2]; rfl
  have g4 : am_vI (am_pG 772 (.ref 169) (eS V I L R tl s f)) = some 2 := by show am_vI (some (V 169 4)) = _; rw [o4]; rfl
  unfold fm_54 fg_54_0
  by_cases c1 : i < 0
  · exact ⟨0, ev_t c1 rfl⟩
  · obtain ⟨a, ha, rfl⟩ := nI_of c1
    by_cases c2 : nI t ≤ nI a
    · exact ⟨0, ev_f c1 (ev_b g3 (ev_t c2 rfl))⟩
    · have hat : a < t := Nat.not_le.mp (fun h9 => c2 (nI_le h9 ha))
      by_cases c3 : j < 0
      · exact ⟨0, ev_f c1 (ev_b g3 (ev_f c2 (ev_t c3 rfl)))⟩
      · obtain ⟨b, hb, rfl⟩ := nI_of c3
        by_cases c4 : 2 ≤ nI b
        · exact ⟨0, ev_f c1 (ev_b g3 (ev_f c2 (ev_f c3 (ev_b g4 (ev_t c4 rfl)))))⟩
        · have hb2 : b < 2 := Nat.not_le.mp (fun h9 => c4 (nI_le (a := 2) h9 hb))
          refine ⟨I 170 (2 * a + b), ev_f c1 (ev_b g3 (ev_f c2 (ev_f c3 (ev_b g4 (ev_f c4 (ev_b (a := .ref 170) rfl (ev_b g4 ?_)))))))⟩
          rw [show nI a * 2 + nI b = nI (2 * a + b) by rw [← nI_add, Nat.mul_comm, nI_mul]; rfl]
          refine ev_b (ev_a (f := I 170) (n := 120) rfl (am_inb_n (by omega) (by omega))) ?_
          rw [nI_clamp (by omega)]
          rfl
set_option maxRecDepth 100000 in
set_option maxHeartbeats 4000000 in
theorem e_41s {V : Nat → Nat → Value} {I : Nat → Nat → Int32} {L : Nat → Nat → Int64} {R : Nat → Nat → Option Nat} {tl : am_H} {N s : Nat} {f : Nat → Int32} (hN : 1 ≤ N) (hO : eO V) (hs : s ≤ 60) (a b : Int32) : ∃ r s' f', fm_41 N (.ref 167) a b (eS V I L R tl s f) = some (.inl (some (.int r), eS V I L R tl s' f')) ∧ s ≤ s' ∧ s' ≤ 60 ∧ (r = 0 ∨ r = 1) := by
  obtain ⟨o1, o2, o3, o4, -⟩ := hO
  by_cases c : s < 60
  · refine ⟨1, s + 1, upd (upd f (2 * s) a) (2 * s + 1) b, ?_, by omega, by omega, .inr rfl⟩
    exact d_41 (V := vup V 167 3 (.int (nI s))) (I := iup I 168 f) (s := s) hN vup_eq (by rw [vup_nj (by omega)]; exact o3) (by omega) a b
  · refine ⟨0, s, f, ?_, by omega, by omega, .inl rfl⟩
    have g3 : am_vI (am_pG 771 (.ref 167) (eS V I L R tl s f)) = some (nI s) := rfl
    have g4 : am_vI (am_pG 772 (.ref 167) (eS V I L R tl s f)) = some 2 := by show am_vI (some (V 167 4)) = _; rw [o3]; rfl
    unfold fm_41 fg_41_0
    refine ev_b g3 (ev_b g4 (ev_b g4 (ev_b (a := .ref 168) rfl (ev_b (a := nI 120) rfl ?_))))
    rw [show s = 60 by omega]
    exact ev_f (by decide) rfl
theorem e_51s {V : Nat → Nat → Value} {I : Nat → Nat → Int32} {L : Nat → Nat → Int64} {R : Nat → Nat → Option Nat} {tl : am_H} {s : Nat} {f : Nat → Int32} (hO : eO V) (hs : s ≤ 60) (i j v : Int32) : ∃ f', fm_51 (.ref 167) i j v (eS V I L R tl s f) = some (.inl (none, eS V I L R tl s f')) := by
  obtain ⟨o1, o2, o3, o4, -⟩ := hO
  have g3 : am_vI (am_pG 771 (.ref 167) (eS V I L R tl s f)) = some (nI s) := rfl
  have g4 : am_vI (am_pG 772 (.ref 167) (eS V I L R tl s f)) = some 2 := by show am_vI (some (V 167 4)) = _; rw [o3]; rfl
  unfold fm_51 fg_51_0
  by_cases c1 : i < 0
  · exact ⟨f, ev_t c1 rfl⟩
  · obtain ⟨a, ha, rfl⟩ := nI_of c1
    by_cases c2 : nI s ≤ nI a
    · exact ⟨f, ev_f c1 (ev_b g3 (ev_t c2 rfl))⟩
    · have hat : a < s := Nat.not_le.mp (fun h9 => c2 (nI_le h9 ha))
      by_cases c3 : j < 0
      · exact ⟨f, ev_f c1 (ev_b g3 (ev_f c2 (ev_t c3 rfl)))⟩
      · obtain ⟨b, hb, rfl⟩ := nI_of c3
        by_cases c4 : 2 ≤ nI b
        · exact ⟨f, ev_f c1 (ev_b g3 (ev_f c2 (ev_f c3 (ev_b g4 (ev_t c4 rfl)))))⟩
        · have hb2 : b < 2 := Nat.not_le.mp (fun h9 => c4 (nI_le (a := 2) h9 hb))
          refine ⟨upd f (2 * a + b) v, ev_f c1 (ev_b g3 (ev_f c2 (ev_f c3 (ev_b g4 (ev_f c4 (ev_b (a := .ref 168) rfl (ev_b g4 ?_)))))))⟩
          rw [show nI a * 2 + nI b = nI (2 * a + b) by rw [← nI_add, Nat.mul_comm, nI_mul]; rfl]
          refine ev_b (ev_s (f := f) (n := 120) (h1 := eS V I L R tl s (upd f (2 * a + b) v)) rfl (am_inb_n (by omega) (by omega)) rfl (by rw [nI_clamp (by omega)]; rfl)) ?_
          rfl
set_option maxRecDepth 100000 in
set_option maxHeartbeats 4000000 in
theorem e_100 {V : Nat → Nat → Value} {I : Nat → Nat → Int32} {L : Nat → Nat → Int64} {R : Nat → Nat → Option Nat} {tl : am_H} {s : Nat} {f : Nat → Int32} (hO : eO V) (i : Int32) : ∃ v, fm_100 (.ref 132) i (eS V I L R tl s f) = some (.inl (some (.int v), eS V I L R tl s f)) := by
  obtain ⟨o1, o2, o3, o4, -, ⟨u, u1, u2⟩⟩ := hO
  have g : am_vI (am_pG 1799 (.ref 132) (eS V I L R tl s f)) = some (nI u) := by show am_vI (some (V 132 7)) = _; rw [u2]; rfl
  unfold fm_100 fg_100_0 fg_100_21
  by_cases c1 : i < 0
  · exact ⟨nI u, ev_t c1 (ev_b g rfl)⟩
  · obtain ⟨a, ha, rfl⟩ := nI_of c1
    by_cases c2 : nI u ≤ nI a
    · exact ⟨nI u, ev_f c1 (ev_b g (ev_t c2 (ev_b g rfl)))⟩
    · have hat : a < u := Nat.not_le.mp (fun h9 => c2 (nI_le h9 ha))
      refine ⟨I 133 a, ev_f c1 (ev_b g (ev_f c2 (ev_b (a := .ref 133) rfl ?_)))⟩
      refine ev_b (ev_a (f := I 133) (n := 60) rfl (am_inb_n (by omega) (by omega))) ?_
      rw [nI_clamp (by omega)]
      rfl
