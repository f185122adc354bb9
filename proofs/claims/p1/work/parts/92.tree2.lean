set_option maxRecDepth 100000 in
set_option maxHeartbeats 4000000 in
theorem c_90b {N : Nat} {a : Int32} {x : Int64} (hb : a < 1 ∨ 12 < a ∨ (∃ j, 1 ≤ j ∧ j ≤ 12 ∧ a = nI j ∧ (x < 0 ∨ lN (uT 0 j) ≤ x))) : fm_90 N (.ref 0) a x (hp0 (tW, tT)) = some (.inr (0, hpE (tW, tT))) := by
  unfold fm_90 fg_90_0
  by_cases c1 : a < 1
  · exact ev_t c1 rfl
  · refine ev_f c1 ?_
    by_cases c2 : 12 < a
    · exact ev_t c2 rfl
    · refine ev_f c2 ?_
      obtain ⟨j, j1, j2, rfl, hx⟩ := (hb.resolve_left c1).resolve_left c2
      by_cases c3 : x < 0
      · exact ev_t ((lg_cmp_lt _ _).mpr c3) rfl
      · refine ev_f (fun e => c3 ((lg_cmp_lt _ _).mp e)) ?_
        refine ev_b (a := .ref 76) rfl ?_
        refine ev_i rfl ?_
        refine ev_cL (e_15 (a := 76) (ta := 78) (T := tT) rfl rfl rfl 0 (nI j)) ?_
        rw [show rkTot tT 0 (nI j) = lN (uT 0 j) from rkTot_u (c := 0) (by omega) j1 (by omega)]
        exact ev_f (fun e => absurd ((lg_cmp_lt _ _).mp e) (Int64.not_lt.mpr (hx.resolve_left c3))) rfl
/-- what tree() leaves, on the fresh object -/
def V10 (n : Nat) : Nat → Nat → Value := vup (vup (vup (vup (vup (vup (vup V0 76 3 (.ref 167)) 167 1 (.int 0)) 167 2 (.int 0)) 167 3 (.int 0)) 167 4 (.int 2)) 167 3 (.int (nI n))) 0 1 (.int (nI (0 + 1)))
def I10 (n P : Nat) : Nat → Nat → Int32 := iup I0 168 (wrt (I0 168) 0 (un 0 n P))
def T10 (n P : Nat) : am_H := [] ++ [.inr (3, [.ref (269 + ([] : am_H).length + 1), .int 0, .int 0, .int (nI n), .int (nI 2), .int 1, .int (-1), .int (-1), .int (-1), .int (-1), .long 0]), .inl (0, n * 2, .inl (va_cpy ((iup I0 168 (wrt (I0 168) 0 (un 0 n P))) 168) (fun _ => 0) 0 0 (n * 2)))]
set_option maxRecDepth 100000 in
set_option maxHeartbeats 4000000 in
theorem c_90g {N n P : Nat} (hN : 100 < N) (n1 : 1 ≤ n) (n2 : n ≤ 12) (hP : P < uT 0 n) : fm_90 N (.ref 0) (nI n) (lN P) (hp0 (tW, tT)) = some (.inl (some (.int (nI 0)), fx (V10 n) (I10 n P) (L0 (tW, tT)) (rup R0 1 (va_up (R0 1) 0 (some (269 + ([] : am_H).length)))) ++ T10 n P)) := by
  have hu := (u_c n1 n2 (show 0 < 6 by omega)).2
  have q1 := x_91 (V := V0) (I := I0) (L := L0 (tW, tT)) (R := R0) (tl := []) (N := N) (c := 0) (n := n) (P := P) (by omega) rfl rfl (by omega) n1 n2 hP
  have q2 := x_59 (V := vup (vup (vup (vup (vup (vup V0 76 3 (.ref 167)) 167 1 (.int 0)) 167 2 (.int 0)) 167 3 (.int 0)) 167 4 (.int 2)) 167 3 (.int (nI n))) (I := iup I0 168 (wrt (I0 168) 0 (un 0 n P))) (L := L0 (tW, tT)) (R := R0) (tl := []) (s := n) (wd := 2) (m := 0) (kd := 0) (ln := 0) rfl rfl rfl rfl (by decide) (by omega) (by omega) (by omega) rfl (by omega) 1 (-1) (-1) (-1) (-1) 0
  unfold fm_90 fg_90_0
  refine ev_f (nI_nlt (b := 1) n1 (by omega)) ?_
  refine ev_f (nI_nlt (a := 12) n2 (by decide)) ?_
  refine ev_f (fun e => absurd ((lM_lt (b := 0) (by omega) (by omega)).mp ((lg_cmp_lt _ _).mp e)) (by omega)) ?_
  refine ev_b (a := .ref 76) rfl ?_
  refine ev_i rfl ?_
  refine ev_cL (e_15 (a := 76) (ta := 78) (T := tT) rfl rfl rfl 0 (nI n)) ?_
  rw [show rkTot tT 0 (nI n) = lN (uT 0 n) from rkTot_u (c := 0) (by omega) n1 (by omega)]
  refine ev_t ((lg_cmp_lt _ _).mpr ((lM_lt (by omega) (by omega)).mpr hP)) ?_
  refine ev_i rfl ?_
  refine ev_cV (h1 := hp0 (tW, tT)) rfl ?_
  refine ev_b (a := .ref 76) rfl ?_
  refine ev_b (a := .ref 167) rfl ?_
  refine ev_i rfl ?_
  refine ev_cV q1 ?_
  refine ev_b (a := .ref 167) rfl ?_
  refine ev_i rfl ?_
  exact ev_cI q2 rfl
theorem fits_2 {V : Nat → Nat → Value} {I : Nat → Nat → Int32} {L : Nat → Nat → Int64} {R : Nat → Nat → Option Nat} {n P : Nat} (hn : n ≤ 1000) : fits (fx V I L R ++ T10 n P) := by
  refine fits_fx (by show 2 ≤ 1000; omega) ?_
  show am_sz1 _ + (n * 2 + 0) ≤ 1000000
  rw [show am_sz1 (.inr (3, [.ref (269 + ([] : am_H).length + 1), .int 0, .int 0, .int (nI n), .int (nI 2), .int 1, .int (-1), .int (-1), .int (-1), .int (-1), .long 0])) = am_N 3 from rfl, show am_N 3 = 11 by decide]
  omega
set_option maxRecDepth 100000 in
set_option maxHeartbeats 4000000 in
theorem p_10 (N : Nat) (hN : 100 < N) (a1 : Int32) (x : Int64) : ∃ h', opBI (fm_89 N (.ref 0) a1 x (.ref 268) (hp0 (tW, tT))) (fun h1 => fm_385 N (.ref 174) a1 x h1) vfI h' ∧ fits h' := by
  have hcase : (a1 < 1 ∨ 12 < a1 ∨ (∃ j, 1 ≤ j ∧ j ≤ 12 ∧ a1 = nI j ∧ (x < 0 ∨ lN (uT 0 j) ≤ x))) ∨ ∃ n P, 1 ≤ n ∧ n ≤ 12 ∧ a1 = nI n ∧ x = lN P ∧ P < uT 0 n := by
    rcases t12 a1 with (h9 | h9) | ⟨n, n1, n2, rfl⟩
    · exact .inl (.inl h9)
    · exact .inl (.inr (.inl h9))
    · by_cases c : x < 0
      · exact .inl (.inr (.inr ⟨n, n1, n2, rfl, .inl c⟩))
      · by_cases c2 : lN (uT 0 n) ≤ x
        · exact .inl (.inr (.inr ⟨n, n1, n2, rfl, .inr c2⟩))
        · obtain ⟨P, p1, p2, p3⟩ := lN_of (Int64.not_lt.mp c)
          refine .inr ⟨n, P, n1, n2, rfl, p2, ?_⟩
          have hu := (u_c n1 n2 (show 0 < 6 by omega)).2
          have h8 := Int64.lt_iff_toInt_lt.mp (Int64.not_le.mp c2)
          rw [p3, lM_i (by omega)] at h8
          omega
  rcases hcase with hb | ⟨n, P, n1, n2, rfl, rfl, hP⟩
  · obtain ⟨V', I', L', r, k1, k2, k3, k4⟩ := r_385 (V := V0) (I := I0) (L := L0 (tW, tT)) (R := R0) (tl := [am_dummy]) (N := N) (m := 0) (k0 := 0) (nt := 0) hN rfl rfl rfl rfl (by omega) rfl rfl a1 x 1 0 0 (.inl ⟨rfl, hb⟩)
    refine ⟨_, ⟨1, hpE (tW, tT), r, 0, ?_, rfl, k1, rfl, ?_, fun e => absurd e (by decide)⟩, fits_fx (by show 1 ≤ 1000; omega) (by show 6 + 0 ≤ 1000000; omega)⟩
    · simp only [fm_89, fg_89_0, c_90b hb]
      rfl
    · show am_vI (some (V' 174 0)) = _
      rw [k2]
      rfl
  · obtain ⟨V', I', L', r, k1, k2, k3, k4⟩ := r_385 (V := V10 n) (I := I10 n P) (L := lup (L0 (tW, tT)) 268 (vp_updL (L0 (tW, tT) 268) 0 (Int32.toInt64 (nI 0)))) (R := rup R0 1 (va_up (R0 1) 0 (some (269 + ([] : am_H).length)))) (tl := T10 n P) (N := N) (m := 0) (k0 := 0) (nt := 0) hN rfl rfl rfl rfl (by omega) rfl rfl (nI n) (lN P) 0 n P (.inr ⟨rfl, n1, n2, rfl, rfl, hP⟩)
    refine ⟨_, ⟨0, fx (V10 n) (I10 n P) (lup (L0 (tW, tT)) 268 (vp_updL (L0 (tW, tT) 268) 0 (Int32.toInt64 (nI 0)))) (rup R0 1 (va_up (R0 1) 0 (some (269 + ([] : am_H).length)))) ++ T10 n P, r, Int32.toInt64 (nI 0), ?_, rfl, k1, rfl, ?_, fun _ => ⟨?_, ?_⟩⟩, fits_2 (by omega)⟩
    · simp only [fm_89, fg_89_0, c_90g hN n1 n2 hP]
      rfl
    · show am_vI (some (V' 174 0)) = _
      rw [k2]
      rfl
    · refine (ev_aL (f := L' 268) (n := 1) rfl rfl).trans ?_
      rw [k3]
      rfl
    · rw [k4 rfl]
      rfl
