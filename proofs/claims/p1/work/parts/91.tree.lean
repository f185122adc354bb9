/-! ===== tree ===== -/
set_option maxRecDepth 100000 in
set_option maxHeartbeats 4000000 in
theorem x_91 {V : Nat → Nat → Value} {I : Nat → Nat → Int32} {L : Nat → Nat → Int64} {R : Nat → Nat → Option Nat} {tl : am_H} {N c n P : Nat} (hN : 40 < N) (h7 : L 77 = tW) (h8 : L 78 = tT) (hc : c < 6) (h1 : 1 ≤ n) (hn : n ≤ 12) (hP : P < uT c n) : fm_91 N (.ref 76) (nI c) (nI n) (lN P) (.ref 167) (fx V I L R ++ tl) = some (.inl (none, fx (vup (vup (vup (vup (vup (vup V 76 3 (.ref 167)) 167 1 (.int 0)) 167 2 (.int 0)) 167 3 (.int 0)) 167 4 (.int 2)) 167 3 (.int (nI n))) (iup I 168 (wrt (I 168) 0 (un c n P))) L R ++ tl)) := by
  have hR : rkH (fx (vup (vup (vup (vup (vup V 76 3 (.ref 167)) 167 1 (.int 0)) 167 2 (.int 0)) 167 3 (.int 0)) 167 4 (.int 2)) I L R ++ tl) 167 := ⟨_, rfl, rfl, rfl, rfl, by rw [← h7]; rfl, by rw [← h8]; rfl⟩
  have hO : hgO (fx (vup (vup (vup (vup (vup V 76 3 (.ref 167)) 167 1 (.int 0)) 167 2 (.int 0)) 167 3 (.int 0)) 167 4 (.int 2)) I L R ++ tl) 167 168 [.ref 168, .int 0, .int 0, .int 0, .int 2, V 167 5, V 167 6, V 167 7, V 167 8, V 167 9, V 167 10] := ⟨by omega, by rw [List.length_append, fx_len]; omega, by rw [List.length_append, fx_len]; omega, rfl, rfl, rfl⟩
  have q := (grw_ok (h := fx (vup (vup (vup (vup (vup V 76 3 (.ref 167)) 167 1 (.int 0)) 167 2 (.int 0)) 167 3 (.int 0)) 167 4 (.int 2)) I L R ++ tl) (A := 167) (B := 168) (m := 120) (N := N) (fs := [.ref 168, .int 0, .int 0, .int 0, .int 2, V 167 5, V 167 6, V 167 7, V 167 8, V 167 9, V 167 10]) (by omega) hR hO (by omega) (by omega) (by omega) n hn h1 n 40 c P 1 0 (I 168) (Nat.le_refl _) (by omega) hc hP (by omega) (by omega)).1
  unfold fm_91 fg_91_0
  refine ev_b (a := fx (vup V 76 3 (.ref 167)) I L R ++ tl) (ev_p rfl rfl rfl rfl) ?_
  refine ev_b (a := .ref 167) rfl ?_
  refine ev_i rfl ?_
  have h34 : fm_34 (.ref 167) 0 0 (fx (vup V 76 3 (.ref 167)) I L R ++ tl) = some (.inl (none, fx (vup (vup (vup (vup (vup V 76 3 (.ref 167)) 167 1 (.int 0)) 167 2 (.int 0)) 167 3 (.int 0)) 167 4 (.int 2)) I L R ++ tl)) := by
    unfold fm_34 fg_34_0
    refine ev_b (a := fx (vup (vup V 76 3 (.ref 167)) 167 1 (.int 0)) I L R ++ tl) (ev_p rfl rfl rfl rfl) ?_
    refine ev_b (a := fx (vup (vup (vup V 76 3 (.ref 167)) 167 1 (.int 0)) 167 2 (.int 0)) I L R ++ tl) (ev_p rfl rfl rfl rfl) ?_
    refine ev_b (a := fx (vup (vup (vup (vup V 76 3 (.ref 167)) 167 1 (.int 0)) 167 2 (.int 0)) 167 3 (.int 0)) I L R ++ tl) (ev_p rfl rfl rfl rfl) ?_
    refine ev_t (by decide) ?_
    unfold fg_34_26
    exact ev_b (a := fx (vup (vup (vup (vup (vup V 76 3 (.ref 167)) 167 1 (.int 0)) 167 2 (.int 0)) 167 3 (.int 0)) 167 4 (.int 2)) I L R ++ tl) (ev_p rfl rfl rfl rfl) rfl
  refine ev_cV h34 ?_
  refine ev_i rfl ?_
  have h92 : fm_92 N (.ref 76) (nI c) (nI n) (lN P) 1 (fx (vup (vup (vup (vup (vup V 76 3 (.ref 167)) 167 1 (.int 0)) 167 2 (.int 0)) 167 3 (.int 0)) 167 4 (.int 2)) I L R ++ tl) = some (.inl (none, fx (vup (vup (vup (vup (vup (vup V 76 3 (.ref 167)) 167 1 (.int 0)) 167 2 (.int 0)) 167 3 (.int 0)) 167 4 (.int 2)) 167 3 (.int (nI n))) (iup I 168 (wrt (I 168) 0 (un c n P))) L R ++ tl)) := by
    rw [Nat.zero_add] at q
    exact q
  exact ev_cV h92 rfl
theorem lN_of {x : Int64} (h : 0 ≤ x) : ∃ P, P < 2 ^ 63 ∧ x = lN P ∧ x.toInt = (P : Int) := by
  have h0 : 0 ≤ x.toInt := Int64.le_iff_toInt_le.mp h
  have h1 : x.toInt < 2 ^ 63 := Int64.toInt_lt x
  refine ⟨x.toInt.toNat, by omega, ?_, by omega⟩
  apply Int64.toInt_inj.mp
  show _ = (Int64.ofNat x.toInt.toNat).toInt
  rw [lg_ofNat_toInt (by omega)]
  omega
set_option maxRecDepth 100000 in
set_option maxHeartbeats 4000000 in
/-- the reference's tree(): it says what it says, and its births are counted -/
theorem r_385 {V : Nat → Nat → Value} {I : Nat → Nat → Int32} {L : Nat → Nat → Int64} {R : Nat → Nat → Option Nat} {tl : am_H} {N m k0 : Nat} {nt : Int32} (hN : 100 < N) (h80 : V 174 80 = .int 0) (l4 : L 224 = fun _ => 0) (l5 : L 225 = fun _ => 0) (hm : V 174 1 = .int (nI m)) (hm6 : m < 600) (h15 : V 174 15 = .int nt) (h88 : V 174 88 = .int (nI k0)) (a : Int32) (x : Int64) (cd : Int32) (n P : Nat)
    (hcd : (cd = 1 ∧ (a < 1 ∨ 12 < a ∨ (∃ j, 1 ≤ j ∧ j ≤ 12 ∧ a = nI j ∧ (x < 0 ∨ lN (uT 0 j) ≤ x)))) ∨ (cd = 0 ∧ 1 ≤ n ∧ n ≤ 12 ∧ a = nI n ∧ x = lN P ∧ P < uT 0 n)) :
    ∃ V' I' L' r, fm_385 N (.ref 174) a x (fx V I L R ++ tl) = some (.inl (some (.int r), fx V' I' L' R ++ tl)) ∧ V' 174 0 = .int cd ∧ L' 268 = L 268 ∧ (cd = 0 → r = nI m) := by
  obtain ⟨Y1, q⟩ := x_377 (V := V) (I := I) (L := L) (R := R) (tl := tl) (N := N) (by omega) h80 l4 l5
  have h383 : ∀ j, 1 ≤ j → j ≤ 12 → fm_383 (.ref 174) 0 0 (nI j) (fx (vup V 174 80 (.int 1)) I (lup (lup (lup L 224 tC) 225 tS) 226 Y1) R ++ tl) = some (.inl (some (.long (lN (uT 0 j))), fx (vup V 174 80 (.int 1)) I (lup (lup (lup L 224 tC) 225 tS) 226 Y1) R ++ tl)) := fun j j1 j2 => x_383 (w := 0) (t := 0) (n := j) rfl (by omega) (by omega) j2
  -- the throwing end
  have hbad : fg_385_50 N (.ref 174) a x (.ref 174) (fx (vup V 174 80 (.int 1)) I (lup (lup (lup L 224 tC) 225 tS) 226 Y1) R ++ tl) = some (.inl (some (.int 0), fx (vup (vup V 174 80 (.int 1)) 174 0 (.int 1)) I (lup (lup (lup L 224 tC) 225 tS) 226 Y1) R ++ tl)) := by
    unfold fg_385_50 fg_385_69
    refine ev_b (a := fx (vup (vup V 174 80 (.int 1)) 174 0 (.int 1)) I (lup (lup (lup L 224 tC) 225 tS) 226 Y1) R ++ tl) (ev_p rfl rfl rfl rfl) ?_
    refine ev_b (a := 1) rfl ?_
    exact ev_f (by decide) rfl
  rcases hcd with ⟨rfl, hb⟩ | ⟨rfl, n1, n2, rfl, rfl, hP⟩
  · refine ⟨vup (vup V 174 80 (.int 1)) 174 0 (.int 1), I, lup (lup (lup L 224 tC) 225 tS) 226 Y1, 0, ?_, rfl, rfl, fun e => absurd e (by decide)⟩
    unfold fm_385 fg_385_0
    refine ev_i rfl ?_
    refine ev_cV q ?_
    refine ev_cI (pe_327 _ _ _ _) ?_
    rcases hb with h9 | h9 | ⟨j, j1, j2, rfl, hx⟩
    · rw [show pv_327 a.toInt64 1 12 = 0 from in_lo (w64lt (b := 1) h9)]
      exact ev_t rfl hbad
    · rw [show pv_327 a.toInt64 1 12 = 0 from in_hi (w64lt (a := 12) h9)]
      exact ev_t rfl hbad
    · have hin : pv_327 (nI j).toInt64 1 12 = 1 := in_ok (w64le (a := 1) (nI_le (a := 1) j1 (by omega))) (w64le (b := 12) (nI_le (b := 12) j2 (by decide)))
      rw [hin]
      refine ev_f (by decide) ?_
      refine ev_cI (pe_327 _ _ _ _) ?_
      rw [hin]
      refine ev_f (by decide) ?_
      unfold fg_385_39
      refine ev_i rfl ?_
      refine ev_cL (h383 j j1 j2) ?_
      refine ev_cI (pe_327 _ _ _ _) ?_
      have hu := (u_c j1 j2 (show 0 < 6 by omega)).2
      rw [show pv_327 x 0 (lN (uT 0 j) - 1) = 0 from hx.elim in_lo (fun h9 => in_hi (by
        refine Int64.lt_of_lt_of_le ?_ h9
        by_cases hz : uT 0 j = 0
        · rw [hz]; decide
        · rw [show (1 : Int64) = lN 1 from rfl, lN_sub (by omega)]
          exact (lM_lt (by omega) (by omega)).mpr (by omega)))]
      exact ev_f (fun e => e rfl) hbad
  · have hin : pv_327 (nI n).toInt64 1 12 = 1 := in_ok (w64le (a := 1) (nI_le (a := 1) n1 (by omega))) (w64le (b := 12) (nI_le (b := 12) n2 (by decide)))
    have hu := (u_c n1 n2 (show 0 < 6 by omega)).2
    obtain ⟨c', d', e', p', g⟩ := g_386 (V := vup (vup (vup V 174 80 (.int 1)) 174 0 (.int 0)) 174 13 (.int 0)) (I := I) (L := lup (lup (lup L 224 tC) 225 tS) 226 Y1) (R := R) (tl := tl) rfl rfl rfl (N := N) (w := 0) (t := 0) (n := n) (P := P) (s0 := 0) (k0 := k0) (a := I 186) (b := I 187) (c := I 227) (d := I 228) (e := I 229) (p := L 230) (by omega) (by omega) (by omega) n1 n2 hP (by omega)
    have b := x_356 (V := vup (vup (vup (vup (vup V 174 80 (.int 1)) 174 0 (.int 0)) 174 13 (.int 0)) 174 14 (.int (nI (0 + n)))) 174 88 (.int (nI 0))) (I := iup (iup (iup (iup (iup I 186 (wA (I 186) 0 (un 0 n P))) 187 (wB (I 187) 0 (un 0 n P))) 227 c') 228 d') 229 e') (L := lup (lup (lup (lup L 224 tC) 225 tS) 226 Y1) 230 p') (R := R) (tl := tl) (N := N) (s := 0 + n) (m := m) (kd := 0) (nt := nt) (by show V 174 1 = _; exact hm) rfl rfl (by show V 174 15 = _; exact h15) hm6 (by omega) (by omega) 1 (-1) (-1) (-1) (-1) 0
    obtain ⟨V', I', L', hb, hv, hl⟩ : ∃ V' I' L', fm_356 N (.ref 174) 1 (-1) (-1) (-1) (-1) 0 (gS (vup (vup (vup V 174 80 (.int 1)) 174 0 (.int 0)) 174 13 (.int 0)) I (lup (lup (lup L 224 tC) 225 tS) 226 Y1) R tl (0 + n) 0 (wA (I 186) 0 (un 0 n P)) (wB (I 187) 0 (un 0 n P)) c' d' e' p') = some (.inl (some (.int (nI m)), fx V' I' L' R ++ tl)) ∧ V' 174 0 = .int 0 ∧ L' 268 = L 268 := ⟨_, _, _, b, rfl, rfl⟩
    refine ⟨V', I', L', nI m, ?_, hv, hl, fun _ => rfl⟩
    · unfold fm_385 fg_385_0
      refine ev_i rfl ?_
      refine ev_cV q ?_
      refine ev_cI (pe_327 _ _ _ _) ?_
      rw [hin]
      refine ev_f (by decide) ?_
      refine ev_cI (pe_327 _ _ _ _) ?_
      rw [hin]
      refine ev_f (by decide) ?_
      unfold fg_385_39
      refine ev_i rfl ?_
      refine ev_cL (h383 n n1 n2) ?_
      refine ev_cI (pe_327 _ _ _ _) ?_
      rw [show pv_327 (lN P) 0 (lN (uT 0 n) - 1) = 1 from in_ok ((lM_le (a := 0) (by omega) (by omega)).mpr (Nat.zero_le _)) (by rw [show (1 : Int64) = lN 1 from rfl, lN_sub (by omega)]; exact (lM_le (by omega) (by omega)).mpr (by omega))]
      refine ev_t (by decide) ?_
      refine ev_b (a := nI m) (by show am_vI (some (V 174 1)) = _; rw [hm]; rfl) ?_
      refine ev_t (fun e => absurd ((nI_eq (b := 600) (by omega) (by decide)).mp e) (by omega)) ?_
      unfold fg_385_69
      refine ev_b (a := fx (vup (vup V 174 80 (.int 1)) 174 0 (.int 0)) I (lup (lup (lup L 224 tC) 225 tS) 226 Y1) R ++ tl) (ev_p rfl rfl rfl rfl) ?_
      refine ev_b (a := 0) rfl ?_
      refine ev_t (by decide) ?_
      refine ev_b (a := fx (vup (vup (vup V 174 80 (.int 1)) 174 0 (.int 0)) 174 13 (.int 0)) I (lup (lup (lup L 224 tC) 225 tS) 226 Y1) R ++ tl) (ev_p rfl rfl rfl rfl) ?_
      have hgs : fx (vup (vup (vup (vup V 174 80 (.int 1)) 174 0 (.int 0)) 174 13 (.int 0)) 174 14 (.int 0)) I (lup (lup (lup L 224 tC) 225 tS) 226 Y1) R ++ tl = gS (vup (vup (vup V 174 80 (.int 1)) 174 0 (.int 0)) 174 13 (.int 0)) I (lup (lup (lup L 224 tC) 225 tS) 226 Y1) R tl 0 k0 (I 186) (I 187) (I 227) (I 228) (I 229) (L 230) := by
        have e88 : fx (vup (vup (vup (vup V 174 80 (.int 1)) 174 0 (.int 0)) 174 13 (.int 0)) 174 14 (.int 0)) I (lup (lup (lup L 224 tC) 225 tS) 226 Y1) R ++ tl = fx (vup (vup (vup (vup (vup V 174 80 (.int 1)) 174 0 (.int 0)) 174 13 (.int 0)) 174 14 (.int (nI 0))) 174 88 (V 174 88)) (iup (iup (iup (iup (iup I 186 (I 186)) 187 (I 187)) 227 (I 227)) 228 (I 228)) 229 (I 229)) (lup (lup (lup (lup L 224 tC) 225 tS) 226 Y1) 230 (L 230)) R ++ tl := rfl
        rw [e88, h88]
        rfl
      refine ev_b (a := fx (vup (vup (vup (vup V 174 80 (.int 1)) 174 0 (.int 0)) 174 13 (.int 0)) 174 14 (.int 0)) I (lup (lup (lup L 224 tC) 225 tS) 226 Y1) R ++ tl) (ev_p rfl rfl rfl rfl) ?_
      rw [hgs]
      refine ev_i rfl ?_
      refine ev_cV g ?_
      refine ev_i rfl ?_
      exact ev_cI hb rfl
