/-! ===== the class draws code ===== -/
set_option maxRecDepth 100000 in
set_option maxHeartbeats 4000000 in
theorem x_91o {V : Nat → Nat → Value} {I : Nat → Nat → Int32} {L : Nat → Nat → Int64} {R : Nat → Nat → Option Nat} {tl : am_H} {N c n P : Nat} (hN : 40 < N) (h7 : L 77 = tW) (h8 : L 78 = tT) (hc : c < 6) (h1 : 1 ≤ n) (hn : n ≤ 12) (hP : P < uT c n) : fm_91 N (.ref 76) (nI c) (nI n) (lN P) (.ref 169) (fx V I L R ++ tl) = some (.inl (none, fx (vup (vup (vup (vup (vup (vup V 76 3 (.ref 169)) 169 1 (.int 0)) 169 2 (.int 0)) 169 3 (.int 0)) 169 4 (.int 2)) 169 3 (.int (nI n))) (iup I 170 (wrt (I 170) 0 (un c n P))) L R ++ tl)) := by
  have hR : rkH (fx (vup (vup (vup (vup (vup V 76 3 (.ref 169)) 169 1 (.int 0)) 169 2 (.int 0)) 169 3 (.int 0)) 169 4 (.int 2)) I L R ++ tl) 169 := ⟨_, rfl, rfl, rfl, rfl, by rw [← h7]; rfl, by rw [← h8]; rfl⟩
  have hO : hgO (fx (vup (vup (vup (vup (vup V 76 3 (.ref 169)) 169 1 (.int 0)) 169 2 (.int 0)) 169 3 (.int 0)) 169 4 (.int 2)) I L R ++ tl) 169 170 [.ref 170, .int 0, .int 0, .int 0, .int 2, V 169 5, V 169 6, V 169 7, V 169 8, V 169 9, V 169 10] := ⟨by omega, by rw [List.length_append, fx_len]; omega, by rw [List.length_append, fx_len]; omega, rfl, rfl, rfl⟩
  have q := (grw_ok (h := fx (vup (vup (vup (vup (vup V 76 3 (.ref 169)) 169 1 (.int 0)) 169 2 (.int 0)) 169 3 (.int 0)) 169 4 (.int 2)) I L R ++ tl) (A := 169) (B := 170) (m := 120) (N := N) (fs := [.ref 170, .int 0, .int 0, .int 0, .int 2, V 169 5, V 169 6, V 169 7, V 169 8, V 169 9, V 169 10]) (by omega) hR hO (by omega) (by omega) (by omega) n hn h1 n 40 c P 1 0 (I 170) (Nat.le_refl _) (by omega) hc hP (by omega) (by omega)).1
  unfold fm_91 fg_91_0
  refine ev_b (a := fx (vup V 76 3 (.ref 169)) I L R ++ tl) (ev_p rfl rfl rfl rfl) ?_
  refine ev_b (a := .ref 169) rfl ?_
  refine ev_i rfl ?_
  have h34 : fm_34 (.ref 169) 0 0 (fx (vup V 76 3 (.ref 169)) I L R ++ tl) = some (.inl (none, fx (vup (vup (vup (vup (vup V 76 3 (.ref 169)) 169 1 (.int 0)) 169 2 (.int 0)) 169 3 (.int 0)) 169 4 (.int 2)) I L R ++ tl)) := by
    unfold fm_34 fg_34_0
    refine ev_b (a := fx (vup (vup V 76 3 (.ref 169)) 169 1 (.int 0)) I L R ++ tl) (ev_p rfl rfl rfl rfl) ?_
    refine ev_b (a := fx (vup (vup (vup V 76 3 (.ref 169)) 169 1 (.int 0)) 169 2 (.int 0)) I L R ++ tl) (ev_p rfl rfl rfl rfl) ?_
    refine ev_b (a := fx (vup (vup (vup (vup V 76 3 (.ref 169)) 169 1 (.int 0)) 169 2 (.int 0)) 169 3 (.int 0)) I L R ++ tl) (ev_p rfl rfl rfl rfl) ?_
    refine ev_t (by decide) ?_
    unfold fg_34_26
    exact ev_b (a := fx (vup (vup (vup (vup (vup V 76 3 (.ref 169)) 169 1 (.int 0)) 169 2 (.int 0)) 169 3 (.int 0)) 169 4 (.int 2)) I L R ++ tl) (ev_p rfl rfl rfl rfl) rfl
  refine ev_cV h34 ?_
  refine ev_i rfl ?_
  have h92 : fm_92 N (.ref 76) (nI c) (nI n) (lN P) 1 (fx (vup (vup (vup (vup (vup V 76 3 (.ref 169)) 169 1 (.int 0)) 169 2 (.int 0)) 169 3 (.int 0)) 169 4 (.int 2)) I L R ++ tl) = some (.inl (none, fx (vup (vup (vup (vup (vup (vup V 76 3 (.ref 169)) 169 1 (.int 0)) 169 2 (.int 0)) 169 3 (.int 0)) 169 4 (.int 2)) 169 3 (.int (nI n))) (iup I 170 (wrt (I 170) 0 (un c n P))) L R ++ tl)) := by
    rw [Nat.zero_add] at q
    exact q
  exact ev_cV h92 rfl
theorem vup_self {V : Nat → Nat → Value} {a j : Nat} {w : Value} (h : V a j = w) : vup V a j w = V := by
  funext x y
  unfold vup
  split
  · split
    · rename_i c1 c2
      rw [c1, c2, h]
    · rfl
  · rfl
set_option maxRecDepth 100000 in
set_option maxHeartbeats 4000000 in
theorem d_205 {V : Nat → Nat → Value} {I : Nat → Nat → Int32} {L : Nat → Nat → Int64} {R : Nat → Nat → Option Nat} {tl : am_H} {N z : Nat} (hN : 100 < N) (o3 : V 169 3 = .int (nI z)) (o4 : V 169 4 = .int 2) (hz : z ≤ 60) : ∃ b s V' I', fm_205 N (.ref 131) (.ref 169) (.ref 167) (fx V I L R ++ tl) = some (.inl (some (.int b), fx V' I' L R ++ tl)) ∧ (b ≠ 0 → 1 ≤ s) ∧ s ≤ 60 ∧ V' 167 1 = .int 1 ∧ V' 167 2 = .int 0 ∧ V' 167 3 = .int (nI s) ∧ V' 167 4 = .int 2 ∧ (∀ a j, a ≠ 131 → a ≠ 132 → a ≠ 167 → V' a j = V a j) ∧ (∀ y, 174 ≤ y → I' y = I y) := by
  obtain ⟨g, hg⟩ := d_77 (V := vup (vup V 131 4 (.ref 169)) 131 5 (.ref 167)) (I := I) (L := L) (R := R) (tl := tl) hN (by rw [vup_ne (by omega), vup_ne (by omega)]; exact o3) (by rw [vup_ne (by omega), vup_ne (by omega)]; exact o4) hz
  obtain ⟨W, hW⟩ : ∃ W, W = vup (vup (vup (vup (vup (vup (vup V 131 4 (.ref 169)) 131 5 (.ref 167)) 132 7 (.int (nI z))) 167 1 (.int 1)) 167 2 (.int 0)) 167 3 (.int 0)) 167 4 (.int 2) := ⟨_, rfl⟩
  have hO : eO W := by
    rw [hW]
    refine ⟨rfl, rfl, rfl, ?_, ⟨z, hz, ?_⟩, ⟨z, hz, rfl⟩⟩
    · exact o4
    · exact o3
  have w3 : W 167 3 = .int (nI 0) := by rw [hW]; rfl
  have w1 : W 167 1 = .int 1 := by rw [hW]; rfl
  have w2 : W 167 2 = .int 0 := by rw [hW]; rfl
  have w4 : W 167 4 = .int 2 := by rw [hW]; rfl
  have wo : ∀ a j, a ≠ 131 → a ≠ 132 → a ≠ 167 → W a j = V a j := fun a j h1 h2 h3 => by
    rw [hW, vup_ne h3, vup_ne h3, vup_ne h3, vup_ne h3, vup_ne h2, vup_ne h1, vup_ne h1]
  obtain ⟨r, h', e1, v, rfl, s, f, rfl, hs, hv⟩ := e_206 (V := W) (I := iup I 133 g) (L := L) (R := R) (tl := tl) (N := N) (by omega) hO 12 1 40 0 0 ((iup I 133 g) 168) (by omega) (by omega) (by omega)
  have e0 : eS W (iup I 133 g) L R tl 0 ((iup I 133 g) 168) = fx W (iup I 133 g) L R ++ tl := by
    unfold eS
    rw [iup_self, vup_self w3]
  rw [e0] at e1
  have m1 : ∀ (X : Option am_O), am_cI true (fm_206 N (.ref 131) 0 1 (fx W (iup I 133 g) L R ++ tl)) (fun v16 h17 => (if v16 = 0 then (fg_205_48 N h17) else ((am_vR (am_pG 2560 (.ref 131) h17)).bind fun v20 => (if am_pOk 7 v20 h17 then am_cI true (fm_52 N v20 (.ref 167) h17) (fun v23 h24 => (if 0 ≤ v23 then (fg_205_48 N h24) else (fg_205_49 N 1 h24))) else none)))) = X → fm_205 N (.ref 131) (.ref 169) (.ref 167) (fx V I L R ++ tl) = X := by
    intro X hX
    unfold fm_205 fg_205_0
    refine ev_b (a := fx (vup V 131 4 (.ref 169)) I L R ++ tl) (ev_p rfl rfl rfl rfl) ?_
    refine ev_b (a := fx (vup (vup V 131 4 (.ref 169)) 131 5 (.ref 167)) I L R ++ tl) (ev_p rfl rfl rfl rfl) ?_
    refine ev_b (a := .ref 132) rfl (ev_i rfl (ev_cV hg (ev_i rfl (ev_cV (d_34 1 0) (ev_i rfl ?_)))))
    rw [show (if (1 : Int32) = 2 then (5 : Int32) else 2) = 2 from rfl, ← hW]
    exact hX
  by_cases c : v = 0
  · refine ⟨0, s, vup W 167 3 (.int (nI s)), iup (iup I 133 g) 168 f, m1 _ ?_, fun e => absurd rfl e, hs, w1, w2, rfl, w4, fun a j h1 h2 h3 => ?_, fun y hy => ?_⟩
    · exact ev_cI e1 (ev_t c rfl)
    · rw [vup_ne h3]
      exact wo a j h1 h2 h3
    · show (if y = 168 then f else if y = 133 then g else I y) = I y
      rw [if_neg (by omega), if_neg (by omega)]
  · obtain ⟨u, k, hu, hu2⟩ := d_52 (V := vup W 167 3 (.int (nI s))) (I := iup (iup I 133 g) 168 f) (L := L) (R := R) (tl := tl) (N := N) hN rfl w4 hs
    have fr : (∀ a j, a ≠ 131 → a ≠ 132 → a ≠ 167 → vup (vup W 167 3 (.int (nI s))) 132 7 (.int (nI s)) a j = V a j) ∧ (∀ y, 174 ≤ y → iup (iup (iup I 133 g) 168 f) 139 k y = I y) := by
      refine ⟨fun a j h1 h2 h3 => ?_, fun y hy => ?_⟩
      · rw [vup_ne h2, vup_ne h3]
        exact wo a j h1 h2 h3
      · show (if y = 139 then k else if y = 168 then f else if y = 133 then g else I y) = I y
        rw [if_neg (by omega), if_neg (by omega), if_neg (by omega)]
    by_cases c2 : 0 ≤ u
    · refine ⟨0, s, vup (vup W 167 3 (.int (nI s))) 132 7 (.int (nI s)), iup (iup (iup I 133 g) 168 f) 139 k, m1 _ ?_, fun e => absurd rfl e, hs, w1, w2, rfl, w4, fr⟩
      exact ev_cI e1 (ev_f c (ev_b (a := .ref 132) rfl (ev_i rfl (ev_cI hu (ev_t c2 rfl)))))
    · refine ⟨1, s, vup (vup W 167 3 (.int (nI s))) 132 7 (.int (nI s)), iup (iup (iup I 133 g) 168 f) 139 k, m1 _ ?_, fun _ => hu2 (Int32.not_le.mp c2), hs, w1, w2, rfl, w4, fr⟩
      exact ev_cI e1 (ev_f c (ev_b (a := .ref 132) rfl (ev_i rfl (ev_cI hu (ev_f c2 rfl)))))
set_option maxRecDepth 100000 in
set_option maxHeartbeats 4000000 in
theorem dOk_1 {N z : Nat} {L : Nat → Nat → Int64} (hN : 100 < N) (h7 : L 77 = tW) (h8 : L 78 = tT) (hz : 1 ≤ z) (hz9 : z ≤ 9) : dOk N L 1 z := by
  intro V I R tl x st hx hs
  obtain ⟨n1, n2, n3, n4⟩ := isS_ne hx
  have n5 : x ≠ 131 ∧ x ≠ 132 ∧ x ≠ 169 := by rcases hx with rfl | rfl | rfl | rfl <;> decide
  have hu := (u_c hz (by omega) (show 0 < 6 by omega)).2
  have hp := uT_pos z (by omega) hz
  have hlt := Nat.mod_lt (2147483648 * hlf (nxt st) + hlf (nxt (nxt st))) (show 0 < uT 0 z by omega)
  have q := x_91o (V := vup V x 0 (.long (nxt (nxt st)))) (I := I) (L := L) (R := R) (tl := tl) (N := N) (c := 0) (n := z) (P := (2147483648 * hlf (nxt st) + hlf (nxt (nxt st))) % uT 0 z) (by omega) h7 h8 (by omega) hz (by omega) hlt
  obtain ⟨W, hW⟩ : ∃ W, W = vup (vup (vup (vup (vup (vup (vup V x 0 (.long (nxt (nxt st)))) 76 3 (.ref 169)) 169 1 (.int 0)) 169 2 (.int 0)) 169 3 (.int 0)) 169 4 (.int 2)) 169 3 (.int (nI z)) := ⟨_, rfl⟩
  obtain ⟨J, hJ⟩ : ∃ J, J = iup I 170 (wrt (I 170) 0 (un 0 z ((2147483648 * hlf (nxt st) + hlf (nxt (nxt st))) % uT 0 z))) := ⟨_, rfl⟩
  rw [← hW, ← hJ] at q
  have wx : W x 0 = .long (nxt (nxt st)) := by rw [hW, vup_ne n5.2.2, vup_ne n5.2.2, vup_ne n5.2.2, vup_ne n5.2.2, vup_ne n5.2.2, vup_ne n4, vup_eq]
  have w0 : ∀ a j, a ≠ x → a ≠ 76 → a ≠ 169 → W a j = V a j := fun a j h1 h2 h3 => by
    rw [hW, vup_ne h3, vup_ne h3, vup_ne h3, vup_ne h3, vup_ne h3, vup_ne h2, vup_ne h1]
  have j0 : ∀ y, 174 ≤ y → J y = I y := fun y hy => by rw [hJ]; exact if_neg (by omega)
  obtain ⟨b, s, V', I', e1, e2, e3, e4, e5, e6, e7, e8, e9⟩ := d_205 (V := W) (I := J) (L := L) (R := R) (tl := tl) (N := N) (z := z) hN (by rw [hW]; rfl) (by rw [hW]; rfl) (by omega)
  have m1 : ∀ (X : Option am_O), (if ¬ b = 0 then (fg_202_111 N (fx V' I' L R ++ tl)) else ((am_vR (am_pG 2831 (.ref 0) (fx V' I' L R ++ tl))).bind fun v29 => (if am_pOk 3 v29 (fx V' I' L R ++ tl) then am_cV true (fm_34 v29 1 0 (fx V' I' L R ++ tl)) (fun h33 => ((am_vR (am_pG 2831 (.ref 0) h33)).bind fun v35 => (if am_pOk 3 v35 h33 then am_cI true (fm_41 N v35 0 0 h33) (fun v38 h39 => (fg_202_111 N h39)) else none))) else none))) = X → fm_202 N (.ref 0) (.ref x) (nI 1) (nI z) (fx V I L R ++ tl) = X := by
    intro X hX
    unfold fm_202 fg_202_0
    refine ev_t (by decide) ?_
    refine ev_t (by decide) ?_
    refine ev_t (by decide) ?_
    refine ev_b (a := .ref 169) rfl ?_
    unfold fg_202_43
    refine ev_b (a := .ref 76) rfl ?_
    refine ev_b (a := .ref 76) rfl ?_
    refine ev_i rfl ?_
    refine ev_cL (e_15 (a := 76) (ta := 78) (T := tT) rfl rfl (by rw [← h8]; rfl) 0 (nI z)) ?_
    rw [show rkTot tT 0 (nI z) = lN (uT 0 z) from rkTot_u (c := 0) (by omega) hz (by omega)]
    refine ev_i (isS_ok hx) ?_
    refine ev_cL (d_194 hx hs hp hu) ?_
    refine ev_i rfl ?_
    refine ev_cV (show fm_91 N (.ref 76) 0 (nI z) _ (.ref 169) _ = _ from q) ?_
    refine ev_f (fun e => e rfl) ?_
    refine ev_b (a := .ref 131) rfl ?_
    refine ev_b (a := .ref 169) rfl ?_
    refine ev_b (a := .ref 167) rfl ?_
    refine ev_i rfl ?_
    exact ev_cI e1 hX
  by_cases c : b = 0
  · refine ⟨vup (vup (vup (vup (vup V' 167 1 (.int 1)) 167 2 (.int 0)) 167 3 (.int 0)) 167 4 (.int 2)) 167 3 (.int (nI 1)), iup I' 168 (upd (upd (I' 168) 0 0) 1 0), m1 _ ?_, ⟨1, 2, 1, 0, rfl, rfl, rfl, rfl, rfl, by omega, by omega, by omega⟩, ⟨nxt (nxt st), ?_⟩, fun j => ?_, fun j => ?_, fun y hy => ?_⟩
    · refine ev_f (fun e => e c) ?_
      refine ev_b (a := .ref 167) rfl (ev_i rfl (ev_cV (d_34 1 0) (ev_b (a := .ref 167) rfl (ev_i rfl ?_))))
      exact ev_cI (d_41 (s := 0) (by omega) rfl rfl (by omega) 0 0) rfl
    · rw [vup_ne n1, vup_ne n1, vup_ne n1, vup_ne n1, vup_ne n1, e8 x 0 n5.1 n5.2.1 n1, wx]
    · rw [vup_ne (by omega), vup_ne (by omega), vup_ne (by omega), vup_ne (by omega), vup_ne (by omega), e8 0 j (by omega) (by omega) (by omega), w0 0 j (fun e => n2 e.symm) (by omega) (by omega)]
    · rw [vup_ne (by omega), vup_ne (by omega), vup_ne (by omega), vup_ne (by omega), vup_ne (by omega), e8 174 j (by omega) (by omega) (by omega), w0 174 j (fun e => n3 e.symm) (by omega) (by omega)]
    · rw [show iup I' 168 (upd (upd (I' 168) 0 0) 1 0) y = I' y from if_neg (by omega), e9 y hy, j0 y hy]
  · have hs1 := e2 c
    refine ⟨V', I', m1 _ ?_, ⟨s, 2, 1, 0, e4, e5, e6, e7, rfl, by omega, by omega, by omega⟩, ⟨nxt (nxt st), ?_⟩, fun j => ?_, fun j => ?_, fun y hy => ?_⟩
    · exact ev_t c rfl
    · rw [e8 x 0 n5.1 n5.2.1 n1, wx]
    · rw [e8 0 j (by omega) (by omega) (by omega), w0 0 j (fun e => n2 e.symm) (by omega) (by omega)]
    · rw [e8 174 j (by omega) (by omega) (by omega), w0 174 j (fun e => n3 e.symm) (by omega) (by omega)]
    · rw [e9 y hy, j0 y hy]
