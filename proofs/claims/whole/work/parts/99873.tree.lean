/-! ===== tree(n, place) ===== -/
theorem opBI_errg {W : Nat → Nat → Value} {J : Nat → Nat → Int32} {M : Nat → Nat → Int64} {R2 : Nat → Nat → Option Nat} {t2 h1 : am_H} {w : Option am_O} {r : am_H → Option am_O} {vf : Value → Int64} {c b : Int32} (hc : c ≠ 0) (hw : w = some (.inl (some (.int c), h1))) (ho : am_pOk 12 (.ref 174) h1 = true) (hr : r h1 = some (.inl (some (.int b), fx W J M R2 ++ t2))) (h0 : W 174 0 = .int c) : opBI w r vf (fx W J M R2 ++ t2) := ⟨c, h1, b, 0, hw, ho, hr, rfl, by show am_vI (some (W 174 0)) = _; rw [h0]; rfl, fun e => absurd e hc⟩
theorem vup_o {V : Nat → Nat → Value} {a j b k : Nat} {x : Value} (h : ¬ (b = a ∧ k = j)) : vup V a j x b k = V b k := by
  by_cases c : b = a
  · subst c
    exact vup_nj (fun e => h ⟨rfl, e⟩)
  · exact vup_na c
theorem wt_o {V : Nat → Nat → Value} {a j : Nat} {x : Value} (hI : ¬ j ∈ fI a) (hL : ¬ j ∈ fL a) (h : wt V) : wt (vup V a j x) := by
  refine ⟨fun b k hk => ?_, fun b k hk => ?_⟩
  · rw [vup_o (fun e => by obtain ⟨e1, e2⟩ := e; subst e1; subst e2; exact hI hk)]
    exact h.1 b k hk
  · rw [vup_o (fun e => by obtain ⟨e1, e2⟩ := e; subst e1; subst e2; exact hL hk)]
    exact h.2 b k hk
theorem nI_all (x : Int32) : ∃ k, x = nI k := by
  cases x with
  | ofUInt32 u =>
    refine ⟨u.toNat, ?_⟩
    show Int32.ofUInt32 u = Int32.ofUInt32 (UInt32.ofNat u.toNat)
    rw [UInt32.ofNat_toNat]
theorem cpy0 {f g : Nat → Int32} {n j : Nat} (h : j < n) : va_cpy f g 0 0 n j = f j := by
  unfold va_cpy
  rw [if_pos ⟨Nat.zero_le _, by omega⟩, Nat.zero_add, Nat.sub_zero]
theorem un_at {n P k : Nat} (h1 : 1 ≤ n) (hn : n ≤ 12) (hP : P < uT 0 n) (hk : k < n) : ∃ x r, (un 0 n P).drop k = x :: r := by
  have f2 := (un_form n hn h1 0 P (by decide) hP).2.1
  exact ⟨_, _, List.drop_eq_getElem_cons (by omega)⟩
theorem un_S {n P : Nat} {f g : Nat → Int32} (h1 : 1 ≤ n) (hn : n ≤ 12) (hP : P < uT 0 n) : ∀ k x r, (un 0 n P).drop k = x :: r → wA f 0 (un 0 n P) k = nI x.1 ∧ wB g 0 (un 0 n P) k = nI x.2 := fun k x r h => by
  have a := wA_at _ f 0 k x r h
  have b := wB_at _ g 0 k x r h
  rw [Nat.zero_add] at a b
  exact ⟨a, b⟩
theorem un_sound {n P : Nat} {f g : Nat → Int32} (h1 : 1 ≤ n) (hn : n ≤ 12) (hP : P < uT 0 n) : sound 0 0 n (wA f 0 (un 0 n P)) (wB g 0 (un 0 n P)) := ⟨by decide, by omega, fun _ => ⟨h1, rfl⟩, fun _ => un_okT h1 hn hP (un_S h1 hn hP), fun e => absurd e (by decide), fun e => absurd e (by decide), fun e => absurd e (by decide)⟩
theorem un_itm {n P : Nat} {f g F : Nat → Int32} (h1 : 1 ≤ n) (hn : n ≤ 12) (hP : P < uT 0 n) : itm 0 (wA f 0 (un 0 n P)) (wB g 0 (un 0 n P)) n (va_cpy (wrt F 0 (un 0 n P)) (fun _ => 0) 0 0 (n * 2)) := by
  unfold itm
  rw [if_neg (by decide)]
  intro k hk
  obtain ⟨x, r, hd⟩ := un_at h1 hn hP hk
  obtain ⟨s1, s2⟩ := un_S (f := f) (g := g) h1 hn hP k x r hd
  have w := wrt_at _ F 0 k x r hd
  rw [Nat.zero_add] at w
  rw [cpy0 (by omega), cpy0 (by omega), s1, s2, Nat.mul_comm k 2]
  exact w
theorem ped_1 {b : Nat} : ped b 1 (-1) (-1) (-1) (-1) := ⟨1, by decide, rfl, .inl rfl, .inl rfl, fun h => absurd h (by decide), fun h => absurd h (by decide), fun h => absurd h (by decide), .inl rfl⟩
theorem vr_174 {j : Nat} (h : j ∈ vRel 174) : j ≠ 0 ∧ j ≠ 13 ∧ j ≠ 14 ∧ j ≠ 15 ∧ j ≠ 88 ∧ j ≠ 96 := by
  have key : ∀ j, j ∈ vRel 174 → j ≠ 0 ∧ j ≠ 13 ∧ j ≠ 14 ∧ j ≠ 15 ∧ j ≠ 88 ∧ j ≠ 96 := by decide
  exact key j h
theorem vr_76 {j : Nat} (h : j ∈ vRel 76) : False := by
  have key : ∀ j, j ∈ vRel 76 → False := by decide
  exact key j h
theorem vr_167 {j : Nat} (h : j ∈ vRel 167) : False := by
  have key : ∀ j, j ∈ vRel 167 → False := by decide
  exact key j h
set_option maxRecDepth 100000 in
set_option maxHeartbeats 1600000 in
theorem c_90x {V : Nat → Nat → Value} {I : Nat → Nat → Int32} {L : Nat → Nat → Int64} {R : Nat → Nat → Option Nat} {tl : am_H} {N : Nat} {a : Int32} {x : Int64} (hT : L 78 = tT) (hb : a < 1 ∨ 12 < a ∨ (∃ j, 1 ≤ j ∧ j ≤ 12 ∧ a = nI j ∧ (x < 0 ∨ lN (uT 0 j) ≤ x))) : fm_90 N (.ref 0) a x (fx V I L R ++ tl) = some (.inr (0, (fx V I L R ++ (tl ++ [am_dummy])))) := by
  rw [← List.append_assoc]
  unfold fm_90 fg_90_0
  by_cases c1 : a < 1
  · exact ev_t c1 rfl
  · refine ev_f c1 ?_
    by_cases c2 : 12 < a
    · exact ev_t c2 rfl
    · refine ev_f c2 ?_
      obtain ⟨j, j1, j2, rfl, hx⟩ := (hb.resolve_left c1).resolve_left c2
      by_cases c3 : x < 0
      · exact ev_t ((lg_cmp_lt _ _).mpr c3) rfl
      · refine ev_f (fun e => c3 ((lg_cmp_lt _ _).mp e)) (ev_b (a := Value.ref 76) rfl (ev_i rfl (ev_cL (e_15 (a := 76) (ta := 78) (T := L 78) rfl rfl rfl 0 (nI j)) ?_)))
        rw [hT, show rkTot tT 0 (nI j) = lN (uT 0 j) from rkTot_u (c := 0) (by omega) j1 (by omega)]
        exact ev_f (fun e => absurd ((lg_cmp_lt _ _).mp e) (Int64.not_lt.mpr (hx.resolve_left c3))) rfl
set_option maxRecDepth 100000 in
set_option maxHeartbeats 1600000 in
/-- the arguments are good: up to the room -/
theorem c_90y {V : Nat → Nat → Value} {I : Nat → Nat → Int32} {L : Nat → Nat → Int64} {R : Nat → Nat → Option Nat} {tl : am_H} {N k P : Nat} (hT : L 78 = tT) (n1 : 1 ≤ k) (n2 : k ≤ 12) (hP : P < uT 0 k) {o : Option am_O} (ho : (if am_pOk 11 (.ref 0) (fx V I L R ++ tl) then am_cV true (fm_32 (.ref 0) 1 (fx V I L R ++ tl)) (fun h13 => ((am_vR (am_pG 2822 (.ref 0) h13)).bind fun v15 => ((am_vR (am_pG 2831 (.ref 0) h13)).bind fun v17 => (if am_pOk 4 v15 h13 then am_cV true (fm_91 N v15 0 (nI k) (lN P) v17 h13) (fun h21 => ((am_vR (am_pG 2831 (.ref 0) h21)).bind fun v23 => (if am_pOk 11 (.ref 0) h21 then am_cI true (fm_59 (.ref 0) v23 1 ((-1)) ((-1)) ((-1)) ((-1)) 0 h21) (fun v26 h27 => some (.inl (some (.int v26), h27))) else none))) else none)))) else none) = o) : fm_90 N (.ref 0) (nI k) (lN P) (fx V I L R ++ tl) = o := by
  have hu := (u_c n1 n2 (show 0 < 6 by omega)).2
  unfold fm_90 fg_90_0
  refine ev_f (nI_nlt (b := 1) n1 (by omega)) (ev_f (nI_nlt (a := 12) n2 (by decide)) (ev_f (fun e => absurd ((lM_lt (b := 0) (by omega) (by omega)).mp ((lg_cmp_lt _ _).mp e)) (by omega)) (ev_b (a := Value.ref 76) rfl (ev_i rfl (ev_cL (e_15 (a := 76) (ta := 78) (T := L 78) rfl rfl rfl 0 (nI k)) ?_)))))
  rw [hT, show rkTot tT 0 (nI k) = lN (uT 0 k) from rkTot_u (c := 0) (by omega) n1 (by omega)]
  exact ev_t ((lg_cmp_lt _ _).mpr ((lM_lt (by omega) (by omega)).mpr hP)) ho
set_option maxRecDepth 100000 in
set_option maxHeartbeats 1600000 in
/-- the reference's tree() refuses -/
theorem r_385x {V : Nat → Nat → Value} {I : Nat → Nat → Int32} {L : Nat → Nat → Int64} {R : Nat → Nat → Option Nat} {tl : am_H} {N : Nat} {W : Nat → Nat → Value} {M : Nat → Nat → Int64} {a : Int32} {x : Int64} (e1 : fm_377 N (.ref 174) (fx V I L R ++ tl) = some (.inl (none, fx W I M R ++ tl))) (m1 : M 224 = tC) (hb : a < 1 ∨ 12 < a ∨ (∃ j, 1 ≤ j ∧ j ≤ 12 ∧ a = nI j ∧ (x < 0 ∨ lN (uT 0 j) ≤ x))) : fm_385 N (.ref 174) a x (fx V I L R ++ tl) = some (.inl (some (.int 0), fx (vup W 174 0 (.int 1)) I M R ++ tl)) := by
  have hbad : fg_385_50 N (.ref 174) a x (.ref 174) (fx W I M R ++ tl) = some (.inl (some (.int 0), fx (vup W 174 0 (.int 1)) I M R ++ tl)) := by
    unfold fg_385_50 fg_385_69
    exact ev_b qp_174_0 (ev_b (a := 1) rfl (ev_f (by decide) rfl))
  unfold fm_385 fg_385_0
  refine ev_i rfl (ev_cV e1 (ev_cI (pe_327 _ _ _ _) ?_))
  rcases hb with h9 | h9 | ⟨j, j1, j2, rfl, hx⟩
  · rw [show pv_327 a.toInt64 1 12 = 0 from in_lo (w64lt (b := 1) h9)]
    exact ev_t rfl hbad
  · rw [show pv_327 a.toInt64 1 12 = 0 from in_hi (w64lt (a := 12) h9)]
    exact ev_t rfl hbad
  · have hin : pv_327 (nI j).toInt64 1 12 = 1 := in_ok (w64le (a := 1) (nI_le (a := 1) j1 (by omega))) (w64le (b := 12) (nI_le (b := 12) j2 (by decide)))
    have hu := (u_c j1 j2 (show 0 < 6 by omega)).2
    rw [hin]
    refine ev_f (by decide) (ev_cI (pe_327 _ _ _ _) ?_)
    rw [hin]
    refine ev_f (by decide) ?_
    unfold fg_385_39
    refine ev_i rfl (ev_cL (x_383 (w := 0) (t := 0) (n := j) m1 (by omega) (by omega) j2) (ev_cI (pe_327 _ _ _ _) ?_))
    rw [show pv_327 x 0 (lN (uT 0 j) - 1) = 0 from hx.elim in_lo (fun h9 => in_hi (by
      refine Int64.lt_of_lt_of_le ?_ h9
      by_cases hz : uT 0 j = 0
      · rw [hz]; decide
      · rw [show (1 : Int64) = lN 1 from rfl, lN_sub (by omega)]
        exact (lM_lt (by omega) (by omega)).mpr (by omega)))]
    exact ev_f (fun e => e rfl) hbad
set_option maxRecDepth 100000 in
set_option maxHeartbeats 1600000 in
/-- the reference's tree(): the arguments are good -/
theorem r_385y {V : Nat → Nat → Value} {I : Nat → Nat → Int32} {L : Nat → Nat → Int64} {R : Nat → Nat → Option Nat} {tl : am_H} {N k P b : Nat} {W : Nat → Nat → Value} {M : Nat → Nat → Int64} {o : Option am_O} (e1 : fm_377 N (.ref 174) (fx V I L R ++ tl) = some (.inl (none, fx W I M R ++ tl))) (m1 : M 224 = tC) (hm : W 174 1 = .int (nI b)) (hb : b ≤ 600) (n1 : 1 ≤ k) (n2 : k ≤ 12) (hP : P < uT 0 k) (ho : fg_385_69 N (.ref 174) (nI k) (lN P) (.ref 174) (if b = 600 then 2 else 0) (fx W I M R ++ tl) = o) : fm_385 N (.ref 174) (nI k) (lN P) (fx V I L R ++ tl) = o := by
  have hin : pv_327 (nI k).toInt64 1 12 = 1 := in_ok (w64le (a := 1) (nI_le (a := 1) n1 (by omega))) (w64le (b := 12) (nI_le (b := 12) n2 (by decide)))
  have hu := (u_c n1 n2 (show 0 < 6 by omega)).2
  unfold fm_385 fg_385_0
  refine ev_i rfl (ev_cV e1 (ev_cI (pe_327 _ _ _ _) ?_))
  rw [hin]
  refine ev_f (by decide) (ev_cI (pe_327 _ _ _ _) ?_)
  rw [hin]
  refine ev_f (by decide) ?_
  unfold fg_385_39
  refine ev_i rfl (ev_cL (x_383 (w := 0) (t := 0) (n := k) m1 (by omega) (by omega) n2) (ev_cI (pe_327 _ _ _ _) ?_))
  rw [show pv_327 (lN P) 0 (lN (uT 0 k) - 1) = 1 from in_ok ((lM_le (a := 0) (by omega) (by omega)).mpr (Nat.zero_le _)) (by rw [show (1 : Int64) = lN 1 from rfl, lN_sub (by omega)]; exact (lM_le (by omega) (by omega)).mpr (by omega))]
  refine ev_t (by decide) (ev_b (rdI hm) ?_)
  by_cases c : b = 600
  · rw [if_pos c] at ho
    subst c
    exact ev_f (fun e => e rfl) ho
  · rw [if_neg c] at ho
    exact ev_t (fun e => absurd ((nI_eq (b := 600) (by omega) (by decide)).mp e) c) ho
set_option maxRecDepth 100000 in
set_option maxHeartbeats 1600000 in
theorem u_10 {V : Nat → Nat → Value} {I : Nat → Nat → Int32} {L : Nat → Nat → Int64} {R : Nat → Nat → Option Nat} {tl : am_H} {n p j : Nat} (hr : rel V I L R tl n p) (hm : room tl n p j) {N : Nat} (hN : 5000 < N) (a1 : Int32) (x : Int64) : ∃ h', opBI (fm_89 N (.ref 0) a1 x (.ref 268) (fx V I L R ++ tl)) (fun h1 => fm_385 N (.ref 174) a1 x h1) vfI h' ∧ invW (j + 1) h' := by
  obtain ⟨b1, b2, b3⟩ := hr.1
  obtain ⟨r1, r2, r3⟩ := hr.2.2.2.2.2.2.2.2.2.2.1
  have hcase : (a1 < 1 ∨ 12 < a1 ∨ (∃ j, 1 ≤ j ∧ j ≤ 12 ∧ a1 = nI j ∧ (x < 0 ∨ lN (uT 0 j) ≤ x))) ∨ ∃ n P, 1 ≤ n ∧ n ≤ 12 ∧ a1 = nI n ∧ x = lN P ∧ P < uT 0 n := by
    rcases t12 a1 with (h9 | h9) | ⟨n, n1, n2, rfl⟩
    · exact .inl (.inl h9)
    · exact .inl (.inr (.inl h9))
    · by_cases c : x < 0
      · exact .inl (.inr (.inr ⟨n, n1, n2, rfl, .inl c⟩))
      · by_cases c2 : lN (uT 0 n) ≤ x
        · exact .inl (.inr (.inr ⟨n, n1, n2, rfl, .inr c2⟩))
        · obtain ⟨P, p1, p2, p3⟩ := lN_of (Int64.not_lt.mp c)
          refine .inr ⟨n, P, n1, n2, rfl, p2, ?_⟩
          have hu := (u_c n1 n2 (show 0 < 6 by omega)).2
          have h8 := Int64.lt_iff_toInt_lt.mp (Int64.not_le.mp c2)
          rw [p3, lM_i (by omega)] at h8
          omega
  rcases hcase with hb | ⟨k, P, n1, n2, rfl, rfl, hP⟩
  · obtain ⟨W, M, e1, w1, m1, m2, f1, f2, ww⟩ := x_377w (V := V) (I := I) (L := L) (R := R) (tl := tl ++ [am_dummy]) (N := N) (by omega) r3 (rel_w hr)
    refine ⟨_, opBI_errg (c := 1) (h1 := fx V I L R ++ (tl ++ [am_dummy])) (by decide) ?_ rfl (r_385x e1 m1 hb) vup_eq, inv_mk (rel_thr 1 (rel_80 f1 f2 (.inr ⟨w1, m1, m2⟩) ww (rel_dum hr))) (room_dum hm)⟩
    unfold fm_89 fg_89_0
    refine ev_i rfl ?_
    rw [c_90x r2 hb]
    rfl
  · by_cases c6 : n = 600
    · subst c6
      obtain ⟨W, M, e1, w1, m1, m2, f1, f2, ww⟩ := x_377w (V := V) (I := I) (L := L) (R := R) (tl := tl ++ [am_dummy]) (N := N) (by omega) r3 (rel_w hr)
      refine ⟨_, opBI_errg (c := 2) (b := 0) (h1 := fx V I L R ++ (tl ++ [am_dummy])) (W := vup W 174 0 (.int 2)) (J := I) (M := M) (R2 := R) (t2 := tl ++ [am_dummy]) (by decide) ?_ rfl (r_385y e1 m1 ((f1 174 1 (by decide)).trans b3) (Nat.le_refl _) n1 n2 hP ?_) vup_eq, inv_mk (rel_thr 2 (rel_80 f1 f2 (.inr ⟨w1, m1, m2⟩) ww (rel_dum hr))) (room_dum hm)⟩
      · have e : fm_90 N (.ref 0) (nI k) (lN P) (fx V I L R ++ tl) = some (.inr (1, (fx V I L R ++ (tl ++ [am_dummy])))) := by
          rw [← List.append_assoc]
          refine c_90y r2 n1 n2 hP (ev_i rfl ?_)
          have e2 : fm_32 (.ref 0) 1 (fx V I L R ++ tl) = some (.inr (1, (fx V I L R ++ tl) ++ [am_dummy])) := by
            unfold fm_32 fg_32_0
            exact ev_b (rdI b2) (ev_f (by decide) rfl)
          rw [e2]
          rfl
        unfold fm_89 fg_89_0
        refine ev_i rfl ?_
        rw [e]
        rfl
      · unfold fg_385_69
        exact ev_b qp_174_0 (ev_b (a := 2) rfl (ev_f (by decide) rfl))
    · have hn : n < 600 := by omega
      have q1 := x_91 (V := V) (I := I) (L := L) (R := R) (tl := tl) (N := N) (c := 0) (n := k) (P := P) (by omega) r1 r2 (by omega) n1 n2 hP
      obtain ⟨V1, hV1⟩ : ∃ V1, V1 = vup (vup (vup (vup (vup (vup V 76 3 (.ref 167)) 167 1 (.int 0)) 167 2 (.int 0)) 167 3 (.int 0)) 167 4 (.int 2)) 167 3 (.int (nI k)) := ⟨_, rfl⟩
      rw [← hV1] at q1
      have g1 : ∀ a j, a ≠ 76 → a ≠ 167 → V1 a j = V a j := fun a j h1 h2 => by
        rw [hV1, vup_na h2, vup_na h2, vup_na h2, vup_na h2, vup_na h2, vup_na h1]
      have w1 : wt V1 := by
        rw [hV1]
        exact wt_i (wt_i (wt_i (wt_i (wt_i (wt_o (by decide) (by decide) (rel_w hr)) (by decide)) (by decide)) (by decide)) (by decide)) (by decide)
      have q2 := x_59 (V := V1) (I := iup I 168 (wrt (I 168) 0 (un 0 k P))) (L := L) (R := R) (tl := tl) (s := k) (wd := 2) (m := n) (kd := 0) (ln := 0) (by rw [hV1]; rfl) (by rw [hV1]; rfl) (by rw [hV1]; rfl) (by rw [hV1]; rfl) (by decide) (by omega) (by omega) (by omega) ((g1 0 1 (by decide) (by decide)).trans b2) hn 1 (-1) (-1) (-1) (-1) 0
      obtain ⟨F, hF⟩ : ∃ F, F = va_cpy (wrt (I 168) 0 (un 0 k P)) (fun _ => 0) 0 0 (k * 2) := ⟨_, rfl⟩
      obtain ⟨t2, ht2⟩ : ∃ t2, t2 = tl ++ brt tl.length 0 0 k 1 (-1) (-1) (-1) (-1) 0 F := ⟨_, rfl⟩
      obtain ⟨R2, hR2⟩ : ∃ R2, R2 = rup R 1 (va_up (R 1) n (some (269 + tl.length))) := ⟨_, rfl⟩
      have q3 : fm_59 (.ref 0) (.ref 167) 1 (-1) (-1) (-1) (-1) 0 (fx V1 (iup I 168 (wrt (I 168) 0 (un 0 k P))) L R ++ tl) = some (.inl (some (.int (nI n)), fx (vup V1 0 1 (.int (nI (n + 1)))) (iup I 168 (wrt (I 168) 0 (un 0 k P))) L R2 ++ t2)) := by
        rw [ht2, hR2, hF]
        exact q2
      have i0 : rInv (vup V1 0 1 (.int (nI (n + 1)))) (outL L (nI n).toInt64) := by
        have e80 : vup V1 0 1 (.int (nI (n + 1))) 174 80 = V 174 80 := (vup_na (by decide)).trans (g1 174 80 (by decide) (by decide))
        rcases r3 with ⟨h1, h2, h3⟩ | ⟨h1, h2, h3⟩
        · exact .inl ⟨e80.trans h1, h2, h3⟩
        · exact .inr ⟨e80.trans h1, h2, h3⟩
      obtain ⟨W, M, e1, y1, m1, m2, f1, f2, ww⟩ := x_377w (V := vup V1 0 1 (.int (nI (n + 1)))) (I := iup I 168 (wrt (I 168) 0 (un 0 k P))) (L := outL L (nI n).toInt64) (R := R2) (tl := t2) (N := N) (by omega) i0 (wt_i w1 (by decide))
      obtain ⟨V3, hV3⟩ : ∃ V3, V3 = vup (vup (vup W 174 0 (.int 0)) 174 13 (.int 0)) 174 14 (.int 0) := ⟨_, rfl⟩
      have w3 : wt V3 := by rw [hV3]; exact wt_i (wt_i (wt_i ww (by decide)) (by decide)) (by decide)
      obtain ⟨x88, hx88⟩ := w3.1 174 88 (by decide)
      obtain ⟨k0, rfl⟩ := nI_all x88
      have hgs := gS_of (V := V3) (I := iup I 168 (wrt (I 168) 0 (un 0 k P))) (L := M) (R := R2) (tl := t2) (s := 0) (k := k0) (by rw [hV3]; exact vup_eq) hx88
      obtain ⟨c', d', e', p', g⟩ := g_386 (V := V3) (I := iup I 168 (wrt (I 168) 0 (un 0 k P))) (L := M) (R := R2) (tl := t2) m1 m2 (by rw [hV3]; exact y1) (N := N) (w := 0) (t := 0) (n := k) (P := P) (s0 := 0) (k0 := k0) (a := I 186) (b := I 187) (c := I 227) (d := I 228) (e := I 229) (p := M 230) (by omega) (by omega) (by omega) n1 n2 hP (by omega)
      rw [Nat.zero_add] at g
      obtain ⟨V5, hV5⟩ : ∃ V5, V5 = vup (vup V3 174 14 (.int (nI k))) 174 88 (.int (nI 0)) := ⟨_, rfl⟩
      have hg5 : gS V3 (iup I 168 (wrt (I 168) 0 (un 0 k P))) M R2 t2 k 0 (wA (I 186) 0 (un 0 k P)) (wB (I 187) 0 (un 0 k P)) c' d' e' p' = fx V5 (iup (iup (iup (iup (iup (iup I 168 (wrt (I 168) 0 (un 0 k P))) 186 (wA (I 186) 0 (un 0 k P))) 187 (wB (I 187) 0 (un 0 k P))) 227 c') 228 d') 229 e') (lup M 230 p') R2 ++ t2 := by
        rw [hV5]
        rfl
      have v5 : ∀ a j, ¬ (a = 174 ∧ (j = 0 ∨ j = 13 ∨ j = 14 ∨ j = 88)) → V5 a j = W a j := fun a j h => by
        rw [hV5, vup_o (fun e => h ⟨e.1, by omega⟩), vup_o (fun e => h ⟨e.1, by omega⟩), hV3, vup_o (fun e => h ⟨e.1, by omega⟩), vup_o (fun e => h ⟨e.1, by omega⟩), vup_o (fun e => h ⟨e.1, by omega⟩)]
      have w5 : wt V5 := by rw [hV5]; exact wt_i (wt_i w3 (by decide)) (by decide)
      obtain ⟨x15, hx15⟩ := w5.1 174 15 (by decide)
      have q4 := x_356 (V := V5) (I := iup (iup (iup (iup (iup (iup I 168 (wrt (I 168) 0 (un 0 k P))) 186 (wA (I 186) 0 (un 0 k P))) 187 (wB (I 187) 0 (un 0 k P))) 227 c') 228 d') 229 e') (L := lup M 230 p') (R := R2) (tl := t2) (N := N) (s := k) (m := n) (kd := 0) (nt := x15) ((v5 174 1 (by decide)).trans ((f1 174 1 (by decide)).trans ((vup_na (by decide)).trans ((g1 174 1 (by decide) (by decide)).trans b3)))) (by rw [hV5, hV3]; rfl) (by rw [hV5]; rfl) hx15 hn (by omega) (by omega) 1 (-1) (-1) (-1) (-1) 0
      have hr8 : rel (vup V 174 80 (.int 1)) I (lup (lup L 224 tC) 225 tS) R tl n p := rel_80 (fun a j h => vup_o h) (fun y h1 h2 _ => by rw [lup_na h2, lup_na h1]) (.inr ⟨vup_eq, rfl, rfl⟩) (wt_i (rel_w hr) (by decide)) hr
      have hR := rel_bear (W := vup V5 174 1 (.int (nI (n + 1)))) (J := _) (M := _) (kd := 0) (ln := 0) (sz := k) (x1 := 1) (x2 := -1) (x3 := -1) (x4 := -1) (x5 := -1) (x6 := 0) (S := wA (I 186) 0 (un 0 k P)) (T := wB (I 187) 0 (un 0 k P)) (f := F) hr8 hn (fun a j hj n3 n4 => ?hv) ?hw0 vup_eq (fun y hy hy2 => ?he) (?h175 : (iup (iup (iup (iup (iup (iup (iup (iup (iup (iup (iup (iup (iup (iup (iup (iup I 168 (wrt (I 168) 0 (un 0 k P))) 186 (wA (I 186) 0 (un 0 k P))) 187 (wB (I 187) 0 (un 0 k P))) 227 c') 228 d') 229 e') 175 (upd (I 175) n 0)) 176 (upd (I 176) n (nI k))) 177 (upd (I 177) n (if (0 : Int32) = 3 then x15 else 0))) 178 (upd (I 178) n 1)) 179 (upd (I 179) n (-1))) 180 (upd (I 180) n (-1))) 181 (upd (I 181) n (-1))) 182 (upd (I 182) n (-1))) 184 (csq (I 184) (wA (I 186) 0 (un 0 k P)) (60 * n) k)) 185 (csq (I 185) (wB (I 187) 0 (un 0 k P)) (60 * n) k)) 175 = _) rfl rfl rfl rfl rfl rfl rfl rfl rfl (fun y hy hy2 => ?hl) (?hm : (lup (lup M 230 p') 183 (vp_updL (M 183) n 0)) 183 = _) (wt_i w5 (by decide)) ?hi (un_sound n1 n2 hP) ped_1 (gen_o (by decide) (by decide))
      case hv =>
        have nr : a = 174 → j ≠ 0 ∧ j ≠ 13 ∧ j ≠ 14 ∧ j ≠ 15 ∧ j ≠ 88 ∧ j ≠ 96 := fun e => by subst e; exact vr_174 hj
        rw [vup_o n4, v5 a j (fun e => by have := nr e.1; omega)]
        by_cases c : a = 174 ∧ j = 80
        · obtain ⟨e1, e2⟩ := c
          subst e1
          subst e2
          rw [vup_eq]
          exact y1
        · rw [f1 a j c, vup_o n3, g1 a j (fun e => by subst e; exact vr_76 hj) (fun e => by subst e; exact vr_167 hj), vup_o c]
      case hw0 =>
        rw [vup_na (by decide), v5 0 1 (by decide), f1 0 1 (by decide)]
        exact vup_eq
      case he =>
        have ny : y ≠ 168 ∧ y ≠ 186 ∧ y ≠ 187 ∧ y ≠ 227 ∧ y ≠ 228 ∧ y ≠ 229 := by
          have key : ∀ y, y ∈ iRel → y ≠ 168 ∧ y ≠ 186 ∧ y ≠ 187 ∧ y ≠ 227 ∧ y ≠ 228 ∧ y ≠ 229 := by decide
          exact key y hy
        rw [iup_na (by omega), iup_na (by omega), iup_na (by omega), iup_na (by omega), iup_na (by omega), iup_na (by omega), iup_na (by omega), iup_na (by omega), iup_na (by omega), iup_na (by omega), iup_na (by omega), iup_na (by omega), iup_na (by omega), iup_na (by omega), iup_na (by omega), iup_na (by omega)]
      case h175 => rfl
      case hl =>
        have ny : y ≠ 230 ∧ y ≠ 226 ∧ y ≠ 268 := by
          have key : ∀ y, y ∈ lRel → y ≠ 230 ∧ y ≠ 226 ∧ y ≠ 268 := by decide
          exact key y hy
        rw [lup_na hy2, lup_na ny.1]
        by_cases c1 : y = 224
        · subst c1; exact m1
        · by_cases c2 : y = 225
          · subst c2; exact m2
          · rw [f2 y c1 c2 ny.2.1, lup_na c2, lup_na c1]
            exact lup_na ny.2.2
      case hm =>
        rw [lup_eq, f2 183 (by decide) (by decide) (by decide)]
        rfl
      case hi =>
        rw [hF]
        exact un_itm n1 n2 hP
      rw [← ht2, ← hR2] at hR
      refine ⟨_, opBI_g (v := nI n) (W := vup V1 0 1 (.int (nI (n + 1)))) (J := iup I 168 (wrt (I 168) 0 (un 0 k P))) (M := outL L (nI n).toInt64) (R1 := R2) (t1 := t2) ?_ ?_ ?_ ?_, inv_mk hR (room_up (by rw [ht2]; exact room_b (by show k * 2 ≤ 120; omega) hm))⟩
      · have e : fm_90 N (.ref 0) (nI k) (lN P) (fx V I L R ++ tl) = some (.inl (some (.int (nI n)), fx (vup V1 0 1 (.int (nI (n + 1)))) (iup I 168 (wrt (I 168) 0 (un 0 k P))) L R2 ++ t2)) := by
          refine c_90y r2 n1 n2 hP (ev_i rfl ?_)
          have e2 : fm_32 (.ref 0) 1 (fx V I L R ++ tl) = some (.inl (none, fx V I L R ++ tl)) := by
            unfold fm_32 fg_32_0
            rw [show (fun v1 : Int32 => (if (v1 + 1) ≤ 600 then (some (.inl (none, fx V I L R ++ tl)) : Option am_O) else some (.inr (1, (fx V I L R ++ tl) ++ [am_dummy])))) = (fun v1 : Int32 => (if (v1 + 1) ≤ 600 then (some (.inl (none, fx V I L R ++ tl)) : Option am_O) else some (.inr (1, (fx V I L R ++ tl) ++ [am_dummy])))) from rfl]
            refine ev_b (rdI b2) (ev_t ?_ rfl)
            rw [nI_1]
            exact nI_le (b := 600) (by omega) (by decide)
          exact ev_cV e2 (ev_b (a := Value.ref 76) rfl (ev_b (a := Value.ref 167) rfl (ev_i rfl (ev_cV q1 (ev_b (a := Value.ref 167) rfl (ev_i rfl (ev_cI q3 rfl)))))))
        unfold fm_89 fg_89_0
        refine ev_i rfl ?_
        rw [e]
        exact ev_b out_s rfl
      · refine r_385y e1 m1 ((f1 174 1 (by decide)).trans ((vup_na (by decide)).trans ((g1 174 1 (by decide) (by decide)).trans b3))) (by omega) n1 n2 hP ?_
        rw [if_neg c6]
        unfold fg_385_69
        refine ev_b qp_174_0 (ev_b (a := 0) rfl (ev_t (by decide) (ev_b qp_174_13 (ev_b qp_174_14 (ev_i rfl ?_)))))
        rw [← hV3, hgs]
        refine ev_cV g (ev_i rfl ?_)
        rw [hg5]
        exact ev_cI q4 rfl
      · rw [vup_o (by decide), hV5, vup_o (by decide), vup_o (by decide), hV3, vup_o (by decide), vup_o (by decide)]
        exact vup_eq
      · show lup (lup M 230 p') 183 _ 268 0 = _
        rw [lup_na (by decide), lup_na (by decide), f2 268 (by decide) (by decide) (by decide)]
        rfl
