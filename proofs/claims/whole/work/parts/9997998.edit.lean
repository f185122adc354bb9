/-! ===== edit(b, how, i) ===== -/
theorem hd_186_0 {N : Nat} {x0 : Value} {x1 : Int32} {x2 : Int32} {x3 : Int32} {h : am_H} {r_ : Option am_O} (k_ : (if am_pOk 11 x0 h then am_cR true (fm_63 x0 x1 h) (fun v2 h3 => (if am_pOk 11 x0 h3 then am_cV true (fm_158 x0 x2 h3) (fun h7 => ((am_vR (am_pG 2823 x0 h7)).bind fun v9 => (if am_pOk 0 v9 h7 then am_cI true (fm_159 N v9 v2 Value.null x2 h7) (fun v12 h13 => ((am_vR (am_pG 2823 x0 h13)).bind fun v15 => (if am_pOk 0 v15 h13 then am_cI true (fm_187 N v15 x3 h13) (fun v18 h19 => (if ¬ v18 = 0 then (if am_pOk 11 x0 h19 then am_cV true (fm_32 x0 1 h19) (fun h24 => ((am_vR (am_pG 2823 x0 h24)).bind fun v26 => ((am_vR (am_pG 0 v26 h24)).bind fun v28 => (if am_pOk 11 x0 h24 then am_cI true (fm_59 x0 v28 3 x1 ((-1)) x2 x3 0 h24) (fun v31 h32 => some (.inl (some (.int v31), h32))) else none)))) else none) else some (.inr (2, h19 ++ [am_dummy])))) else none))) else none))) else none)) else none) = r_) : fg_186_0 N x0 x1 x2 x3 h = r_ := k_
theorem hm_186 {N : Nat} {y0 : Value} {y1 : Int32} {y2 : Int32} {y3 : Int32} {h : am_H} {r_ : Option am_O} (k_ : fg_186_0 N y0 y1 y2 y3 h = r_) : fm_186 N y0 y1 y2 y3 h = r_ := k_
theorem hd_469_148 {N : Nat} {s0 : Int32} {h : am_H} {r_ : Option am_O} (k_ : some (.inl (some (.int s0), h)) = r_) : fg_469_148 N s0 h = r_ := k_
theorem hd_469_124 {N : Nat} {x0 : Value} {x1 : Int32} {x2 : Int32} {x3 : Int32} {s0 : Value} {s1 : Int32} {h : am_H} {r_ : Option am_O} (k_ : ((am_pP 3072 s0 (.int s1) h).bind fun h1 => ((am_vI (am_pG 3072 x0 h1)).bind fun v3 => (if v3 ≤ 0 then (if am_pOk 12 x0 h1 then am_cI true (fm_356 N x0 3 x1 ((-1)) x2 x3 0 h1) (fun v7 h8 => (fg_469_148 N v7 h8)) else none) else (fg_469_148 N 0 h1)))) = r_) : fg_469_124 N x0 x1 x2 x3 s0 s1 h = r_ := k_
theorem hd_469_100 {N : Nat} {x0 : Value} {x1 : Int32} {x2 : Int32} {x3 : Int32} {x4 : Int32} {s0 : Value} {h : am_H} {r_ : Option am_O} (k_ : (if ¬ x4 = 0 then ((am_vI (am_pG 3073 x0 h)).bind fun v2 => (if ¬ v2 = 600 then (fg_469_124 N x0 x1 x2 x3 s0 0 h) else (fg_469_124 N x0 x1 x2 x3 s0 3 h))) else (fg_469_124 N x0 x1 x2 x3 s0 2 h)) = r_) : fg_469_100 N x0 x1 x2 x3 x4 s0 h = r_ := k_
theorem hd_469_80 {N : Nat} {x0 : Value} {x1 : Int32} {x2 : Int32} {x3 : Int32} {x4 : Int32} {s0 : Value} {s1 : Int32} {h : am_H} {r_ : Option am_O} (k_ : ((am_pP 3167 s0 (.int s1) h).bind fun h1 => (if x4 = 0 then (fg_469_100 N x0 x1 x2 x3 x4 x0 h1) else ((am_vI (am_pG 3167 x0 h1)).bind fun v4 => (if ¬ v4 = 0 then (fg_469_100 N x0 x1 x2 x3 x4 x0 h1) else (fg_469_124 N x0 x1 x2 x3 x0 1 h1))))) = r_) : fg_469_80 N x0 x1 x2 x3 x4 s0 s1 h = r_ := k_
theorem hd_469_79 {N : Nat} {x0 : Value} {x1 : Int32} {x2 : Int32} {x3 : Int32} {x4 : Int32} {s0 : Value} {h : am_H} {r_ : Option am_O} (k_ : (fg_469_80 N x0 x1 x2 x3 x4 s0 0 h) = r_) : fg_469_79 N x0 x1 x2 x3 x4 s0 h = r_ := k_
theorem hd_469_58 {N : Nat} {x0 : Value} {x1 : Int32} {x2 : Int32} {x3 : Int32} {x4 : Int32} {h : am_H} {r_ : Option am_O} (k_ : (if x4 = 0 then (fg_469_79 N x0 x1 x2 x3 x4 x0 h) else (if x3 < 0 then (fg_469_79 N x0 x1 x2 x3 x4 x0 h) else ((am_vI (am_pG 3167 x0 h)).bind fun v3 => (if v3 = 0 then (fg_469_79 N x0 x1 x2 x3 x4 x0 h) else (fg_469_80 N x0 x1 x2 x3 x4 x0 1 h))))) = r_) : fg_469_58 N x0 x1 x2 x3 x4 h = r_ := k_
theorem hd_469_14 {N : Nat} {x0 : Value} {x1 : Int32} {x2 : Int32} {x3 : Int32} {s0 : Value} {s1 : Int32} {h : am_H} {r_ : Option am_O} (k_ : ((am_pP 3072 s0 (.int s1) h).bind fun h1 => ((am_vI (am_pG 3072 x0 h1)).bind fun v3 => (if v3 ≤ 0 then am_cI false (fm_327 ((Int32.toInt64 x2)) 0 3 h1) (fun v6 h7 => (if am_pOk 12 x0 h7 then am_cV true (fm_391 N x0 x1 h7) (fun h11 => (if v6 = 0 then (fg_469_58 N x0 x1 x2 x3 v6 h11) else (if x3 < 0 then (fg_469_58 N x0 x1 x2 x3 v6 h11) else (if am_pOk 12 x0 h11 then am_cI true (fm_439 N x0 x2 x3 h11) (fun v16 h17 => (fg_469_58 N x0 x1 x2 x3 v6 h17)) else none)))) else none)) else some (.inl (some (.int 0), h1))))) = r_) : fg_469_14 N x0 x1 x2 x3 s0 s1 h = r_ := k_
theorem hd_469_0 {N : Nat} {x0 : Value} {x1 : Int32} {x2 : Int32} {x3 : Int32} {h : am_H} {r_ : Option am_O} (k_ : (if am_pOk 12 x0 h then am_cI true (fm_358 x0 x1 h) (fun v2 h3 => (if ¬ v2 = 0 then (fg_469_14 N x0 x1 x2 x3 x0 0 h3) else (fg_469_14 N x0 x1 x2 x3 x0 1 h3))) else none) = r_) : fg_469_0 N x0 x1 x2 x3 h = r_ := k_
theorem hm_469 {N : Nat} {y0 : Value} {y1 : Int32} {y2 : Int32} {y3 : Int32} {h : am_H} {r_ : Option am_O} (k_ : fg_469_0 N y0 y1 y2 y3 h = r_) : fm_469 N y0 y1 y2 y3 h = r_ := k_
set_option maxRecDepth 100000 in
set_option maxHeartbeats 8000000 in
theorem x_59g90 {V : Nat → Nat → Value} {I : Nat → Nat → Int32} {L : Nat → Nat → Int64} {R : Nat → Nat → Option Nat} {tl : am_H} {s wd m : Nat} {kd ln : Int32} (h1 : V 90 1 = .int kd) (h2 : V 90 2 = .int ln) (h3 : V 90 3 = .int (nI s)) (h4 : V 90 4 = .int (nI wd)) (hwd : nI wd = if kd = 2 then 5 else 2) (hw120 : wd ≤ 120) (hsw2 : s * wd ≤ 120) (hwp : 1 ≤ wd) (hm : V 0 1 = .int (nI m)) (hm6 : m < 600) (x2 x3 x4 x5 x6 : Int32) (x7 : Int64) :
    fm_59 (.ref 0) (.ref 90) x2 x3 x4 x5 x6 x7 (fx V I L R ++ tl) = some (.inl (some (.int (nI m)), fx (vup V 0 1 (.int (nI (m + 1)))) I L (rup R 1 (va_up (R 1) m (some (269 + tl.length)))) ++ (tl ++ [.inr (3, [.ref (269 + tl.length + 1), .int kd, .int ln, .int (nI s), .int (nI wd), .int x2, .int x3, .int x4, .int x5, .int x6, .long x7]), .inl (0, s * wd, .inl (va_cpy (I 91) (fun _ => 0) 0 0 (s * wd)))]))) := by
  have hl : (fx V I L R ++ tl).length = 269 + tl.length := by rw [List.length_append, fx_len]
  have hs120 : s ≤ 120 := Nat.le_trans (Nat.le_mul_of_pos_right s hwp) hsw2
  have hsp : ∀ {X : am_H}, ((fx V I L R ++ tl) ++ X)[90]? = some (.inr (3, [.ref 91, V 90 1, V 90 2, V 90 3, V 90 4, V 90 5, V 90 6, V 90 7, V 90 8, V 90 9, V 90 10])) := fun {X} => rfl
  have hmul : nI s * nI wd = nI (s * wd) := (nI_mul s wd).symm
  have hclk : (nI (s * wd)).toNatClampNeg = s * wd := nI_clamp (by omega)
  unfold fm_59 fg_59_0
  refine ev_b (ev_o rfl rfl) ?_
  refine ev_b (ev_gI (x := nI s) hsp rfl (by show some (V 90 3) = _; rw [h3])) ?_
  refine ev_b (ev_gI (x := nI wd) hsp rfl (by show some (V 90 4) = _; rw [h4])) ?_
  rw [hl, hmul]
  refine ev_i (ev_ok (am_gg0 hl)) ?_
  refine ev_cV (ce_18g hl hsw2) ?_
  rw [show cl_18 (269 + tl.length) (nI (s * wd)) = (.inr (3, [.ref (269 + tl.length + 1), .int 0, .int 0, .int 0, .int 2, .int 0, .int (-1), .int (-1), .int (-1), .int (-1), .long 0]) :: [.inl (0, s * wd, .inl (fun _ => 0))] : am_H) by unfold cl_18; rw [hclk]; rfl]
  refine ev_i (ev_ok (am_gg0 hl)) ?_
  have h34 : fm_34 (.ref (269 + tl.length)) kd ln ((fx V I L R ++ tl) ++ (.inr (3, [.ref (269 + tl.length + 1), .int 0, .int 0, .int 0, .int 2, .int 0, .int (-1), .int (-1), .int (-1), .int (-1), .long 0]) :: [.inl (0, s * wd, .inl (fun _ => 0))])) = some (.inl (none, (fx V I L R ++ tl) ++ (.inr (3, [.ref (269 + tl.length + 1), .int kd, .int ln, .int 0, .int (nI wd), .int 0, .int (-1), .int (-1), .int (-1), .int (-1), .long 0]) :: [.inl (0, s * wd, .inl (fun _ => 0))]))) := by
    unfold fm_34 fg_34_0
    refine ev_b (ev_p (fs1 := [.ref (269 + tl.length + 1), .int kd, .int 0, .int 0, .int 2, .int 0, .int (-1), .int (-1), .int (-1), .int (-1), .long 0]) (am_gg0 hl) rfl rfl (am_gs0 hl)) ?_
    refine ev_b (ev_p (fs1 := [.ref (269 + tl.length + 1), .int kd, .int ln, .int 0, .int 2, .int 0, .int (-1), .int (-1), .int (-1), .int (-1), .long 0]) (am_gg0 hl) rfl rfl (am_gs0 hl)) ?_
    refine ev_b (ev_p (fs1 := [.ref (269 + tl.length + 1), .int kd, .int ln, .int 0, .int 2, .int 0, .int (-1), .int (-1), .int (-1), .int (-1), .long 0]) (am_gg0 hl) rfl rfl (am_gs0 hl)) ?_
    rw [hwd]
    by_cases c2 : kd = 2
    · rw [if_pos c2]
      refine ev_f (fun e9 => e9 c2) ?_
      unfold fg_34_26
      exact ev_b (ev_p (fs1 := [.ref (269 + tl.length + 1), .int kd, .int ln, .int 0, .int 5, .int 0, .int (-1), .int (-1), .int (-1), .int (-1), .long 0]) (am_gg0 hl) rfl rfl (am_gs0 hl)) rfl
    · rw [if_neg c2]
      refine ev_t c2 ?_
      unfold fg_34_26
      exact ev_b (ev_p (fs1 := [.ref (269 + tl.length + 1), .int kd, .int ln, .int 0, .int 2, .int 0, .int (-1), .int (-1), .int (-1), .int (-1), .long 0]) (am_gg0 hl) rfl rfl (am_gs0 hl)) rfl
  have h60 : fm_60 (.ref (269 + tl.length)) (.ref 90) ((fx V I L R ++ tl) ++ (.inr (3, [.ref (269 + tl.length + 1), .int 0, .int 0, .int 0, .int 2, .int 0, .int (-1), .int (-1), .int (-1), .int (-1), .long 0]) :: [.inl (0, s * wd, .inl (fun _ => 0))])) = some (.inl (none, (fx V I L R ++ tl) ++ (.inr (3, [.ref (269 + tl.length + 1), .int kd, .int ln, .int (nI s), .int (nI wd), .int 0, .int (-1), .int (-1), .int (-1), .int (-1), .long 0]) :: [.inl (0, s * wd, .inl (va_cpy (I 91) (fun _ => 0) 0 0 (s * wd)))]))) := by
    unfold fm_60 fg_60_0
    refine ev_b (ev_gI (x := kd) hsp rfl (by show some (V 90 1) = _; rw [h1])) ?_
    refine ev_b (ev_gI (x := ln) hsp rfl (by show some (V 90 2) = _; rw [h2])) ?_
    refine ev_i (ev_ok (am_gg0 hl)) ?_
    refine ev_cV h34 ?_
    refine ev_b (ev_gI (x := nI s) hsp rfl (by show some (V 90 3) = _; rw [h3])) ?_
    refine ev_b (ev_gI (x := nI wd) (am_gg0 hl) rfl rfl) ?_
    refine ev_b (ev_gR (x := .ref (269 + tl.length + 1)) (am_gg0 hl) rfl rfl rfl) ?_
    refine ev_b (a := nI (s * wd)) (by unfold am_pLen; simp only [show ((fx V I L R ++ tl) ++ (.inr (3, [.ref (269 + tl.length + 1), .int kd, .int ln, .int 0, .int (nI wd), .int 0, .int (-1), .int (-1), .int (-1), .int (-1), .long 0]) :: [.inl (0, s * wd, .inl (fun _ => 0))]))[269 + tl.length + 1]? = some (.inl (0, s * wd, .inl (fun _ => 0))) from am_gk (k := 1) hl rfl]; rfl) ?_
    rw [hmul]
    refine ev_f (nI_nlt (Nat.le_refl _) (by omega)) ?_
    refine ev_b (ev_gI (x := nI s) hsp rfl (by show some (V 90 3) = _; rw [h3])) ?_
    refine ev_b (ev_p (fs1 := [.ref (269 + tl.length + 1), .int kd, .int ln, .int (nI s), .int (nI wd), .int 0, .int (-1), .int (-1), .int (-1), .int (-1), .long 0]) (am_gg0 hl) rfl rfl (am_gs0 hl)) ?_
    refine ev_b (ev_gR (x := .ref 91) hsp rfl rfl rfl) ?_
    refine ev_b (ev_gR (x := .ref (269 + tl.length + 1)) (am_gg0 hl) rfl rfl rfl) ?_
    refine ev_b (ev_gI (x := nI s) (am_gg0 hl) rfl rfl) ?_
    refine ev_b (ev_gI (x := nI wd) (am_gg0 hl) rfl rfl) ?_
    rw [hmul]
    refine ev_b (ev_cpy (f := I 91) (g := fun _ => 0) (n0 := 120) (n1 := s * wd) (sp := 0) (dp := 0) (n := s * wd) (h1 := (fx V I L R ++ tl) ++ (.inr (3, [.ref (269 + tl.length + 1), .int kd, .int ln, .int (nI s), .int (nI wd), .int 0, .int (-1), .int (-1), .int (-1), .int (-1), .long 0]) :: [.inl (0, s * wd, .inl (va_cpy (I 91) (fun _ => 0) 0 0 (s * wd)))])) rfl (am_gk (k := 1) hl rfl) (by omega) (by omega) (by omega) (by omega) (am_gsk (k := 1) hl rfl)) ?_
    rfl
  refine ev_cV h60 ?_
  refine ev_b (ev_p (fs1 := [.ref (269 + tl.length + 1), .int kd, .int ln, .int (nI s), .int (nI wd), .int x2, .int (-1), .int (-1), .int (-1), .int (-1), .long 0]) (am_gg0 hl) rfl rfl (am_gs0 hl)) ?_
  refine ev_b (ev_p (fs1 := [.ref (269 + tl.length + 1), .int kd, .int ln, .int (nI s), .int (nI wd), .int x2, .int x3, .int (-1), .int (-1), .int (-1), .long 0]) (am_gg0 hl) rfl rfl (am_gs0 hl)) ?_
  refine ev_b (ev_p (fs1 := [.ref (269 + tl.length + 1), .int kd, .int ln, .int (nI s), .int (nI wd), .int x2, .int x3, .int x4, .int (-1), .int (-1), .long 0]) (am_gg0 hl) rfl rfl (am_gs0 hl)) ?_
  refine ev_b (ev_p (fs1 := [.ref (269 + tl.length + 1), .int kd, .int ln, .int (nI s), .int (nI wd), .int x2, .int x3, .int x4, .int x5, .int (-1), .long 0]) (am_gg0 hl) rfl rfl (am_gs0 hl)) ?_
  refine ev_b (ev_p (fs1 := [.ref (269 + tl.length + 1), .int kd, .int ln, .int (nI s), .int (nI wd), .int x2, .int x3, .int x4, .int x5, .int x6, .long 0]) (am_gg0 hl) rfl rfl (am_gs0 hl)) ?_
  refine ev_b (ev_p (fs1 := [.ref (269 + tl.length + 1), .int kd, .int ln, .int (nI s), .int (nI wd), .int x2, .int x3, .int x4, .int x5, .int x6, .long x7]) (am_gg0 hl) rfl rfl (am_gs0 hl)) ?_
  refine ev_b (a := nI m) (by show am_vI (some (V 0 1)) = _; rw [hm]; rfl) ?_
  refine ev_b (a := .ref 1) rfl ?_
  refine ev_b (a := 600) rfl ?_
  refine ev_f (nI_ge (a := m) (b := 600) hm6 (by decide)) ?_
  refine ev_b (a := .ref 1) rfl ?_
  have hasc : (fx V I L (rup R 1 (va_up (R 1) m (some (269 + tl.length)))) ++ tl) ++ (.inr (3, [.ref (269 + tl.length + 1), .int kd, .int ln, .int (nI s), .int (nI wd), .int x2, .int x3, .int x4, .int x5, .int x6, .long x7]) :: [.inl (0, s * wd, .inl (va_cpy (I 91) (fun _ => 0) 0 0 (s * wd)))]) = fx V I L (rup R 1 (va_up (R 1) m (some (269 + tl.length)))) ++ (tl ++ [.inr (3, [.ref (269 + tl.length + 1), .int kd, .int ln, .int (nI s), .int (nI wd), .int x2, .int x3, .int x4, .int x5, .int x6, .long x7]), .inl (0, s * wd, .inl (va_cpy (I 91) (fun _ => 0) 0 0 (s * wd)))]) := List.append_assoc _ _ _
  refine ev_b (ev_sA (f := R 1) (t := 4) (n := 600) (h1 := (fx V I L (rup R 1 (va_up (R 1) m (some (269 + tl.length)))) ++ tl) ++ (.inr (3, [.ref (269 + tl.length + 1), .int kd, .int ln, .int (nI s), .int (nI wd), .int x2, .int x3, .int x4, .int x5, .int x6, .long x7]) :: [.inl (0, s * wd, .inl (va_cpy (I 91) (fun _ => 0) 0 0 (s * wd)))])) rfl (am_gg0 hl) (by show (true && am_inb (nI m) 600) = true; exact am_inb_n hm6 (by omega)) (by rw [nI_clamp (by omega)]; rfl)) ?_
  refine ev_b (a := nI m) (by show am_vI (some (V 0 1)) = _; rw [hm]; rfl) ?_
  rw [nI_1, hasc]
  refine ev_b (pu_0_1 rfl) ?_
  rfl
theorem bear_c90 {V : Nat → Nat → Value} {I : Nat → Nat → Int32} {L : Nat → Nat → Int64} {R : Nat → Nat → Option Nat} {tl : am_H} {n kd ln sz : Nat} (h1 : V 90 1 = .int (nI kd)) (h2 : V 90 2 = .int (nI ln)) (h3 : V 90 3 = .int (nI sz)) (h4 : V 90 4 = .int (nI (wdN kd))) (hk : kd ≤ 3) (hsz : sz * wdN kd ≤ 120) (hm : V 0 1 = .int (nI n)) (hn : n < 600) (x1 x2 x3 x4 x5 : Int32) (x6 : Int64) : fm_59 (.ref 0) (.ref 90) x1 x2 x3 x4 x5 x6 (fx V I L R ++ tl) = some (.inl (some (.int (nI n)), fx (vup V 0 1 (.int (nI (n + 1)))) I L (rup R 1 (va_up (R 1) n (some (269 + tl.length)))) ++ (tl ++ brt tl.length kd ln sz x1 x2 x3 x4 x5 x6 (va_cpy (I 91) (fun _ => 0) 0 0 (sz * wdN kd))))) := by
  have w5 : wdN kd ≤ 5 := by unfold wdN; split <;> omega
  have w1 : 1 ≤ wdN kd := by unfold wdN; split <;> omega
  exact x_59g90 h1 h2 h3 h4 (by rcases (by omega : kd = 0 ∨ kd = 1 ∨ kd = 2 ∨ kd = 3) with rfl | rfl | rfl | rfl <;> rfl) (by omega) hsz w1 hm hn x1 x2 x3 x4 x5 x6
theorem gd_snd {kd ln : Nat} {Q : xI} {s v : Nat → Int32} (hg : gdP kd ln Q) (hl : lay2 s v Q) : sound kd ln Q.length s v := by
  obtain ⟨g1, g2, g3, g4, g5, g6⟩ := hg
  have at' : ∀ k, k < Q.length → s k = srt Q k ∧ v k = vlu Q k := fun k hk => hl k _ (srt_at hk)
  rcases (by omega : kd = 0 ∨ kd = 1 ∨ kd = 2 ∨ kd = 3) with rfl | rfl | rfl | rfl
  · obtain ⟨l0, ho, et⟩ := g3 rfl
    subst l0
    have := sound_T (Q := uTx Q) (s := s) (v := v) ho (by rw [uTx_len]; exact g2) (by rw [et]; exact hl)
    rw [uTx_len] at this
    exact this
  · obtain ⟨l0, l1, hoI, hv, -, g, hX⟩ := g4 rfl
    subst l0
    exact snd_code hoI hv l1 g2 hX hl
  · obtain ⟨l0, l1, m6, mk⟩ := g5 rfl
    refine ⟨by omega, g2, fun _ => ⟨l1, l0⟩, fun e => absurd e (by decide), fun e => absurd e (by decide), fun _ => ⟨m6, fun k hk => ?_⟩, fun e => absurd e (by decide)⟩
    obtain ⟨t, x, x1, x2, x3⟩ := mk k hk
    rw [(at' k hk).1, (at' k hk).2]
    have y0 := x3 0 (by omega)
    have y1 := x3 1 (by omega)
    have y2 := x3 2 (by omega)
    have y3 := x3 3 (by omega)
    refine ⟨t, x % 8, x / 8 % 8, x / 64 % 8, x / 512 % 8, by omega, by omega, by omega, by omega, ?_⟩
    rw [x2]
    congr 1
    omega
  · obtain ⟨l2, l8, h40, mk⟩ := g6 rfl
    refine ⟨by omega, g2, fun e => absurd rfl e, fun e => absurd e (by decide), fun e => absurd e (by decide), fun e => absurd e (by decide), fun _ => ⟨l2, l8, h40, fun k hk => ?_⟩⟩
    rw [(at' k hk).1, (at' k hk).2]
    exact mk k hk
theorem itm_cp {kd : Nat} {Q : xI} {s v f g : Nat → Int32} (h : itm kd (srt Q) (vlu Q) Q.length f) (hl : lay2 s v Q) : itm kd s v Q.length (va_cpy f g 0 0 (Q.length * wdN kd)) := by
  have at' : ∀ k, k < Q.length → s k = srt Q k ∧ v k = vlu Q k := fun k hk => hl k _ (srt_at hk)
  unfold itm at h ⊢
  by_cases c : kd = 2
  · rw [if_pos c] at h ⊢
    have w : wdN kd = 5 := by unfold wdN; rw [if_pos c]
    rw [w]
    intro k hk
    rw [(at' k hk).1, (at' k hk).2, cpy0 (by omega)]
    exact ⟨(h k hk).1, fun d hd => by rw [cpy0 (by omega)]; exact (h k hk).2 d hd⟩
  · rw [if_neg c] at h ⊢
    rw [wd2 c]
    intro k hk
    rw [(at' k hk).1, (at' k hk).2, cpy0 (by omega), cpy0 (by omega)]
    exact h k hk
theorem cnt_ad (cd : Nat → Option xI) : ∀ a b s, cnt cd (a + b) s = cnt cd a s + cnt cd b (s + a) := by
  intro a
  induction a with
  | zero => intro b s; rw [Nat.zero_add]; show _ = 0 + _; rw [Nat.zero_add, Nat.add_zero]
  | succ a ih =>
    intro b s
    rw [show a + 1 + b = (a + b) + 1 by omega, cnt_s2, cnt_s2, ih, show s + 1 + a = s + (a + 1) by omega, Nat.add_assoc]
theorem cnt_lt {cd : Nat → Option xI} {c d : Nat} (h : c < d) (hc : (cd c).isSome = true) : cnt cd c 0 < cnt cd d 0 := by
  obtain ⟨m, rfl⟩ : ∃ m, d = c + (m + 1) := ⟨d - c - 1, by omega⟩
  rw [cnt_ad, Nat.zero_add, cnt_s2, if_pos hc]
  omega
theorem cnt_u {cd : Nat → Option xI} {c d : Nat} (hc : (cd c).isSome = true) (hd : (cd d).isSome = true) (h : cnt cd c 0 = cnt cd d 0) : c = d := by
  rcases Nat.lt_trichotomy c d with q | q | q
  · have := cnt_lt q hc; omega
  · exact q
  · have := cnt_lt q hd; omega
theorem gd_w {kd ln : Nat} {Q : xI} (hg : gdP kd ln Q) : Q.length * wdN kd ≤ 120 := by
  by_cases c : kd = 2
  · have := (hg.2.2.2.2.1 c).2.2.1
    have w : wdN kd = 5 := by unfold wdN; rw [if_pos c]
    rw [w]; omega
  · rw [wd2 c]; have := hg.2.1; omega
theorem ped_3 {n b w y : Nat} (hb : b < n) (hn : n ≤ 600) (hw : w ≤ 4) (hy : y < 1000000) : ped n 3 (nI b) (-1) (nI w) (nI y) := ⟨3, by decide, rfl, .inr ⟨b, hb, rfl⟩, .inl rfl, fun _ => nI_nm1 (by omega), fun h => absurd h (by decide), fun _ => ⟨rfl, w, hw, rfl⟩, .inr ⟨y, hy, rfl⟩⟩
theorem gd_l8 {kd ln : Nat} {P : xI} (h : gdP kd ln P) : ln ≤ 8 := by
  obtain ⟨g1, g2, g3, g4, g5, g6⟩ := h
  rcases (by omega : kd = 0 ∨ kd = 1 ∨ kd = 2 ∨ kd = 3) with rfl | rfl | rfl | rfl
  · rw [(g3 rfl).1]; omega
  · rw [(g4 rfl).1]; omega
  · rw [(g5 rfl).1]; omega
  · exact (g6 rfl).2.1
theorem gen_3 {I : Nat → Nat → Int32} {n b w y kd ln : Nat} {P : xI} (hb : b < n) (hn : n ≤ 600) (hw : w < 4) (hy : y < 1000000) (hg : gdP kd ln P) (q1 : I 175 b = nI kd) (q2 : I 176 b = nI P.length) (q3 : I 177 b = nI ln) (hp : P = prgI I b P.length) (hc : y < cnt (cdE kd ln P w) (ncE kd ln P.length w) 0) : gen1 I n 3 (nI b) (-1) (nI w) (nI y) := by
  refine ⟨fun _ e => ?_, fun e => absurd e (by decide), fun _ w' j hw' hj e1 e2 => ?_, fun e => absurd e (by decide)⟩
  · have := (nI_eq (b := 4) (by omega) (by decide)).mp e
    omega
  · have w1 := (nI_eq (by omega) (by omega)).mp e1
    have j1 := (nI_eq (by omega) (by omega)).mp e2
    subst w1
    subst j1
    exact ⟨b, kd, ln, P.length, hb, rfl, hg.1, hg.2.1, gd_l8 hg, q1, q2, q3, by rw [← hp]; exact hc⟩
theorem w_80 {V : Nat → Nat → Value} {I : Nat → Nat → Int32} {L : Nat → Nat → Int64} {R : Nat → Nat → Option Nat} {tl : am_H} {N : Nat} {x1 x2 x3 x4 c : Int32} (h : fg_469_80 N (.ref 174) x1 x2 x3 x4 (.ref 174) 0 (fx V I L R ++ tl) = fg_469_124 N (.ref 174) x1 x2 x3 (.ref 174) c (fx (vup V 174 95 (.int 0)) I L R ++ tl)) (hc : ¬ c ≤ 0) : fg_469_80 N (.ref 174) x1 x2 x3 x4 (.ref 174) 0 (fx V I L R ++ tl) = some (.inl (some (.int 0), fx (vup (vup V 174 95 (.int 0)) 174 0 (.int c)) I L R ++ tl)) := by
  rw [h]
  apply hd_469_124
  exact ev_b qp_174_0 (ev_b (a := c) rfl (ev_f hc (hd_469_148 rfl)))
set_option maxRecDepth 100000 in
set_option maxHeartbeats 4000000 in
theorem u_28 {V : Nat → Nat → Value} {I : Nat → Nat → Int32} {L : Nat → Nat → Int64} {R : Nat → Nat → Option Nat} {tl : am_H} {n p j : Nat} (hr : rel V I L R tl n p) (hm : room tl n p j) {N : Nat} (hN : 5000 < N) (a1 a2 a3 : Int32) : ∃ h', opBI (fm_185 N (.ref 0) a1 a2 a3 (.ref 268) (fx V I L R ++ tl)) (fun h1 => fm_469 N (.ref 174) a1 a2 a3 h1) vfI h' ∧ invW (j + 1) h' := by
  obtain ⟨b1, b2, b3⟩ := hr.1
  have hwt := rel_w hr
  rcases dich a1 (n := n) (by omega) with hn | ⟨b, hb, rfl⟩
  · refine ⟨_, opBI_err (c := 1) (b := 0) (by decide) (tl := tl ++ [am_dummy]) ?_ ?_, inv_mk (rel_thr 1 (rel_dum hr)) (room_dum hm)⟩
    · have e : fm_186 N (.ref 0) a1 a2 a3 (fx V I L R ++ tl) = some (.inr (2, (fx V I L R ++ (tl ++ [am_dummy])))) := by
        apply hm_186
        apply hd_186_0
        refine ev_i rfl ?_
        rw [c_63n b2 hn]
        rfl
      unfold fm_185 fg_185_0
      refine ev_i rfl ?_
      rw [e]
      rfl
    · show fm_469 N (.ref 174) a1 a2 a3 (fx V I L R ++ (tl ++ [am_dummy])) = _
      apply hm_469
      apply hd_469_0
      refine ev_i rfl (ev_cI (r_358n b3 b1 hn) (ev_f (fun e => e rfl) ?_))
      apply hd_469_14
      exact ev_b qp_174_0 (ev_b (a := 1) rfl (ev_f (by decide) rfl))
  obtain ⟨kd, ln, P, a, it, hg, q1, q2, q3, q4, q5, q6, q7⟩ := bth_E hr hb
  -- the reference up to the load
  have refL : ∀ (X : Nat → Nat → Value) (Y : Nat → Nat → Int32) (M : Nat → Nat → Int64) (S : Nat → Nat → Option Nat) (t : am_H) (o : Option am_O) (v6 : Int32), X 174 1 = .int (nI n) → pv_327 a2.toInt64 0 3 = v6 → ∀ (W1 : Nat → Nat → Value) (J1 : Nat → Nat → Int32), fm_391 N (.ref 174) (nI b) (fx (vup X 174 0 (.int 0)) Y M S ++ t) = some (.inl (none, fx W1 J1 M S ++ t)) → (if v6 = 0 then (fg_469_58 N (.ref 174) (nI b) a2 a3 v6 (fx W1 J1 M S ++ t)) else (if a3 < 0 then (fg_469_58 N (.ref 174) (nI b) a2 a3 v6 (fx W1 J1 M S ++ t)) else (if am_pOk 12 (.ref 174) (fx W1 J1 M S ++ t) then am_cI true (fm_439 N (.ref 174) a2 a3 (fx W1 J1 M S ++ t)) (fun v16 h17 => (fg_469_58 N (.ref 174) (nI b) a2 a3 v6 h17)) else none))) = o → fm_469 N (.ref 174) (nI b) a2 a3 (fx X Y M S ++ t) = o := fun X Y M S t o v6 x1 e6 W1 J1 e391 k_ => by
    apply hm_469
    apply hd_469_0
    refine ev_i rfl (ev_cI (r_358 x1 b1 hb) (ev_t (by decide) ?_))
    apply hd_469_14
    refine ev_b qp_174_0 (ev_b (a := 0) rfl (ev_t (by decide) (ev_cI (pe_327 _ _ _ _) ?_)))
    rw [e6]
    exact ev_i rfl (ev_cV e391 k_)
  have q1' : ∀ (Y : Nat → Nat → Int32), (∀ y, y ∈ iRel → Y y = I y) → Y 175 b = nI kd ∧ Y 176 b = nI P.length ∧ Y 177 b = nI ln ∧ lay2 (fun k => Y 184 (60 * b + k)) (fun k => Y 185 (60 * b + k)) P := fun Y iR => ⟨(congrFun (iR 175 (by decide)) b).trans q1, (congrFun (iR 176 (by decide)) b).trans q2, (congrFun (iR 177 (by decide)) b).trans q3, by rw [iR 184 (by decide), iR 185 (by decide)]; exact q6⟩
  rcases dich a2 (n := 4) (by omega) with hn | ⟨w, hw, rfl⟩
  · obtain ⟨W1, J1, e1, f1, -⟩ := ld_E (V := vup V 174 0 (.int 0)) (I := I) (L := L) (R := R) (tl := tl ++ [am_dummy]) (N := N) (by omega) (by omega) hg q1 q2 q3 q6
    refine ⟨_, opBI_errg (W := vup (vup W1 174 95 (.int 0)) 174 0 (.int 2)) (J := J1) (M := L) (R2 := R) (t2 := tl ++ [am_dummy]) (h1 := fx V I L R ++ (tl ++ [am_dummy])) (c := 2) (b := 0) (by decide) ?_ rfl (refL V I L R (tl ++ [am_dummy]) _ 0 b3 (in_4n hn) W1 J1 e1 (ev_t rfl ?_)) rfl, inv_mk (rel_k (keep_t (keep_v (a := 174) (j := 0) (by decide) (by decide)) (keep_t (keep_39 f1) (keep_t (keep_v (a := 174) (j := 95) (by decide) (by decide)) (keep_v (a := 174) (j := 0) (by decide) (by decide))))) (rel_dum hr)) (room_dum hm)⟩
    · have e : fm_186 N (.ref 0) (nI b) a2 a3 (fx V I L R ++ tl) = some (.inr (0, (fx V I L R ++ (tl ++ [am_dummy])))) := by
        apply hm_186
        apply hd_186_0
        refine ev_i rfl (ev_cR (c_63 b2 b1 hb q4) rfl (ev_i rfl ?_))
        rw [c158n hn]
        rfl
      unfold fm_185 fg_185_0
      refine ev_i rfl ?_
      rw [e]
      rfl
    · apply hd_469_58
      refine ev_t rfl ?_
      apply hd_469_79
      refine w_80 ?_ (by decide)
      apply hd_469_80
      refine ev_b (qp_174_95 rfl) (ev_t rfl ?_)
      apply hd_469_100
      exact ev_f (fun e => e rfl) rfl
  obtain ⟨W1, J1, nC, e1, s1, h9, hC, f1⟩ := beg_E (V := V) (I := I) (L := L) (R := R) (tl := tl) (N := N) (by omega) hg hw hwt (q5 V I) (by omega) (by omega)
  have nb := ncE_b hg hw
  have k1 := keep_Cg f1
  have pre : ∀ (x : Int32) (W2 : Nat → Nat → Value) (J2 : Nat → Nat → Int32) o, fm_187 N (.ref 89) a3 (fx W1 J1 L R ++ tl) = some (.inl (some (.int x), fx W2 J2 L R ++ tl)) → (if ¬ x = 0 then (if am_pOk 11 (.ref 0) (fx W2 J2 L R ++ tl) then am_cV true (fm_32 (.ref 0) 1 (fx W2 J2 L R ++ tl)) (fun h24 => ((am_vR (am_pG 2823 (.ref 0) h24)).bind fun v26 => ((am_vR (am_pG 0 v26 h24)).bind fun v28 => (if am_pOk 11 (.ref 0) h24 then am_cI true (fm_59 (.ref 0) v28 3 (nI b) ((-1)) (nI w) a3 0 h24) (fun v31 h32 => some (.inl (some (.int v31), h32))) else none)))) else none) else some (.inr (2, (fx W2 J2 L R ++ tl) ++ [am_dummy]))) = o → fm_186 N (.ref 0) (nI b) (nI w) a3 (fx V I L R ++ tl) = o := fun x W2 J2 o e k_ => by
    apply hm_186
    apply hd_186_0
    exact ev_i rfl (ev_cR (c_63 b2 b1 hb q4) rfl (ev_i rfl (ev_cV (c158 hw) (ev_b (rdR rfl) (ev_i rfl (ev_cI e1 (ev_b (rdR rfl) (ev_i rfl (ev_cI e k_)))))))))
  -- nothing is found
  have miss : ∀ (W2 : Nat → Nat → Value) (J2 : Nat → Nat → Int32), keep V W2 I J2 → fm_187 N (.ref 89) a3 (fx W1 J1 L R ++ tl) = some (.inl (some (.int 0), fx W2 J2 L R ++ tl)) → (a3 < 0 ∨ ∃ y, a3 = nI y ∧ y < 2 ^ 31 ∧ ¬ y < cnt (cdE kd ln P w) (ncE kd ln P.length w) 0) → ∃ h', opBI (fm_185 N (.ref 0) (nI b) (nI w) a3 (.ref 268) (fx V I L R ++ tl)) (fun h1 => fm_469 N (.ref 174) (nI b) (nI w) a3 h1) vfI h' ∧ invW (j + 1) h' := fun W2 J2 k2 e hy => by
    have ec : fm_185 N (.ref 0) (nI b) (nI w) a3 (.ref 268) (fx V I L R ++ tl) = some (.inl (some (.int 1), fx W2 J2 L R ++ (tl ++ [am_dummy]))) := by
      have e : fm_186 N (.ref 0) (nI b) (nI w) a3 (fx V I L R ++ tl) = some (.inr (2, fx W2 J2 L R ++ (tl ++ [am_dummy]))) := pre 0 W2 J2 _ e (ev_f (fun e => e rfl) (by rw [List.append_assoc]))
      unfold fm_185 fg_185_0
      refine ev_i rfl ?_
      rw [e]
      rfl
    obtain ⟨y1, y2, y3, y4⟩ := q1' J2 k2.2.1
    have x1 : W2 174 1 = .int (nI n) := (k2.1 174 1 (by decide)).trans b3
    have fin : ∀ (W4 : Nat → Nat → Value) (J4 : Nat → Nat → Int32), keep V W4 I J4 → fm_469 N (.ref 174) (nI b) (nI w) a3 (fx W2 J2 L R ++ (tl ++ [am_dummy])) = fg_469_80 N (.ref 174) (nI b) (nI w) a3 1 (.ref 174) 0 (fx W4 J4 L R ++ (tl ++ [am_dummy])) → ∃ h', opBI (fm_185 N (.ref 0) (nI b) (nI w) a3 (.ref 268) (fx V I L R ++ tl)) (fun h1 => fm_469 N (.ref 174) (nI b) (nI w) a3 h1) vfI h' ∧ invW (j + 1) h' := fun W4 J4 k4 e4 => by
      refine ⟨_, opBI_errg (W := vup (vup W4 174 95 (.int 0)) 174 0 (.int 1)) (J := J4) (M := L) (R2 := R) (t2 := tl ++ [am_dummy]) (h1 := fx W2 J2 L R ++ (tl ++ [am_dummy])) (c := 1) (b := 0) (by decide) ec rfl (e4.trans (w_80 ?_ (by decide))) rfl, inv_mk (rel_k (keep_t k4 (keep_t (keep_v (a := 174) (j := 95) (by decide) (by decide)) (keep_v (a := 174) (j := 0) (by decide) (by decide)))) (rel_dum hr)) (room_dum hm)⟩
      apply hd_469_80
      exact ev_b (qp_174_95 rfl) (ev_f (by decide) (ev_b (a := 0) rfl (ev_f (fun e => e rfl) rfl)))
    rcases hy with hy | ⟨y, rfl, y31, hy⟩
    · obtain ⟨W3, J3, e3, f3, -⟩ := ld_E (V := vup W2 174 0 (.int 0)) (I := J2) (L := L) (R := R) (tl := tl ++ [am_dummy]) (N := N) (by omega) (by omega) hg y1 y2 y3 y4
      refine fin W3 J3 (keep_t k2 (keep_t (keep_v (a := 174) (j := 0) (by decide) (by decide)) (keep_39 f3))) (refL W2 J2 L R (tl ++ [am_dummy]) _ 1 x1 (in_4 w hw) W3 J3 e3 (ev_f (by decide) (ev_t hy ?_)))
      apply hd_469_58
      exact ev_f (by decide) (ev_t hy (hd_469_79 rfl))
    · obtain ⟨W3, J3, W4, J4, x, r1, r2, o, hx, f3, f4, k4⟩ := edR (V := vup W2 174 0 (.int 0)) (I := J2) (L := L) (R := R) (tl := tl ++ [am_dummy]) (N := N) (so := nI y) (by omega) (by omega) hg hw (wt_i (k2.2.2 hwt) (by decide)) y1 y2 y3 y4
      have h95 : W4 174 95 = .int 0 := by
        rcases o with ⟨-, -, c, Q, c1, c2, c3, -⟩ | ⟨-, -, o3, -⟩
        · exfalso
          have ce := cnt_lt c1 (cd := cdE kd ln P w) (by rw [c2]; rfl)
          have cm := cnt_m (cdE kd ln P w) (ncE kd ln P.length w) 0
          have := (nI_eq (by omega) (by omega)).mp c3
          omega
        · exact o3
      refine fin W4 J4 (keep_t k2 (keep_t (keep_v (a := 174) (j := 0) (by decide) (by decide)) k4)) (refL W2 J2 L R (tl ++ [am_dummy]) _ 1 x1 (in_4 w hw) W3 J3 r1 (ev_f (by decide) (ev_f (nI_pos (by omega)) (ev_i rfl (ev_cI r2 ?_)))))
      apply hd_469_58
      exact ev_f (by decide) (ev_f (nI_pos (by omega)) (ev_b (rdI h95) (ev_t rfl (hd_469_79 rfl))))
  by_cases neg : a3 < 0
  · exact miss W1 J1 k1 (s187n (by omega) neg h9) (.inl neg)
  obtain ⟨y, y31, rfl⟩ : ∃ y, y < 2 ^ 31 ∧ a3 = nI y := by
    have h0 := Int32.not_lt.mp neg
    refine ⟨a3.toNatClampNeg, ?_, ?_⟩
    · have := Int32.toInt_lt a3
      have := Int32.le_iff_toInt_le.mp h0
      rw [show (0 : Int32).toInt = 0 by decide] at this
      show a3.toInt.toNat < _
      omega
    · apply Int32.toInt_inj.mp
      have t1 := Int32.toInt_lt a3
      have t0 := Int32.le_iff_toInt_le.mp h0
      rw [show (0 : Int32).toInt = 0 by decide] at t0
      rw [nI_toInt (by show a3.toInt.toNat < _; omega)]
      show a3.toInt = ((a3.toInt.toNat : Nat) : Int)
      omega
  obtain ⟨W2, J2, bb, e2, i2, d2, s2, f2⟩ := s187 (L := L) (R := R) (tl := tl) (N := N) (S := SE tl (269 + a) (269 + it) kd ln w P) (cd := cdE kd ln P w) nb hC (fun _ _ _ _ h f => SE_f h f) (fun V I h c hc => all_m (by omega) hg hw h hc) hN y31 s1 h9
  have k2 : keep V W2 I J2 := keep_t k1 (keep_Cg (frM_Cg f2))
  cases bb with
  | false => exact miss W2 J2 k2 e2 (.inr ⟨y, rfl, y31, fun h => Bool.noConfusion (i2.mpr h)⟩)
  | true =>
    have hlt := i2.mp rfl
    have cm := cnt_m (cdE kd ln P w) (ncE kd ln P.length w) 0
    obtain ⟨d, Q, dl, dq, dc, dh, d60⟩ := d2 rfl
    have gQ := cdE_gd hg hw dl dq
    have c01 : W2 0 1 = .int (nI n) := (k2.1 0 1 (by decide)).trans b2
    have c17 : W2 174 1 = .int (nI n) := (k2.1 174 1 (by decide)).trans b3
    -- the reference: found
    have hit : ∀ (X : Nat → Nat → Value) (M : Nat → Nat → Int64) (S : Nat → Nat → Option Nat) (t : am_H), X 174 1 = .int (nI n) → wt X → ∃ W4 J4, fm_469 N (.ref 174) (nI b) (nI w) (nI y) (fx X J2 M S ++ t) = fg_469_100 N (.ref 174) (nI b) (nI w) (nI y) 1 (.ref 174) (fx W4 J4 M S ++ t) ∧ keep X W4 J2 J4 ∧ W4 174 1 = .int (nI n) ∧ dkL W4 J4 Q ∧ W4 174 13 = .int (nI kd) ∧ W4 174 15 = .int (nI ln) := fun X M S t x1 wX => by
      obtain ⟨y1, y2, y3, y4⟩ := q1' J2 k2.2.1
      obtain ⟨W3, J3, W4, J4, x, r1, r2, o, hx, f3, f4, k4⟩ := edR (V := vup X 174 0 (.int 0)) (I := J2) (L := M) (R := S) (tl := t) (N := N) (so := nI y) (by omega) (by omega) hg hw (wt_i wX (by decide)) y1 y2 y3 y4
      have K := keep_t (keep_v (a := 174) (j := 0) (V := X) (I := J2) (x := 0) (by decide) (by decide)) k4
      rcases o with ⟨-, h95, c, Q', c1, c2, c3, c4, c5, c6⟩ | ⟨-, -, -, o4⟩
      · have ey := (nI_eq (by omega) (by have := cnt_m (cdE kd ln P w) c 0; omega)).mp c3
        have ecd : c = d := cnt_u (cd := cdE kd ln P w) (by rw [c2]; rfl) (by rw [dq]; rfl) (by omega)
        subst ecd
        have eQ : Q' = Q := by rw [dq] at c2; exact (Option.some.inj c2).symm
        subst eQ
        refine ⟨vup W4 174 95 (.int 1), J4, ?_, keep_t K (keep_v (a := 174) (j := 95) (by decide) (by decide)), (K.1 174 1 (by decide)).trans x1, c4, c5, c6⟩
        refine refL X J2 M S t _ 1 x1 (in_4 w hw) W3 J3 r1 (ev_f (by decide) (ev_f (nI_pos (by omega)) (ev_i rfl (ev_cI r2 ?_))))
        apply hd_469_58
        refine ev_f (by decide) (ev_f (nI_pos (by omega)) (ev_b (rdI h95) (ev_f (by decide) ?_)))
        apply hd_469_80
        exact ev_b (qp_174_95 rfl) (ev_f (by decide) (ev_b (a := 1) rfl (ev_t (by decide) rfl)))
      · exact absurd (o4 y (by omega) rfl) (by omega)
    by_cases c6 : n = 600
    · subst c6
      obtain ⟨W4, J4, r1, K, x4, -⟩ := hit W2 L R (tl ++ [am_dummy]) c17 (k2.2.2 hwt)
      refine ⟨_, opBI_errg (W := vup W4 174 0 (.int 3)) (J := J4) (M := L) (R2 := R) (t2 := tl ++ [am_dummy]) (h1 := fx W2 J2 L R ++ (tl ++ [am_dummy])) (c := 3) (b := 0) (by decide) ?_ rfl (r1.trans ?_) rfl, inv_mk (rel_k (keep_t k2 (keep_t K (keep_v (a := 174) (j := 0) (by decide) (by decide)))) (rel_dum hr)) (room_dum hm)⟩
      · have e : fm_186 N (.ref 0) (nI b) (nI w) (nI y) (fx V I L R ++ tl) = some (.inr (1, fx W2 J2 L R ++ (tl ++ [am_dummy]))) := pre 1 W2 J2 _ e2 (ev_t (by decide) (ev_i rfl (by rw [c_32n c01]; rfl)))
        unfold fm_185 fg_185_0
        refine ev_i rfl ?_
        rw [e]
        rfl
      · apply hd_469_100
        refine ev_t (by decide) (ev_b (rdI x4) (ev_f (fun e => e rfl) ?_))
        apply hd_469_124
        exact ev_b qp_174_0 (ev_b (a := 3) rfl (ev_f (by decide) (hd_469_148 rfl)))
    have hn : n < 600 := by omega
    have wQ := gd_w gQ
    have eb := bear_c90 (V := W2) (I := J2) (L := L) (R := R) (tl := tl) (n := n) (kd := kd) (ln := ln) (sz := Q.length) dh.1 dh.2.1 dh.2.2.1 dh.2.2.2.1 hg.1 wQ c01 hn 3 (nI b) (-1) (nI w) (nI y) 0
    obtain ⟨W4, J4, r1, K, x4, k13, k14, k15⟩ := hit (vup W2 0 1 (.int (nI (n + 1)))) (outL L (nI n).toInt64) (rup R 1 (va_up (R 1) n (some (269 + tl.length)))) (tl ++ brt tl.length kd ln Q.length 3 (nI b) (-1) (nI w) (nI y) 0 (va_cpy (J2 91) (fun _ => 0) 0 0 (Q.length * wdN kd))) ((vup_o (by decide)).trans c17) (wt_i (k2.2.2 hwt) (by decide))
    have nt : (if nI kd = 3 then nI ln else 0) = nI ln := by
      by_cases q : kd = 3
      · rw [if_pos (by rw [q]; rfl)]
      · have n3 : ¬ nI kd = (3 : Int32) := fun e => q ((nI_eq (b := 3) (by have := hg.1; omega) (by decide)).mp e)
        rw [if_neg n3]
        rcases (by have := hg.1; omega : kd = 0 ∨ kd = 1 ∨ kd = 2) with rfl | rfl | rfl
        · rw [(hg.2.2.1 rfl).1]; rfl
        · rw [(hg.2.2.2.1 rfl).1]; rfl
        · rw [(hg.2.2.2.2.1 rfl).1]; rfl
    have er := bear_r (V := vup W4 174 0 (.int 0)) (I := J4) (L := outL L (nI n).toInt64) (R := rup R 1 (va_up (R 1) n (some (269 + tl.length)))) (tl := tl ++ brt tl.length kd ln Q.length 3 (nI b) (-1) (nI w) (nI y) 0 (va_cpy (J2 91) (fun _ => 0) 0 0 (Q.length * wdN kd))) (N := N) (n := n) (kd := kd) (ln := ln) (sz := Q.length) x4 k14 k13.1 ⟨nI ln, k15, nt⟩ hn (by omega) (by omega) 3 (nI b) (-1) (nI w) (nI y) 0
    refine bear_fin (W := W2) (J := J2) (W' := vup W4 174 0 (.int 0)) (J' := J4) (kd := kd) (ln := ln) (sz := Q.length) (x1 := 3) (x2 := nI b) (x3 := -1) (x4 := nI w) (x5 := nI y) (x6 := 0) (F := va_cpy (J2 91) (fun _ => 0) 0 0 (Q.length * wdN kd)) hr hm hn wQ ?_ ?_ (keep_t (keep_up hwt (by decide) k2) (keep_t K (keep_v (a := 174) (j := 0) (by decide) (by decide)))) rfl (itm_cp dh.2.2.2.2 k13.2) (gd_snd gQ k13.2) (ped_3 hb b1 (by omega) (by omega)) (gen_3 hb b1 hw (by omega) hg q1 q2 q3 q7 hlt)
    · have e : fm_186 N (.ref 0) (nI b) (nI w) (nI y) (fx V I L R ++ tl) = _ := pre 1 W2 J2 _ e2 (ev_t (by decide) (ev_i rfl (ev_cV (c_32 c01 hn) (ev_b (rdR rfl) (ev_b (rdR rfl) (ev_i rfl (ev_cI eb rfl)))))))
      unfold fm_185 fg_185_0
      refine ev_i rfl ?_
      rw [e]
      exact ev_b out_s rfl
    · show fm_469 N (.ref 174) (nI b) (nI w) (nI y) _ = _
      refine r1.trans ?_
      apply hd_469_100
      refine ev_t (by decide) (ev_b (rdI x4) (ev_t (fun e => c6 ((nI_eq (b := 600) (by omega) (by decide)).mp e)) ?_))
      apply hd_469_124
      exact ev_b qp_174_0 (ev_b (a := 0) rfl (ev_t (by decide) (ev_i rfl (ev_cI er (hd_469_148 rfl)))))
