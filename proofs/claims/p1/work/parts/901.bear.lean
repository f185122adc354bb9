/-! ===== births ===== -/
set_option maxRecDepth 100000 in
set_option maxHeartbeats 4000000 in
/-- bear(): a child of the spare program -/
theorem x_59 {V : Nat → Nat → Value} {I : Nat → Nat → Int32} {L : Nat → Nat → Int64} {R : Nat → Nat → Option Nat} {tl : am_H} {s wd m : Nat} {kd ln : Int32} (h1 : V 167 1 = .int kd) (h2 : V 167 2 = .int ln) (h3 : V 167 3 = .int (nI s)) (h4 : V 167 4 = .int (nI wd)) (hwd : nI wd = if kd = 2 then 5 else 2) (hsw : 1 ≤ s * wd) (hsw2 : s * wd ≤ 120) (hwp : 1 ≤ wd) (hm : V 0 1 = .int (nI m)) (hm6 : m < 600) (x2 x3 x4 x5 x6 : Int32) (x7 : Int64) :
    fm_59 (.ref 0) (.ref 167) x2 x3 x4 x5 x6 x7 (fx V I L R ++ tl) = some (.inl (some (.int (nI m)), fx (vup V 0 1 (.int (nI (m + 1)))) I L (rup R 1 (va_up (R 1) m (some (269 + tl.length)))) ++ (tl ++ [.inr (3, [.ref (269 + tl.length + 1), .int kd, .int ln, .int (nI s), .int (nI wd), .int x2, .int x3, .int x4, .int x5, .int x6, .long x7]), .inl (0, s * wd, .inl (va_cpy (I 168) (fun _ => 0) 0 0 (s * wd)))]))) := by
  have hl : (fx V I L R ++ tl).length = 269 + tl.length := by rw [List.length_append, fx_len]
  have hs120 : s ≤ 120 := Nat.le_trans (Nat.le_mul_of_pos_right s hwp) hsw2
  have hw120 : wd ≤ 120 := Nat.le_trans (Nat.le_mul_of_pos_left wd (Nat.pos_of_ne_zero (fun e9 => by rw [e9, Nat.zero_mul] at hsw; omega))) hsw2
  have hsp : ∀ {X : am_H}, ((fx V I L R ++ tl) ++ X)[167]? = some (.inr (3, [.ref 168, V 167 1, V 167 2, V 167 3, V 167 4, V 167 5, V 167 6, V 167 7, V 167 8, V 167 9, V 167 10])) := fun {X} => rfl
  have hmul : nI s * nI wd = nI (s * wd) := (nI_mul s wd).symm
  have hclk : (nI (s * wd)).toNatClampNeg = s * wd := nI_clamp (by omega)
  unfold fm_59 fg_59_0
  refine ev_b (ev_o rfl rfl) ?_
  refine ev_b (ev_gI (x := nI s) hsp rfl (by show some (V 167 3) = _; rw [h3])) ?_
  refine ev_b (ev_gI (x := nI wd) hsp rfl (by show some (V 167 4) = _; rw [h4])) ?_
  rw [hl, hmul]
  refine ev_i (ev_ok (am_gg0 hl)) ?_
  refine ev_cV (ce_18 _ _ hl (nI (s * wd)) (nI_nle (by omega) (by omega)) (by rw [Bool.and_eq_true, decide_eq_true_eq, decide_eq_true_eq]; exact ⟨nI_pos' (by omega), nI_le (b := 1000000) (by omega) (by decide)⟩)) ?_
  rw [show cl_18 (269 + tl.length) (nI (s * wd)) = (.inr (3, [.ref (269 + tl.length + 1), .int 0, .int 0, .int 0, .int 2, .int 0, .int (-1), .int (-1), .int (-1), .int (-1), .long 0]) :: [.inl (0, s * wd, .inl (fun _ => 0))] : am_H) by unfold cl_18; rw [hclk]; rfl]
  refine ev_i (ev_ok (am_gg0 hl)) ?_
  have h34 : fm_34 (.ref (269 + tl.length)) kd ln ((fx V I L R ++ tl) ++ (.inr (3, [.ref (269 + tl.length + 1), .int 0, .int 0, .int 0, .int 2, .int 0, .int (-1), .int (-1), .int (-1), .int (-1), .long 0]) :: [.inl (0, s * wd, .inl (fun _ => 0))])) = some (.inl (none, (fx V I L R ++ tl) ++ (.inr (3, [.ref (269 + tl.length + 1), .int kd, .int ln, .int 0, .int (nI wd), .int 0, .int (-1), .int (-1), .int (-1), .int (-1), .long 0]) :: [.inl (0, s * wd, .inl (fun _ => 0))]))) := by
    unfold fm_34 fg_34_0
    refine ev_b (ev_p (fs1 := [.ref (269 + tl.length + 1), .int kd, .int 0, .int 0, .int 2, .int 0, .int (-1), .int (-1), .int (-1), .int (-1), .long 0]) (am_gg0 hl) rfl rfl (am_gs0 hl)) ?_
    refine ev_b (ev_p (fs1 := [.ref (269 + tl.length + 1), .int kd, .int ln, .int 0, .int 2, .int 0, .int (-1), .int (-1), .int (-1), .int (-1), .long 0]) (am_gg0 hl) rfl rfl (am_gs0 hl)) ?_
    refine ev_b (ev_p (fs1 := [.ref (269 + tl.length + 1), .int kd, .int ln, .int 0, .int 2, .int 0, .int (-1), .int (-1), .int (-1), .int (-1), .long 0]) (am_gg0 hl) rfl rfl (am_gs0 hl)) ?_
    rw [hwd]
    by_cases c2 : kd = 2
    · rw [if_pos c2]
      refine ev_f (fun e9 => e9 c2) ?_
      unfold fg_34_26
      exact ev_b (ev_p (fs1 := [.ref (269 + tl.length + 1), .int kd, .int ln, .int 0, .int 5, .int 0, .int (-1), .int (-1), .int (-1), .int (-1), .long 0]) (am_gg0 hl) rfl rfl (am_gs0 hl)) rfl
    · rw [if_neg c2]
      refine ev_t c2 ?_
      unfold fg_34_26
      exact ev_b (ev_p (fs1 := [.ref (269 + tl.length + 1), .int kd, .int ln, .int 0, .int 2, .int 0, .int (-1), .int (-1), .int (-1), .int (-1), .long 0]) (am_gg0 hl) rfl rfl (am_gs0 hl)) rfl
  have h60 : fm_60 (.ref (269 + tl.length)) (.ref 167) ((fx V I L R ++ tl) ++ (.inr (3, [.ref (269 + tl.length + 1), .int 0, .int 0, .int 0, .int 2, .int 0, .int (-1), .int (-1), .int (-1), .int (-1), .long 0]) :: [.inl (0, s * wd, .inl (fun _ => 0))])) = some (.inl (none, (fx V I L R ++ tl) ++ (.inr (3, [.ref (269 + tl.length + 1), .int kd, .int ln, .int (nI s), .int (nI wd), .int 0, .int (-1), .int (-1), .int (-1), .int (-1), .long 0]) :: [.inl (0, s * wd, .inl (va_cpy (I 168) (fun _ => 0) 0 0 (s * wd)))]))) := by
    unfold fm_60 fg_60_0
    refine ev_b (ev_gI (x := kd) hsp rfl (by show some (V 167 1) = _; rw [h1])) ?_
    refine ev_b (ev_gI (x := ln) hsp rfl (by show some (V 167 2) = _; rw [h2])) ?_
    refine ev_i (ev_ok (am_gg0 hl)) ?_
    refine ev_cV h34 ?_
    refine ev_b (ev_gI (x := nI s) hsp rfl (by show some (V 167 3) = _; rw [h3])) ?_
    refine ev_b (ev_gI (x := nI wd) (am_gg0 hl) rfl rfl) ?_
    refine ev_b (ev_gR (x := .ref (269 + tl.length + 1)) (am_gg0 hl) rfl rfl rfl) ?_
    refine ev_b (a := nI (s * wd)) (by unfold am_pLen; simp only [show ((fx V I L R ++ tl) ++ (.inr (3, [.ref (269 + tl.length + 1), .int kd, .int ln, .int 0, .int (nI wd), .int 0, .int (-1), .int (-1), .int (-1), .int (-1), .long 0]) :: [.inl (0, s * wd, .inl (fun _ => 0))]))[269 + tl.length + 1]? = some (.inl (0, s * wd, .inl (fun _ => 0))) from am_gk (k := 1) hl rfl]; rfl) ?_
    rw [hmul]
    refine ev_f (nI_nlt (Nat.le_refl _) (by omega)) ?_
    refine ev_b (ev_gI (x := nI s) hsp rfl (by show some (V 167 3) = _; rw [h3])) ?_
    refine ev_b (ev_p (fs1 := [.ref (269 + tl.length + 1), .int kd, .int ln, .int (nI s), .int (nI wd), .int 0, .int (-1), .int (-1), .int (-1), .int (-1), .long 0]) (am_gg0 hl) rfl rfl (am_gs0 hl)) ?_
    refine ev_b (ev_gR (x := .ref 168) hsp rfl rfl rfl) ?_
    refine ev_b (ev_gR (x := .ref (269 + tl.length + 1)) (am_gg0 hl) rfl rfl rfl) ?_
    refine ev_b (ev_gI (x := nI s) (am_gg0 hl) rfl rfl) ?_
    refine ev_b (ev_gI (x := nI wd) (am_gg0 hl) rfl rfl) ?_
    rw [hmul]
    refine ev_b (ev_cpy (f := I 168) (g := fun _ => 0) (n0 := 120) (n1 := s * wd) (sp := 0) (dp := 0) (n := s * wd) (h1 := (fx V I L R ++ tl) ++ (.inr (3, [.ref (269 + tl.length + 1), .int kd, .int ln, .int (nI s), .int (nI wd), .int 0, .int (-1), .int (-1), .int (-1), .int (-1), .long 0]) :: [.inl (0, s * wd, .inl (va_cpy (I 168) (fun _ => 0) 0 0 (s * wd)))])) rfl (am_gk (k := 1) hl rfl) (by omega) (by omega) (by omega) (by omega) (am_gsk (k := 1) hl rfl)) ?_
    rfl
  refine ev_cV h60 ?_
  refine ev_b (ev_p (fs1 := [.ref (269 + tl.length + 1), .int kd, .int ln, .int (nI s), .int (nI wd), .int x2, .int (-1), .int (-1), .int (-1), .int (-1), .long 0]) (am_gg0 hl) rfl rfl (am_gs0 hl)) ?_
  refine ev_b (ev_p (fs1 := [.ref (269 + tl.length + 1), .int kd, .int ln, .int (nI s), .int (nI wd), .int x2, .int x3, .int (-1), .int (-1), .int (-1), .long 0]) (am_gg0 hl) rfl rfl (am_gs0 hl)) ?_
  refine ev_b (ev_p (fs1 := [.ref (269 + tl.length + 1), .int kd, .int ln, .int (nI s), .int (nI wd), .int x2, .int x3, .int x4, .int (-1), .int (-1), .long 0]) (am_gg0 hl) rfl rfl (am_gs0 hl)) ?_
  refine ev_b (ev_p (fs1 := [.ref (269 + tl.length + 1), .int kd, .int ln, .int (nI s), .int (nI wd), .int x2, .int x3, .int x4, .int x5, .int (-1), .long 0]) (am_gg0 hl) rfl rfl (am_gs0 hl)) ?_
  refine ev_b (ev_p (fs1 := [.ref (269 + tl.length + 1), .int kd, .int ln, .int (nI s), .int (nI wd), .int x2, .int x3, .int x4, .int x5, .int x6, .long 0]) (am_gg0 hl) rfl rfl (am_gs0 hl)) ?_
  refine ev_b (ev_p (fs1 := [.ref (269 + tl.length + 1), .int kd, .int ln, .int (nI s), .int (nI wd), .int x2, .int x3, .int x4, .int x5, .int x6, .long x7]) (am_gg0 hl) rfl rfl (am_gs0 hl)) ?_
  refine ev_b (a := nI m) (by show am_vI (some (V 0 1)) = _; rw [hm]; rfl) ?_
  refine ev_b (a := .ref 1) rfl ?_
  refine ev_b (a := 600) rfl ?_
  refine ev_f (nI_ge (a := m) (b := 600) hm6 (by decide)) ?_
  refine ev_b (a := .ref 1) rfl ?_
  have hasc : (fx V I L (rup R 1 (va_up (R 1) m (some (269 + tl.length)))) ++ tl) ++ (.inr (3, [.ref (269 + tl.length + 1), .int kd, .int ln, .int (nI s), .int (nI wd), .int x2, .int x3, .int x4, .int x5, .int x6, .long x7]) :: [.inl (0, s * wd, .inl (va_cpy (I 168) (fun _ => 0) 0 0 (s * wd)))]) = fx V I L (rup R 1 (va_up (R 1) m (some (269 + tl.length)))) ++ (tl ++ [.inr (3, [.ref (269 + tl.length + 1), .int kd, .int ln, .int (nI s), .int (nI wd), .int x2, .int x3, .int x4, .int x5, .int x6, .long x7]), .inl (0, s * wd, .inl (va_cpy (I 168) (fun _ => 0) 0 0 (s * wd)))]) := List.append_assoc _ _ _
  refine ev_b (ev_sA (f := R 1) (t := 4) (n := 600) (h1 := (fx V I L (rup R 1 (va_up (R 1) m (some (269 + tl.length)))) ++ tl) ++ (.inr (3, [.ref (269 + tl.length + 1), .int kd, .int ln, .int (nI s), .int (nI wd), .int x2, .int x3, .int x4, .int x5, .int x6, .long x7]) :: [.inl (0, s * wd, .inl (va_cpy (I 168) (fun _ => 0) 0 0 (s * wd)))])) rfl (am_gg0 hl) (by show (true && am_inb (nI m) 600) = true; exact am_inb_n hm6 (by omega)) (by rw [nI_clamp (by omega)]; rfl)) ?_
  refine ev_b (a := nI m) (by show am_vI (some (V 0 1)) = _; rw [hm]; rfl) ?_
  rw [nI_1, hasc]
  refine ev_b (pu_0_1 rfl) ?_
  rfl
