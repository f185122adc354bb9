/-! ===== bearing what lies in the spare program, and what lies on the desk ===== -/
set_option maxRecDepth 100000 in
set_option maxHeartbeats 1600000 in
theorem ce_18z (h1 : am_H) (n : Nat) (hn : h1.length = n) (k : Int32) (hk0 : k = 0) : fm_18 (.ref n) k (h1 ++ [.inr (3, [.null, .int 0, .int 0, .int 0, .int 0, .int 0, .int 0, .int 0, .int 0, .int 0, .long 0])]) = some (.inl (none, h1 ++ cl_18 n k)) := by
  unfold fm_18
  unfold fg_18_0
  refine ev_i rfl ?_
  refine ev_b (ev_p (fs1 := [.null, .int 0, .int 0, .int 0, .int 0, .int 0, .int 0, .int 0, .int 0, .int 0, .long 0]) (am_gg0 hn) rfl rfl (am_gs0 hn)) ?_
  refine ev_b (ev_p (fs1 := [.null, .int 0, .int 0, .int 0, .int 0, .int 0, .int 0, .int 0, .int 0, .int 0, .long 0]) (am_gg0 hn) rfl rfl (am_gs0 hn)) ?_
  refine ev_b (ev_p (fs1 := [.null, .int 0, .int 0, .int 0, .int 0, .int 0, .int 0, .int 0, .int 0, .int 0, .long 0]) (am_gg0 hn) rfl rfl (am_gs0 hn)) ?_
  refine ev_b (ev_p (fs1 := [.null, .int 0, .int 0, .int 0, .int 2, .int 0, .int 0, .int 0, .int 0, .int 0, .long 0]) (am_gg0 hn) rfl rfl (am_gs0 hn)) ?_
  refine ev_b (ev_p (fs1 := [.null, .int 0, .int 0, .int 0, .int 2, .int 0, .int 0, .int 0, .int 0, .int 0, .long 0]) (am_gg0 hn) rfl rfl (am_gs0 hn)) ?_
  refine ev_b (ev_p (fs1 := [.null, .int 0, .int 0, .int 0, .int 2, .int 0, .int (-1), .int 0, .int 0, .int 0, .long 0]) (am_gg0 hn) rfl rfl (am_gs0 hn)) ?_
  refine ev_b (ev_p (fs1 := [.null, .int 0, .int 0, .int 0, .int 2, .int 0, .int (-1), .int (-1), .int 0, .int 0, .long 0]) (am_gg0 hn) rfl rfl (am_gs0 hn)) ?_
  refine ev_b (ev_p (fs1 := [.null, .int 0, .int 0, .int 0, .int 2, .int 0, .int (-1), .int (-1), .int (-1), .int 0, .long 0]) (am_gg0 hn) rfl rfl (am_gs0 hn)) ?_
  refine ev_b (ev_p (fs1 := [.null, .int 0, .int 0, .int 0, .int 2, .int 0, .int (-1), .int (-1), .int (-1), .int (-1), .long 0]) (am_gg0 hn) rfl rfl (am_gs0 hn)) ?_
  refine ev_b (ev_p (fs1 := [.null, .int 0, .int 0, .int 0, .int 2, .int 0, .int (-1), .int (-1), .int (-1), .int (-1), .long 0]) (am_gg0 hn) rfl rfl (am_gs0 hn)) ?_
  refine ev_t (by rw [hk0]; decide) ?_
  unfold fg_18_64
  refine ev_b (ev_n (by decide) (am_gp (e2 := .inl (0, (0 : Int32).toNatClampNeg, .inl (fun _ => 0))) rfl)) ?_
  rw [show List.length (h1 ++ (.inr (3, [.null, .int 0, .int 0, .int 0, .int 2, .int 0, .int (-1), .int (-1), .int (-1), .int (-1), .long 0]) :: []) : am_H) = n + 1 from am_gl hn rfl]
  refine ev_b (ev_p (fs1 := [.ref (n + 1), .int 0, .int 0, .int 0, .int 2, .int 0, .int (-1), .int (-1), .int (-1), .int (-1), .long 0]) (am_gg0 hn) rfl rfl (am_gs0 hn)) ?_
  rw [hk0]
  rfl
theorem ce_18g {h1 : am_H} {n k : Nat} (hn : h1.length = n) (hk : k ≤ 120) : fm_18 (.ref n) (nI k) (h1 ++ [.inr (3, [.null, .int 0, .int 0, .int 0, .int 0, .int 0, .int 0, .int 0, .int 0, .int 0, .long 0])]) = some (.inl (none, h1 ++ cl_18 n (nI k))) := by
  by_cases c : k = 0
  · rw [c]
    exact ce_18z h1 n hn (nI 0) rfl
  · exact ce_18 _ _ hn (nI k) (nI_nle (by omega) (by omega)) (by rw [Bool.and_eq_true, decide_eq_true_eq, decide_eq_true_eq]; exact ⟨nI_pos' (by omega), nI_le (b := 1000000) (by omega) (by decide)⟩)
set_option maxRecDepth 100000 in
set_option maxHeartbeats 1600000 in
theorem x_59g {V : Nat → Nat → Value} {I : Nat → Nat → Int32} {L : Nat → Nat → Int64} {R : Nat → Nat → Option Nat} {tl : am_H} {s wd m : Nat} {kd ln : Int32} (h1 : V 167 1 = .int kd) (h2 : V 167 2 = .int ln) (h3 : V 167 3 = .int (nI s)) (h4 : V 167 4 = .int (nI wd)) (hwd : nI wd = if kd = 2 then 5 else 2) (hw120 : wd ≤ 120) (hsw2 : s * wd ≤ 120) (hwp : 1 ≤ wd) (hm : V 0 1 = .int (nI m)) (hm6 : m < 600) (x2 x3 x4 x5 x6 : Int32) (x7 : Int64) :
    fm_59 (.ref 0) (.ref 167) x2 x3 x4 x5 x6 x7 (fx V I L R ++ tl) = some (.inl (some (.int (nI m)), fx (vup V 0 1 (.int (nI (m + 1)))) I L (rup R 1 (va_up (R 1) m (some (269 + tl.length)))) ++ (tl ++ [.inr (3, [.ref (269 + tl.length + 1), .int kd, .int ln, .int (nI s), .int (nI wd), .int x2, .int x3, .int x4, .int x5, .int x6, .long x7]), .inl (0, s * wd, .inl (va_cpy (I 168) (fun _ => 0) 0 0 (s * wd)))]))) := by
  have hl : (fx V I L R ++ tl).length = 269 + tl.length := by rw [List.length_append, fx_len]
  have hs120 : s ≤ 120 := Nat.le_trans (Nat.le_mul_of_pos_right s hwp) hsw2
  have hsp : ∀ {X : am_H}, ((fx V I L R ++ tl) ++ X)[167]? = some (.inr (3, [.ref 168, V 167 1, V 167 2, V 167 3, V 167 4, V 167 5, V 167 6, V 167 7, V 167 8, V 167 9, V 167 10])) := fun {X} => rfl
  have hmul : nI s * nI wd = nI (s * wd) := (nI_mul s wd).symm
  have hclk : (nI (s * wd)).toNatClampNeg = s * wd := nI_clamp (by omega)
  unfold fm_59 fg_59_0
  refine ev_b (ev_o rfl rfl) ?_
  refine ev_b (ev_gI (x := nI s) hsp rfl (by show some (V 167 3) = _; rw [h3])) ?_
  refine ev_b (ev_gI (x := nI wd) hsp rfl (by show some (V 167 4) = _; rw [h4])) ?_
  rw [hl, hmul]
  refine ev_i (ev_ok (am_gg0 hl)) ?_
  refine ev_cV (ce_18g hl hsw2) ?_
  rw [show cl_18 (269 + tl.length) (nI (s * wd)) = (.inr (3, [.ref (269 + tl.length + 1), .int 0, .int 0, .int 0, .int 2, .int 0, .int (-1), .int (-1), .int (-1), .int (-1), .long 0]) :: [.inl (0, s * wd, .inl (fun _ => 0))] : am_H) by unfold cl_18; rw [hclk]; rfl]
  refine ev_i (ev_ok (am_gg0 hl)) ?_
  have h34 : fm_34 (.ref (269 + tl.length)) kd ln ((fx V I L R ++ tl) ++ (.inr (3, [.ref (269 + tl.length + 1), .int 0, .int 0, .int 0, .int 2, .int 0, .int (-1), .int (-1), .int (-1), .int (-1), .long 0]) :: [.inl (0, s * wd, .inl (fun _ => 0))])) = some (.inl (none, (fx V I L R ++ tl) ++ (.inr (3, [.ref (269 + tl.length + 1), .int kd, .int ln, .int 0, .int (nI wd), .int 0, .int (-1), .int (-1), .int (-1), .int (-1), .long 0]) :: [.inl (0, s * wd, .inl (fun _ => 0))]))) := by
    unfold fm_34 fg_34_0
    refine ev_b (ev_p (fs1 := [.ref (269 + tl.length + 1), .int kd, .int 0, .int 0, .int 2, .int 0, .int (-1), .int (-1), .int (-1), .int (-1), .long 0]) (am_gg0 hl) rfl rfl (am_gs0 hl)) ?_
    refine ev_b (ev_p (fs1 := [.ref (269 + tl.length + 1), .int kd, .int ln, .int 0, .int 2, .int 0, .int (-1), .int (-1), .int (-1), .int (-1), .long 0]) (am_gg0 hl) rfl rfl (am_gs0 hl)) ?_
    refine ev_b (ev_p (fs1 := [.ref (269 + tl.length + 1), .int kd, .int ln, .int 0, .int 2, .int 0, .int (-1), .int (-1), .int (-1), .int (-1), .long 0]) (am_gg0 hl) rfl rfl (am_gs0 hl)) ?_
    rw [hwd]
    by_cases c2 : kd = 2
    · rw [if_pos c2]
      refine ev_f (fun e9 => e9 c2) ?_
      unfold fg_34_26
      exact ev_b (ev_p (fs1 := [.ref (269 + tl.length + 1), .int kd, .int ln, .int 0, .int 5, .int 0, .int (-1), .int (-1), .int (-1), .int (-1), .long 0]) (am_gg0 hl) rfl rfl (am_gs0 hl)) rfl
    · rw [if_neg c2]
      refine ev_t c2 ?_
      unfold fg_34_26
      exact ev_b (ev_p (fs1 := [.ref (269 + tl.length + 1), .int kd, .int ln, .int 0, .int 2, .int 0, .int (-1), .int (-1), .int (-1), .int (-1), .long 0]) (am_gg0 hl) rfl rfl (am_gs0 hl)) rfl
  have h60 : fm_60 (.ref (269 + tl.length)) (.ref 167) ((fx V I L R ++ tl) ++ (.inr (3, [.ref (269 + tl.length + 1), .int 0, .int 0, .int 0, .int 2, .int 0, .int (-1), .int (-1), .int (-1), .int (-1), .long 0]) :: [.inl (0, s * wd, .inl (fun _ => 0))])) = some (.inl (none, (fx V I L R ++ tl) ++ (.inr (3, [.ref (269 + tl.length + 1), .int kd, .int ln, .int (nI s), .int (nI wd), .int 0, .int (-1), .int (-1), .int (-1), .int (-1), .long 0]) :: [.inl (0, s * wd, .inl (va_cpy (I 168) (fun _ => 0) 0 0 (s * wd)))]))) := by
    unfold fm_60 fg_60_0
    refine ev_b (ev_gI (x := kd) hsp rfl (by show some (V 167 1) = _; rw [h1])) ?_
    refine ev_b (ev_gI (x := ln) hsp rfl (by show some (V 167 2) = _; rw [h2])) ?_
    refine ev_i (ev_ok (am_gg0 hl)) ?_
    refine ev_cV h34 ?_
    refine ev_b (ev_gI (x := nI s) hsp rfl (by show some (V 167 3) = _; rw [h3])) ?_
    refine ev_b (ev_gI (x := nI wd) (am_gg0 hl) rfl rfl) ?_
    refine ev_b (ev_gR (x := .ref (269 + tl.length + 1)) (am_gg0 hl) rfl rfl rfl) ?_
    refine ev_b (a := nI (s * wd)) (by unfold am_pLen; simp only [show ((fx V I L R ++ tl) ++ (.inr (3, [.ref (269 + tl.length + 1), .int kd, .int ln, .int 0, .int (nI wd), .int 0, .int (-1), .int (-1), .int (-1), .int (-1), .long 0]) :: [.inl (0, s * wd, .inl (fun _ => 0))]))[269 + tl.length + 1]? = some (.inl (0, s * wd, .inl (fun _ => 0))) from am_gk (k := 1) hl rfl]; rfl) ?_
    rw [hmul]
    refine ev_f (nI_nlt (Nat.le_refl _) (by omega)) ?_
    refine ev_b (ev_gI (x := nI s) hsp rfl (by show some (V 167 3) = _; rw [h3])) ?_
    refine ev_b (ev_p (fs1 := [.ref (269 + tl.length + 1), .int kd, .int ln, .int (nI s), .int (nI wd), .int 0, .int (-1), .int (-1), .int (-1), .int (-1), .long 0]) (am_gg0 hl) rfl rfl (am_gs0 hl)) ?_
    refine ev_b (ev_gR (x := .ref 168) hsp rfl rfl rfl) ?_
    refine ev_b (ev_gR (x := .ref (269 + tl.length + 1)) (am_gg0 hl) rfl rfl rfl) ?_
    refine ev_b (ev_gI (x := nI s) (am_gg0 hl) rfl rfl) ?_
    refine ev_b (ev_gI (x := nI wd) (am_gg0 hl) rfl rfl) ?_
    rw [hmul]
    refine ev_b (ev_cpy (f := I 168) (g := fun _ => 0) (n0 := 120) (n1 := s * wd) (sp := 0) (dp := 0) (n := s * wd) (h1 := (fx V I L R ++ tl) ++ (.inr (3, [.ref (269 + tl.length + 1), .int kd, .int ln, .int (nI s), .int (nI wd), .int 0, .int (-1), .int (-1), .int (-1), .int (-1), .long 0]) :: [.inl (0, s * wd, .inl (va_cpy (I 168) (fun _ => 0) 0 0 (s * wd)))])) rfl (am_gk (k := 1) hl rfl) (by omega) (by omega) (by omega) (by omega) (am_gsk (k := 1) hl rfl)) ?_
    rfl
  refine ev_cV h60 ?_
  refine ev_b (ev_p (fs1 := [.ref (269 + tl.length + 1), .int kd, .int ln, .int (nI s), .int (nI wd), .int x2, .int (-1), .int (-1), .int (-1), .int (-1), .long 0]) (am_gg0 hl) rfl rfl (am_gs0 hl)) ?_
  refine ev_b (ev_p (fs1 := [.ref (269 + tl.length + 1), .int kd, .int ln, .int (nI s), .int (nI wd), .int x2, .int x3, .int (-1), .int (-1), .int (-1), .long 0]) (am_gg0 hl) rfl rfl (am_gs0 hl)) ?_
  refine ev_b (ev_p (fs1 := [.ref (269 + tl.length + 1), .int kd, .int ln, .int (nI s), .int (nI wd), .int x2, .int x3, .int x4, .int (-1), .int (-1), .long 0]) (am_gg0 hl) rfl rfl (am_gs0 hl)) ?_
  refine ev_b (ev_p (fs1 := [.ref (269 + tl.length + 1), .int kd, .int ln, .int (nI s), .int (nI wd), .int x2, .int x3, .int x4, .int x5, .int (-1), .long 0]) (am_gg0 hl) rfl rfl (am_gs0 hl)) ?_
  refine ev_b (ev_p (fs1 := [.ref (269 + tl.length + 1), .int kd, .int ln, .int (nI s), .int (nI wd), .int x2, .int x3, .int x4, .int x5, .int x6, .long 0]) (am_gg0 hl) rfl rfl (am_gs0 hl)) ?_
  refine ev_b (ev_p (fs1 := [.ref (269 + tl.length + 1), .int kd, .int ln, .int (nI s), .int (nI wd), .int x2, .int x3, .int x4, .int x5, .int x6, .long x7]) (am_gg0 hl) rfl rfl (am_gs0 hl)) ?_
  refine ev_b (a := nI m) (by show am_vI (some (V 0 1)) = _; rw [hm]; rfl) ?_
  refine ev_b (a := .ref 1) rfl ?_
  refine ev_b (a := 600) rfl ?_
  refine ev_f (nI_ge (a := m) (b := 600) hm6 (by decide)) ?_
  refine ev_b (a := .ref 1) rfl ?_
  have hasc : (fx V I L (rup R 1 (va_up (R 1) m (some (269 + tl.length)))) ++ tl) ++ (.inr (3, [.ref (269 + tl.length + 1), .int kd, .int ln, .int (nI s), .int (nI wd), .int x2, .int x3, .int x4, .int x5, .int x6, .long x7]) :: [.inl (0, s * wd, .inl (va_cpy (I 168) (fun _ => 0) 0 0 (s * wd)))]) = fx V I L (rup R 1 (va_up (R 1) m (some (269 + tl.length)))) ++ (tl ++ [.inr (3, [.ref (269 + tl.length + 1), .int kd, .int ln, .int (nI s), .int (nI wd), .int x2, .int x3, .int x4, .int x5, .int x6, .long x7]), .inl (0, s * wd, .inl (va_cpy (I 168) (fun _ => 0) 0 0 (s * wd)))]) := List.append_assoc _ _ _
  refine ev_b (ev_sA (f := R 1) (t := 4) (n := 600) (h1 := (fx V I L (rup R 1 (va_up (R 1) m (some (269 + tl.length)))) ++ tl) ++ (.inr (3, [.ref (269 + tl.length + 1), .int kd, .int ln, .int (nI s), .int (nI wd), .int x2, .int x3, .int x4, .int x5, .int x6, .long x7]) :: [.inl (0, s * wd, .inl (va_cpy (I 168) (fun _ => 0) 0 0 (s * wd)))])) rfl (am_gg0 hl) (by show (true && am_inb (nI m) 600) = true; exact am_inb_n hm6 (by omega)) (by rw [nI_clamp (by omega)]; rfl)) ?_
  refine ev_b (a := nI m) (by show am_vI (some (V 0 1)) = _; rw [hm]; rfl) ?_
  rw [nI_1, hasc]
  refine ev_b (pu_0_1 rfl) ?_
  rfl
/-- the reference's rows with a child -/
def bJ (J : Nat → Nat → Int32) (n : Nat) (kd : Int32) (sz : Nat) (lx x1 x2 x3 x4 x5 : Int32) : Nat → Nat → Int32 := iup (iup (iup (iup (iup (iup (iup (iup (iup (iup J 175 (upd (J 175) n kd)) 176 (upd (J 176) n (nI sz))) 177 (upd (J 177) n lx)) 178 (upd (J 178) n x1)) 179 (upd (J 179) n x2)) 180 (upd (J 180) n x3)) 181 (upd (J 181) n x4)) 182 (upd (J 182) n x5)) 184 (csq (J 184) (J 186) (60 * n) sz)) 185 (csq (J 185) (J 187) (60 * n) sz)
theorem bJ_o {J : Nat → Nat → Int32} {n sz y : Nat} {kd lx x1 x2 x3 x4 x5 : Int32} (h : y < 175 ∨ 185 < y) : bJ J n kd sz lx x1 x2 x3 x4 x5 y = J y := by
  unfold bJ
  rw [iup_na (by omega), iup_na (by omega), iup_na (by omega), iup_na (by omega), iup_na (by omega), iup_na (by omega), iup_na (by omega), iup_na (by omega), iup_na (by omega), iup_na (by omega)]
set_option maxRecDepth 100000 in
set_option maxHeartbeats 1600000 in
theorem bear_rel {V : Nat → Nat → Value} {I : Nat → Nat → Int32} {L : Nat → Nat → Int64} {R : Nat → Nat → Option Nat} {tl : am_H} {n p kd ln sz : Nat} {W W' : Nat → Nat → Value} {J J' : Nat → Nat → Int32} {M' : Nat → Nat → Int64} {x1 x2 x3 x4 x5 : Int32} {x6 : Int64} {f : Nat → Int32} (hr : rel V I L R tl n p) (hn : n < 600) (k1 : keep V W I J) (k2 : keep (vup W 0 1 (.int (nI (n + 1)))) W' J J') (k3 : ∀ y, y ∈ lRel → M' y = L y) (hi : itm kd (J' 186) (J' 187) sz f) (hs : sound kd ln sz (J' 186) (J' 187)) (hp : ped n x1 x2 x3 x4 x5) (hg : gen1 I n x1 x2 x3 x4 x5) : rel (vup W' 174 1 (.int (nI (n + 1)))) (bJ J' n (nI kd) sz (nI ln) x1 x2 x3 x4 x5) (lup M' 183 (vp_updL (M' 183) n x6)) (rup R 1 (va_up (R 1) n (some (269 + tl.length)))) (tl ++ brt tl.length kd ln sz x1 x2 x3 x4 x5 x6 f) (n + 1) p := by
  have e : ∀ y, y ∈ iRel → J' y = I y := fun y hy => (k2.2.1 y hy).trans (k1.2.1 y hy)
  have w1 : wt W' := k2.2.2 (wt_i (k1.2.2 (rel_w hr)) (by decide))
  have b175 : ∀ y, y ∈ [175, 176, 177, 178, 179, 180, 181, 182, 184, 185] → J' y = I y := fun y hy => e y (by
    have key : ∀ y, y ∈ [175, 176, 177, 178, 179, 180, 181, 182, 184, 185] → y ∈ iRel := by decide
    exact key y hy)
  refine rel_bear (W := vup W' 174 1 (.int (nI (n + 1)))) (S := J' 186) (T := J' 187) hr hn (fun a j hj n3 n4 => ?hv) ?hw0 vup_eq (fun y hy hy2 => ?he) ?h175 ?h176 ?h177 ?h178 ?h179 ?h180 ?h181 ?h182 ?h184 ?h185 (fun y hy hy2 => ?hl) ?hm (wt_i w1 (by decide)) hi hs hp hg
  case hv => rw [vup_o n4, k2.1 a j hj, vup_o n3, k1.1 a j hj]
  case hw0 => rw [vup_na (by decide), k2.1 0 1 (by decide)]; exact vup_eq
  case he => rw [bJ_o hy2]; exact e y hy
  case h175 => show upd (J' 175) n _ = _; rw [b175 175 (by decide)]
  case h176 => show upd (J' 176) n _ = _; rw [b175 176 (by decide)]
  case h177 => show upd (J' 177) n _ = _; rw [b175 177 (by decide)]
  case h178 => show upd (J' 178) n _ = _; rw [b175 178 (by decide)]
  case h179 => show upd (J' 179) n _ = _; rw [b175 179 (by decide)]
  case h180 => show upd (J' 180) n _ = _; rw [b175 180 (by decide)]
  case h181 => show upd (J' 181) n _ = _; rw [b175 181 (by decide)]
  case h182 => show upd (J' 182) n _ = _; rw [b175 182 (by decide)]
  case h184 => show csq (J' 184) _ _ _ = _; rw [b175 184 (by decide)]
  case h185 => show csq (J' 185) _ _ _ = _; rw [b175 185 (by decide)]
  case hl => rw [lup_na hy2]; exact k3 y hy
  case hm => rw [lup_eq, k3 183 (by decide)]
theorem bear_c {V : Nat → Nat → Value} {I : Nat → Nat → Int32} {L : Nat → Nat → Int64} {R : Nat → Nat → Option Nat} {tl : am_H} {n kd ln sz : Nat} (h1 : V 167 1 = .int (nI kd)) (h2 : V 167 2 = .int (nI ln)) (h3 : V 167 3 = .int (nI sz)) (h4 : V 167 4 = .int (nI (wdN kd))) (hk : kd ≤ 3) (hsz : sz * wdN kd ≤ 120) (hm : V 0 1 = .int (nI n)) (hn : n < 600) (x1 x2 x3 x4 x5 : Int32) (x6 : Int64) : fm_59 (.ref 0) (.ref 167) x1 x2 x3 x4 x5 x6 (fx V I L R ++ tl) = some (.inl (some (.int (nI n)), fx (vup V 0 1 (.int (nI (n + 1)))) I L (rup R 1 (va_up (R 1) n (some (269 + tl.length)))) ++ (tl ++ brt tl.length kd ln sz x1 x2 x3 x4 x5 x6 (va_cpy (I 168) (fun _ => 0) 0 0 (sz * wdN kd))))) := by
  have w5 : wdN kd ≤ 5 := by unfold wdN; split <;> omega
  have w1 : 1 ≤ wdN kd := by unfold wdN; split <;> omega
  exact x_59g h1 h2 h3 h4 (by rcases (by omega : kd = 0 ∨ kd = 1 ∨ kd = 2 ∨ kd = 3) with rfl | rfl | rfl | rfl <;> rfl) (by omega) hsz w1 hm hn x1 x2 x3 x4 x5 x6
theorem bear_r {V : Nat → Nat → Value} {I : Nat → Nat → Int32} {L : Nat → Nat → Int64} {R : Nat → Nat → Option Nat} {tl : am_H} {N n kd ln sz : Nat} (h1 : V 174 1 = .int (nI n)) (h13 : V 174 13 = .int (nI kd)) (h14 : V 174 14 = .int (nI sz)) (h15 : ∃ nt, V 174 15 = .int nt ∧ (if nI kd = 3 then nt else 0) = nI ln) (hn : n < 600) (hs : sz ≤ 60) (hN : 70 < N) (x1 x2 x3 x4 x5 : Int32) (x6 : Int64) : fm_356 N (.ref 174) x1 x2 x3 x4 x5 x6 (fx V I L R ++ tl) = some (.inl (some (.int (nI n)), fx (vup V 174 1 (.int (nI (n + 1)))) (bJ I n (nI kd) sz (nI ln) x1 x2 x3 x4 x5) (lup L 183 (vp_updL (L 183) n x6)) R ++ tl)) := by
  obtain ⟨nt, e1, e2⟩ := h15
  have e := x_356 (V := V) (I := I) (L := L) (R := R) (tl := tl) (N := N) h1 h13 h14 e1 hn hs hN x1 x2 x3 x4 x5 x6
  rw [e2] at e
  exact e
/-- needRoom(1) -/
theorem c_32n {V : Nat → Nat → Value} {I : Nat → Nat → Int32} {L : Nat → Nat → Int64} {R : Nat → Nat → Option Nat} {tl : am_H} (hb : V 0 1 = .int (nI 600)) : fm_32 (.ref 0) 1 (fx V I L R ++ tl) = some (.inr (1, fx V I L R ++ (tl ++ [am_dummy]))) := by
  rw [← List.append_assoc]
  unfold fm_32 fg_32_0
  exact ev_b (rdI hb) (ev_f (by decide) rfl)
theorem c_32 {V : Nat → Nat → Value} {I : Nat → Nat → Int32} {L : Nat → Nat → Int64} {R : Nat → Nat → Option Nat} {tl : am_H} {n : Nat} (hb : V 0 1 = .int (nI n)) (hn : n < 600) : fm_32 (.ref 0) 1 (fx V I L R ++ tl) = some (.inl (none, fx V I L R ++ tl)) := by
  unfold fm_32 fg_32_0
  refine ev_b (rdI hb) (ev_t ?_ rfl)
  rw [nI_1]
  exact nI_le (b := 600) (by omega) (by decide)
