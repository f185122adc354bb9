/-! ===== populate(island, kind, n, size, seed) ===== -/
theorem hd_199_29 {N : Nat} {h : am_H} {r_ : Option am_O} (k_ : some (.inl (some (.int 3), h)) = r_) : fg_199_29 N h = r_ := k_
theorem hd_199_25 {N : Nat} {h : am_H} {r_ : Option am_O} (k_ : some (.inl (some (.int 2), h)) = r_) : fg_199_25 N h = r_ := k_
theorem hd_199_21 {N : Nat} {h : am_H} {r_ : Option am_O} (k_ : some (.inl (some (.int 1), h)) = r_) : fg_199_21 N h = r_ := k_
theorem hd_199_0 {N : Nat} {x0 : Value} {x1 : Int32} {x2 : Int32} {x3 : Int32} {x4 : Int32} {x5 : Int64} {x7 : Value} {h : am_H} {r_ : Option am_O} (k_ : (if am_pOk 11 x0 h then (match fm_200 N x0 x1 x2 x3 x4 x5 h with | some (.inl (some (.int v2), h3)) => ((am_pSL x7 0 (Int32.toInt64 v2) h3).bind fun h5 => some (.inl (some (.int 0), h5))) | some (.inr (0, h7)) => (fg_199_25 N h7) | some (.inr (1, h9)) => (fg_199_29 N h9) | some (.inr (2, h11)) => (fg_199_21 N h11) | _ => none) else none) = r_) : fg_199_0 N x0 x1 x2 x3 x4 x5 x7 h = r_ := k_
theorem hm_199 {N : Nat} {y0 : Value} {y1 : Int32} {y2 : Int32} {y3 : Int32} {y4 : Int32} {y5 : Int64} {y6 : Value} {h : am_H} {r_ : Option am_O} (k_ : fg_199_0 N y0 y1 y2 y3 y4 y5 y6 h = r_) : fm_199 N y0 y1 y2 y3 y4 y5 y6 h = r_ := k_
theorem hd_200_118 {N : Nat} {K : Nat} {x0 : Value} {x2 : Int32} {x3 : Int32} {x4 : Int32} {x7 : Value} {x10 : Int32} {x11 : Int32} {h : am_H} {r_ : Option am_O} (k_ : (if x3 ≤ x11 then some (.inl (some (.int x10), h)) else ((am_vR (am_pG 258 x7 h)).bind fun v2 => (if am_pOk 11 x0 h then am_cV true (fm_202 N x0 v2 x2 x4 h) (fun h6 => ((am_vR (am_pG 257 x7 h6)).bind fun v8 => ((am_vR (am_pG 2831 x0 h6)).bind fun v10 => (if am_pOk 11 x0 h6 then am_cI true (fm_59 x0 v10 2 ((-1)) ((-1)) ((-1)) ((-1)) 0 h6) (fun v13 h14 => ((am_pS 0 v8 x11 v13 h14).bind fun h16 => (fg_200_118 N K x0 x2 x3 x4 x7 x10 ((x11 + 1)) h16))) else none)))) else none))) = r_) : fg_200_118 N (K + 1) x0 x2 x3 x4 x7 x10 x11 h = r_ := by rw [fg_200_118]; exact k_
theorem hd_200_77 {N : Nat} {h : am_H} {r_ : Option am_O} (k_ : some (.inr (0, h ++ [am_dummy])) = r_) : fg_200_77 N h = r_ := k_
theorem hd_200_41 {N : Nat} {x0 : Value} {x2 : Int32} {x3 : Int32} {x4 : Int32} {x5 : Int64} {x7 : Value} {x8 : Int32} {s0 : Int32} {h : am_H} {r_ : Option am_O} (k_ : (if x2 < 0 then (fg_200_77 N h) else (if 3 < x2 then (fg_200_77 N h) else (if x3 < 1 then (fg_200_77 N h) else (if 16 < x3 then (fg_200_77 N h) else (if x4 < x8 then (fg_200_77 N h) else (if x4 ≤ s0 then (if am_pOk 11 x0 h then am_cV true (fm_32 x0 x3 h) (fun h9 => ((am_vI (am_pG 2817 x0 h9)).bind fun v11 => ((am_vR (am_pG 258 x7 h9)).bind fun v13 => ((am_pP 2048 v13 (.long x5) h9).bind fun h15 => ((am_pP 256 x7 (.int x3) h15).bind fun h17 => (fg_200_118 N N x0 x2 x3 x4 x7 v11 0 h17)))))) else none) else (fg_200_77 N h))))))) = r_) : fg_200_41 N x0 x2 x3 x4 x5 x7 x8 s0 h = r_ := k_
theorem hd_200_17 {N : Nat} {x0 : Value} {x2 : Int32} {x3 : Int32} {x4 : Int32} {x5 : Int64} {x7 : Value} {s0 : Int32} {h : am_H} {r_ : Option am_O} (k_ : (if ¬ x2 = 2 then (if ¬ x2 = 3 then (fg_200_41 N x0 x2 x3 x4 x5 x7 s0 9 h) else (fg_200_41 N x0 x2 x3 x4 x5 x7 s0 8 h)) else (fg_200_41 N x0 x2 x3 x4 x5 x7 s0 6 h)) = r_) : fg_200_17 N x0 x2 x3 x4 x5 x7 s0 h = r_ := k_
theorem hd_200_0 {N : Nat} {x0 : Value} {x1 : Int32} {x2 : Int32} {x3 : Int32} {x4 : Int32} {x5 : Int64} {h : am_H} {r_ : Option am_O} (k_ : (if am_pOk 11 x0 h then am_cR true (fm_201 x0 x1 h) (fun v2 h3 => (if ¬ x2 = 3 then (fg_200_17 N x0 x2 x3 x4 x5 v2 1 h3) else (fg_200_17 N x0 x2 x3 x4 x5 v2 2 h3))) else none) = r_) : fg_200_0 N x0 x1 x2 x3 x4 x5 h = r_ := k_
theorem hm_200 {N : Nat} {y0 : Value} {y1 : Int32} {y2 : Int32} {y3 : Int32} {y4 : Int32} {y5 : Int64} {h : am_H} {r_ : Option am_O} (k_ : fg_200_0 N y0 y1 y2 y3 y4 y5 h = r_) : fm_200 N y0 y1 y2 y3 y4 y5 h = r_ := k_
theorem hd_488_95 {N : Nat} {K : Nat} {x0 : Value} {x1 : Int32} {x2 : Int32} {x3 : Int32} {x4 : Int32} {x7 : Int32} {h : am_H} {r_ : Option am_O} (k_ : (if x3 ≤ x7 then ((am_vR (am_pG 3172 x0 h)).bind fun v2 => ((am_vL (am_pG 3168 x0 h)).bind fun v4 => ((am_pSL v2 x1 v4 h).bind fun h6 => ((am_vR (am_pG 3171 x0 h6)).bind fun v8 => ((am_pA 0 v8 (16 * x1) h6).bind fun v10 => some (.inl (some (.int v10), h6))))))) else (if am_pOk 12 x0 h then am_cV true (fm_491 N x0 x2 x4 h) (fun h14 => ((am_vR (am_pG 3171 x0 h14)).bind fun v16 => (if am_pOk 12 x0 h14 then am_cI true (fm_356 N x0 2 ((-1)) ((-1)) ((-1)) ((-1)) 0 h14) (fun v19 h20 => ((am_pS 0 v16 ((16 * x1) + x7) v19 h20).bind fun h22 => (fg_488_95 N K x0 x1 x2 x3 x4 ((x7 + 1)) h22))) else none))) else none)) = r_) : fg_488_95 N (K + 1) x0 x1 x2 x3 x4 x7 h = r_ := by rw [fg_488_95]; exact k_
theorem hd_488_67 {N : Nat} {x0 : Value} {x1 : Int32} {x2 : Int32} {x3 : Int32} {x4 : Int32} {x5 : Int64} {s0 : Value} {s1 : Int32} {h : am_H} {r_ : Option am_O} (k_ : ((am_pP 3072 s0 (.int s1) h).bind fun h1 => ((am_vI (am_pG 3072 x0 h1)).bind fun v3 => (if v3 ≤ 0 then ((am_pP 3168 x0 (.long x5) h1).bind fun h6 => ((am_vR (am_pG 3170 x0 h6)).bind fun v8 => ((am_pS 0 v8 x1 x3 h6).bind fun h10 => (fg_488_95 N N x0 x1 x2 x3 x4 0 h10)))) else some (.inl (some (.int 0), h1))))) = r_) : fg_488_67 N x0 x1 x2 x3 x4 x5 s0 s1 h = r_ := k_
theorem hd_488_46 {N : Nat} {x0 : Value} {x1 : Int32} {x2 : Int32} {x3 : Int32} {x4 : Int32} {x5 : Int64} {s0 : Value} {h : am_H} {r_ : Option am_O} (k_ : (fg_488_67 N x0 x1 x2 x3 x4 x5 s0 2 h) = r_) : fg_488_46 N x0 x1 x2 x3 x4 x5 s0 h = r_ := k_
theorem hd_488_0 {N : Nat} {x0 : Value} {x1 : Int32} {x2 : Int32} {x3 : Int32} {x4 : Int32} {x5 : Int64} {h : am_H} {r_ : Option am_O} (k_ : (if am_pOk 12 x0 h then am_cI true (fm_489 x0 x1 h) (fun v2 h3 => (if ¬ v2 = 0 then am_cI false (fm_327 ((Int32.toInt64 x2)) 0 3 h3) (fun v6 h7 => (if v6 = 0 then (fg_488_46 N x0 x1 x2 x3 x4 x5 x0 h7) else am_cI false (fm_327 ((Int32.toInt64 x3)) 1 16 h7) (fun v10 h11 => (if v10 = 0 then (fg_488_46 N x0 x1 x2 x3 x4 x5 x0 h11) else am_cI false (fm_490 x2 x4 h11) (fun v14 h15 => (if ¬ v14 = 0 then ((am_vI (am_pG 3073 x0 h15)).bind fun v18 => (if (v18 + x3) ≤ 600 then (fg_488_67 N x0 x1 x2 x3 x4 x5 x0 0 h15) else (fg_488_67 N x0 x1 x2 x3 x4 x5 x0 3 h15))) else (fg_488_46 N x0 x1 x2 x3 x4 x5 x0 h15))))))) else (fg_488_67 N x0 x1 x2 x3 x4 x5 x0 1 h3))) else none) = r_) : fg_488_0 N x0 x1 x2 x3 x4 x5 h = r_ := k_
theorem hm_488 {N : Nat} {y0 : Value} {y1 : Int32} {y2 : Int32} {y3 : Int32} {y4 : Int32} {y5 : Int64} {h : am_H} {r_ : Option am_O} (k_ : fg_488_0 N y0 y1 y2 y3 y4 y5 h = r_) : fm_488 N y0 y1 y2 y3 y4 y5 h = r_ := k_

theorem gb_relS {V : Nat → Nat → Value} {I : Nat → Nat → Int32} {L : Nat → Nat → Int64} {R : Nat → Nat → Option Nat} {tl : am_H} {n p kd ln : Nat} {X : xI} {x1 x2 x3 x4 x5 : Int32} {x6 : Int64} {f : Nat → Int32} (hr : rel V I L R tl n p) (hn : n < 600) (gX : sdX kd ln X) (hf : itm kd (srt X) (vlu X) X.length f) (hp : ped n x1 x2 x3 x4 x5) (hg : gen1 I n x1 x2 x3 x4 x5) : rel (gbV V n) (gbI I n kd ln X x1 x2 x3 x4 x5) (gbL L n x6) (rup R 1 (va_up (R 1) n (some (269 + tl.length)))) (tl ++ brt tl.length kd ln X.length x1 x2 x3 x4 x5 x6 f) (n + 1) p := by
  have e6 : iup (iup I 186 (srt X)) 187 (vlu X) 186 = srt X := by rw [iup_na (by decide), iup_eq]
  have e7 : iup (iup I 186 (srt X)) 187 (vlu X) 187 = vlu X := iup_eq
  refine bear_rel (W := V) (J := I) (W' := vup V 0 1 (.int (nI (n + 1)))) (J' := iup (iup I 186 (srt X)) 187 (vlu X)) (M' := L) hr hn keep_r ⟨fun _ _ _ => rfl, fun y hy => ?_, id⟩ (fun _ _ => rfl) (by rw [e6, e7]; exact hf) (by rw [e6, e7]; exact gX.2.2.2.2 _ _ (lay2_x X)) hp hg
  have key : ∀ y, y ∈ iRel → y ≠ 186 ∧ y ≠ 187 := by decide
  rw [iup_na (key y hy).2, iup_na (key y hy).1]
theorem ped_2 {b : Nat} : ped b 2 (-1) (-1) (-1) (-1) := ⟨2, by decide, rfl, .inl rfl, .inl rfl, fun h => absurd h (by decide), fun h => absurd h (by decide), fun h => absurd h (by decide), .inl rfl⟩
/-- births of a population, one by one -/
def poS (kd sz : Nat) (Φ : Nat → (Nat → Nat → Value) → (Nat → Nat → Int32) → (Nat → Nat → Int64) → Int64 → Prop) : Nat → Nat → (Nat → Nat → Value) → (Nat → Nat → Int32) → (Nat → Nat → Int64) → Int64 → Prop
  | 0, n, V, I, L, st => Φ n V I L st
  | t + 1, n, V, I, L, st => n < 600 ∧ ∃ ln X st', isDr kd sz st ln X st' ∧ poS kd sz Φ t (n + 1) (gbV V n) (gbI I n kd ln X 2 (-1) (-1) (-1) (-1)) (gbL L n 0) st'
theorem poS_1 {kd sz t n : Nat} {Φ : Nat → (Nat → Nat → Value) → (Nat → Nat → Int32) → (Nat → Nat → Int64) → Int64 → Prop} {V : Nat → Nat → Value} {I : Nat → Nat → Int32} {L : Nat → Nat → Int64} {st : Int64} : poS kd sz Φ (t + 1) n V I L st ↔ n < 600 ∧ ∃ ln X st', isDr kd sz st ln X st' ∧ poS kd sz Φ t (n + 1) (gbV V n) (gbI I n kd ln X 2 (-1) (-1) (-1) (-1)) (gbL L n 0) st' := Iff.rfl
theorem kpC_q {i : Nat} {V W : Nat → Nat → Value} {I J : Nat → Nat → Int32} {L : Nat → Nat → Int64} (k : kq i V W I J) : kpC i V W I J L L := ⟨fun a j h _ k' => k.1 a j h k', fun y h _ => k.2.1 y h, fun _ _ => rfl, k.2.2⟩
theorem kpC_n {i : Nat} {V : Nat → Nat → Value} {I : Nat → Nat → Int32} {L : Nat → Nat → Int64} {x : Int32} : kpC i V (vup V 0 1 (.int x)) I I L L := ⟨fun a j _ h _ => vup_o h, fun _ _ _ => rfl, fun _ _ => rfl, fun w => wt_i w (by decide)⟩
set_option maxRecDepth 100000 in
set_option maxHeartbeats 4000000 in
theorem c_pop {L : Nat → Nat → Int64} {N p i kd sz m n0 j : Nat} (hN : 5000 < N) (hi : i < 4) (hz : szK kd sz) (hm16 : m ≤ 16) (l7 : L 77 = tW) (l8 : L 78 = tT) : ∀ (t k K n : Nat) (V : Nat → Nat → Value) (I : Nat → Nat → Int32) (R : Nat → Nat → Option Nat) (tl : am_H) (st : Int64) (Vg : Nat → Nat → Value) (Ig : Nat → Nat → Int32) (Lg : Nat → Nat → Int64), k + t = m → t < K → n = n0 + k → n + t ≤ 600 → V 0 1 = .int (nI n) → V (42 + 9 * i) 0 = .long st → wt V → rel Vg Ig Lg R tl n p → room tl n p j → (∀ x, x < k → I (41 + 9 * i) x = nI (n0 + x) ∧ Ig 175 (n0 + x) = nI kd) → ∃ W J R' tl' Vg' Ig' Lg' st', fg_200_118 N K (.ref 0) (nI kd) (nI m) (nI sz) (.ref (40 + 9 * i)) (nI n0) (nI k) (fx V I L R ++ tl) = some (.inl (some (.int (nI n0)), fx W J L R' ++ tl')) ∧ (∀ Φ : Nat → (Nat → Nat → Value) → (Nat → Nat → Int32) → (Nat → Nat → Int64) → Int64 → Prop, Φ (n + t) Vg' Ig' Lg' st' → poS kd sz Φ t n Vg Ig Lg st) ∧ rel Vg' Ig' Lg' R' tl' (n + t) p ∧ room tl' (n + t) p j ∧ (∀ x, x < m → J (41 + 9 * i) x = nI (n0 + x) ∧ Ig' 175 (n0 + x) = nI kd) ∧ W 0 1 = .int (nI (n + t)) ∧ W (42 + 9 * i) 0 = .long st' ∧ kpC i V W I J L L ∧ gF Vg Vg' Ig Ig' Lg Lg' := by
  intro t
  induction t with
  | zero =>
    intro k K n V I R tl st Vg Ig Lg hk hK hn h6 b2 hs hw hr hm hx
    obtain ⟨K, rfl⟩ : ∃ k, K = k + 1 := ⟨K - 1, by omega⟩
    obtain rfl : k = m := by omega
    refine ⟨V, I, R, tl, Vg, Ig, Lg, st, ?_, fun Φ h => h, hr, hm, hx, b2, hs, kpC_r, gF_r⟩
    apply hd_200_118
    exact ev_t (nI_le (Nat.le_refl k) (by omega)) rfl
  | succ t ih =>
    intro k K n V I R tl st Vg Ig Lg hk hK hn h6 b2 hs hw hr hm hx
    obtain ⟨K, rfl⟩ : ∃ k, K = k + 1 := ⟨K - 1, by omega⟩
    obtain ⟨W1, J1, ln, X, st1, e1, hD, hh, w42, q1⟩ := c_draw (V := V) (I := I) (L := L) (R := R) (tl := tl) (N := N) hN hi hz hs hw l7 l8
    have sX := dr_sd hz hD
    have k3 := sX.1
    have wX := sX.2.2.1
    have v0 : W1 0 1 = .int (nI n) := (q1.1 0 1 (by decide) (by omega)).trans b2
    have eb := bear_c (V := W1) (I := J1) (L := L) (R := R) (tl := tl) (n := n) (kd := kd) (ln := ln) (sz := X.length) hh.1 hh.2.1 hh.2.2.1 hh.2.2.2.1 k3 wX v0 (by omega) 2 (-1) (-1) (-1) (-1) 0
    have hr1 := gb_relS (x6 := 0) hr (by omega) sX (itm_f (g := fun _ => 0) hh.2.2.2.2) (ped_2 (b := n)) (gen_o (by decide) (by decide))
    have hm1 := room_b (ln := ln) (x1 := 2) (x2 := -1) (x3 := -1) (x4 := -1) (x5 := -1) (x6 := 0) (f := va_cpy (J1 168) (fun _ => 0) 0 0 (X.length * wdN kd)) wX hm
    obtain ⟨J2, eJ2⟩ : ∃ X, X = iup J1 (41 + 9 * i) (upd (J1 (41 + 9 * i)) k (nI n)) := ⟨_, rfl⟩
    have j41 : J1 (41 + 9 * i) = I (41 + 9 * i) := q1.2.1 _ (is_in hi)
    obtain ⟨W, J, R', tl', Vg', Ig', Lg', st', e2, sp, hr', hm', hx', u0, u42, kp, fg⟩ := ih (k + 1) K (n + 1) (vup W1 0 1 (.int (nI (n + 1)))) J2 _ _ st1 _ _ _ (by omega) (by omega) (by omega) (by omega) vup_eq ((vup_na (by omega)).trans w42) (wt_i (q1.2.2 hw) (by decide)) hr1 hm1 (fun x hx2 => by
      rw [eJ2, iup_eq, gbI_5]
      by_cases q : x = k
      · subst q
        rw [upd_eq, ← hn, upd_eq]
        exact ⟨rfl, rfl⟩
      · rw [upd_ne q, upd_ne (by omega), j41]
        exact hx x (by omega))
    rw [show n + 1 + t = n + (t + 1) by omega] at sp hr' hm' u0
    refine ⟨W, J, R', tl', Vg', Ig', Lg', st', ?_, fun Φ h => poS_1.mpr ⟨by omega, ln, X, st1, hD, sp Φ h⟩, hr', hm', hx', u0, u42, kpC_t (kpC_q q1) (kpC_t kpC_n (kpC_t (by rw [eJ2]; exact kpC_41) kp)), gF_t gF_b fg⟩
    rw [← e2]
    apply hd_200_118
    refine ev_f (nI_ge (by omega) (by omega)) (ev_b (ir_2 hi) (ev_i rfl (ev_cV e1 (ev_b (ir_1 hi) (ev_b (rdR rfl) (ev_i rfl (ev_cI eb (ev_b (ij_41 hi (by omega)) ?_))))))))
    rw [nI_1, ← eJ2]
theorem frGn_V {V W : Nat → Nat → Value} {I J : Nat → Nat → Int32} {L M : Nat → Nat → Int64} (f : frV V W I J L M) : frGn V W I J L M := ⟨fun a j h => f.1 a j (by omega), fun j h1 h2 h3 => f.1 174 j (fun u => by
  have := (v174_m h1 h2 h3).1
  omega), fun y h => f.2.1 y (by omega), fun y h1 h2 _ => f.2.1 y (by
  have key : ∀ y, y ∈ iRel → ¬ ((186 ≤ y ∧ y ≤ 192) ∨ y = 211 ∨ y = 219 ∨ (227 ≤ y ∧ y ≤ 229) ∨ y = 253) := by decide
  exact key y h1), fun y h => f.2.2.1 y (by omega), f.2.2.2.1, f.2.2.2.2⟩
set_option maxRecDepth 100000 in
set_option maxHeartbeats 4000000 in
theorem r_bearS {V : Nat → Nat → Value} {I : Nat → Nat → Int32} {L : Nat → Nat → Int64} {R : Nat → Nat → Option Nat} {tl : am_H} {N n kd ln : Nat} {X : xI} {Ig : Nat → Nat → Int32} {Lg : Nat → Nat → Int64} (hN : 5000 < N) (hn : n < 600) (gX : sdX kd ln X) (hd : dkL V I X) (h13 : V 174 13 = .int (nI kd)) (h15 : ∃ nt, V 174 15 = .int nt ∧ (if nI kd = 3 then nt else 0) = nI ln) (ha : agB n V I L Ig Lg) (x1 x2 x3 x4 x5 : Int32) (x6 : Int64) : ∃ W J M, fm_356 N (.ref 174) x1 x2 x3 x4 x5 x6 (fx V I L R ++ tl) = some (.inl (some (.int (nI n)), fx W J M R ++ tl)) ∧ agB (n + 1) W J M (gbI Ig n kd ln X x1 x2 x3 x4 x5) (gbL Lg n x6) ∧ W 174 96 = V 174 96 ∧ frXr 241 V W I J L M := by
  refine ⟨_, _, _, bear_r (V := V) (I := I) (L := L) (R := R) (tl := tl) (N := N) (n := n) (kd := kd) (ln := ln) (sz := X.length) ha.1 h13 hd.1 h15 hn gX.2.1 (by omega) x1 x2 x3 x4 x5 x6, ⟨vup_eq, bJ_g ha.2.1 hd.2, ?_⟩, vup_o (by decide), frXr_b⟩
  unfold gbL
  rw [lup_eq, lup_eq, ha.2.2]
set_option maxRecDepth 100000 in
set_option maxHeartbeats 4000000 in
theorem r_pop {R : Nat → Nat → Option Nat} {tl : am_H} {N i kd sz m n0 : Nat} {Φ : Nat → (Nat → Nat → Value) → (Nat → Nat → Int32) → (Nat → Nat → Int64) → Int64 → Prop} (hN : 5000 < N) (hi : i < 4) (hz : szK kd sz) (hm16 : m ≤ 16) : ∀ (t k K n : Nat) (V : Nat → Nat → Value) (I : Nat → Nat → Int32) (L : Nat → Nat → Int64) (st : Int64) (Vg : Nat → Nat → Value) (Ig : Nat → Nat → Int32) (Lg : Nat → Nat → Int64), k + t = m → t < K → n = n0 + k → V 174 96 = .long st → wt V → rInv V L → agB n V I L Ig Lg → (∀ x, x < k → I 234 (16 * i + x) = nI (n0 + x)) → poS kd sz Φ t n Vg Ig Lg st → ∃ W J M n' Vg' Ig' Lg' st' K', Φ n' Vg' Ig' Lg' st' ∧ fg_488_95 N K (.ref 174) (nI i) (nI kd) (nI m) (nI sz) (nI k) (fx V I L R ++ tl) = fg_488_95 N (K' + 1) (.ref 174) (nI i) (nI kd) (nI m) (nI sz) (nI m) (fx W J M R ++ tl) ∧ agB n' W J M Ig' Lg' ∧ (∀ x, x < m → J 234 (16 * i + x) = nI (n0 + x)) ∧ (∀ y, (y < 16 * i ∨ 16 * i + 16 ≤ y) → J 234 y = I 234 y) ∧ W 174 96 = .long st' ∧ frGn V W I J L M := by
  intro t
  induction t with
  | zero =>
    intro k K n V I L st Vg Ig Lg hk hK hn hs hw iv ha hx hS
    obtain ⟨K, rfl⟩ : ∃ k, K = k + 1 := ⟨K - 1, by omega⟩
    obtain rfl : k = m := by omega
    exact ⟨V, I, L, n, Vg, Ig, Lg, st, K, hS, rfl, ha, hx, fun _ _ => rfl, hs, frGn_r⟩
  | succ t ih =>
    intro k K n V I L st Vg Ig Lg hk hK hn hs hw iv ha hx hS
    obtain ⟨K, rfl⟩ : ∃ k, K = k + 1 := ⟨K - 1, by omega⟩
    obtain ⟨h6, ln, X, st1, hD, hS⟩ := poS_1.mp hS
    obtain ⟨W1, J1, M1, e1, d1, d13, d15, d96, f1⟩ := r_draw (V := V) (I := I) (L := L) (R := R) (tl := tl) (N := N) hN hz hs hw iv hD
    have sX := dr_sd hz hD
    have ha1 : agB n W1 J1 M1 Ig Lg := ⟨(f1.1 174 1 (by omega)).trans ha.1, fun y a b q => (f1.2.1 y (by omega)).trans (ha.2.1 y a b q), (f1.2.2.1 183 (by omega)).trans ha.2.2⟩
    obtain ⟨W2, J2, M2, e2, a2, w96, f2⟩ := r_bearS (V := W1) (I := J1) (L := M1) (R := R) (tl := tl) (N := N) hN h6 sX d1 d13 d15 ha1 2 (-1) (-1) (-1) (-1) 0
    obtain ⟨J3, eJ3⟩ : ∃ X, X = iup J2 234 (upd (J2 234) (16 * i + k) (nI n)) := ⟨_, rfl⟩
    have j234 : J2 234 = I 234 := (f2.2.1 234 (by omega)).trans (f1.2.1 234 (by omega))
    have fG : frGn V W2 I J3 L M2 := frGn_t (frGn_V f1) (frGn_t (frGn_X (frXr_q f2)) (by rw [eJ3]; exact frGn_234))
    obtain ⟨W, J, M, n', Vg', Ig', Lg', st', K', hΦ, e3, ha', hx', ho, u96, fG'⟩ := ih (k + 1) K (n + 1) W2 J3 M2 st1 _ _ _ (by omega) (by omega) (by omega) (w96.trans d96) (fG.2.2.2.2.2.1 hw) (fG.2.2.2.2.2.2 iv) ⟨a2.1, fun y a b q => (by rw [eJ3]; exact iup_na (by omega) : J3 y = J2 y).trans (a2.2.1 y a b q), a2.2.2⟩ (fun x hx2 => by
      rw [eJ3, iup_eq]
      by_cases q : x = k
      · rw [q, upd_eq, hn]
      · rw [upd_ne (by omega), j234]
        exact hx x (by omega)) hS
    refine ⟨W, J, M, n', Vg', Ig', Lg', st', K', hΦ, ?_, ha', hx', fun y hy => by rw [ho y hy, eJ3, iup_eq, upd_ne (by omega), j234], u96, frGn_t fG fG'⟩
    rw [← e3]
    apply hd_488_95
    rw [show (16 : Int32) * nI i + nI k = nI (16 * i + k) from nI_add' i 16 k]
    refine ev_f (nI_ge (by omega) (by omega)) (ev_i rfl (ev_cV e1 (ev_b (rdR rfl) (ev_i rfl (ev_cI e2 (ev_b (qs_234 (by omega)) ?_))))))
    rw [nI_1, ← eJ3]
/-- an island is new, births are new, and both sides are one -/
theorem pop_rel {V : Nat → Nat → Value} {I : Nat → Nat → Int32} {L : Nat → Nat → Int64} {R : Nat → Nat → Option Nat} {tl : am_H} {W : Nat → Nat → Value} {J : Nat → Nat → Int32} {M : Nat → Nat → Int64} {n p i : Nat} (hi : i < 4) (h : rel V I L R tl n p) (v : ∀ a j, j ∈ vRel a → a ≠ 40 + 9 * i → a ≠ 42 + 9 * i → ¬ (a = 174 ∧ j = 80) → W a j = V a j) (e : ∀ y, y ∈ iRel → y ≠ 41 + 9 * i → y ≠ 233 → y ≠ 234 → J y = I y) (e3 : ∀ k, k < 4 → k ≠ i → J 233 k = I 233 k) (e4 : ∀ k, k < 64 → (k < 16 * i ∨ 16 * i + 16 ≤ k) → J 234 k = I 234 k) (l7 : M 77 = L 77) (l8 : M 78 = L 78) (l1 : M 183 = L 183) (iv : rInv W M) (w : wt W) (m5 : ∀ k, k < 4 → k ≠ i → M 235 k = L 235 k) (hs : sOk W J M n i) : rel W J M R tl n p := by
  have hx : ∃ x, W 174 80 = .int x := by
    rcases iv with ⟨h1, -, -⟩ | ⟨h1, -, -⟩
    · exact ⟨_, h1⟩
    · exact ⟨_, h1⟩
  obtain ⟨x, hx⟩ := hx
  have h8 : rel (vup V 174 80 (W 174 80)) I (lup (lup L 224 (M 224)) 225 (M 225)) R tl n p := by
    refine rel_80 (fun a j q => vup_o q) (fun y h1 h2 _ => by rw [lup_na h2, lup_na h1]) ?_ (by rw [hx]; exact wt_i (rel_w h) (by decide)) h
    unfold rInv
    rw [vup_eq, lup_eq, lup_na (by decide), lup_eq]
    exact iv
  refine rel_isl hi (fun a j hj h1 h2 => ?_) e e3 e4 (fun y hy h1 => ?_) (fun k hk q => by rw [lup_na (by decide), lup_na (by decide)]; exact m5 k hk q) w hs h8
  · by_cases q : a = 174 ∧ j = 80
    · rw [q.1, q.2, vup_eq]
    · rw [vup_o q]
      exact v a j hj h1 h2 q
  · have key : ∀ y, y ∈ lRel → y ≠ 235 → y = 77 ∨ y = 78 ∨ y = 183 ∨ y = 224 ∨ y = 225 := by decide
    rcases key y hy h1 with rfl | rfl | rfl | rfl | rfl
    · rw [lup_na (by decide), lup_na (by decide)]; exact l7
    · rw [lup_na (by decide), lup_na (by decide)]; exact l8
    · rw [lup_na (by decide), lup_na (by decide)]; exact l1
    · rw [lup_na (by decide), lup_eq]
    · rw [lup_eq]
set_option maxRecDepth 100000 in
set_option maxHeartbeats 4000000 in
theorem u_32 {V : Nat → Nat → Value} {I : Nat → Nat → Int32} {L : Nat → Nat → Int64} {R : Nat → Nat → Option Nat} {tl : am_H} {n p j : Nat} (hr : rel V I L R tl n p) (hm : room tl n p j) {N : Nat} (hN : 5000 < N) (a1 a2 a3 a4 : Int32) (sd : Int64) : ∃ h', opBI (fm_199 N (.ref 0) a1 a2 a3 a4 sd (.ref 268) (fx V I L R ++ tl)) (fun h1 => fm_488 N (.ref 174) a1 a2 a3 a4 sd h1) vfI h' ∧ invW (j + 1) h' := by
  obtain ⟨b1, b2, b3⟩ := hr.1
  have hwt := rel_w hr
  have err : ∀ (x : Int32) (c : Nat), (c = 1 ∨ c = 2 ∨ c = 3) → fm_199 N (.ref 0) x a2 a3 a4 sd (.ref 268) (fx V I L R ++ tl) = some (.inl (some (.int (nI c)), fx V I L R ++ (tl ++ [am_dummy]))) → (∀ t : am_H, fm_488 N (.ref 174) x a2 a3 a4 sd (fx V I L R ++ t) = fg_488_67 N (.ref 174) x a2 a3 a4 sd (.ref 174) (nI c) (fx V I L R ++ t)) → ∃ h', opBI (fm_199 N (.ref 0) x a2 a3 a4 sd (.ref 268) (fx V I L R ++ tl)) (fun h1 => fm_488 N (.ref 174) x a2 a3 a4 sd h1) vfI h' ∧ invW (j + 1) h' := fun x c hc e er => by
    refine ⟨_, opBI_err (c := nI c) (b := 0) (by rcases hc with rfl | rfl | rfl <;> decide) (tl := tl ++ [am_dummy]) e ?_, inv_mk (rel_thr (nI c) (rel_dum hr)) (room_dum hm)⟩
    refine (er _).trans ?_
    apply hd_488_67
    exact ev_b qp_174_0 (ev_b (a := nI c) rfl (ev_f (by rcases hc with rfl | rfl | rfl <;> decide) rfl))
  rcases dich a1 (n := 4) (by omega) with hn | ⟨i, hi, rfl⟩
  · refine err a1 1 (.inl rfl) ?_ (fun t => ?_)
    · have e : fm_200 N (.ref 0) a1 a2 a3 a4 sd (fx V I L R ++ tl) = some (.inr (2, (fx V I L R ++ (tl ++ [am_dummy])))) := by
        apply hm_200
        apply hd_200_0
        refine ev_i rfl ?_
        rw [c_201n hn]
        rfl
      apply hm_199
      apply hd_199_0
      refine ev_i rfl ?_
      rw [e]
      rfl
    · apply hm_488
      apply hd_488_0
      exact ev_i rfl (ev_cI (t489n hn) (ev_f (fun u => u rfl) rfl))
  by_cases hg : pGood a2 a3 a4
  case neg =>
    refine err (nI i) 2 (.inr (.inl rfl)) ?_ (fun t => ?_)
    · have e : fm_200 N (.ref 0) (nI i) a2 a3 a4 sd (fx V I L R ++ tl) = some (.inr (0, (fx V I L R ++ (tl ++ [am_dummy])))) := by
        rw [← List.append_assoc]
        exact c_200h rfl (c_201 hi) (c_200b hg)
      apply hm_199
      apply hd_199_0
      refine ev_i rfl ?_
      rw [e]
      rfl
    · apply hm_488
      apply hd_488_0
      refine ev_i rfl (ev_cI (t489v hi) (ev_t (by decide) (ev_cI (pe_327 _ _ _ _) ?_)))
      by_cases c1 : a2 < 0
      · rw [show pv_327 a2.toInt64 0 3 = 0 from in_lo (w64lt (b := 0) c1)]
        exact ev_t rfl (hd_488_46 rfl)
      · by_cases c2 : 3 < a2
        · rw [show pv_327 a2.toInt64 0 3 = 0 from in_hi (w64lt (a := 3) c2)]
          exact ev_t rfl (hd_488_46 rfl)
        · rw [show pv_327 a2.toInt64 0 3 = 1 from in_ok (w64le (a := 0) (Int32.not_lt.mp c1)) (w64le (b := 3) (Int32.not_lt.mp c2))]
          refine ev_f (by decide) (ev_cI (pe_327 _ _ _ _) ?_)
          by_cases c3 : a3 < 1
          · rw [show pv_327 a3.toInt64 1 16 = 0 from in_lo (w64lt (b := 1) c3)]
            exact ev_t rfl (hd_488_46 rfl)
          · by_cases c4 : 16 < a3
            · rw [show pv_327 a3.toInt64 1 16 = 0 from in_hi (w64lt (a := 16) c4)]
              exact ev_t rfl (hd_488_46 rfl)
            · rw [show pv_327 a3.toInt64 1 16 = 1 from in_ok (w64le (a := 1) (Int32.not_lt.mp c3)) (w64le (b := 16) (Int32.not_lt.mp c4))]
              refine ev_f (by decide) (ev_cI t490 ?_)
              by_cases c5 : a4 < pLo a2
              · rw [in_lo (w64lt c5)]
                exact ev_f (fun e => e rfl) (hd_488_46 rfl)
              · rw [in_hi (w64lt (Int32.not_le.mp (fun c6 => hg ⟨c1, c2, c3, c4, c5, c6⟩)))]
                exact ev_f (fun e => e rfl) (hd_488_46 rfl)
  obtain ⟨kd, m, sz, rfl, rfl, rfl, k3, m1, m16, z1, z2, z3⟩ := pGood_n hg
  have hz : szK kd sz := ⟨k3, fun h => z1 (by omega), z2, z3⟩
  obtain ⟨c1, c2, c3, c4, c5, c6⟩ := hg
  -- the reference up to the room
  have r67 : ∀ (W : Nat → Nat → Value) (J : Nat → Nat → Int32) (M : Nat → Nat → Int64) (S : Nat → Nat → Option Nat) (t : am_H), W 174 1 = .int (nI n) → fm_488 N (.ref 174) (nI i) (nI kd) (nI m) (nI sz) sd (fx W J M S ++ t) = (if nI (n + m) ≤ 600 then (fg_488_67 N (.ref 174) (nI i) (nI kd) (nI m) (nI sz) sd (.ref 174) 0 (fx W J M S ++ t)) else (fg_488_67 N (.ref 174) (nI i) (nI kd) (nI m) (nI sz) sd (.ref 174) 3 (fx W J M S ++ t))) := fun W J M S t h => by
    apply hm_488
    apply hd_488_0
    refine ev_i rfl (ev_cI (t489v hi) (ev_t (by decide) (ev_cI (pe_327 _ _ _ _) ?_)))
    rw [show pv_327 (nI kd).toInt64 0 3 = 1 from in_ok (w64le (a := 0) (Int32.not_lt.mp c1)) (w64le (b := 3) (Int32.not_lt.mp c2))]
    refine ev_f (by decide) (ev_cI (pe_327 _ _ _ _) ?_)
    rw [show pv_327 (nI m).toInt64 1 16 = 1 from in_ok (w64le (a := 1) (Int32.not_lt.mp c3)) (w64le (b := 16) (Int32.not_lt.mp c4))]
    refine ev_f (by decide) (ev_cI t490 ?_)
    rw [in_ok (w64le (Int32.not_lt.mp c5)) (w64le c6)]
    refine ev_t (by decide) (ev_b (rdI h) ?_)
    rw [nI_add]
  have c41 : ∀ o, am_cV true (fm_32 (.ref 0) (nI m) (fx V I L R ++ tl)) (fun h9 => ((am_vI (am_pG 2817 (.ref 0) h9)).bind fun v11 => ((am_vR (am_pG 258 (.ref (40 + 9 * i)) h9)).bind fun v13 => ((am_pP 2048 v13 (.long sd) h9).bind fun h15 => ((am_pP 256 (.ref (40 + 9 * i)) (.int (nI m)) h15).bind fun h17 => (fg_200_118 N N (.ref 0) (nI kd) (nI m) (nI sz) (.ref (40 + 9 * i)) v11 0 h17)))))) = o → fm_200 N (.ref 0) (nI i) (nI kd) (nI m) (nI sz) sd (fx V I L R ++ tl) = o := fun o k_ => by
    refine c_200h rfl (c_201 hi) ?_
    apply hd_200_41
    exact ev_f c1 (ev_f c2 (ev_f c3 (ev_f c4 (ev_f c5 (ev_t c6 (ev_i rfl k_))))))
  by_cases z6 : 600 < n + m
  · refine err (nI i) 3 (.inr (.inr rfl)) ?_ (fun t => ?_)
    · have e : fm_200 N (.ref 0) (nI i) (nI kd) (nI m) (nI sz) sd (fx V I L R ++ tl) = some (.inr (1, (fx V I L R ++ (tl ++ [am_dummy])))) := by
        refine c41 _ ?_
        rw [c_32gn b2 z6 (by omega)]
        rfl
      apply hm_199
      apply hd_199_0
      refine ev_i rfl ?_
      rw [e]
      rfl
    · rw [r67 V I L R t b3, if_neg (show ¬ nI (n + m) ≤ 600 from nI_ge (a := 600) z6 (by omega))]
      rfl
  obtain ⟨y1, y2, y3⟩ := hr.2.2.2.2.2.2.2.2.2.2.1
  -- the class
  obtain ⟨V1, eV1⟩ : ∃ X, X = vup (vup V (42 + 9 * i) 0 (.long sd)) (40 + 9 * i) 0 (.int (nI m)) := ⟨_, rfl⟩
  have v1o : ∀ a j, a ≠ 42 + 9 * i → a ≠ 40 + 9 * i → V1 a j = V a j := fun a j h1 h2 => by rw [eV1, vup_na h2, vup_na h1]
  have w1 : wt V1 := by
    rw [eV1]
    refine wt_i (wt_42 hi hwt) ?_
    rcases (by omega : i = 0 ∨ i = 1 ∨ i = 2 ∨ i = 3) with rfl | rfl | rfl | rfl <;> decide
  have v42 : V1 (42 + 9 * i) 0 = .long sd := by rw [eV1, vup_na (by omega)]; exact vup_eq
  have v40 : V1 (40 + 9 * i) 0 = .int (nI m) := by rw [eV1]; exact vup_eq
  have hI := isI_i hi
  obtain ⟨W, J, R', tl', Vg, Ig, Lg, st', e1, sp, hrg, hmg, hx, u0, u42, kp, fg⟩ := c_pop (L := L) (N := N) (p := p) (i := i) (kd := kd) (sz := sz) (m := m) (n0 := n) (j := j) hN hi hz m16 y1 y2 m 0 N n V1 I R tl sd V I L (by omega) (by omega) rfl (by omega) ((v1o 0 1 (by omega) (by omega)).trans b2) v42 w1 hr hm (fun x hx => absurd hx (by omega))
  have hS := sp (fun a b cc d ee => a = n + m ∧ b = Vg ∧ cc = Ig ∧ d = Lg ∧ ee = st') ⟨rfl, rfl, rfl, rfl, rfl⟩
  have hcls : fm_199 N (.ref 0) (nI i) (nI kd) (nI m) (nI sz) sd (.ref 268) (fx V I L R ++ tl) = some (.inl (some (.int 0), fx W J (outL L (nI n).toInt64) R' ++ tl')) := by
    have e : fm_200 N (.ref 0) (nI i) (nI kd) (nI m) (nI sz) sd (fx V I L R ++ tl) = some (.inl (some (.int (nI n)), fx W J L R' ++ tl')) := by
      refine c41 _ (ev_cV (c_32g b2 (by omega)) (ev_b (rdI b2) (ev_b (ir_2 hi) (ev_b (a := fx (vup V (42 + 9 * i) 0 (.long sd)) I L R ++ tl) (by rw [show 42 + 9 * i = 40 + 9 * i + 2 by omega]; exact s_put (isI_S hI) sd) (ev_b (a := fx V1 I L R ++ tl) (by rw [eV1]; exact i_put hI (nI m)) e1)))))
    apply hm_199
    apply hd_199_0
    refine ev_i rfl ?_
    rw [e]
    exact ev_b out_s rfl
  -- the reference
  have kv : ∀ a j, j ∈ vRel a → ¬ (a = 0 ∧ j = 1) → a ≠ 42 + 9 * i → a ≠ 40 + 9 * i → W a j = V a j := fun a j h1 h2 h3 h4 => (kp.1 a j h1 h2 h3).trans (v1o a j h3 h4)
  have ki : ∀ y, y ∈ iRel → y ≠ 41 + 9 * i → J y = I y := kp.2.1
  obtain ⟨V3, eV3⟩ : ∃ X, X = vup (vup W 174 0 (.int 0)) 174 96 (.long sd) := ⟨_, rfl⟩
  have v3o : ∀ a j, ¬ (a = 174 ∧ (j = 0 ∨ j = 96)) → V3 a j = W a j := fun a j h => by rw [eV3, vup_o (fun u => h ⟨u.1, .inr u.2⟩), vup_o (fun u => h ⟨u.1, .inl u.2⟩)]
  have w3 : wt V3 := by rw [eV3]; exact wt_lg (wt_i (kp.2.2.2 w1) (by decide)) (by decide)
  obtain ⟨M3, eM3⟩ : ∃ X, X = outL L (nI n).toInt64 := ⟨_, rfl⟩
  have m3o : ∀ y, y ≠ 268 → M3 y = L y := fun y h => by rw [eM3]; exact lup_na h
  obtain ⟨J3, eJ3⟩ : ∃ X, X = iup J 233 (upd (J 233) i (nI m)) := ⟨_, rfl⟩
  have j3o : ∀ y, y ≠ 233 → J3 y = J y := fun y h => by rw [eJ3]; exact iup_na h
  have iv3 : rInv V3 M3 := by
    unfold rInv
    rw [v3o 174 80 (by omega), kv 174 80 (by decide) (by omega) (by omega) (by omega), m3o 224 (by decide), m3o 225 (by decide)]
    exact y3
  have b175 : ∀ y, 175 ≤ y → y ≤ 185 → y ≠ 183 → y ∈ iRel := fun y a b q => by
    rcases (by omega : y = 175 ∨ y = 176 ∨ y = 177 ∨ y = 178 ∨ y = 179 ∨ y = 180 ∨ y = 181 ∨ y = 182 ∨ y = 184 ∨ y = 185) with rfl | rfl | rfl | rfl | rfl | rfl | rfl | rfl | rfl | rfl <;> decide
  obtain ⟨W4, J4, M4, n4, Vg4, Ig4, Lg4, st4, K4, hΨ, e4, ha4, hx4, ho4, g96, fG⟩ := r_pop (R := R') (tl := tl') (N := N) (i := i) (kd := kd) (sz := sz) (m := m) (n0 := n) hN hi hz m16 m 0 N n V3 J3 M3 sd V I L (by omega) (by omega) rfl (by rw [eV3]; exact vup_eq) w3 iv3 ⟨(v3o 174 1 (by omega)).trans ((kv 174 1 (by decide) (by omega) (by omega) (by omega)).trans b3), fun y a b q => (j3o y (by omega)).trans (ki y (b175 y a b q) (by omega)), m3o 183 (by decide)⟩ (fun x hx => absurd hx (by omega)) hS
  obtain ⟨rfl, rfl, rfl, rfl, rfl⟩ := hΨ
  obtain ⟨M5, eM5⟩ : ∃ X, X = lup M4 235 (vp_updL (M4 235) i st4) := ⟨_, rfl⟩
  have m5o : ∀ y, y ≠ 235 → M5 y = M4 y := fun y h => by rw [eM5]; exact lup_na h
  have m235 : M4 235 = L 235 := (fG.2.2.2.2.1 235 (by omega)).trans (m3o 235 (by decide))
  have hrel : rel W4 J4 M5 R' tl' (n + m) p := by
    refine pop_rel hi hrg (fun a jj hj h1 h2 h3 => ?_) (fun y hy h1 h2 h3 => ?_) (fun k hk q => ?_) (fun k hk q => ?_) ?_ ?_ ?_ ?_ (fG.2.2.2.2.2.1 w3) (fun k hk q => ?_) ⟨m, kd, m16, ?_, ?_, ?_, fun k hk => ⟨n + k, by omega, ?_, hx4 k hk, ?_⟩⟩
    · by_cases z : a = 174
      · subst z
        by_cases zz : jj = 1
        · subst zz
          rw [ha4.1, hrg.1.2.2]
        · rw [fG.2.1 jj (.inl hj) zz (fun u => h3 ⟨rfl, u⟩)]
          have nj : jj ≠ 0 ∧ jj ≠ 96 := by
            have key : ∀ j, j ∈ vRel 174 → j ≠ 0 ∧ j ≠ 96 := by decide
            exact key jj hj
          rw [v3o 174 jj (by omega), kv 174 jj hj (by omega) (by omega) (by omega), fg.1 174 jj (by omega) (by omega)]
      · rw [fG.1 a jj z, v3o a jj (by omega)]
        by_cases zz : a = 0 ∧ jj = 1
        · rw [zz.1, zz.2, hrg.1.2.1, u0]
        · rw [kv a jj hj zz h2 h1, fg.1 a jj zz (by omega)]
    · by_cases z : 175 ≤ y ∧ y ≤ 185
      · have z3 : y ≠ 183 := by
          have key : ∀ y, y ∈ iRel → y ≠ 183 := by decide
          exact key y hy
        exact ha4.2.1 y z.1 z.2 z3
      · have ny : y ≠ 186 ∧ y ≠ 187 := by
          have key : ∀ y, y ∈ iRel → y ≠ 186 ∧ y ≠ 187 := by decide
          exact key y hy
        rw [fG.2.2.2.1 y hy z h3, j3o y h2, ki y hy h1, fg.2.1 y (by omega)]
    · rw [fG.2.2.2.1 233 (by decide) (by omega) (by omega), eJ3, iup_eq, upd_ne q, ki 233 (by decide) (by omega), fg.2.1 233 (by omega)]
    · rw [ho4 k q, j3o 234 (by decide), ki 234 (by decide) (by omega), fg.2.1 234 (by omega)]
    · rw [m5o 77 (by decide), fG.2.2.2.2.1 77 (by omega), m3o 77 (by decide), fg.2.2 77 (by decide)]
    · rw [m5o 78 (by decide), fG.2.2.2.2.1 78 (by omega), m3o 78 (by decide), fg.2.2 78 (by decide)]
    · rw [m5o 183 (by decide)]
      exact ha4.2.2
    · have h := fG.2.2.2.2.2.2 iv3
      unfold rInv at h ⊢
      rw [m5o 224 (by decide), m5o 225 (by decide)]
      exact h
    · rw [eM5, lup_eq, show vp_updL (M4 235) i st4 k = M4 235 k from if_neg q, m235, fg.2.2 235 (by decide)]
    · rw [fG.1 _ _ (by omega), v3o _ _ (by omega), kp.1 _ _ (m40 hi) (by omega) (by omega)]
      exact v40
    · rw [fG.2.2.2.1 233 (by decide) (by omega) (by omega), eJ3, iup_eq, upd_eq]
    · rw [fG.1 _ _ (by omega), v3o _ _ (by omega), u42, eM5, lup_eq, show vp_updL (M4 235) i st4 i = st4 from if_pos rfl]
    · rw [fG.2.2.1 _ (by omega), j3o _ (by omega)]
      exact (hx k hk).1
    · rw [ha4.2.1 175 (by omega) (by omega) (by omega)]
      exact (hx k hk).2
  refine ⟨_, opBI_g (v := nI n) (W := W) (J := J) (M := outL L (nI n).toInt64) (R1 := R') (t1 := tl') (W' := W4) (J' := J4) (M' := M5) (R2 := R') (t2 := tl') hcls ?_ ?_ ?_, inv_mk hrel (room_up hmg)⟩
  · show fm_488 N (.ref 174) (nI i) (nI kd) (nI m) (nI sz) sd (fx W J (outL L (nI n).toInt64) R' ++ tl') = _
    rw [r67 W J _ R' tl' ((kv 174 1 (by decide) (by omega) (by omega) (by omega)).trans b3), if_pos (show nI (n + m) ≤ 600 from nI_le (b := 600) (by omega) (by omega)), ← eM3]
    apply hd_488_67
    refine ev_b qp_174_0 (ev_b (a := 0) rfl (ev_t (by decide) (ev_b (a := fx V3 J M3 R' ++ tl') (by rw [eV3]; exact qp_174_96) (ev_b (rdR rfl) (ev_b (a := fx V3 J3 M3 R' ++ tl') (by rw [eJ3]; exact qs_233 hi) ?_)))))
    refine Eq.trans e4 ?_
    apply hd_488_95
    refine ev_t (nI_le (Nat.le_refl m) (by omega)) (ev_b (rdR rfl) (ev_b (rdL g96) (ev_b (a := fx W4 J4 M5 R' ++ tl') (by rw [eM5]; exact qs_235 hi) (ev_b (rdR rfl) ?_))))
    rw [mul16 i]
    exact ev_b (a := nI n) ((qa_234 (by omega)).trans (congrArg some (hx4 0 (by omega)))) rfl
  · rw [fG.2.1 0 (.inr rfl) (by decide) (by decide), eV3, vup_o (by decide)]
    exact vup_eq
  · rw [m5o 268 (by decide), fG.2.2.2.2.1 268 (by omega), eM3]
    exact outL_at
