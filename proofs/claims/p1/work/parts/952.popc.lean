/-! ===== populate: the class ===== -/
theorem uT_pos : ∀ z, z < 10 → 1 ≤ z → 1 ≤ uT 0 z := by decide +kernel
set_option maxRecDepth 100000 in
set_option maxHeartbeats 4000000 in
theorem d_tree {V : Nat → Nat → Value} {I : Nat → Nat → Int32} {L : Nat → Nat → Int64} {R : Nat → Nat → Option Nat} {tl : am_H} {N x z : Nat} {st : Int64} (hx : isS x) (hN : 40 < N) (h7 : L 77 = tW) (h8 : L 78 = tT) (hz : 1 ≤ z) (hz9 : z ≤ 9) (hs : V x 0 = .long st) : ∃ V' I', fm_202 N (.ref 0) (.ref x) (nI 0) (nI z) (fx V I L R ++ tl) = some (.inl (none, fx V' I' L R ++ tl)) ∧ drawn x V V' I I' := by
  obtain ⟨n1, n2, n3, n4⟩ := isS_ne hx
  have hu := (u_c hz (by omega) (show 0 < 6 by omega)).2
  have hp := uT_pos z (by omega) hz
  have hlt := Nat.mod_lt (2147483648 * hlf (nxt st) + hlf (nxt (nxt st))) (show 0 < uT 0 z by omega)
  have q := x_91 (V := vup V x 0 (.long (nxt (nxt st)))) (I := I) (L := L) (R := R) (tl := tl) (N := N) (c := 0) (n := z) (P := (2147483648 * hlf (nxt st) + hlf (nxt (nxt st))) % uT 0 z) (by omega) h7 h8 (by omega) hz (by omega) hlt
  refine ⟨vup (vup (vup (vup (vup (vup (vup V x 0 (.long (nxt (nxt st)))) 76 3 (.ref 167)) 167 1 (.int 0)) 167 2 (.int 0)) 167 3 (.int 0)) 167 4 (.int 2)) 167 3 (.int (nI z)), iup I 168 (wrt (I 168) 0 (un 0 z ((2147483648 * hlf (nxt st) + hlf (nxt (nxt st))) % uT 0 z))), ?_, ⟨z, 2, 0, 0, rfl, rfl, rfl, rfl, rfl, by omega, by omega, by omega⟩, ⟨nxt (nxt st), ?_⟩, fun j => ?_, fun j => ?_, fun y hy => if_neg (by omega)⟩
  · unfold fm_202 fg_202_0
    refine ev_t (by decide) ?_
    refine ev_t (by decide) ?_
    refine ev_f (fun e => e rfl) ?_
    refine ev_b (a := .ref 167) rfl ?_
    unfold fg_202_43
    refine ev_b (a := .ref 76) rfl ?_
    refine ev_b (a := .ref 76) rfl ?_
    refine ev_i rfl ?_
    refine ev_cL (e_15 (a := 76) (ta := 78) (T := tT) rfl rfl (by rw [← h8]; rfl) 0 (nI z)) ?_
    rw [show rkTot tT 0 (nI z) = lN (uT 0 z) from rkTot_u (c := 0) (by omega) hz (by omega)]
    refine ev_i (isS_ok hx) ?_
    refine ev_cL (d_194 hx hs hp hu) ?_
    refine ev_i rfl ?_
    refine ev_cV (show fm_91 N (.ref 76) 0 (nI z) _ (.ref 167) _ = _ from q) ?_
    exact ev_t (by decide) rfl
  · rw [vup_ne n1, vup_ne n1, vup_ne n1, vup_ne n1, vup_ne n1, vup_ne n4, vup_eq]
  · rw [vup_ne (by omega), vup_ne (by omega), vup_ne (by omega), vup_ne (by omega), vup_ne (by omega), vup_ne (by omega), vup_ne (fun e => n2 e.symm)]
  · rw [vup_ne (by omega), vup_ne (by omega), vup_ne (by omega), vup_ne (by omega), vup_ne (by omega), vup_ne (by omega), vup_ne (fun e => n3 e.symm)]
/-- a kind that the class draws, whatever stands in the spare rows -/
def dOk (N : Nat) (L : Nat → Nat → Int64) (kd z : Nat) : Prop := ∀ (V : Nat → Nat → Value) (I : Nat → Nat → Int32) (R : Nat → Nat → Option Nat) (tl : am_H) (x : Nat) (st : Int64), isS x → V x 0 = .long st → ∃ V' I', fm_202 N (.ref 0) (.ref x) (nI kd) (nI z) (fx V I L R ++ tl) = some (.inl (none, fx V' I' L R ++ tl)) ∧ drawn x V V' I I'
set_option maxRecDepth 100000 in
set_option maxHeartbeats 4000000 in
theorem dOk_0 {N z : Nat} {L : Nat → Nat → Int64} (hN : 40 < N) (h7 : L 77 = tW) (h8 : L 78 = tT) (hz : 1 ≤ z) (hz9 : z ≤ 9) : dOk N L 0 z := fun _ _ _ _ _ _ hx hs => d_tree hx hN h7 h8 hz hz9 hs
theorem dOk_2 {N z : Nat} {L : Nat → Nat → Int64} (hN : 40 < N) (hz : 1 ≤ z) (hz6 : z ≤ 6) : dOk N L 2 z := by
  intro V I R tl x st hx hs
  obtain ⟨V', I', q1, q2⟩ := d_203 (V := V) (I := I) (L := L) (R := R) (tl := tl) hx hN hz hz6 hs
  refine ⟨V', I', ?_, q2⟩
  unfold fm_202 fg_202_0
  refine ev_f (fun e => e rfl) ?_
  refine ev_i rfl ?_
  exact ev_cV q1 rfl
theorem dOk_3 {N z : Nat} {L : Nat → Nat → Int64} (hN : 40 < N) (hz : 2 ≤ z) (hz8 : z ≤ 8) : dOk N L 3 z := by
  intro V I R tl x st hx hs
  obtain ⟨V', I', q1, q2⟩ := d_204 (V := V) (I := I) (L := L) (R := R) (tl := tl) hx hN hz hz8 hs
  refine ⟨V', I', ?_, q2⟩
  unfold fm_202 fg_202_0
  refine ev_t (by decide) ?_
  refine ev_f (fun e => e rfl) ?_
  refine ev_i rfl ?_
  exact ev_cV q1 rfl
def isI (a : Nat) : Prop := a = 40 ∨ a = 49 ∨ a = 58 ∨ a = 67
theorem isI_S {a : Nat} (h : isI a) : isS (a + 2) := by
  rcases h with rfl | rfl | rfl | rfl
  · exact .inl rfl
  · exact .inr (.inl rfl)
  · exact .inr (.inr (.inl rfl))
  · exact .inr (.inr (.inr rfl))
set_option maxRecDepth 100000 in
set_option maxHeartbeats 4000000 in
theorem i_258 {V : Nat → Nat → Value} {I : Nat → Nat → Int32} {L : Nat → Nat → Int64} {R : Nat → Nat → Option Nat} {tl : am_H} {a : Nat} (h : isI a) : am_vR (am_pG 258 (.ref a) (fx V I L R ++ tl)) = some (.ref (a + 2)) := by
  rcases h with rfl | rfl | rfl | rfl <;> rfl
set_option maxRecDepth 100000 in
set_option maxHeartbeats 4000000 in
theorem i_257 {V : Nat → Nat → Value} {I : Nat → Nat → Int32} {L : Nat → Nat → Int64} {R : Nat → Nat → Option Nat} {tl : am_H} {a : Nat} (h : isI a) : am_vR (am_pG 257 (.ref a) (fx V I L R ++ tl)) = some (.ref (a + 1)) := by
  rcases h with rfl | rfl | rfl | rfl <;> rfl
set_option maxRecDepth 100000 in
set_option maxHeartbeats 4000000 in
theorem i_S {V : Nat → Nat → Value} {I : Nat → Nat → Int32} {L : Nat → Nat → Int64} {R : Nat → Nat → Option Nat} {tl : am_H} {a k : Nat} (h : isI a) (hk : k < 16) (v : Int32) : am_pS 0 (.ref (a + 1)) (nI k) v (fx V I L R ++ tl) = some (fx V (iup I (a + 1) (upd (I (a + 1)) k v)) L R ++ tl) := by
  have hin : am_inb (nI k) 16 = true := am_inb_n hk (by omega)
  have hcl : (nI k).toNatClampNeg = k := nI_clamp (by omega)
  rcases h with rfl | rfl | rfl | rfl
  · exact ev_s (f := I 41) rfl hin rfl (by rw [hcl]; rfl)
  · exact ev_s (f := I 50) rfl hin rfl (by rw [hcl]; rfl)
  · exact ev_s (f := I 59) rfl hin rfl (by rw [hcl]; rfl)
  · exact ev_s (f := I 68) rfl hin rfl (by rw [hcl]; rfl)
set_option maxRecDepth 100000 in
set_option maxHeartbeats 4000000 in
theorem c_200l {L : Nat → Nat → Int64} {N a kd z n : Nat} {x10 : Int32} (ha : isI a) (hn : n ≤ 16) (hD : dOk N L kd z) : ∀ (m k K : Nat) (V : Nat → Nat → Value) (I : Nat → Nat → Int32) (R : Nat → Nat → Option Nat) (tl : am_H) (st : Int64), k + m = n → m < K → V 0 1 = .int (nI k) → V (a + 2) 0 = .long st → tl.length = 2 * k → am_sz tl ≤ 200 * k → ∃ V' I' R' tl', fg_200_118 N K (.ref 0) (nI kd) (nI n) (nI z) (.ref a) x10 (nI k) (fx V I L R ++ tl) = some (.inl (some (.int x10), fx V' I' L R' ++ tl')) ∧ (∀ j, V' 174 j = V 174 j) ∧ (∀ y, 174 ≤ y → I' y = I y) ∧ tl'.length ≤ 32 ∧ am_sz tl' ≤ 3200 := by
  have hS := isI_S ha
  have h2 : a + 2 < 100 := by rcases ha with rfl | rfl | rfl | rfl <;> decide
  intro m
  induction m with
  | zero =>
    intro k K V I R tl st hm hK h0 hs ht1 ht2
    obtain ⟨K, rfl⟩ : ∃ k, K = k + 1 := ⟨K - 1, by omega⟩
    refine ⟨V, I, R, tl, ?_, fun _ => rfl, fun _ _ => rfl, by omega, by omega⟩
    rw [fg_200_118]
    exact ev_t (nI_le (by omega) (by omega)) rfl
  | succ m ih =>
    intro k K V I R tl st hm hK h0 hs ht1 ht2
    obtain ⟨K, rfl⟩ : ∃ k, K = k + 1 := ⟨K - 1, by omega⟩
    obtain ⟨V1, I1, q1, ⟨s, wd, kd1, ln, w1, w2, w3, w4, w5, w6, w7, w8⟩, ⟨st1, hs1⟩, d3, d4, d5⟩ := hD V I R tl (a + 2) st hS hs
    have b := x_59 (V := V1) (I := I1) (L := L) (R := R) (tl := tl) (s := s) (wd := wd) (m := k) (kd := kd1) (ln := ln) w1 w2 w3 w4 w5 w6 w7 w8 (by rw [d3]; exact h0) (by omega) 2 (-1) (-1) (-1) (-1) 0
    obtain ⟨V', I', R', tl', r1, r2, r3, r4, r5⟩ := ih (k + 1) K (vup V1 0 1 (.int (nI (k + 1)))) (iup I1 (a + 1) (upd (I1 (a + 1)) k (nI k))) (rup R 1 (va_up (R 1) k (some (269 + tl.length)))) (tl ++ [.inr (3, [.ref (269 + tl.length + 1), .int kd1, .int ln, .int (nI s), .int (nI wd), .int 2, .int (-1), .int (-1), .int (-1), .int (-1), .long 0]), .inl (0, s * wd, .inl (va_cpy (I1 168) (fun _ => 0) 0 0 (s * wd)))]) st1 (by omega) (by omega) vup_eq (by rw [vup_ne (by omega)]; exact hs1) (by rw [List.length_append, ht1]; show 2 * k + 2 = _; omega) (by
      show (List.map am_sz1 (tl ++ _)).sum ≤ _
      rw [List.map_append, List.sum_append]
      show am_sz tl + (am_N 3 + (s * wd + 0)) ≤ _
      rw [show am_N 3 = 11 by decide]
      omega)
    refine ⟨V', I', R', tl', ?_, fun j => by rw [r2 j, vup_ne (by omega)]; exact d4 j, fun y hy => by rw [r3 y hy]; exact (if_neg (by omega)).trans (d5 y hy), r4, r5⟩
    rw [fg_200_118]
    refine ev_f (nI_ge (by omega) (by omega)) ?_
    refine ev_b (i_258 ha) ?_
    refine ev_i rfl ?_
    refine ev_cV q1 ?_
    refine ev_b (i_257 ha) ?_
    refine ev_b (a := .ref 167) rfl ?_
    refine ev_i rfl ?_
    refine ev_cI b ?_
    refine ev_b (i_S ha (by omega) _) ?_
    rw [nI_1]
    exact r1
