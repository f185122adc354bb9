/-! ===== frames ===== -/
theorem wt_r {V : Nat → Nat → Value} {a j : Nat} {w : Value} (h : wt V) (hi : ¬ j ∈ fI a) (hl : ¬ j ∈ fL a) : wt (vup V a j w) := by
  refine ⟨fun b k hk => ?_, fun b k hk => ?_⟩
  · rw [vup_at]
    by_cases c : b = a
    · rw [if_pos c]
      by_cases d : k = j
      · subst c; subst d; exact absurd hk hi
      · rw [if_neg d]; exact h.1 b k hk
    · rw [if_neg c]; exact h.1 b k hk
  · rw [vup_at]
    by_cases c : b = a
    · rw [if_pos c]
      by_cases d : k = j
      · subst c; subst d; exact absurd hk hl
      · rw [if_neg d]; exact h.2 b k hk
    · rw [if_neg c]; exact h.2 b k hk
/-- nothing that counts has changed -/
def keep (V W : Nat → Nat → Value) (I J : Nat → Nat → Int32) : Prop := (∀ a j, j ∈ vRel a → W a j = V a j) ∧ (∀ y, y ∈ iRel → J y = I y) ∧ (wt V → wt W)
theorem keep_r {V : Nat → Nat → Value} {I : Nat → Nat → Int32} : keep V V I I := ⟨fun _ _ _ => rfl, fun _ _ => rfl, id⟩
theorem keep_t {V W X : Nat → Nat → Value} {I J K : Nat → Nat → Int32} (h1 : keep V W I J) (h2 : keep W X J K) : keep V X I K := ⟨fun a j h => (h2.1 a j h).trans (h1.1 a j h), fun y h => (h2.2.1 y h).trans (h1.2.1 y h), fun w => h2.2.2 (h1.2.2 w)⟩
theorem rel_w {V : Nat → Nat → Value} {I : Nat → Nat → Int32} {L : Nat → Nat → Int64} {R : Nat → Nat → Option Nat} {tl : am_H} {n p : Nat} (h : rel V I L R tl n p) : wt V := h.2.2.2.2.2.2.2.2.2.2.2.2
theorem rel_k {V : Nat → Nat → Value} {I : Nat → Nat → Int32} {L : Nat → Nat → Int64} {R : Nat → Nat → Option Nat} {tl : am_H} {W : Nat → Nat → Value} {J : Nat → Nat → Int32} {n p : Nat} (k : keep V W I J) (h : rel V I L R tl n p) : rel W J L R tl n p := rel_c k.1 k.2.1 (fun _ _ => rfl) (k.2.2 (rel_w h)) h
theorem vr16 : ∀ j, j ∈ vRel 16 → j = 0 := by decide
theorem vr17 : ∀ j, j ∈ vRel 17 → False := by decide
theorem frP_k {V W : Nat → Nat → Value} {I J : Nat → Nat → Int32} (h : frP V W I J) : keep V W I J := ⟨fun a j hj => by
    by_cases c : a = 16
    · subst c
      have e : j = 0 := vr16 j hj
      subst e
      exact h.2.1
    · exact h.1 a j c, fun y hy => h.2.2.2.1 y (fun e => by subst e; revert hy; decide) (fun e => by subst e; revert hy; decide), h.2.2.2.2⟩
theorem frP_t {V W X : Nat → Nat → Value} {I J K : Nat → Nat → Int32} (h1 : frP V W I J) (h2 : frP W X J K) : frP V X I K := ⟨fun a j h => (h2.1 a j h).trans (h1.1 a j h), h2.2.1.trans h1.2.1, h2.2.2.1.trans h1.2.2.1, fun y a b => (h2.2.2.2.1 y a b).trans (h1.2.2.2.1 y a b), fun w => h2.2.2.2.2 (h1.2.2.2.2 w)⟩
theorem frP_r {V : Nat → Nat → Value} {I : Nat → Nat → Int32} : frP V V I I := ⟨fun _ _ _ => rfl, rfl, rfl, fun _ _ _ => rfl, id⟩
def frL (V W : Nat → Nat → Value) (I J : Nat → Nat → Int32) : Prop := (∀ a j, ¬ (a = 16 ∧ j = 4) → ¬ (a = 17 ∧ j = 7) → W a j = V a j) ∧ (∀ y, y ≠ 18 → J y = I y) ∧ (wt V → wt W)
theorem frL_k {V W : Nat → Nat → Value} {I J : Nat → Nat → Int32} (h : frL V W I J) : keep V W I J := ⟨fun a j hj => h.1 a j (fun e => by
    obtain ⟨e1, e2⟩ := e
    subst e1
    have := vr16 j hj
    omega) (fun e => by
    obtain ⟨e1, e2⟩ := e
    subst e1
    exact vr17 j hj), fun y hy => h.2.1 y (fun e => by subst e; revert hy; decide), h.2.2⟩
/-- what the reference's running and asking may change -/
def scR : List Nat := [48, 49, 50, 51, 52, 53, 54, 58, 59, 65, 66]
def siR : List Nat := [194, 212, 213, 214, 215, 217]
def frQ (V W : Nat → Nat → Value) (I J : Nat → Nat → Int32) : Prop := (∀ a j, (a = 174 → ¬ j ∈ scR) → W a j = V a j) ∧ (∀ y, ¬ y ∈ siR → J y = I y) ∧ (wt V → wt W)
theorem frQ_r {V : Nat → Nat → Value} {I : Nat → Nat → Int32} : frQ V V I I := ⟨fun _ _ _ => rfl, fun _ _ => rfl, id⟩
theorem frQ_t {V W X : Nat → Nat → Value} {I J K : Nat → Nat → Int32} (h1 : frQ V W I J) (h2 : frQ W X J K) : frQ V X I K := ⟨fun a j h => (h2.1 a j h).trans (h1.1 a j h), fun y h => (h2.2.1 y h).trans (h1.2.1 y h), fun w => h2.2.2 (h1.2.2 w)⟩
theorem vr174 : ∀ j, j ∈ vRel 174 → ¬ j ∈ scR := by decide
theorem ir174 : ∀ y, y ∈ iRel → ¬ y ∈ siR := by decide
theorem frQ_k {V W : Nat → Nat → Value} {I J : Nat → Nat → Int32} (h : frQ V W I J) : keep V W I J := ⟨fun a j hj => h.1 a j (fun e => by subst e; exact vr174 j hj), fun y hy => h.2.1 y (ir174 y hy), h.2.2⟩
theorem frR_Q {V W : Nat → Nat → Value} {I J : Nat → Nat → Int32} (h : frR V W I J) : frQ V W I J := by
  refine ⟨fun a j hj => h.1 a j ?_, fun y hy => h.2.1 y ?_ ?_ ?_ ?_ ?_, h.2.2⟩
  · by_cases c : a = 174
    · refine .inr ⟨?_, ?_, ?_, ?_, ?_, ?_, ?_⟩ <;> (intro e; subst e; exact hj c (by decide))
    · exact .inl c
  all_goals (intro e; subst e; exact hy (by decide))
theorem ldR_c {V W : Nat → Nat → Value} {I J : Nat → Nat → Int32} {kd ln sz lm : Nat} {s v : Nat → Int32} (hf : frQ V W I J) (h : ldR V I kd ln sz s v lm) : ldR W J kd ln sz s v lm := by
  obtain ⟨d13, d14, d15, dsv, hs, h6, hlo, hhi⟩ := h
  refine ⟨(hf.1 174 13 (fun _ => by decide)).trans d13, (hf.1 174 14 (fun _ => by decide)).trans d14, fun e => (hf.1 174 15 (fun _ => by decide)).trans (d15 e), ?_, hs, ?_, hlo, hhi⟩
  · rw [hf.2.1 186 (by decide), hf.2.1 187 (by decide)]
    exact dsv
  · rw [hf.2.1 206 (by decide)]
    exact h6
/-! ===== a program into the runner ===== -/
set_option maxRecDepth 100000 in
set_option maxHeartbeats 1600000 in
theorem c_115 {V : Nat → Nat → Value} {I : Nat → Nat → Int32} {L : Nat → Nat → Int64} {R : Nat → Nat → Option Nat} {tl : am_H} {N a it kd ln sz m0 lm : Nat} {fi s v : Nat → Int32} (hN : 100 < N) (hp : prA V I tl a it kd ln sz m0 fi) (hne : a ≠ 16 ∧ a ≠ 17 ∧ it ≠ 18 ∧ it ≠ 25 ∧ it ≠ 26) (hi : itm kd s v sz fi) (hs : sound kd ln sz s v) (hm0 : sz * wdN kd ≤ m0) (hm1 : m0 ≤ 1000) (h0 : V 16 0 = .int (nI lm)) (hlo : 10 ≤ lm) (hhi : lm ≤ 2000) : ∃ W J, fm_115 N (.ref 16) (.ref a) (fx V I L R ++ tl) = some (.inl (none, fx W J L R ++ tl)) ∧ ldC W J tl a it kd ln sz m0 fi s v lm ∧ frL V W I J := by
  obtain ⟨a16, a17, i18, i25, i26⟩ := hne
  have hk := hs.1
  have p1 : prA (vup V 16 4 (.ref a)) I tl a it kd ln sz m0 fi := prA_c (fun j => vup_na a16) rfl hp
  obtain ⟨x1, x2, x3, x4, x5, x6, q1, q2⟩ := p1 (vup V 16 4 (.ref a)) I L R (fun _ => rfl) rfl
  by_cases c : kd = 0
  · subst c
    have hi' : ∀ k, k < sz → fi (k * 2) = s k ∧ fi (k * 2 + 1) = v k := hi
    obtain ⟨t1, t2⟩ := lsT_ok (hs.2.2.2.1 rfl)
    obtain ⟨g', hg, e⟩ := c_77_17 (V := vup V 16 4 (.ref a)) (I := I) (L := L) (R := R) (tl := tl) (N := N) (l := lsT sz s) (f := fi) (kd := 0) (ln := ln) (m0 := m0) (a := a) (it := it) hN (by decide) (by rw [lsT_len]; exact p1) a17 i18 (by rw [lsT_len]; exact hm0) hm1 (by rw [lsT_len]; exact hs.2.1) (fun k x r hd => ⟨(hi' k (by have := drop_lt hd; rw [lsT_len] at this; exact this)).1.trans (t2 k x r hd).1, (form_at t1 hd).1⟩) (okF_F _ _ t1)
    rw [lsT_len] at e hg
    refine ⟨_, _, ?_, ⟨prA_c (fun j => (vup_na a17).trans (vup_na a16)) (iup_na i18) hp, ⟨a16, a17, i18, i25, i26⟩, hi, hs, hm0, hm1, (vup_na (by decide)).trans vup_eq, ((vup_na (by decide)).trans (vup_nj (by decide))).trans h0, hlo, hhi, fun _ => ⟨vup_eq, fun k hk => hg k hk⟩⟩, fun b j h1 h2 => ?_, fun y hy => iup_na hy, fun hw => wt_i (wt_r hw (by decide) (by decide)) (by decide)⟩
    · unfold fm_115 fg_115_0
      exact ev_b qp_16_4 (ev_b (ev_gI q1 rfl rfl) (ev_f (fun e => e rfl) (ev_b (a := Value.ref 17) rfl (ev_i rfl (ev_cV e rfl)))))
    · by_cases c7 : b = 17
      · subst c7
        rw [vup_nj (fun e => h2 ⟨rfl, e⟩), vup_na (by decide)]
      · rw [vup_na c7]
        by_cases c6 : b = 16
        · subst c6
          exact vup_nj (fun e => h1 ⟨rfl, e⟩)
        · exact vup_na c6
  · refine ⟨_, _, ?_, ⟨p1, ⟨a16, a17, i18, i25, i26⟩, hi, hs, hm0, hm1, vup_eq, (vup_nj (by decide)).trans h0, hlo, hhi, fun e => absurd e c⟩, fun b j h1 h2 => ?_, fun y hy => rfl, fun hw => wt_r hw (by decide) (by decide)⟩
    · unfold fm_115 fg_115_0
      exact ev_b qp_16_4 (ev_b (ev_gI q1 rfl rfl) (ev_t (nI_ne0 (by omega) (by omega)) rfl))
    · by_cases c6 : b = 16
      · subst c6
        exact vup_nj (fun e => h1 ⟨rfl, e⟩)
      · exact vup_na c6
/-! ===== the reference asks a case ===== -/
def cpr (D Q : Nat → Int32) (b k : Nat) : Nat → Int32 := fun j => if j < k then Q (8 * b + j) else D j
theorem cpr_0 {D Q : Nat → Int32} {b : Nat} : cpr D Q b 0 = D := by
  funext j
  unfold cpr
  rw [if_neg (by omega)]
theorem cpr_s {D Q : Nat → Int32} {b k : Nat} : upd (cpr D Q b k) k (Q (8 * b + k)) = cpr D Q b (k + 1) := by
  funext j
  by_cases c : j = k
  · rw [c, upd_eq]
    unfold cpr
    rw [if_pos (by omega)]
  · rw [upd_ne c]
    unfold cpr
    by_cases d : j < k
    · rw [if_pos d, if_pos (by omega)]
    · rw [if_neg d, if_neg (by omega)]
theorem cpr_at {D Q : Nat → Int32} {b k j : Nat} (h : j < k) : cpr D Q b k j = Q (8 * b + j) := if_pos h
def inV (V : Nat → Nat → Value) (x y z l : Int32) : Nat → Nat → Value := vup (vup (vup (vup V 174 51 (.int x)) 174 52 (.int y)) 174 53 (.int z)) 174 54 (.int l)
theorem inV_o {V : Nat → Nat → Value} {x y z l : Int32} {a j : Nat} (h : a = 174 → j ≠ 51 ∧ j ≠ 52 ∧ j ≠ 53 ∧ j ≠ 54) : inV V x y z l a j = V a j := by
  unfold inV
  by_cases c : a = 174
  · obtain ⟨h1, h2, h3, h4⟩ := h c
    subst c
    rw [vup_nj h4, vup_nj h3, vup_nj h2, vup_nj h1]
  · rw [vup_na c, vup_na c, vup_na c, vup_na c]
theorem wt_inV {V : Nat → Nat → Value} {x y z l : Int32} (h : wt V) : wt (inV V x y z l) := wt_i (wt_i (wt_i (wt_i h (by decide)) (by decide)) (by decide)) (by decide)
set_option maxRecDepth 100000 in
set_option maxHeartbeats 1600000 in
theorem r_402l {V : Nat → Nat → Value} {I : Nat → Nat → Int32} {L : Nat → Nat → Int64} {R : Nat → Nat → Option Nat} {tl : am_H} {N k : Nat} (hk : k < 24) : ∀ (m i K : Nat), i + m = 8 → m < K → fg_402_42 N K (.ref 174) (nI k) (nI i) (fx V (iup I 212 (cpr (I 212) (I 204) k i)) L R ++ tl) = some (.inl (none, fx V (iup I 212 (cpr (I 212) (I 204) k 8)) L R ++ tl)) := by
  intro m
  induction m with
  | zero =>
    intro i K hi hK
    obtain ⟨K, rfl⟩ : ∃ k, K = k + 1 := ⟨K - 1, by omega⟩
    obtain rfl : i = 8 := by omega
    rw [fg_402_42]
    exact ev_t (by decide) rfl
  | succ m ih =>
    intro i K hi hK
    obtain ⟨K, rfl⟩ : ∃ k, K = k + 1 := ⟨K - 1, by omega⟩
    rw [fg_402_42]
    dsimp only
    rw [show (8 : Int32) * nI k + nI i = nI (8 * k + i) from nI_add' k 8 i, nI_1]
    refine ev_f (show ¬ (8 : Int32) ≤ nI i from nI_ge (b := 8) (by omega) (by decide)) (ev_b (a := Value.ref 212) rfl (ev_b (a := Value.ref 204) rfl (ev_b (qa_204 (by omega)) ?_)))
    refine ev_b (a := fx V (iup I 212 (cpr (I 212) (I 204) k (i + 1))) L R ++ tl) (ev_s (f := cpr (I 212) (I 204) k i) (n := 8) rfl (am_inb_n (by omega) (by omega)) rfl (by rw [nI_clamp (by omega), ← cpr_s (D := I 212) (Q := I 204)]; rfl)) ?_
    exact ih (i + 1) K (by omega) (by omega)
set_option maxRecDepth 100000 in
set_option maxHeartbeats 1600000 in
theorem r_402 {V : Nat → Nat → Value} {I : Nat → Nat → Int32} {L : Nat → Nat → Int64} {R : Nat → Nat → Option Nat} {tl : am_H} {N k : Nat} (hN : 100 < N) (hk : k < 24) : fm_402 N (.ref 174) (nI k) (fx V I L R ++ tl) = some (.inl (none, fx (inV V (I 197 k) (I 198 k) (I 199 k) (I 203 k)) (iup I 212 (cpr (I 212) (I 204) k 8)) L R ++ tl)) := by
  have k0 := r_402l (V := inV V (I 197 k) (I 198 k) (I 199 k) (I 203 k)) (I := I) (L := L) (R := R) (tl := tl) (N := N) hk 8 0 N (by omega) (by omega)
  rw [cpr_0, iup_self] at k0
  unfold fm_402 fg_402_0
  exact ev_b (a := Value.ref 197) rfl (ev_b (qa_197 hk) (ev_b qp_174_51 (ev_b (a := Value.ref 198) rfl (ev_b (qa_198 hk) (ev_b qp_174_52 (ev_b (a := Value.ref 199) rfl (ev_b (qa_199 hk) (ev_b qp_174_53 (ev_b (a := Value.ref 203) rfl (ev_b (qa_203 hk) (ev_b qp_174_54 k0)))))))))))
/-! ===== errors ===== -/
theorem bm64 {a : Int} (h1 : -2 ^ 63 ≤ a) (h2 : a < 2 ^ 63) : a.bmod (2 ^ 64) = a := by
  rw [Int.bmod_def]
  by_cases c : 0 ≤ a
  · rw [Int.emod_eq_of_lt c (by omega), if_pos (by omega)]
  · have e : a % ((2 ^ 64 : Nat) : Int) = a + 2 ^ 64 := by omega
    rw [e, if_neg (by omega)]
    omega
def gN (a b : Int32) : Nat := min (a.toInt - b.toInt).natAbs 1000000
theorem gN_le (a b : Int32) : gN a b ≤ 1000000 := Nat.min_le_right _ _
theorem lN_ofInt {x : Int64} {n : Nat} (h : x.toInt = (n : Int)) (hn : n < 2 ^ 62) : x = lN n := by
  apply Int64.toInt_inj.mp
  rw [h]
  unfold lN
  rw [Int64.toInt_ofNat_of_lt (by omega)]
theorem gap_ok (a b : Int32) : pv_426 a b = lN (gN a b) ∧ pv_134 a b = nI (gN a b) := by
  have b1 := Int32.le_toInt a
  have b2 := Int32.toInt_lt a
  have b3 := Int32.le_toInt b
  have b4 := Int32.toInt_lt b
  have e : (a.toInt64 - b.toInt64).toInt = a.toInt - b.toInt := by
    rw [Int64.toInt_sub, Int32.toInt_toInt64, Int32.toInt_toInt64]
    exact bm64 (by omega) (by omega)
  have en : (-(a.toInt64 - b.toInt64)).toInt = -(a.toInt - b.toInt) := by
    rw [Int64.toInt_neg, e]
    exact bm64 (by omega) (by omega)
  have m1 : (1000000 : Int64).toInt = 1000000 := (lM_i (n := 1000000) (by omega) : (lN 1000000).toInt = _)
  have z1 : (0 : Int64).toInt = 0 := (lM_i (n := 0) (by omega) : (lN 0).toInt = _)
  have k : ∀ x : Int64, x.toInt = ((a.toInt - b.toInt).natAbs : Int) → (if lg_cmp x 1000000 ≤ 0 then x else 1000000) = lN (gN a b) := fun x hx => by
    by_cases c : lg_cmp x 1000000 ≤ 0
    · rw [if_pos c]
      have c' := (lg_cmp_le _ _).mp c
      rw [Int64.le_iff_toInt_le, m1, hx] at c'
      refine lN_ofInt ?_ (by have := gN_le a b; omega)
      rw [hx]
      unfold gN
      rw [Nat.min_eq_left (by omega)]
    · rw [if_neg c]
      have c' : ¬ (x ≤ (1000000 : Int64)) := fun h => c ((lg_cmp_le _ _).mpr h)
      rw [Int64.le_iff_toInt_le, m1, hx] at c'
      refine lN_ofInt ?_ (by have := gN_le a b; omega)
      rw [m1]
      unfold gN
      rw [Nat.min_eq_right (by omega)]
      rfl
  have r1 : pv_426 a b = lN (gN a b) := by
    unfold pv_426
    by_cases c : 0 ≤ lg_cmp (a.toInt64 - b.toInt64) 0
    · rw [if_pos c]
      have c' := (lg_cmp_ge _ _).mp c
      rw [Int64.le_iff_toInt_le, z1, e] at c'
      exact k _ (by rw [e]; omega)
    · rw [if_neg c]
      have c' : ¬ ((0 : Int64) ≤ a.toInt64 - b.toInt64) := fun h => c ((lg_cmp_ge _ _).mpr h)
      rw [Int64.le_iff_toInt_le, z1, e] at c'
      exact k _ (by rw [en]; omega)
  refine ⟨r1, ?_⟩
  have f : ∀ x : Int64, (if 0 < lg_cmp x 1000000 then 1000000 else x) = (if lg_cmp x 1000000 ≤ 0 then x else 1000000) := fun x => by
    by_cases c : lg_cmp x 1000000 ≤ 0
    · rw [if_pos c, if_neg (Int32.not_lt.mpr c)]
    · rw [if_neg c, if_pos (Int32.not_le.mp c)]
  have e4 : pv_134 a b = (pv_426 a b).toInt32 := by
    unfold pv_134 pv_136 pv_135 pv_426
    rw [f]
    by_cases c : 0 ≤ lg_cmp (a.toInt64 - b.toInt64) 0
    · rw [if_pos c, if_pos c]
    · rw [if_neg c, if_neg c]
  rw [e4, r1, lN_i]
/-- an outcome's error -/
def erN (o : Int32 × Nat × Int32) (w : Int32) : Nat := if o.1 = 0 then gN o.2.2 w else 2000000
theorem erN_le (o : Int32 × Nat × Int32) (w : Int32) : erN o w ≤ 2000000 := by
  unfold erN
  by_cases c : o.1 = 0
  · rw [if_pos c]; have := gN_le o.2.2 w; omega
  · rw [if_neg c]; exact Nat.le_refl _
/-- what a program comes to on a case -/
def cO (kd ln sz : Nat) (s v : Nat → Int32) (lm : Nat) (I : Nat → Nat → Int32) (k : Nat) (o : Int32 × Nat × Int32) : Prop := ∃ len, len ≤ 8 ∧ I 203 k = nI len ∧ rP kd ln sz s v lm (I 197 k) (I 198 k) (I 199 k) len (fun i => I 204 (8 * k + i)) o
theorem cO_ex {kd ln sz : Nat} {s v : Nat → Int32} {I : Nat → Nat → Int32} {k : Nat} (hs : sound kd ln sz s v) (hc : cOk I k) (lm : Nat) : ∃ o, cO kd ln sz s v lm I k o := by
  obtain ⟨-, -, -, -, -, -, ⟨len, l8, e1, e2⟩, -⟩ := hc
  obtain ⟨o, ho⟩ := rP_ex hs lm (I 197 k) (I 198 k) (I 199 k) len (fun i => I 204 (8 * k + i))
  exact ⟨o, len, l8, e1, ho⟩
theorem cO_c {kd ln sz : Nat} {s v : Nat → Int32} {lm : Nat} {I J : Nat → Nat → Int32} {k : Nat} {o : Int32 × Nat × Int32} (h : ∀ y, 197 ≤ y → y ≤ 204 → J y = I y) (hc : cO kd ln sz s v lm I k o) : cO kd ln sz s v lm J k o := by
  unfold cO
  rw [h 197 (by omega) (by omega), h 198 (by omega) (by omega), h 199 (by omega) (by omega), h 203 (by omega) (by omega), h 204 (by omega) (by omega)]
  exact hc
theorem cOk_c {I J : Nat → Nat → Int32} {k : Nat} (h15 : J 15 = I 15) (h : ∀ y, 197 ≤ y → y ≤ 204 → J y = I y) (hc : cOk I k) : cOk J k := by
  unfold cOk
  rw [h15, h 197 (by omega) (by omega), h 198 (by omega) (by omega), h 199 (by omega) (by omega), h 200 (by omega) (by omega), h 201 (by omega) (by omega), h 202 (by omega) (by omega), h 203 (by omega) (by omega), h 204 (by omega) (by omega)]
  exact hc
theorem keep_c {V W : Nat → Nat → Value} {I J : Nat → Nat → Int32} (h : keep V W I J) : J 15 = I 15 ∧ ∀ y, 197 ≤ y → y ≤ 204 → J y = I y := ⟨h.2.1 15 (by decide), fun y a b => by
    rcases (by omega : y = 197 ∨ y = 198 ∨ y = 199 ∨ y = 200 ∨ y = 201 ∨ y = 202 ∨ y = 203 ∨ y = 204) with rfl | rfl | rfl | rfl | rfl | rfl | rfl | rfl <;> exact h.2.1 _ (by decide)⟩
set_option maxRecDepth 100000 in
set_option maxHeartbeats 1600000 in
theorem c_pf {V : Nat → Nat → Value} {I : Nat → Nat → Int32} {L : Nat → Nat → Int64} {R : Nat → Nat → Option Nat} {tl : am_H} {N a it kd ln sz m0 lm k : Nat} {fi s v : Nat → Int32} {o : Int32 × Nat × Int32} (hN : 100 < N) (hw : wt V) (hl : ldC V I tl a it kd ln sz m0 fi s v lm) (hk : k < 24) (hc : cOk I k) (ho : cO kd ln sz s v lm I k o) : ∃ W J, fm_116 N (.ref 16) (.ref 15) (nI k * 15) (fx V I L R ++ tl) = some (.inl (none, fx W J L R ++ tl)) ∧ W 16 1 = .int o.1 ∧ W 16 2 = .int (nI o.2.1) ∧ W 16 3 = .int o.2.2 ∧ frP V W I J := by
  obtain ⟨len, l8, e0, ho⟩ := ho
  obtain ⟨c1, c2, c3, c4, -, -, ⟨len', l8', e1, e2⟩, c8⟩ := hc
  have el : len' = len := (nI_eq (by omega) (by omega)).mp (e1.symm.trans e0)
  subst el
  rw [show nI k * 15 = nI (k * 15) from (nI_mul k 15).symm, show k * 15 = 15 * k from Nat.mul_comm _ _]
  exact k_perf_15 hN hw hl ho (by omega) c1 c2 c3 e2 l8 (fun i hi => by rw [Nat.add_assoc]; exact c8 i (by omega))
set_option maxRecDepth 100000 in
set_option maxHeartbeats 1600000 in
theorem c_133 {V : Nat → Nat → Value} {I : Nat → Nat → Int32} {L : Nat → Nat → Int64} {R : Nat → Nat → Option Nat} {tl : am_H} {N a it kd ln sz m0 lm k : Nat} {fi s v : Nat → Int32} {o : Int32 × Nat × Int32} (hN : 100 < N) (hw : wt V) (hl : ldC V I tl a it kd ln sz m0 fi s v lm) (hk : k < 24) (hc : cOk I k) (ho : cO kd ln sz s v lm I k o) : ∃ W J, fm_133 N (.ref 14) (nI k) (fx V I L R ++ tl) = some (.inl (some (.int (nI (erN o (I 200 k)))), fx W J L R ++ tl)) ∧ frP V W I J := by
  obtain ⟨W, J, e, w1, w2, w3, f⟩ := c_pf (L := L) (R := R) hN hw hl hk hc ho
  refine ⟨W, J, ?_, f⟩
  unfold fm_133 fg_133_0
  refine ev_b (a := Value.ref 16) rfl (ev_b (a := Value.ref 15) rfl (ev_i rfl (ev_cV e (ev_b (a := Value.ref 16) rfl (ev_b (rdI w1) ?_)))))
  unfold erN
  by_cases c : o.1 = 0
  · have es : (if o.1 = 0 then gN o.2.2 (I 200 k) else 2000000) = gN o.2.2 (I 200 k) := if_pos c
    rw [es]
    have e3 : J 15 (15 * k + 3) = I 200 k := by
      rw [f.2.2.2.1 15 (by decide) (by decide)]
      exact hc.2.2.2.1
    refine ev_t c (ev_b (a := Value.ref 16) rfl (ev_b (rdI w3) (ev_i rfl (ev_cI (c_112 (w := 3) hk (by omega)) ?_))))
    rw [e3]
    exact ev_cI ((pe_134 _ _ _).trans (by rw [(gap_ok _ _).2])) rfl
  · have es : (if o.1 = 0 then gN o.2.2 (I 200 k) else 2000000) = 2000000 := if_neg c
    rw [es]
    exact ev_f c rfl
set_option maxRecDepth 100000 in
set_option maxHeartbeats 1600000 in
theorem r_ask {V : Nat → Nat → Value} {I : Nat → Nat → Int32} {L : Nat → Nat → Int64} {R : Nat → Nat → Option Nat} {tl : am_H} {kd ln sz lm k : Nat} {s v : Nat → Int32} {o : Int32 × Nat × Int32} {N : Nat} (hN : 5000 < N) (hw : wt V) (hd : ldR V I kd ln sz s v lm) (hk : k < 24) (ho : cO kd ln sz s v lm I k o) : ∃ W J, fm_403 N (.ref 174) (fx (inV V (I 197 k) (I 198 k) (I 199 k) (I 203 k)) (iup I 212 (cpr (I 212) (I 204) k 8)) L R ++ tl) = some (.inl (none, fx W J L R ++ tl)) ∧ W 174 48 = .int o.1 ∧ W 174 50 = .int (nI o.2.1) ∧ W 174 49 = .int o.2.2 ∧ frQ V W I J := by
  obtain ⟨len, l8, e0, ho⟩ := ho
  have fq : frQ V (inV V (I 197 k) (I 198 k) (I 199 k) (I 203 k)) I (iup I 212 (cpr (I 212) (I 204) k 8)) := ⟨fun a j hj => inV_o (fun e => by
    refine ⟨?_, ?_, ?_, ?_⟩ <;> (intro e2; subst e2; exact hj e (by decide))), fun y hy => iup_na (fun e => by subst e; exact hy (by decide)), wt_inV⟩
  obtain ⟨W, J, e, w1, w2, w3, f⟩ := r_403 (L := L) (R := R) (tl := tl) (row := fun i => I 204 (8 * k + i)) (len := len) hN (wt_inV hw) (ldR_c fq hd) ⟨rfl, rfl, rfl, by rw [← e0]; rfl, l8, fun i hi => cpr_at (D := I 212) (Q := I 204) (b := k) (by omega)⟩ ho
  exact ⟨W, J, e, w1, w2, w3, frQ_t fq (frR_Q f)⟩
theorem mrun_f0 {nx : Nat → Nat → Nat} {cl : Nat → Nat} {lm : Nat} : ∀ (m k u q : Nat), (mrun nx cl lm m k u q).1 = 0 ∨ (mrun nx cl lm m k u q).1 = 3 := by
  intro m
  induction m with
  | zero => intro k u q; exact .inl rfl
  | succ m ih =>
    intro k u q
    rw [mrun]
    by_cases d : u < lm
    · rw [if_pos d]; exact ih _ _ _
    · rw [if_neg d]; exact .inr rfl
theorem cO_k {kd ln sz : Nat} {s v : Nat → Int32} {lm : Nat} {I : Nat → Nat → Int32} {k : Nat} {o : Int32 × Nat × Int32} (ho : cO kd ln sz s v lm I k o) (hs : sound kd ln sz s v) : fOk o.1 := by
  obtain ⟨len, l8, e0, o0, o1, o2, o3⟩ := ho
  have hk := hs.1
  rcases (by omega : kd = 0 ∨ kd = 1 ∨ kd = 2 ∨ kd = 3) with rfl | rfl | rfl | rfl
  · rw [o0 rfl]
    exact evN_k 12 0 (0, 0, 0, 0) (.inl rfl)
  · obtain ⟨ht, -, eo⟩ := o1 rfl
    rw [eo]
    exact crun_k sz 0 _ (0, 0, 0, 0) (.inl rfl)
  · rw [o2 rfl]
    have hlm : ∀ q : Int32 × Nat × Nat, q.1 = 0 ∨ q.1 = 3 → fOk q.1 := fun q h => h.elim .inl (fun e => .inr (.inr (.inr e)))
    exact hlm _ (mrun_f0 _ _ _ _)
  · rw [o3 rfl]
    have hlm : ∀ q : Int32 × Nat × (Nat → Int32), q.1 = 0 ∨ q.1 = 3 → fOk q.1 := fun q h => h.elim .inl (fun e => .inr (.inr (.inr e)))
    exact hlm _ (nrun_f sz 0 1 _)
set_option maxRecDepth 100000 in
set_option maxHeartbeats 1600000 in
theorem r_425 {V : Nat → Nat → Value} {I : Nat → Nat → Int32} {L : Nat → Nat → Int64} {R : Nat → Nat → Option Nat} {tl : am_H} {kd ln sz lm k : Nat} {s v : Nat → Int32} {o : Int32 × Nat × Int32} {N : Nat} (hN : 5000 < N) (hw : wt V) (hd : ldR V I kd ln sz s v lm) (hk : k < 24) (ho : cO kd ln sz s v lm I k o) : ∃ W J, fm_425 N (.ref 174) (nI k) (fx V I L R ++ tl) = some (.inl (some (.long (lN (erN o (I 200 k)))), fx W J L R ++ tl)) ∧ frQ V W I J := by
  obtain ⟨W, J, e, w1, w2, w3, f⟩ := r_ask (L := L) (R := R) (tl := tl) hN hw hd hk ho
  have hf := cO_k ho hd.2.2.2.2.1
  refine ⟨W, J, ?_, f⟩
  unfold fm_425 fg_425_0
  refine ev_i rfl (ev_cV (r_402 (by omega) hk) (ev_i rfl (ev_cV e (ev_b (rdI w1) ?_))))
  unfold erN
  by_cases c : o.1 = 0
  · rw [if_pos c]
    refine ev_t ((fOk_le hf).mpr c) (ev_b (rdI w3) (ev_b (a := Value.ref 200) rfl (ev_b (a := I 200 k) ((qa_200 hk).trans (by rw [f.2.1 200 (by decide)])) ?_)))
    exact ev_cL ((pe_426 _ _ _).trans (by rw [(gap_ok _ _).1])) rfl
  · rw [if_neg c]
    exact ev_f (fun e => c ((fOk_le hf).mp e)) rfl
