/-! ===== populate: drawing, the class ===== -/
def isS (x : Nat) : Prop := x = 42 ∨ x = 51 ∨ x = 60 ∨ x = 69
set_option maxRecDepth 100000 in
set_option maxHeartbeats 4000000 in
theorem sa_get {V : Nat → Nat → Value} {I : Nat → Nat → Int32} {L : Nat → Nat → Int64} {R : Nat → Nat → Option Nat} {tl : am_H} {x : Nat} (h : isS x) : (fx V I L R ++ tl)[x]? = some (.inr (8, [V x 0])) := by
  rcases h with rfl | rfl | rfl | rfl <;> rfl
set_option maxRecDepth 100000 in
set_option maxHeartbeats 4000000 in
theorem sa_set {V : Nat → Nat → Value} {I : Nat → Nat → Int32} {L : Nat → Nat → Int64} {R : Nat → Nat → Option Nat} {tl : am_H} {x : Nat} (h : isS x) (w : Value) : (fx V I L R ++ tl).set x (.inr (8, [w])) = fx (vup V x 0 w) I L R ++ tl := by
  rcases h with rfl | rfl | rfl | rfl <;> rfl
theorem d_192 {V : Nat → Nat → Value} {I : Nat → Nat → Int32} {L : Nat → Nat → Int64} {R : Nat → Nat → Option Nat} {tl : am_H} {x k : Nat} {st : Int64} (h : isS x) (hs : V x 0 = .long st) (hk : 1 ≤ k) (hk2 : k < 2 ^ 31) : fm_192 (.ref x) (nI k) (fx V I L R ++ tl) = some (.inl (some (.int (nI (hlf (nxt st) % k))), fx (vup V x 0 (.long (nxt st))) I L R ++ tl)) := by
  rw [x_192 (st := st) (by rw [sa_get h, hs]) hk hk2, sa_set h]
theorem d_194 {V : Nat → Nat → Value} {I : Nat → Nat → Int32} {L : Nat → Nat → Int64} {R : Nat → Nat → Option Nat} {tl : am_H} {x T : Nat} {st : Int64} (h : isS x) (hs : V x 0 = .long st) (hT : 1 ≤ T) (hT2 : T < 2 ^ 50) : fm_194 (.ref x) (lN T) (fx V I L R ++ tl) = some (.inl (some (.long (lN ((2147483648 * hlf (nxt st) + hlf (nxt (nxt st))) % T))), fx (vup V x 0 (.long (nxt (nxt st)))) I L R ++ tl)) := by
  rw [x_194 (st := st) (by rw [sa_get h, hs]) hT hT2, sa_set h]
theorem isS_ok {V : Nat → Nat → Value} {I : Nat → Nat → Int32} {L : Nat → Nat → Int64} {R : Nat → Nat → Option Nat} {tl : am_H} {x : Nat} (h : isS x) : am_pOk 8 (.ref x) (fx V I L R ++ tl) = true := ev_ok (sa_get h)
theorem isS_ne {x : Nat} (h : isS x) : x ≠ 167 ∧ x ≠ 0 ∧ x ≠ 174 ∧ x ≠ 76 := by
  rcases h with rfl | rfl | rfl | rfl <;> decide
theorem vup_ne {V : Nat → Nat → Value} {a j x y : Nat} {w : Value} (h : x ≠ a) : vup V a j w x y = V x y := if_neg h
theorem vup_eq {V : Nat → Nat → Value} {a j : Nat} {w : Value} : vup V a j w a j = w := by
  unfold vup
  rw [if_pos rfl, if_pos rfl]
theorem vup_nj {V : Nat → Nat → Value} {a j y : Nat} {w : Value} (h : y ≠ j) : vup V a j w a y = V a y := by
  unfold vup
  rw [if_pos rfl, if_neg h]
set_option maxRecDepth 100000 in
set_option maxHeartbeats 4000000 in
theorem d_34 {V : Nat → Nat → Value} {I : Nat → Nat → Int32} {L : Nat → Nat → Int64} {R : Nat → Nat → Option Nat} {tl : am_H} (k l : Int32) : fm_34 (.ref 167) k l (fx V I L R ++ tl) = some (.inl (none, fx (vup (vup (vup (vup V 167 1 (.int k)) 167 2 (.int l)) 167 3 (.int 0)) 167 4 (.int (if k = 2 then 5 else 2))) I L R ++ tl)) := by
  unfold fm_34 fg_34_0
  refine ev_b (a := fx (vup V 167 1 (.int k)) I L R ++ tl) (ev_p rfl rfl rfl rfl) ?_
  refine ev_b (a := fx (vup (vup V 167 1 (.int k)) 167 2 (.int l)) I L R ++ tl) (ev_p rfl rfl rfl rfl) ?_
  refine ev_b (a := fx (vup (vup (vup V 167 1 (.int k)) 167 2 (.int l)) 167 3 (.int 0)) I L R ++ tl) (ev_p rfl rfl rfl rfl) ?_
  by_cases c : k = 2
  · rw [if_pos c]
    refine ev_f (fun e => e c) ?_
    unfold fg_34_26
    exact ev_b (ev_p rfl rfl rfl rfl) rfl
  · rw [if_neg c]
    refine ev_t c ?_
    unfold fg_34_26
    exact ev_b (ev_p rfl rfl rfl rfl) rfl
set_option maxRecDepth 100000 in
set_option maxHeartbeats 4000000 in
theorem d_41 {V : Nat → Nat → Value} {I : Nat → Nat → Int32} {L : Nat → Nat → Int64} {R : Nat → Nat → Option Nat} {tl : am_H} {N s : Nat} (hN : 1 ≤ N) (h3 : V 167 3 = .int (nI s)) (h4 : V 167 4 = .int 2) (hs : 2 * s + 2 ≤ 120) (a b : Int32) : fm_41 N (.ref 167) a b (fx V I L R ++ tl) = some (.inl (some (.int 1), fx (vup V 167 3 (.int (nI (s + 1)))) (iup I 168 (upd (upd (I 168) (2 * s) a) (2 * s + 1) b)) L R ++ tl)) := by
  obtain ⟨N, rfl⟩ : ∃ k, N = k + 1 := ⟨N - 1, by omega⟩
  have g3 : ∀ {I : Nat → Nat → Int32}, am_vI (am_pG 771 (.ref 167) (fx V I L R ++ tl)) = some (nI s) := fun {I} => by show am_vI (some (V 167 3)) = _; rw [h3]; rfl
  have g4 : ∀ {I : Nat → Nat → Int32}, am_vI (am_pG 772 (.ref 167) (fx V I L R ++ tl)) = some 2 := fun {I} => by show am_vI (some (V 167 4)) = _; rw [h4]; rfl
  unfold fm_41 fg_41_0
  refine ev_b g3 ?_
  refine ev_b g4 ?_
  refine ev_b g4 ?_
  refine ev_b (a := .ref 168) rfl ?_
  refine ev_b (a := nI 120) rfl ?_
  rw [show nI s * 2 = nI (2 * s) by rw [Nat.mul_comm, nI_mul]; rfl]
  refine ev_t (by rw [show (2 : Int32) = nI 2 from rfl, nI_add]; exact nI_le hs (by omega)) ?_
  rw [fg_41_29]
  refine ev_b g4 ?_
  refine ev_t (by decide) ?_
  refine ev_b (a := .ref 168) rfl ?_
  refine ev_b (ev_s (f := I 168) (n := 120) (h1 := fx V (iup I 168 (upd (I 168) (2 * s) a)) L R ++ tl) rfl (am_inb_n (by omega) (by omega)) rfl (by rw [nI_clamp (by omega)]; rfl)) ?_
  refine ev_b (a := .ref 168) rfl ?_
  rw [nI_1]
  refine ev_b (ev_s (f := upd (I 168) (2 * s) a) (n := 120) (h1 := fx V (iup I 168 (upd (upd (I 168) (2 * s) a) (2 * s + 1) b)) L R ++ tl) rfl (am_inb_n (by omega) (by omega)) rfl (by rw [nI_clamp (by omega)]; rfl)) ?_
  refine ev_b g3 ?_
  rw [nI_1]
  exact ev_b (ev_p rfl rfl rfl rfl) rfl
/-- a program that can be borne, drawn into the spare one; all that is not the spare one or the stream is as before -/
def drawn (x : Nat) (V V' : Nat → Nat → Value) (I I' : Nat → Nat → Int32) : Prop := (∃ (s wd : Nat) (kd ln : Int32), V' 167 1 = .int kd ∧ V' 167 2 = .int ln ∧ V' 167 3 = .int (nI s) ∧ V' 167 4 = .int (nI wd) ∧ nI wd = (if kd = 2 then 5 else 2) ∧ 1 ≤ s * wd ∧ s * wd ≤ 120 ∧ 1 ≤ wd) ∧ (∃ st, V' x 0 = .long st) ∧ (∀ j, V' 0 j = V 0 j) ∧ (∀ j, V' 174 j = V 174 j) ∧ (∀ y, 174 ≤ y → I' y = I y)
set_option maxRecDepth 100000 in
set_option maxHeartbeats 4000000 in
theorem d_204l {L : Nat → Nat → Int64} {R : Nat → Nat → Option Nat} {tl : am_H} {N x z : Nat} (hx : isS x) (hN : 40 < N) (hz : 2 ≤ z) (hz8 : z ≤ 8) : ∀ (m k K : Nat) (V : Nat → Nat → Value) (I : Nat → Nat → Int32) (st : Int64), k + m = 2 * z → m < K → V x 0 = .long st → V 167 3 = .int (nI k) → V 167 4 = .int 2 → ∃ V' I', fg_204_11 N K (.ref 0) (.ref x) (nI z) (nI k) (fx V I L R ++ tl) = some (.inl (none, fx V' I' L R ++ tl)) ∧ V' 167 3 = .int (nI (2 * z)) ∧ (∃ st', V' x 0 = .long st') ∧ (∀ a j, a ≠ x → (a ≠ 167 ∨ j ≠ 3) → V' a j = V a j) ∧ (∀ y, y ≠ 168 → I' y = I y) := by
  intro m
  induction m with
  | zero =>
    intro k K V I st hm hK hs h3 h4
    obtain ⟨K, rfl⟩ : ∃ k, K = k + 1 := ⟨K - 1, by omega⟩
    refine ⟨V, I, ?_, by rw [h3, show k = 2 * z by omega], ⟨st, hs⟩, fun _ _ _ _ => rfl, fun _ _ => rfl⟩
    rw [fg_204_11]
    refine ev_t ?_ rfl
    rw [show (2 : Int32) * nI z = nI (2 * z) from (nI_mul 2 z).symm]
    exact nI_le (by omega) (by omega)
  | succ m ih =>
    intro k K V I st hm hK hs h3 h4
    obtain ⟨K, rfl⟩ : ∃ k, K = k + 1 := ⟨K - 1, by omega⟩
    obtain ⟨n1, n2, n3, n4⟩ := isS_ne hx
    have hi := Nat.mod_lt (hlf (nxt st)) (show 0 < z - 1 by omega)
    obtain ⟨V', I', q1, q2, q3, q4, q5⟩ := ih (k + 1) K (vup (vup (vup V x 0 (.long (nxt st))) x 0 (.long (nxt (nxt st)))) 167 3 (.int (nI (k + 1)))) (iup I 168 (upd (upd (I 168) (2 * k) (nI (hlf (nxt st) % (z - 1)))) (2 * k + 1) (nI (hlf (nxt st) % (z - 1)) + 1 + nI (hlf (nxt (nxt st)) % (z - 1 - hlf (nxt st) % (z - 1)))))) (nxt (nxt st)) (by omega) (by omega) (by rw [vup_ne n1, vup_eq]) vup_eq (by rw [vup_nj (by omega), vup_ne (fun e => n1 e.symm), vup_ne (fun e => n1 e.symm)]; exact h4)
    refine ⟨V', I', ?_, q2, q3, fun a j ha hj => ?_, fun y hy => ?_⟩
    · rw [fg_204_11]
      refine ev_f ?_ ?_
      · rw [show (2 : Int32) * nI z = nI (2 * z) from (nI_mul 2 z).symm]
        exact nI_ge (by omega) (by omega)
      · refine ev_i (isS_ok hx) ?_
        rw [show nI z - 1 = nI (z - 1) by rw [show (1 : Int32) = nI 1 from rfl, nI_sub (by omega)]]
        refine ev_cI (d_192 hx hs (by omega) (by omega)) ?_
        refine ev_b (a := .ref 167) rfl ?_
        refine ev_i (isS_ok hx) ?_
        rw [nI_sub (by omega : hlf (nxt st) % (z - 1) ≤ z - 1)]
        refine ev_cI (d_192 hx vup_eq (by omega) (by omega)) ?_
        refine ev_i rfl ?_
        refine ev_cI (d_41 (s := k) (by omega) (by rw [vup_ne (fun e => n1 e.symm), vup_ne (fun e => n1 e.symm)]; exact h3) (by rw [vup_ne (fun e => n1 e.symm), vup_ne (fun e => n1 e.symm)]; exact h4) (by omega) _ _) ?_
        rw [nI_1]
        exact q1
    · rw [q4 a j ha hj]
      have e1 : vup (vup (vup V x 0 (.long (nxt st))) x 0 (.long (nxt (nxt st)))) 167 3 (.int (nI (k + 1))) a j = vup (vup V x 0 (.long (nxt st))) x 0 (.long (nxt (nxt st))) a j := by
        by_cases c : a = 167
        · subst c
          exact vup_nj (hj.resolve_left (fun h => h rfl))
        · exact vup_ne c
      rw [e1, vup_ne ha, vup_ne ha]
    · rw [q5 y hy]
      exact if_neg hy
set_option maxRecDepth 100000 in
set_option maxHeartbeats 4000000 in
theorem d_204 {V : Nat → Nat → Value} {I : Nat → Nat → Int32} {L : Nat → Nat → Int64} {R : Nat → Nat → Option Nat} {tl : am_H} {N x z : Nat} {st : Int64} (hx : isS x) (hN : 40 < N) (hz : 2 ≤ z) (hz8 : z ≤ 8) (hs : V x 0 = .long st) : ∃ V' I', fm_204 N (.ref 0) (.ref x) (nI z) (fx V I L R ++ tl) = some (.inl (none, fx V' I' L R ++ tl)) ∧ drawn x V V' I I' := by
  obtain ⟨n1, n2, n3, n4⟩ := isS_ne hx
  obtain ⟨V', I', q1, q2, q3, q4, q5⟩ := d_204l (L := L) (R := R) (tl := tl) hx hN hz hz8 (2 * z) 0 N (vup (vup (vup (vup V 167 1 (.int 3)) 167 2 (.int (nI z))) 167 3 (.int 0)) 167 4 (.int 2)) I st (by omega) (by omega) (by rw [vup_ne n1, vup_ne n1, vup_ne n1, vup_ne n1]; exact hs) (by rw [vup_nj (by omega)]; exact vup_eq) vup_eq
  refine ⟨V', I', ?_, ⟨2 * z, 2, 3, nI z, ?_, ?_, q2, ?_, rfl, by omega, by omega, by omega⟩, q3, fun j => ?_, fun j => ?_, fun y hy => q5 y (by omega)⟩
  · unfold fm_204 fg_204_0
    refine ev_b (a := .ref 167) rfl ?_
    refine ev_i rfl ?_
    refine ev_cV (d_34 3 (nI z)) ?_
    exact q1
  · rw [q4 167 1 (fun e => n1 e.symm) (by omega)]
    rfl
  · rw [q4 167 2 (fun e => n1 e.symm) (by omega)]
    rfl
  · rw [q4 167 4 (fun e => n1 e.symm) (by omega)]
    rfl
  · rw [q4 0 j (fun e => n2 e.symm) (by omega)]
    rfl
  · rw [q4 174 j (fun e => n3 e.symm) (by omega)]
    rfl
set_option maxRecDepth 100000 in
set_option maxHeartbeats 4000000 in
theorem d_41m {V : Nat → Nat → Value} {I : Nat → Nat → Int32} {L : Nat → Nat → Int64} {R : Nat → Nat → Option Nat} {tl : am_H} {N s : Nat} (hN : 4 ≤ N) (h3 : V 167 3 = .int (nI s)) (h4 : V 167 4 = .int 5) (hs : 5 * s + 5 ≤ 120) (a b : Int32) : ∃ f', fm_41 N (.ref 167) a b (fx V I L R ++ tl) = some (.inl (some (.int 1), fx (vup V 167 3 (.int (nI (s + 1)))) (iup I 168 f') L R ++ tl)) := by
  obtain ⟨N, rfl⟩ : ∃ k, N = k + 4 := ⟨N - 4, by omega⟩
  refine ⟨upd (upd (upd (upd (upd (I 168) (5 * s + 2) 0) (5 * s + 3) 0) (5 * s + 4) 0) (5 * s) a) (5 * s + 1) b, ?_⟩
  have g3 : ∀ {I : Nat → Nat → Int32}, am_vI (am_pG 771 (.ref 167) (fx V I L R ++ tl)) = some (nI s) := fun {I} => by show am_vI (some (V 167 3)) = _; rw [h3]; rfl
  have g4 : ∀ {I : Nat → Nat → Int32}, am_vI (am_pG 772 (.ref 167) (fx V I L R ++ tl)) = some 5 := fun {I} => by show am_vI (some (V 167 4)) = _; rw [h4]; rfl
  unfold fm_41 fg_41_0
  refine ev_b g3 ?_
  refine ev_b g4 ?_
  refine ev_b g4 ?_
  refine ev_b (a := .ref 168) rfl ?_
  refine ev_b (a := nI 120) rfl ?_
  rw [show nI s * 5 = nI (5 * s) by rw [Nat.mul_comm, nI_mul]; rfl]
  refine ev_t (by rw [show (5 : Int32) = nI 5 from rfl, nI_add]; exact nI_le hs (by omega)) ?_
  rw [fg_41_29]
  refine ev_b g4 ?_
  refine ev_f (by decide) ?_
  refine ev_b (a := .ref 168) rfl ?_
  rw [show nI (5 * s) + 2 = nI (5 * s + 2) from nI_add (5 * s) 2]
  refine ev_b (ev_s (f := I 168) (n := 120) (h1 := fx V (iup I 168 (upd (I 168) (5 * s + 2) 0)) L R ++ tl) rfl (am_inb_n (by omega) (by omega)) rfl (by rw [nI_clamp (by omega)]; rfl)) ?_
  rw [fg_41_29]
  refine ev_b g4 ?_
  refine ev_f (by decide) ?_
  refine ev_b (a := .ref 168) rfl ?_
  rw [show nI (5 * s) + (2 + 1) = nI (5 * s + 3) from nI_add (5 * s) 3]
  refine ev_b (ev_s (f := upd (I 168) (5 * s + 2) 0) (n := 120) (h1 := fx V (iup I 168 (upd (upd (I 168) (5 * s + 2) 0) (5 * s + 3) 0)) L R ++ tl) rfl (am_inb_n (by omega) (by omega)) rfl (by rw [nI_clamp (by omega)]; rfl)) ?_
  rw [fg_41_29]
  refine ev_b g4 ?_
  refine ev_f (by decide) ?_
  refine ev_b (a := .ref 168) rfl ?_
  rw [show nI (5 * s) + (2 + 1 + 1) = nI (5 * s + 4) from nI_add (5 * s) 4]
  refine ev_b (ev_s (f := upd (upd (I 168) (5 * s + 2) 0) (5 * s + 3) 0) (n := 120) (h1 := fx V (iup I 168 (upd (upd (upd (I 168) (5 * s + 2) 0) (5 * s + 3) 0) (5 * s + 4) 0)) L R ++ tl) rfl (am_inb_n (by omega) (by omega)) rfl (by rw [nI_clamp (by omega)]; rfl)) ?_
  rw [fg_41_29]
  refine ev_b g4 ?_
  refine ev_t (by decide) ?_
  refine ev_b (a := .ref 168) rfl ?_
  refine ev_b (ev_s (f := upd (upd (upd (I 168) (5 * s + 2) 0) (5 * s + 3) 0) (5 * s + 4) 0) (n := 120) (h1 := fx V (iup I 168 (upd (upd (upd (upd (I 168) (5 * s + 2) 0) (5 * s + 3) 0) (5 * s + 4) 0) (5 * s) a)) L R ++ tl) rfl (am_inb_n (by omega) (by omega)) rfl (by rw [nI_clamp (by omega)]; rfl)) ?_
  refine ev_b (a := .ref 168) rfl ?_
  rw [nI_1]
  refine ev_b (ev_s (f := upd (upd (upd (upd (I 168) (5 * s + 2) 0) (5 * s + 3) 0) (5 * s + 4) 0) (5 * s) a) (n := 120) (h1 := fx V (iup I 168 (upd (upd (upd (upd (upd (I 168) (5 * s + 2) 0) (5 * s + 3) 0) (5 * s + 4) 0) (5 * s) a) (5 * s + 1) b)) L R ++ tl) rfl (am_inb_n (by omega) (by omega)) rfl (by rw [nI_clamp (by omega)]; rfl)) ?_
  refine ev_b g3 ?_
  rw [nI_1]
  exact ev_b (ev_p rfl rfl rfl rfl) rfl
set_option maxRecDepth 100000 in
set_option maxHeartbeats 4000000 in
theorem d_51 {V : Nat → Nat → Value} {I : Nat → Nat → Int32} {L : Nat → Nat → Int64} {R : Nat → Nat → Option Nat} {tl : am_H} {s i j : Nat} (h3 : V 167 3 = .int (nI s)) (h4 : V 167 4 = .int 5) (hi : i < s) (hj : j < 5) (hs : 5 * s ≤ 120) (v : Int32) : fm_51 (.ref 167) (nI i) (nI j) v (fx V I L R ++ tl) = some (.inl (none, fx V (iup I 168 (upd (I 168) (5 * i + j) v)) L R ++ tl)) := by
  have g3 : am_vI (am_pG 771 (.ref 167) (fx V I L R ++ tl)) = some (nI s) := by show am_vI (some (V 167 3)) = _; rw [h3]; rfl
  have g4 : am_vI (am_pG 772 (.ref 167) (fx V I L R ++ tl)) = some 5 := by show am_vI (some (V 167 4)) = _; rw [h4]; rfl
  unfold fm_51 fg_51_0
  refine ev_f (nI_pos (by omega)) ?_
  refine ev_b g3 ?_
  refine ev_f (nI_ge hi (by omega)) ?_
  refine ev_f (nI_pos (by omega)) ?_
  refine ev_b g4 ?_
  refine ev_f (nI_ge (b := 5) hj (by decide)) ?_
  refine ev_b (a := .ref 168) rfl ?_
  refine ev_b g4 ?_
  rw [show nI i * 5 + nI j = nI (5 * i + j) by rw [← nI_add, Nat.mul_comm, nI_mul]; rfl]
  refine ev_b (ev_s (f := I 168) (n := 120) (h1 := fx V (iup I 168 (upd (I 168) (5 * i + j) v)) L R ++ tl) rfl (am_inb_n (by omega) (by omega)) rfl (by rw [nI_clamp (by omega)]; rfl)) ?_
  rfl
set_option maxRecDepth 100000 in
set_option maxHeartbeats 4000000 in
theorem d_203i {L : Nat → Nat → Int64} {R : Nat → Nat → Option Nat} {tl : am_H} {N x z k : Nat} (hx : isS x) (hz1 : 1 ≤ z) (hz6 : z ≤ 6) (hk : k < z) {rec : Value → Value → Int32 → Int32 → am_H → Option am_O} : ∀ (m c K : Nat) (V : Nat → Nat → Value) (I : Nat → Nat → Int32) (st : Int64), c + m = 4 → m < K → V x 0 = .long st → V 167 3 = .int (nI (k + 1)) → V 167 4 = .int 5 → ∃ V' I' st', fg_203_38 N rec K (.ref 0) (.ref x) (nI z) (nI k) (nI c) (fx V I L R ++ tl) = rec (.ref 0) (.ref x) (nI z) (nI (k + 1)) (fx V' I' L R ++ tl) ∧ V' x 0 = .long st' ∧ (∀ a j, a ≠ x → V' a j = V a j) ∧ (∀ y, y ≠ 168 → I' y = I y) := by
  obtain ⟨n1, n2, n3, n4⟩ := isS_ne hx
  intro m
  induction m with
  | zero =>
    intro c K V I st hm hK hs h3 h4
    obtain ⟨K, rfl⟩ : ∃ k, K = k + 1 := ⟨K - 1, by omega⟩
    refine ⟨V, I, st, ?_, hs, fun _ _ _ => rfl, fun _ _ => rfl⟩
    rw [fg_203_38, show c = 4 by omega]
    refine ev_t (by decide) ?_
    rw [nI_1]
  | succ m ih =>
    intro c K V I st hm hK hs h3 h4
    obtain ⟨K, rfl⟩ : ∃ k, K = k + 1 := ⟨K - 1, by omega⟩
    obtain ⟨V', I', st', q1, q2, q3, q4⟩ := ih (c + 1) K (vup V x 0 (.long (nxt st))) (iup I 168 (upd (I 168) (5 * k + (1 + c)) (nI (hlf (nxt st) % z)))) (nxt st) (by omega) (by omega) vup_eq (by rw [vup_ne (fun e => n1 e.symm)]; exact h3) (by rw [vup_ne (fun e => n1 e.symm)]; exact h4)
    refine ⟨V', I', st', ?_, q2, fun a j ha => by rw [q3 a j ha, vup_ne ha], fun y hy => by rw [q4 y hy]; exact if_neg hy⟩
    rw [fg_203_38]
    refine ev_f (nI_ge (a := c) (b := 4) (by omega) (by decide)) ?_
    refine ev_b (a := .ref 167) rfl ?_
    refine ev_i (isS_ok hx) ?_
    refine ev_cI (d_192 hx hs hz1 (by omega)) ?_
    refine ev_i rfl ?_
    rw [show (1 : Int32) + nI c = nI (1 + c) from nI_add 1 c]
    refine ev_cV (d_51 (s := k + 1) (i := k) (j := 1 + c) (by rw [vup_ne (fun e => n1 e.symm)]; exact h3) (by rw [vup_ne (fun e => n1 e.symm)]; exact h4) (by omega) (by omega) (by omega) _) ?_
    rw [nI_1]
    exact q1
set_option maxRecDepth 100000 in
set_option maxHeartbeats 4000000 in
theorem d_203l {L : Nat → Nat → Int64} {R : Nat → Nat → Option Nat} {tl : am_H} {N x z : Nat} (hx : isS x) (hN : 40 < N) (hz1 : 1 ≤ z) (hz6 : z ≤ 6) : ∀ (m k K : Nat) (V : Nat → Nat → Value) (I : Nat → Nat → Int32) (st : Int64), k + m = z → m < K → V x 0 = .long st → V 167 3 = .int (nI k) → V 167 4 = .int 5 → ∃ V' I', fg_203_11 N K (.ref 0) (.ref x) (nI z) (nI k) (fx V I L R ++ tl) = some (.inl (none, fx V' I' L R ++ tl)) ∧ V' 167 3 = .int (nI z) ∧ (∃ st', V' x 0 = .long st') ∧ (∀ a j, a ≠ x → (a ≠ 167 ∨ j ≠ 3) → V' a j = V a j) ∧ (∀ y, y ≠ 168 → I' y = I y) := by
  obtain ⟨n1, n2, n3, n4⟩ := isS_ne hx
  intro m
  induction m with
  | zero =>
    intro k K V I st hm hK hs h3 h4
    obtain ⟨K, rfl⟩ : ∃ k, K = k + 1 := ⟨K - 1, by omega⟩
    refine ⟨V, I, ?_, by rw [h3, show k = z by omega], ⟨st, hs⟩, fun _ _ _ _ => rfl, fun _ _ => rfl⟩
    rw [fg_203_11]
    exact ev_t (nI_le (by omega) (by omega)) rfl
  | succ m ih =>
    intro k K V I st hm hK hs h3 h4
    obtain ⟨K, rfl⟩ : ∃ k, K = k + 1 := ⟨K - 1, by omega⟩
    obtain ⟨f1, e1⟩ := d_41m (V := vup (vup V x 0 (.long (nxt st))) x 0 (.long (nxt (nxt st)))) (I := I) (L := L) (R := R) (tl := tl) (N := N) (s := k) (by omega) (by rw [vup_ne (fun e => n1 e.symm), vup_ne (fun e => n1 e.symm)]; exact h3) (by rw [vup_ne (fun e => n1 e.symm), vup_ne (fun e => n1 e.symm)]; exact h4) (by omega) (nI (hlf (nxt st) % 10)) (nI (hlf (nxt (nxt st)) % z))
    obtain ⟨V1, I1, st1, r1, r2, r3, r4⟩ := d_203i (L := L) (R := R) (tl := tl) (N := N) (z := z) (k := k) hx hz1 hz6 (by omega) (rec := fg_203_11 N K) 3 1 N (vup (vup (vup V x 0 (.long (nxt st))) x 0 (.long (nxt (nxt st)))) 167 3 (.int (nI (k + 1)))) (iup I 168 f1) (nxt (nxt st)) rfl (by omega) (by rw [vup_ne n1, vup_eq]) vup_eq (by rw [vup_nj (by omega), vup_ne (fun e => n1 e.symm), vup_ne (fun e => n1 e.symm)]; exact h4)
    obtain ⟨V', I', q1, q2, q3, q4, q5⟩ := ih (k + 1) K V1 I1 st1 (by omega) (by omega) r2 (by rw [r3 167 3 (fun e => n1 e.symm)]; exact vup_eq) (by rw [r3 167 4 (fun e => n1 e.symm), vup_nj (by omega), vup_ne (fun e => n1 e.symm), vup_ne (fun e => n1 e.symm)]; exact h4)
    refine ⟨V', I', ?_, q2, q3, fun a j ha hj => ?_, fun y hy => by rw [q5 y hy, r4 y hy]; exact if_neg hy⟩
    · rw [fg_203_11]
      refine ev_f (nI_ge (by omega) (by omega)) ?_
      refine ev_b (a := .ref 167) rfl ?_
      refine ev_i (isS_ok hx) ?_
      refine ev_cI (show fm_192 (.ref x) 10 (fx V I L R ++ tl) = _ from d_192 (k := 10) hx hs (by omega) (by omega)) ?_
      refine ev_i (isS_ok hx) ?_
      refine ev_cI (d_192 hx vup_eq hz1 (by omega)) ?_
      refine ev_i rfl ?_
      refine ev_cI e1 ?_
      exact r1.trans q1
    · rw [q4 a j ha hj, r3 a j ha]
      have e9 : vup (vup (vup V x 0 (.long (nxt st))) x 0 (.long (nxt (nxt st)))) 167 3 (.int (nI (k + 1))) a j = vup (vup V x 0 (.long (nxt st))) x 0 (.long (nxt (nxt st))) a j := by
        by_cases c : a = 167
        · subst c
          exact vup_nj (hj.resolve_left (fun h => h rfl))
        · exact vup_ne c
      rw [e9, vup_ne ha, vup_ne ha]
set_option maxRecDepth 100000 in
set_option maxHeartbeats 4000000 in
theorem d_203 {V : Nat → Nat → Value} {I : Nat → Nat → Int32} {L : Nat → Nat → Int64} {R : Nat → Nat → Option Nat} {tl : am_H} {N x z : Nat} {st : Int64} (hx : isS x) (hN : 40 < N) (hz : 1 ≤ z) (hz6 : z ≤ 6) (hs : V x 0 = .long st) : ∃ V' I', fm_203 N (.ref 0) (.ref x) (nI z) (fx V I L R ++ tl) = some (.inl (none, fx V' I' L R ++ tl)) ∧ drawn x V V' I I' := by
  obtain ⟨n1, n2, n3, n4⟩ := isS_ne hx
  obtain ⟨V', I', q1, q2, q3, q4, q5⟩ := d_203l (L := L) (R := R) (tl := tl) hx hN hz hz6 z 0 N (vup (vup (vup (vup V 167 1 (.int 2)) 167 2 (.int 0)) 167 3 (.int 0)) 167 4 (.int 5)) I st (by omega) (by omega) (by rw [vup_ne n1, vup_ne n1, vup_ne n1, vup_ne n1]; exact hs) (by rw [vup_nj (by omega)]; exact vup_eq) vup_eq
  refine ⟨V', I', ?_, ⟨z, 5, 2, 0, ?_, ?_, q2, ?_, rfl, by omega, by omega, by omega⟩, q3, fun j => ?_, fun j => ?_, fun y hy => q5 y (by omega)⟩
  · unfold fm_203 fg_203_0
    refine ev_b (a := .ref 167) rfl ?_
    refine ev_i rfl ?_
    refine ev_cV (d_34 2 0) ?_
    exact q1
  · rw [q4 167 1 (fun e => n1 e.symm) (by omega)]
    rfl
  · rw [q4 167 2 (fun e => n1 e.symm) (by omega)]
    rfl
  · rw [q4 167 4 (fun e => n1 e.symm) (by omega)]
    rfl
  · rw [q4 0 j (fun e => n2 e.symm) (by omega)]
    rfl
  · rw [q4 174 j (fun e => n3 e.symm) (by omega)]
    rfl
