/-! ===== populate: the reference ===== -/
set_option maxRecDepth 100000 in
set_option maxHeartbeats 4000000 in
theorem x_335 {V : Nat → Nat → Value} {I : Nat → Nat → Int32} {L : Nat → Nat → Int64} {R : Nat → Nat → Option Nat} {tl : am_H} {s : Nat} (h14 : V 174 14 = .int (nI s)) (hs : s < 400) (x y : Int32) : fm_335 (.ref 174) x y (fx V I L R ++ tl) = some (.inl (none, fx (vup V 174 14 (.int (nI (s + 1)))) (iup (iup I 186 (upd (I 186) s x)) 187 (upd (I 187) s y)) L R ++ tl)) := by
  have hin : am_inb (nI s) 400 = true := am_inb_n hs (by omega)
  have hcl : (nI s).toNatClampNeg = s := nI_clamp (by omega)
  have g : ∀ {I : Nat → Nat → Int32}, am_vI (am_pG 3086 (.ref 174) (fx V I L R ++ tl)) = some (nI s) := fun {I} => by show am_vI (some (V 174 14)) = _; rw [h14]; rfl
  unfold fm_335 fg_335_0
  refine ev_b (a := .ref 186) rfl ?_
  refine ev_b g ?_
  refine ev_b (ev_s (f := I 186) (n := 400) (h1 := fx V (iup I 186 (upd (I 186) s x)) L R ++ tl) rfl hin rfl (by rw [hcl]; rfl)) ?_
  refine ev_b (a := .ref 187) rfl ?_
  refine ev_b g ?_
  refine ev_b (ev_s (f := I 187) (n := 400) (h1 := fx V (iup (iup I 186 (upd (I 186) s x)) 187 (upd (I 187) s y)) L R ++ tl) rfl hin rfl (by rw [hcl]; rfl)) ?_
  refine ev_b g ?_
  rw [nI_1]
  exact ev_b (ev_p rfl rfl rfl rfl) rfl
/-- the tables are not made yet, or are made -/
def rInv (V : Nat → Nat → Value) (L : Nat → Nat → Int64) : Prop := (V 174 80 = .int 0 ∧ L 224 = (fun _ => 0) ∧ L 225 = (fun _ => 0)) ∨ (V 174 80 = .int 1 ∧ L 224 = tC ∧ L 225 = tS)
/-- a kind that the reference draws; Q: what else is kept of its rows -/
def rOk (N kd z : Nat) (Q : (Nat → Nat → Int32) → Prop) : Prop := ∀ (V : Nat → Nat → Value) (I : Nat → Nat → Int32) (L : Nat → Nat → Int64) (R : Nat → Nat → Option Nat) (tl : am_H) (st : Int64), V 174 96 = .long st → rInv V L → (∃ k0, V 174 88 = .int (nI k0)) → Q I →
  ∃ V' I' L' s kd' nt st', fm_491 N (.ref 174) (nI kd) (nI z) (fx V I L R ++ tl) = some (.inl (none, fx V' I' L' R ++ tl)) ∧ V' 174 13 = .int kd' ∧ V' 174 14 = .int (nI s) ∧ s ≤ 60 ∧ V' 174 15 = .int nt ∧ V' 174 96 = .long st' ∧ rInv V' L' ∧ (∃ k0, V' 174 88 = .int (nI k0)) ∧ V' 174 0 = V 174 0 ∧ V' 174 1 = V 174 1 ∧ L' 268 = L 268 ∧ I' 234 = I 234 ∧ Q I'
theorem vup_v {V : Nat → Nat → Value} {j y : Nat} {w : Value} (h : y ≠ j) : vup V 174 j w 174 y = V 174 y := vup_nj h
set_option maxRecDepth 100000 in
set_option maxHeartbeats 4000000 in
theorem r_493l {L : Nat → Nat → Int64} {R : Nat → Nat → Option Nat} {tl : am_H} {N z : Nat} (hN : 40 < N) (hz : 2 ≤ z) (hz8 : z ≤ 8) : ∀ (m k K : Nat) (V : Nat → Nat → Value) (I : Nat → Nat → Int32) (st : Int64), k + m = 2 * z → m < K → V 174 96 = .long st → V 174 14 = .int (nI k) → ∃ V' I' st', fg_493_7 N K (.ref 174) (nI z) (nI k) (fx V I L R ++ tl) = some (.inl (none, fx V' I' L R ++ tl)) ∧ V' 174 14 = .int (nI (2 * z)) ∧ V' 174 96 = .long st' ∧ (∀ j, j ≠ 14 → j ≠ 96 → V' 174 j = V 174 j) ∧ (∀ y, y ≠ 186 → y ≠ 187 → I' y = I y) := by
  intro m
  induction m with
  | zero =>
    intro k K V I st hm hK hs h3
    obtain ⟨K, rfl⟩ : ∃ k, K = k + 1 := ⟨K - 1, by omega⟩
    refine ⟨V, I, st, ?_, by rw [h3, show k = 2 * z by omega], hs, fun _ _ _ => rfl, fun _ _ _ => rfl⟩
    rw [fg_493_7]
    refine ev_t ?_ rfl
    rw [show (2 : Int32) * nI z = nI (2 * z) from (nI_mul 2 z).symm]
    exact nI_le (by omega) (by omega)
  | succ m ih =>
    intro k K V I st hm hK hs h3
    obtain ⟨K, rfl⟩ : ∃ k, K = k + 1 := ⟨K - 1, by omega⟩
    have hi := Nat.mod_lt (hlf (nxt st)) (show 0 < z - 1 by omega)
    obtain ⟨V', I', st', q1, q2, q3, q4, q5⟩ := ih (k + 1) K (vup (vup (vup V 174 96 (.long (nxt st))) 174 96 (.long (nxt (nxt st)))) 174 14 (.int (nI (k + 1)))) (iup (iup I 186 (upd (I 186) k (nI (hlf (nxt st) % (z - 1))))) 187 (upd (I 187) k (nI (hlf (nxt st) % (z - 1)) + 1 + nI (hlf (nxt (nxt st)) % (z - 1 - hlf (nxt st) % (z - 1)))))) (nxt (nxt st)) (by omega) (by omega) (by rw [vup_v (by omega), vup_eq]) vup_eq
    refine ⟨V', I', st', ?_, q2, q3, fun j h1 h2 => by rw [q4 j h1 h2, vup_v h1, vup_v h2, vup_v h2], fun y h1 h2 => by rw [q5 y h1 h2]; exact (if_neg h2).trans (if_neg h1)⟩
    rw [fg_493_7]
    refine ev_f ?_ ?_
    · rw [show (2 : Int32) * nI z = nI (2 * z) from (nI_mul 2 z).symm]
      exact nI_ge (by omega) (by omega)
    · refine ev_i rfl ?_
      rw [show nI z - 1 = nI (z - 1) by rw [show (1 : Int32) = nI 1 from rfl, nI_sub (by omega)]]
      refine ev_cI (x_474 hs (by omega) (by omega)) ?_
      refine ev_i rfl ?_
      rw [nI_sub (by omega : hlf (nxt st) % (z - 1) ≤ z - 1)]
      refine ev_cI (x_474 (V := vup V 174 96 (.long (nxt st))) rfl (by omega) (by omega)) ?_
      refine ev_i rfl ?_
      refine ev_cV (x_335 (s := k) (by rw [vup_v (by omega), vup_v (by omega)]; exact h3) (by omega) _ _) ?_
      rw [nI_1]
      exact q1
set_option maxRecDepth 100000 in
set_option maxHeartbeats 4000000 in
theorem rOk_3 {N z : Nat} (hN : 40 < N) (hz : 2 ≤ z) (hz8 : z ≤ 8) : rOk N 3 z (fun _ => True) := by
  intro V I L R tl st hs hi hk _
  obtain ⟨V', I', st', q1, q2, q3, q4, q5⟩ := r_493l (L := L) (R := R) (tl := tl) hN hz hz8 (2 * z) 0 N (vup (vup (vup (vup V 174 13 (.int 3)) 174 14 (.int 0)) 174 15 (.int 0)) 174 15 (.int (nI z))) I st (by omega) (by omega) hs rfl
  refine ⟨V', I', L, 2 * z, 3, nI z, st', ?_, by rw [q4 13 (by omega) (by omega)]; rfl, q2, by omega, by rw [q4 15 (by omega) (by omega)]; rfl, q3, ?_, ?_, by rw [q4 0 (by omega) (by omega)]; rfl, by rw [q4 1 (by omega) (by omega)]; rfl, rfl, q5 234 (by omega) (by omega), trivial⟩
  · unfold fm_491 fg_491_0
    refine ev_b (a := fx (vup V 174 13 (.int 3)) I L R ++ tl) (ev_p rfl rfl rfl rfl) ?_
    refine ev_b (a := fx (vup (vup V 174 13 (.int 3)) 174 14 (.int 0)) I L R ++ tl) (ev_p rfl rfl rfl rfl) ?_
    refine ev_b (a := fx (vup (vup (vup V 174 13 (.int 3)) 174 14 (.int 0)) 174 15 (.int 0)) I L R ++ tl) (ev_p rfl rfl rfl rfl) ?_
    refine ev_t (by decide) ?_
    refine ev_f (fun e => e rfl) ?_
    refine ev_i rfl ?_
    have h493 : fm_493 N (.ref 174) (nI z) (fx (vup (vup (vup V 174 13 (.int 3)) 174 14 (.int 0)) 174 15 (.int 0)) I L R ++ tl) = some (.inl (none, fx V' I' L R ++ tl)) := by
      unfold fm_493 fg_493_0
      refine ev_b (a := fx (vup (vup (vup (vup V 174 13 (.int 3)) 174 14 (.int 0)) 174 15 (.int 0)) 174 15 (.int (nI z))) I L R ++ tl) (ev_p rfl rfl rfl rfl) ?_
      exact q1
    exact ev_cV h493 rfl
  · unfold rInv at hi ⊢
    rw [q4 80 (by omega) (by omega)]
    exact hi
  · rw [q4 88 (by omega) (by omega)]
    exact hk
set_option maxRecDepth 100000 in
set_option maxHeartbeats 4000000 in
theorem r_492i {L : Nat → Nat → Int64} {R : Nat → Nat → Option Nat} {tl : am_H} {N z k : Nat} (hz1 : 1 ≤ z) (hz6 : z ≤ 6) (hk : k < z) {rec : Value → Int32 → Int32 → am_H → Option am_O} {x3 : Int32} : ∀ (m c K : Nat) (V : Nat → Nat → Value) (I : Nat → Nat → Int32) (st : Int64) (v : Int32), c + m = 4 → m < K → V 174 96 = .long st → V 174 14 = .int (nI k) → ∃ V' I' st', fg_492_20 N rec K (.ref 174) (nI z) (nI k) x3 v (nI c) (fx V I L R ++ tl) = rec (.ref 174) (nI z) (nI (k + 1)) (fx V' I' L R ++ tl) ∧ V' 174 14 = .int (nI (k + 1)) ∧ V' 174 96 = .long st' ∧ (∀ j, j ≠ 14 → j ≠ 96 → V' 174 j = V 174 j) ∧ (∀ y, y ≠ 186 → y ≠ 187 → I' y = I y) := by
  intro m
  induction m with
  | zero =>
    intro c K V I st v hm hK hs h3
    obtain ⟨K, rfl⟩ : ∃ k, K = k + 1 := ⟨K - 1, by omega⟩
    refine ⟨vup V 174 14 (.int (nI (k + 1))), iup (iup I 186 (upd (I 186) k x3)) 187 (upd (I 187) k v), st, ?_, vup_eq, by rw [vup_v (by omega)]; exact hs, fun j h1 _ => vup_v h1, fun y h1 h2 => (if_neg h2).trans (if_neg h1)⟩
    rw [fg_492_20, show c = 4 by omega]
    refine ev_t (by decide) ?_
    refine ev_i rfl ?_
    refine ev_cV (x_335 h3 (by omega) _ _) ?_
    rw [nI_1]
  | succ m ih =>
    intro c K V I st v hm hK hs h3
    obtain ⟨K, rfl⟩ : ∃ k, K = k + 1 := ⟨K - 1, by omega⟩
    obtain ⟨V', I', st', q1, q2, q3, q4, q5⟩ := ih (c + 1) K (vup V 174 96 (.long (nxt st))) I (nxt st) ((v &&& ((7 <<< ((3 * nI c) &&& 31)) ^^^ (-1))) ||| (nI (hlf (nxt st) % z) <<< ((3 * nI c) &&& 31))) (by omega) (by omega) vup_eq (by rw [vup_v (by omega)]; exact h3)
    refine ⟨V', I', st', ?_, q2, q3, fun j h1 h2 => by rw [q4 j h1 h2, vup_v h2], q5⟩
    rw [fg_492_20]
    refine ev_f (nI_ge (a := c) (b := 4) (by omega) (by decide)) ?_
    refine ev_i rfl ?_
    refine ev_cI (x_474 hs hz1 (by omega)) ?_
    refine ev_cI (v := (v &&& ((7 <<< ((3 * nI c) &&& 31)) ^^^ (-1))) ||| (nI (hlf (nxt st) % z) <<< ((3 * nI c) &&& 31))) rfl ?_
    rw [nI_1]
    exact q1
set_option maxRecDepth 100000 in
set_option maxHeartbeats 4000000 in
theorem r_492l {L : Nat → Nat → Int64} {R : Nat → Nat → Option Nat} {tl : am_H} {N z : Nat} (hN : 40 < N) (hz1 : 1 ≤ z) (hz6 : z ≤ 6) : ∀ (m k K : Nat) (V : Nat → Nat → Value) (I : Nat → Nat → Int32) (st : Int64), k + m = z → m < K → V 174 96 = .long st → V 174 14 = .int (nI k) → ∃ V' I' st', fg_492_2 N K (.ref 174) (nI z) (nI k) (fx V I L R ++ tl) = some (.inl (none, fx V' I' L R ++ tl)) ∧ V' 174 14 = .int (nI z) ∧ V' 174 96 = .long st' ∧ (∀ j, j ≠ 14 → j ≠ 96 → V' 174 j = V 174 j) ∧ (∀ y, y ≠ 186 → y ≠ 187 → I' y = I y) := by
  intro m
  induction m with
  | zero =>
    intro k K V I st hm hK hs h3
    obtain ⟨K, rfl⟩ : ∃ k, K = k + 1 := ⟨K - 1, by omega⟩
    refine ⟨V, I, st, ?_, by rw [h3, show k = z by omega], hs, fun _ _ _ => rfl, fun _ _ _ => rfl⟩
    rw [fg_492_2]
    exact ev_t (nI_le (by omega) (by omega)) rfl
  | succ m ih =>
    intro k K V I st hm hK hs h3
    obtain ⟨K, rfl⟩ : ∃ k, K = k + 1 := ⟨K - 1, by omega⟩
    obtain ⟨V1, I1, st1, r1, r2, r3, r4, r5⟩ := r_492i (L := L) (R := R) (tl := tl) (N := N) (z := z) (k := k) hz1 hz6 (by omega) (rec := fg_492_2 N K) (x3 := nI (hlf (nxt st) % 10)) 4 0 N (vup V 174 96 (.long (nxt st))) I (nxt st) 0 rfl (by omega) vup_eq (by rw [vup_v (by omega)]; exact h3)
    obtain ⟨V', I', st', q1, q2, q3, q4, q5⟩ := ih (k + 1) K V1 I1 st1 (by omega) (by omega) r3 r2
    refine ⟨V', I', st', ?_, q2, q3, fun j h1 h2 => by rw [q4 j h1 h2, r4 j h1 h2, vup_v h2], fun y h1 h2 => by rw [q5 y h1 h2, r5 y h1 h2]⟩
    rw [fg_492_2]
    refine ev_f (nI_ge (by omega) (by omega)) ?_
    refine ev_i rfl ?_
    refine ev_cI (show fm_474 (.ref 174) 10 (fx V I L R ++ tl) = _ from x_474 (k := 10) hs (by omega) (by omega)) ?_
    exact r1.trans q1
set_option maxRecDepth 100000 in
set_option maxHeartbeats 4000000 in
theorem rOk_2 {N z : Nat} (hN : 40 < N) (hz : 1 ≤ z) (hz6 : z ≤ 6) : rOk N 2 z (fun _ => True) := by
  intro V I L R tl st hs hi hk _
  obtain ⟨V', I', st', q1, q2, q3, q4, q5⟩ := r_492l (L := L) (R := R) (tl := tl) hN hz hz6 z 0 N (vup (vup (vup V 174 13 (.int 2)) 174 14 (.int 0)) 174 15 (.int 0)) I st (by omega) (by omega) hs rfl
  refine ⟨V', I', L, z, 2, 0, st', ?_, by rw [q4 13 (by omega) (by omega)]; rfl, q2, by omega, by rw [q4 15 (by omega) (by omega)]; rfl, q3, ?_, ?_, by rw [q4 0 (by omega) (by omega)]; rfl, by rw [q4 1 (by omega) (by omega)]; rfl, rfl, q5 234 (by omega) (by omega), trivial⟩
  · unfold fm_491 fg_491_0
    refine ev_b (a := fx (vup V 174 13 (.int 2)) I L R ++ tl) (ev_p rfl rfl rfl rfl) ?_
    refine ev_b (a := fx (vup (vup V 174 13 (.int 2)) 174 14 (.int 0)) I L R ++ tl) (ev_p rfl rfl rfl rfl) ?_
    refine ev_b (a := fx (vup (vup (vup V 174 13 (.int 2)) 174 14 (.int 0)) 174 15 (.int 0)) I L R ++ tl) (ev_p rfl rfl rfl rfl) ?_
    refine ev_f (fun e => e rfl) ?_
    refine ev_i rfl ?_
    exact ev_cV q1 rfl
  · unfold rInv at hi ⊢
    rw [q4 80 (by omega) (by omega)]
    exact hi
  · rw [q4 88 (by omega) (by omega)]
    exact hk
