/-- what type lays: the class, the reference -/
def chC (x : Int64) (k : Nat) : Int32 := (Int32.toUInt32 (Int64.toInt32 (byC x k)) % 65536).toInt32
def tyc (x : Int64) (f : Nat → Int32) (l : Nat) : Nat → Nat → Int32
  | 0 => f
  | k + 1 => upd (tyc x f l k) (l + k) (chC x k)
def tyr (x : Int64) (f : Nat → Int32) (l : Nat) : Nat → Nat → Int32
  | 0 => f
  | k + 1 => upd (tyr x f l k) (l + k) (Int64.toInt32 (byR x k))
set_option maxRecDepth 100000 in
set_option maxHeartbeats 4000000 in
theorem e_22w {V : Nat → Nat → Value} {I : Nat → Nat → Int32} {L : Nat → Nat → Int64} {R : Nat → Nat → Option Nat} {tl : am_H} {N n l : Nat} {x : Int64} (hl : l + n ≤ 240) : ∀ (m k K : Nat), k + m = n → m < K → fg_22_46 N K (.ref 2) x (nI n) (nI k) (fx (vup V 2 1 (.int (nI (l + k)))) (iup I 3 (tyc x (I 3) l k)) L R ++ tl) = some (.inl (some (.int (nI (l + n))), fx (vup V 2 1 (.int (nI (l + n)))) (iup I 3 (tyc x (I 3) l n)) L R ++ tl)) := by
  intro m
  induction m with
  | zero =>
    intro k K hm hK
    obtain ⟨K, rfl⟩ : ∃ k, K = k + 1 := ⟨K - 1, by omega⟩
    obtain rfl : k = n := by omega
    rw [fg_22_46]
    refine ev_t (nI_le (Nat.le_refl _) (by omega)) ?_
    exact ev_b (a := nI (l + k)) rfl rfl
  | succ m ih =>
    intro k K hm hK
    obtain ⟨K, rfl⟩ : ∃ k, K = k + 1 := ⟨K - 1, by omega⟩
    rw [fg_22_46]
    refine ev_f (nI_ge (by omega) (by omega)) ?_
    refine ev_b (a := .ref 3) rfl ?_
    refine ev_b (a := nI (l + k)) rfl ?_
    refine ev_b (ev_s (f := tyc x (I 3) l k) (n := 240) (h1 := fx (vup V 2 1 (.int (nI (l + k)))) (iup I 3 (tyc x (I 3) l (k + 1))) L R ++ tl) rfl (am_inb_n (by omega) (by omega)) (ch_fit _) (by rw [nI_clamp (by omega)]; rfl)) ?_
    refine ev_b (a := nI (l + k)) rfl ?_
    rw [nI_1, nI_1]
    refine ev_b (a := fx (vup V 2 1 (.int (nI (l + (k + 1))))) (iup I 3 (tyc x (I 3) l (k + 1))) L R ++ tl) (ev_p rfl rfl rfl rfl) ?_
    exact ih (k + 1) K (by omega) (by omega)
set_option maxRecDepth 100000 in
set_option maxHeartbeats 4000000 in
theorem e_325w {V : Nat → Nat → Value} {I : Nat → Nat → Int32} {L : Nat → Nat → Int64} {R : Nat → Nat → Option Nat} {tl : am_H} {N n l : Nat} {x : Int64} (hV : V 174 68 = .int (nI l)) (hl : l + n ≤ 240) : ∀ (m k K : Nat), k + m = n → m < K → fg_325_51 N K (.ref 174) x (nI n) (nI k) (fx V (iup I 218 (tyr x (I 218) l k)) L R ++ tl) = some (.inl (some (.int (nI (l + n))), fx (vup V 174 68 (.int (nI (l + n)))) (iup I 218 (tyr x (I 218) l n)) L R ++ tl)) := by
  have hv : ∀ {J : Nat → Nat → Int32}, am_vI (am_pG 3140 (.ref 174) (fx V J L R ++ tl)) = some (nI l) := fun {J} => by
    show am_vI (some (V 174 68)) = _
    rw [hV]
    rfl
  intro m
  induction m with
  | zero =>
    intro k K hm hK
    obtain ⟨K, rfl⟩ : ∃ k, K = k + 1 := ⟨K - 1, by omega⟩
    obtain rfl : k = n := by omega
    rw [fg_325_51]
    refine ev_t (nI_le (Nat.le_refl _) (by omega)) ?_
    refine ev_b hv ?_
    rw [nI_add]
    refine ev_b (a := fx (vup V 174 68 (.int (nI (l + k)))) (iup I 218 (tyr x (I 218) l k)) L R ++ tl) (ev_p rfl rfl rfl rfl) ?_
    exact ev_b (a := nI (l + k)) rfl rfl
  | succ m ih =>
    intro k K hm hK
    obtain ⟨K, rfl⟩ : ∃ k, K = k + 1 := ⟨K - 1, by omega⟩
    rw [fg_325_51]
    refine ev_f (nI_ge (by omega) (by omega)) ?_
    refine ev_b (a := .ref 218) rfl ?_
    refine ev_b hv ?_
    rw [nI_add]
    refine ev_b (ev_s (f := tyr x (I 218) l k) (n := 240) (h1 := fx V (iup I 218 (tyr x (I 218) l (k + 1))) L R ++ tl) rfl (am_inb_n (by omega) (by omega)) rfl (by rw [nI_clamp (by omega)]; rfl)) ?_
    rw [nI_1]
    exact ih (k + 1) K (by omega) (by omega)
set_option maxRecDepth 100000 in
set_option maxHeartbeats 4000000 in
theorem p_0 (q : rkQ) (N : Nat) (hN : 20 < N) (x : Int64) : ∃ h', opA (fm_21 N (.ref 0) x (hp0 q)) (fun h1 => fm_325 N (.ref 174) x h1) h' ∧ fits h' := by
  have hn := tyN_le (byC x) 8 0
  have e : tyN (byR x) 8 0 = tyN (byC x) 8 0 := (tyN_eq 8 0 (fun j _ h2 => by_eq x j (by omega))).symm
  have k1 := e_22w (V := V0) (I := I0) (L := L0 q) (R := R0) (tl := []) (N := N) (n := tyN (byC x) 8 0) (l := 0) (x := x) (by omega) (tyN (byC x) 8 0) 0 N (by omega) (by omega)
  have k2 := e_325w (V := vup (vup V0 2 1 (.int (nI (0 + tyN (byC x) 8 0)))) 174 0 (.int 0)) (I := iup I0 3 (tyc x (I0 3) 0 (tyN (byC x) 8 0))) (L := L0 q) (R := R0) (tl := []) (N := N) (n := tyN (byC x) 8 0) (l := 0) (x := x) rfl (by omega) (tyN (byC x) 8 0) 0 N (by omega) (by omega)
  refine ⟨_, ⟨nI (0 + tyN (byC x) 8 0), fx (vup V0 2 1 (.int (nI (0 + tyN (byC x) 8 0)))) (iup I0 3 (tyc x (I0 3) 0 (tyN (byC x) 8 0))) (L0 q) R0 ++ [], ?_, rfl, ?_⟩, fits_fx (V := vup (vup (vup V0 2 1 (.int (nI (0 + tyN (byC x) 8 0)))) 174 0 (.int 0)) 174 68 (.int (nI (0 + tyN (byC x) 8 0)))) (I := iup (iup I0 3 (tyc x (I0 3) 0 (tyN (byC x) 8 0))) 218 (tyr x ((iup I0 3 (tyc x (I0 3) 0 (tyN (byC x) 8 0))) 218) 0 (tyN (byC x) 8 0))) (L := L0 q) (R := R0) (tl := []) (Nat.zero_le _) (Nat.zero_le _)⟩
  · unfold fm_21 fg_21_0
    refine ev_b (a := .ref 2) rfl ?_
    refine ev_i rfl ?_
    have h22 : fm_22 N (.ref 2) x (hp0 q) = some (.inl (some (.int (nI (0 + tyN (byC x) 8 0))), fx (vup V0 2 1 (.int (nI (0 + tyN (byC x) 8 0)))) (iup I0 3 (tyc x (I0 3) 0 (tyN (byC x) 8 0))) (L0 q) R0 ++ [])) := by
      unfold fm_22 fg_22_0
      refine (e_22n (v := .ref 2) (x := x) (h := hp0 q) 8 0 N rfl (by omega)).trans ?_
      unfold fg_22_29
      refine ev_b (a := nI 0) rfl ?_
      rw [nI_add]
      refine ev_t (nI_le (b := 240) (by omega) (by decide)) ?_
      exact k1
    exact ev_cI h22 rfl
  · show fm_325 N (.ref 174) x (fx (vup V0 2 1 (.int (nI (0 + tyN (byC x) 8 0)))) (iup I0 3 (tyc x (I0 3) 0 (tyN (byC x) 8 0))) (L0 q) R0 ++ []) = _
    unfold fm_325 fg_325_0
    refine ev_b (a := fx (vup (vup V0 2 1 (.int (nI (0 + tyN (byC x) 8 0)))) 174 0 (.int 0)) (iup I0 3 (tyc x (I0 3) 0 (tyN (byC x) 8 0))) (L0 q) R0 ++ []) (ev_p rfl rfl rfl rfl) ?_
    refine (e_325n (v := .ref 174) (x := x) 8 0 N rfl (by omega)).trans ?_
    rw [e]
    unfold fg_325_34
    refine ev_b (a := nI 0) rfl ?_
    rw [nI_add]
    refine ev_t (nI_le (b := 240) (by omega) (by decide)) ?_
    exact k2
