/-! ===== printing: what both sides write ===== -/
def wrL : (Nat → Int32) → Nat → List Nat → Nat → Int32
  | f, _, [] => f
  | f, c, x :: l => wrL (upd f c (nI x)) (c + 1) l
theorem wrL_app : ∀ (l r : List Nat) (f : Nat → Int32) (c : Nat), wrL f c (l ++ r) = wrL (wrL f c l) (c + l.length) r := by
  intro l
  induction l with
  | nil => intro r f c; rfl
  | cons x l ih =>
    intro r f c
    show wrL (upd f c (nI x)) (c + 1) (l ++ r) = wrL (wrL (upd f c (nI x)) (c + 1) l) (c + (l.length + 1)) r
    rw [ih, show c + 1 + l.length = c + (l.length + 1) by omega]
theorem wrL_lt : ∀ (l : List Nat) (f : Nat → Int32) (c j : Nat), j < c → wrL f c l j = f j := by
  intro l
  induction l with
  | nil => intro f c j _; rfl
  | cons x l ih =>
    intro f c j h
    show wrL (upd f c (nI x)) (c + 1) l j = f j
    rw [ih _ _ _ (by omega), upd_ne (by omega)]
theorem wrL_at : ∀ (l : List Nat) (f : Nat → Int32) (c k : Nat) (x : Nat) (r : List Nat), l.drop k = x :: r → wrL f c l (c + k) = nI x := by
  intro l
  induction l with
  | nil => intro f c k x r h; rw [List.drop_nil] at h; cases h
  | cons y l ih =>
    intro f c k x r h
    cases k with
    | zero =>
      rw [List.drop_zero] at h
      injection h with h1 h2
      subst h1
      show wrL (upd f c (nI y)) (c + 1) l (c + 0) = _
      rw [wrL_lt _ _ _ _ (by omega), Nat.add_zero, upd_eq]
    | succ k =>
      rw [List.drop_succ_cons] at h
      have e := ih (upd f c (nI y)) (c + 1) k x r h
      rw [show c + 1 + k = c + (k + 1) by omega] at e
      exact e
theorem vup_2 {V : Nat → Nat → Value} {a j : Nat} {x y : Value} : vup (vup V a j x) a j y = vup V a j y := by
  funext b k
  by_cases c : b = a ∧ k = j
  · obtain ⟨c1, c2⟩ := c
    subst c1
    subst c2
    rw [vup_eq, vup_eq]
  · rw [vup_o c, vup_o c, vup_o c]
theorem iup_2 {I : Nat → Nat → Int32} {a : Nat} {f g : Nat → Int32} : iup (iup I a f) a g = iup I a g := by
  funext b
  by_cases c : b = a
  · subst c
    rw [iup_eq, iup_eq]
  · rw [iup_na c, iup_na c, iup_na c]
def pC (V : Nat → Nat → Value) (I : Nat → Nat → Int32) (L : Nat → Nat → Int64) (R : Nat → Nat → Option Nat) (tl : am_H) (c : Nat) (f : Nat → Int32) : am_H := fx (vup V 2 8 (.int (nI c))) (iup I 13 f) L R ++ tl
def pR (V : Nat → Nat → Value) (I : Nat → Nat → Int32) (L : Nat → Nat → Int64) (R : Nat → Nat → Option Nat) (tl : am_H) (c : Nat) (f : Nat → Int32) : am_H := fx (vup V 174 78 (.int (nI c))) (iup I 223 f) L R ++ tl
theorem fit3 : ∀ x, x < 127 → am_afit 3 (nI x) = true := by decide
set_option maxRecDepth 100000 in
set_option maxHeartbeats 1600000 in
theorem c_68 {V : Nat → Nat → Value} {I : Nat → Nat → Int32} {L : Nat → Nat → Int64} {R : Nat → Nat → Option Nat} {tl : am_H} {c x : Nat} {f : Nat → Int32} (hc : c < 240) (hx : x < 127) : fm_68 (.ref 2) (nI x) (pC V I L R tl c f) = some (.inl (none, pC V I L R tl (c + 1) (upd f c (nI x)))) := by
  unfold pC fm_68 fg_68_0
  refine ev_b (a := nI c) rfl (ev_b (a := Value.ref 13) rfl (ev_b (a := 240) rfl (ev_f (nI_ge (b := 240) hc (by decide)) (ev_b (a := Value.ref 13) rfl (ev_b (a := nI c) rfl (ev_b (qs_13 hc (fit3 x hx)) (ev_b (a := nI c) rfl ?_)))))))
  rw [nI_1]
  refine ev_b qp_2_8 ?_
  rw [vup_2, iup_2]
  rfl
set_option maxRecDepth 100000 in
set_option maxHeartbeats 1600000 in
theorem r_362 {V : Nat → Nat → Value} {I : Nat → Nat → Int32} {L : Nat → Nat → Int64} {R : Nat → Nat → Option Nat} {tl : am_H} {c : Nat} {x : Int32} {f : Nat → Int32} (hc : c < 800) : fm_362 (.ref 174) x (pR V I L R tl c f) = some (.inl (none, pR V I L R tl (c + 1) (upd f c x))) := by
  unfold pR fm_362 fg_362_0
  refine ev_b (a := Value.ref 223) rfl (ev_b (a := nI c) rfl (ev_b (qs_223 hc) (ev_b (a := nI c) rfl ?_)))
  rw [nI_1]
  refine ev_b qp_174_78 ?_
  rw [vup_2, iup_2]
  rfl
/-! numbers -/
def dgL (a : Nat) : List Nat := (if a ≤ 9 then [] else [48 + a / 10]) ++ [48 + a % 10]
def nbL (x : Int32) : List Nat := if 0 ≤ x then dgL x.toNatClampNeg else 45 :: dgL (-x).toNatClampNeg
theorem dgL_le {a : Nat} (h : a ≤ 99) : (dgL a).length ≤ 2 ∧ ∀ x, x ∈ dgL a → x < 127 := by
  unfold dgL
  by_cases c : a ≤ 9
  · rw [if_pos c]
    refine ⟨by show 1 ≤ 2; decide, fun x hx => ?_⟩
    have e : x = 48 + a % 10 := by
      rcases List.mem_cons.mp hx with e | e
      · exact e
      · exact absurd e List.not_mem_nil
    omega
  · rw [if_neg c]
    refine ⟨by show 2 ≤ 2; decide, fun x hx => ?_⟩
    have e : x = 48 + a / 10 ∨ x = 48 + a % 10 := by
      rcases List.mem_cons.mp hx with e | e
      · exact .inl e
      · rcases List.mem_cons.mp e with e | e
        · exact .inr e
        · exact absurd e List.not_mem_nil
    omega
theorem nb_k : ∀ a, a < 100 → 0 ≤ nI a ∧ (nI a).toNatClampNeg = a ∧ (1 ≤ a → ¬ 0 ≤ - nI a) ∧ (- - nI a).toNatClampNeg = a ∧ - - nI a = nI a := by decide
theorem nbL_p {a : Nat} (h : a ≤ 99) : nbL (nI a) = dgL a := by
  obtain ⟨h1, h2, -⟩ := nb_k a (by omega)
  unfold nbL
  rw [if_pos h1, h2]
theorem nbL_n {a : Nat} (h : a ≤ 99) (h1 : 1 ≤ a) : nbL (- nI a) = 45 :: dgL a := by
  obtain ⟨-, -, h3, h4, -⟩ := nb_k a (by omega)
  unfold nbL
  rw [if_neg (h3 h1), h4]
theorem two_c {x : Int32} (h : two x) : (∃ a, a ≤ 99 ∧ x = nI a) ∨ (∃ a, 1 ≤ a ∧ a ≤ 99 ∧ x = - nI a) := by
  rcases h with ⟨a, h1, h2⟩ | ⟨a, h1, h2⟩
  · exact .inl ⟨a, h1, h2⟩
  · by_cases c : a = 0
    · subst c
      exact .inl ⟨0, by decide, h2.trans (by decide)⟩
    · exact .inr ⟨a, by omega, h1, h2⟩
theorem nbL_le {x : Int32} (h : two x) : (nbL x).length ≤ 3 ∧ ∀ y, y ∈ nbL x → y < 127 := by
  rcases two_c h with ⟨a, h1, rfl⟩ | ⟨a, h0, h1, rfl⟩
  · rw [nbL_p h1]
    have := dgL_le h1
    exact ⟨by omega, this.2⟩
  · rw [nbL_n h1 h0]
    have := dgL_le h1
    refine ⟨by show (dgL a).length + 1 ≤ 3; omega, fun y hy => ?_⟩
    rcases List.mem_cons.mp hy with e | e
    · omega
    · exact this.2 y e
theorem ch_k : ∀ a, a < 100 → ((Int32.toUInt32 (48 + (nI a - nI a / 10 * 10)) % 65536).toInt32) = nI (48 + a % 10) ∧ ((Int32.toUInt32 (48 + ((nI a / 10) - (nI a / 10) / 10 * 10)) % 65536).toInt32) = nI (48 + a / 10) ∧ (48 + (nI a - nI a / 10 * 10)) = nI (48 + a % 10) ∧ (48 + (nI a / 10)) = nI (48 + a / 10) := by decide
set_option maxRecDepth 100000 in
set_option maxHeartbeats 1600000 in
theorem c_66d {V : Nat → Nat → Value} {I : Nat → Nat → Int32} {L : Nat → Nat → Int64} {R : Nat → Nat → Option Nat} {tl : am_H} {a c : Nat} {f : Nat → Int32} (ha : a ≤ 99) (hc : c + (dgL a).length ≤ 240) : fg_66_15 (.ref 2) (nI a) (pC V I L R tl c f) = some (.inl (none, pC V I L R tl (c + (dgL a).length) (wrL f c (dgL a)))) := by
  obtain ⟨k1, k2, -, -⟩ := ch_k a (by omega)
  unfold dgL at hc ⊢
  unfold fg_66_15 fg_66_36
  by_cases c9 : a ≤ 9
  · rw [if_pos c9] at hc ⊢
    have hc1 : c + 1 ≤ 240 := hc
    refine ev_t (nI_le (b := 9) c9 (by decide)) (ev_i rfl ?_)
    rw [k1]
    exact ev_cV (c_68 (by omega) (by omega)) rfl
  · rw [if_neg c9] at hc ⊢
    have hc1 : c + 2 ≤ 240 := hc
    refine ev_f (nI_ge (a := 9) (by omega) (by omega)) (ev_i rfl ?_)
    rw [k2]
    refine ev_cV (c_68 (by omega) (by omega)) (ev_i rfl ?_)
    rw [k1]
    exact ev_cV (c_68 (by omega) (by omega)) rfl
set_option maxRecDepth 100000 in
set_option maxHeartbeats 1600000 in
theorem c_66 {V : Nat → Nat → Value} {I : Nat → Nat → Int32} {L : Nat → Nat → Int64} {R : Nat → Nat → Option Nat} {tl : am_H} {x : Int32} {c : Nat} {f : Nat → Int32} (h : two x) (hc : c + (nbL x).length ≤ 240) : fm_66 (.ref 2) x (pC V I L R tl c f) = some (.inl (none, pC V I L R tl (c + (nbL x).length) (wrL f c (nbL x)))) := by
  rcases two_c h with ⟨a, h1, rfl⟩ | ⟨a, h0, h1, rfl⟩
  · obtain ⟨k1, -⟩ := nb_k a (by omega)
    rw [nbL_p h1] at hc ⊢
    unfold fm_66 fg_66_0
    exact ev_cI (pe_67 _ _) (by
      rw [show pv_67 (nI a) = nI a from if_pos k1]
      exact ev_t k1 (c_66d h1 (by omega)))
  · obtain ⟨-, -, k3, -, k5⟩ := nb_k a (by omega)
    rw [nbL_n h1 h0] at hc ⊢
    have hc1 : c + ((dgL a).length + 1) ≤ 240 := hc
    unfold fm_66 fg_66_0
    exact ev_cI (pe_67 _ _) (by
      rw [show pv_67 (- nI a) = nI a from (if_neg (k3 h0)).trans k5]
      refine ev_f (k3 h0) (ev_i rfl (ev_cV (c_68 (x := 45) (by omega) (by decide)) ?_))
      rw [show c + (45 :: dgL a).length = c + 1 + (dgL a).length by show c + ((dgL a).length + 1) = _; omega]
      exact c_66d h1 (by omega))
set_option maxRecDepth 100000 in
set_option maxHeartbeats 1600000 in
theorem r_363d {V : Nat → Nat → Value} {I : Nat → Nat → Int32} {L : Nat → Nat → Int64} {R : Nat → Nat → Option Nat} {tl : am_H} {a c : Nat} {f : Nat → Int32} (ha : a ≤ 99) (hc : c + (dgL a).length ≤ 800) : fg_363_21 (.ref 174) (nI a) (pR V I L R tl c f) = some (.inl (none, pR V I L R tl (c + (dgL a).length) (wrL f c (dgL a)))) := by
  obtain ⟨-, -, k1, k2⟩ := ch_k a (by omega)
  unfold dgL at hc ⊢
  unfold fg_363_21 fg_363_38
  by_cases c9 : a ≤ 9
  · rw [if_pos c9] at hc ⊢
    have hc1 : c + 1 ≤ 800 := hc
    refine ev_t (nI_le (b := 9) c9 (by decide)) (ev_i rfl ?_)
    rw [k1]
    exact ev_cV (r_362 (by omega)) rfl
  · rw [if_neg c9] at hc ⊢
    have hc1 : c + 2 ≤ 800 := hc
    refine ev_f (nI_ge (a := 9) (by omega) (by omega)) (ev_i rfl ?_)
    rw [k2]
    refine ev_cV (r_362 (by omega)) (ev_i rfl ?_)
    rw [k1]
    exact ev_cV (r_362 (by omega)) rfl
set_option maxRecDepth 100000 in
set_option maxHeartbeats 1600000 in
theorem r_363 {V : Nat → Nat → Value} {I : Nat → Nat → Int32} {L : Nat → Nat → Int64} {R : Nat → Nat → Option Nat} {tl : am_H} {x : Int32} {c : Nat} {f : Nat → Int32} (h : two x) (hc : c + (nbL x).length ≤ 800) : fm_363 (.ref 174) x (pR V I L R tl c f) = some (.inl (none, pR V I L R tl (c + (nbL x).length) (wrL f c (nbL x)))) := by
  rcases two_c h with ⟨a, h1, rfl⟩ | ⟨a, h0, h1, rfl⟩
  · obtain ⟨k1, -⟩ := nb_k a (by omega)
    rw [nbL_p h1] at hc ⊢
    unfold fm_363 fg_363_0
    refine ev_t k1 ?_
    unfold fg_363_10
    exact ev_t k1 (r_363d h1 (by omega))
  · obtain ⟨-, -, k3, -, k5⟩ := nb_k a (by omega)
    rw [nbL_n h1 h0] at hc ⊢
    have hc1 : c + ((dgL a).length + 1) ≤ 800 := hc
    unfold fm_363 fg_363_0
    refine ev_f (k3 h0) ?_
    unfold fg_363_10
    rw [k5]
    refine ev_f (k3 h0) (ev_i rfl (ev_cV (r_362 (x := 45) (by omega)) ?_))
    rw [show c + (45 :: dgL a).length = c + 1 + (dgL a).length by show c + ((dgL a).length + 1) = _; omega]
    exact r_363d h1 (by omega)
/-! items -/
def cdT : List Nat := [120, 121, 122, 110, 126, 35, 43, 45, 42, 47, 37, 60, 61, 100, 119, 111, 106, 98]
def cdN (l : Nat) : Nat := cdT.getD (l - 1) 0
theorem cd_r : ∀ l, l < 19 → 1 ≤ l → pv_366 (nI l) = nI (cdN l) ∧ cdN l < 127 := by decide
theorem cd_c : ∀ l, l < 17 → 1 ≤ l → am_pTx 5 (nI l - 1) = some (nI (cdN l)) := by decide
def itL (kd : Nat) (s v : Nat → Int32) (k : Nat) : List Nat := if kd = 1 then (if (s k).toNatClampNeg = 0 then nbL (v k) else cdN (s k).toNatClampNeg :: (if (s k).toNatClampNeg ≤ 16 then [] else nbL (v k))) else if kd = 2 then nbL (s k) ++ (58 :: [48 + (pv_367 (v k) 0).toNatClampNeg, 48 + (pv_367 (v k) 1).toNatClampNeg, 48 + (pv_367 (v k) 2).toNatClampNeg, 48 + (pv_367 (v k) 3).toNatClampNeg]) else [48 + (s k).toNatClampNeg, 48 + (v k).toNatClampNeg]
def sepN (kd : Nat) : Nat := if kd = 1 then 32 else if kd = 2 then 59 else 44
def hdL (kd ln : Nat) : List Nat := if kd = 3 then [48 + ln, 58] else []
def txI (kd ln : Nat) (s v : Nat → Int32) : Nat → List Nat
  | 0 => hdL kd ln
  | k + 1 => txI kd ln s v k ++ ((if k = 0 then [] else [sepN kd]) ++ itL kd s v k)
