/-! ===== the reference: a node's own instructions are laid ===== -/
/-- the reference while it lays code: sorts, numbers, where nodes begin -/
def ctS (V : Nat → Nat → Value) (I : Nat → Nat → Int32) (L : Nat → Nat → Int64) (R : Nat → Nat → Option Nat) (tl : am_H) (a b e : Nat → Int32) : am_H := fx V (iup (iup (iup I 186 a) 187 b) 219 e) L R ++ tl
set_option maxRecDepth 100000 in
set_option maxHeartbeats 4000000 in
theorem c_498 {V : Nat → Nat → Value} {I : Nat → Nat → Int32} {L : Nat → Nat → Int64} {R : Nat → Nat → Option Nat} {tl : am_H} {a b e : Nat → Int32} {i : Nat} (hi : i < 400) (x v : Int32) : fm_498 (.ref 174) (nI i) x v (ctS V I L R tl a b e) = some (.inl (none, ctS V I L R tl (upd a i x) (upd b i v) e)) := by
  unfold fm_498 fg_498_0
  refine ev_b (a := .ref 186) rfl ?_
  refine ev_b (ev_s (f := a) (n := 400) (h1 := ctS V I L R tl (upd a i x) b e) rfl (am_inb_n (by omega) (by omega)) rfl (by rw [nI_clamp (by omega)]; rfl)) ?_
  refine ev_b (a := .ref 187) rfl ?_
  exact ev_b (ev_s (f := b) (n := 400) (h1 := ctS V I L R tl (upd a i x) (upd b i v) e) rfl (am_inb_n (by omega) (by omega)) rfl (by rw [nI_clamp (by omega)]; rfl)) rfl
set_option maxRecDepth 100000 in
set_option maxHeartbeats 4000000 in
theorem c_e {V : Nat → Nat → Value} {I : Nat → Nat → Int32} {L : Nat → Nat → Int64} {R : Nat → Nat → Option Nat} {tl : am_H} {a b e : Nat → Int32} {i : Nat} (hi : i < 61) (v : Int32) : am_pS 0 (.ref 219) (nI i) v (ctS V I L R tl a b e) = some (ctS V I L R tl a b (upd e i v)) := ev_s (f := e) (n := 61) (h1 := ctS V I L R tl a b (upd e i v)) rfl (am_inb_n (by omega) (by omega)) rfl (by rw [nI_clamp (by omega)]; rfl)
set_option maxRecDepth 100000 in
set_option maxHeartbeats 4000000 in
theorem c_c {V : Nat → Nat → Value} {I : Nat → Nat → Int32} {L : Nat → Nat → Int64} {R : Nat → Nat → Option Nat} {tl : am_H} {a b e : Nat → Int32} {i v : Nat} (hi : i < 61) (hv : I 253 i = nI v) : am_pA 0 (.ref 253) (nI i) (ctS V I L R tl a b e) = some (nI v) := by
  rw [ev_a (f := I 253) (n := 61) rfl (am_inb_n (by omega) (by omega)), nI_clamp (by omega), hv]
theorem c_254 {N : Nat} {k s q : Int32} {h : am_H} (h20 : ¬ s = 20) : fg_497_254 N (.ref 174) k s q h = some (.inl (none, h)) := by
  unfold fg_497_254
  exact ev_t h20 rfl
theorem c_193 {N : Nat} {k s q : Int32} {h : am_H} (h18 : ¬ s = 18) (h20 : ¬ s = 20) : fg_497_193 N (.ref 174) k s q h = some (.inl (none, h)) := by
  unfold fg_497_193
  exact ev_t h18 (c_254 h20)
theorem c_132 {N : Nat} {k s p q : Int32} {h : am_H} (h17 : ¬ s = 17) (h18 : ¬ s = 18) (h20 : ¬ s = 20) : fg_497_132 N (.ref 174) k s p q h = some (.inl (none, h)) := by
  unfold fg_497_132
  exact ev_t h17 (c_193 h18 h20)
/-- what a node's instructions leave -/
def laid (V : Nat → Nat → Value) (I : Nat → Nat → Int32) (L : Nat → Nat → Int64) (R : Nat → Nat → Option Nat) (tl : am_H) (l r : List (Nat × Nat)) (x : Nat × Nat) (k p : Nat) (e : Nat → Int32) (o : Option am_O) : Prop := ∃ a' b' e', o = some (.inl (none, ctS V I L R tl a' b' e')) ∧ sml b' ∧ (∀ q, q < arN x.1 → ∃ p', e' (k + 1 + tk q r) = nI p' ∧ p' + sw own 1 (r.drop (tk q r)) ≤ p + sw own 1 (l.drop k)) ∧ (∀ j, (∀ q, q < arN x.1 → j ≠ k + 1 + tk q r) → e' j = e j)
set_option maxRecDepth 100000 in
set_option maxHeartbeats 4000000 in
theorem r_497 {V : Nat → Nat → Value} {I : Nat → Nat → Int32} {L : Nat → Nat → Int64} {R : Nat → Nat → Option Nat} {tl : am_H} {N k m p : Nat} {l r : List (Nat × Nat)} {x : Nat × Nat} {a b e : Nat → Int32} (hN : 100 < N) (hl : l.length ≤ 60) (hS : rowS (I 188) l) (hT : rowT (I 192) l 0) (hC : rowC (I 253) l 0) (hV : ∀ j, j < l.length → ∃ n, n < 1000 ∧ I 189 j = nI n) (hd : l.drop k = x :: r) (hF : isF (m + arN x.1) r) (hx : x.1 ≠ 5 ∧ x.1 ≠ 6 ∧ x.1 ≠ 19) (hp : p + sw own 1 (l.drop k) ≤ 60) (hb : sml b) : laid V I L R tl l r x k p e (fm_497 N (.ref 174) (nI k) (nI p) (ctS V I L R tl a b e)) := by
  obtain ⟨s1, s2⟩ := hS k x r hd
  have ha := ar_le x.1
  have hlen := drop_len hd
  obtain ⟨c, hc⟩ : ∃ c, sw own 1 (l.drop k) = c := ⟨_, rfl⟩
  have hck : I 253 k = nI c := by rw [hC k (by omega) (by omega), hc]
  have hcx : c = own x + sw own (arN x.1) r := by rw [← hc, hd, show (1 : Nat) = 0 + 1 from rfl, sw_c, Nat.zero_add]
  rw [hc] at hp
  unfold laid
  rw [hc]
  have gA : am_pA 0 (.ref 188) (nI k) (ctS V I L R tl a b e) = some (nI x.1) := by
    rw [ev_a (f := I 188) (n := 400) rfl (am_inb_n (by omega) (by omega)), nI_clamp (by omega), s1]
  have run0 : ∀ X, (5 ≤ x.1 → k + 1 < 61 → am_pA 0 (.ref 253) (nI (k + 1)) (ctS V I L R tl a b (upd e (k + 1) (nI p))) = some X → ∀ Y, (if 9 ≤ nI x.1 then fg_497_74 N (.ref 174) (nI k) (nI x.1) (nI p + nI c - 1) (nI p + X) (ctS V I L R tl a b (upd e (k + 1) (nI p))) else (if am_pOk 12 (.ref 174) (ctS V I L R tl a b (upd e (k + 1) (nI p))) then am_cV true (fm_498 (.ref 174) (nI p + nI c - 1) (nI x.1 - 2) 0 (ctS V I L R tl a b (upd e (k + 1) (nI p)))) (fun h21 => (fg_497_74 N (.ref 174) (nI k) (nI x.1) (nI p + nI c - 1) (nI p + X) h21)) else none)) = Y → fm_497 N (.ref 174) (nI k) (nI p) (ctS V I L R tl a b e) = Y) := by
    intro X h5 hk hX Y hY
    unfold fm_497 fg_497_0
    refine ev_b (a := .ref 188) rfl (ev_b gA (ev_b (a := .ref 253) rfl (ev_b (c_c (by omega) hck) (ev_t (nI_le (a := 5) h5 (by omega)) (ev_b (a := .ref 219) rfl ?_)))))
    rw [nI_1]
    refine ev_b (c_e hk _) (ev_b (a := .ref 253) rfl ?_)
    exact ev_b hX hY
  by_cases k5 : x.1 < 5
  · obtain ⟨v, v1, v2⟩ := hV k (by omega)
    have h0 : arN x.1 = 0 := by unfold arN; rw [if_pos (by omega)]
    have ho : own x = 1 := by unfold own; rw [if_pos (by omega)]
    refine ⟨upd a p (nI x.1), upd b p (nI v), e, ?_, sml_upd hb v1, fun q hq => by omega, fun j _ => rfl⟩
    unfold fm_497 fg_497_0
    refine ev_b (a := .ref 188) rfl (ev_b gA (ev_b (a := .ref 253) rfl (ev_b (c_c (by omega) hck) (ev_f (nI_ge (b := 5) k5 (by decide)) (ev_b (a := .ref 189) rfl ?_)))))
    refine ev_b (a := nI v) (by rw [ev_a (f := I 189) (n := 400) rfl (am_inb_n (by omega) (by omega)), nI_clamp (by omega), v2]) ?_
    refine ev_i rfl ?_
    exact ev_cV (c_498 (by omega) _ _) rfl
  have h1 : 1 ≤ arN x.1 := by
    unfold arN
    rw [if_neg (by omega)]
    split
    · omega
    · split <;> omega
  have hlt0 := part_lt hd hF (show 0 < arN x.1 by omega)
  rw [tk_0] at hlt0
  obtain ⟨c0, hc0⟩ : ∃ c0, sw own 1 r = c0 := ⟨_, rfl⟩
  have e0 : I 253 (k + 1) = nI c0 := by
    have := hC (k + 1) (by omega) (by omega)
    rw [this, show k + 1 = k + 1 + 0 from rfl, drop_s hd, List.drop_zero, hc0]
  have run := fun h5 Y => run0 (nI c0) h5 (by omega) (c_c (by omega) e0) Y
  have hc0' : c0 ≤ sw own (arN x.1) r := by
    have := sw_add own r 1 (arN x.1 - 1)
    rw [show 1 + (arN x.1 - 1) = arN x.1 by omega] at this
    omega
  have hov := own_le x
  have ho1 : 1 ≤ own x := by
    unfold own
    split
    · omega
    · split
      · omega
      · split
        · omega
        · split
          · omega
          · split <;> omega
  have lastE : nI p + nI c - 1 = nI (p + c - 1) := by
    rw [nI_add, show p + c = (p + c - 1) + 1 by omega, nI_pred, show p + c - 1 + 1 - 1 = p + c - 1 by omega]
  rw [lastE, nI_add] at run
  have ent0 : ∀ (e' : Nat → Int32), e' (k + 1) = nI p → ∃ p', e' (k + 1 + tk 0 r) = nI p' ∧ p' + sw own 1 (r.drop (tk 0 r)) ≤ p + c := fun e' h => ⟨p, by rw [tk_0]; exact h, by rw [tk_0, List.drop_zero, hc0]; omega⟩
  by_cases k9 : x.1 < 9
  · have ha1 : arN x.1 = 1 := by unfold arN; rw [if_neg (by omega), if_pos (by omega)]
    refine ⟨upd a (p + c - 1) (nI x.1 - 2), upd b (p + c - 1) (nI 0), upd e (k + 1) (nI p), run (by omega) _ ?_, sml_upd hb (by omega), fun q hq => ?_, fun j hj => ?_⟩
    · refine ev_f (nI_ge (b := 9) k9 (by decide)) (ev_i rfl (ev_cV (c_498 (by omega) _ _) ?_))
      unfold fg_497_74 fg_497_97
      refine ev_t (fun h => by have := (nI_eq (b := 9) (by omega) (by decide)).mp h; omega) (ev_t (nI_le (b := 9) (by omega) (by decide)) ?_)
      exact c_132 (fun h => by have := (nI_eq (b := 17) (by omega) (by decide)).mp h; omega) (fun h => by have := (nI_eq (b := 18) (by omega) (by decide)).mp h; omega) (fun h => by have := (nI_eq (b := 20) (by omega) (by decide)).mp h; omega)
    · rw [show q = 0 by omega]
      exact ent0 _ upd_eq
    · exact upd_ne (fun h => hj 0 (by omega) (by rw [tk_0]; exact h))
  have go9 : (9 : Int32) ≤ nI x.1 := nI_le (a := 9) (by omega) (by omega)
  by_cases k9e : x.1 = 9
  · have ha1 : arN x.1 = 1 := by rw [k9e]; rfl
    have ho : own x = 2 := by unfold own; rw [if_neg k9, if_pos k9e]
    rw [ha1] at hcx
    refine ⟨upd (upd a (p + c0) 0) (p + c - 1) 13, upd (upd b (p + c0) (nI 0)) (p + c - 1) (nI 0), upd e (k + 1) (nI p), run (by omega) _ (ev_t go9 ?_), sml_upd (sml_upd hb (by omega)) (by omega), fun q hq => ?_, fun j hj => ?_⟩
    · unfold fg_497_74
      refine ev_f (fun h => h (by rw [k9e]; rfl)) (ev_i rfl (ev_cV (c_498 (by omega) _ _) (ev_i rfl (ev_cV (c_498 (by omega) _ _) ?_))))
      unfold fg_497_97
      refine ev_t (nI_le (b := 9) (by omega) (by decide)) ?_
      rw [k9e]
      exact c_132 (by decide) (by decide) (by decide)
    · rw [show q = 0 by omega]
      exact ent0 _ upd_eq
    · exact upd_ne (fun h => hj 0 (by omega) (by rw [tk_0]; exact h))
  have ha2 : 2 ≤ arN x.1 := by
    unfold arN
    rw [if_neg (by omega), if_neg (by omega)]
    split <;> omega
  have n9 : ¬ nI x.1 = 9 := fun h => by have := (nI_eq (b := 9) (by omega) (by decide)).mp h; omega
  have go74 : ∀ q1 q2 h, fg_497_74 N (.ref 174) (nI k) (nI x.1) q1 q2 h = fg_497_97 N (.ref 174) (nI k) (nI x.1) q1 q2 h := fun q1 q2 h => by
    unfold fg_497_74
    exact ev_t n9 rfl
  have hlt1 := part_lt hd hF (show 1 < arN x.1 by omega)
  obtain ⟨t1, ht1⟩ : ∃ t1, tk 1 r = t1 := ⟨_, rfl⟩
  obtain ⟨c1, hc1⟩ : ∃ c1, sw own 1 (r.drop t1) = c1 := ⟨_, rfl⟩
  rw [ht1] at hlt1
  have ht1p : 1 ≤ t1 := by
    rw [← ht1]
    exact tk_pos (n := m + arN x.1 - 1) (by rw [show m + arN x.1 - 1 + 1 = m + arN x.1 by omega]; exact hF) 0
  have e1 : I 253 (k + 1 + t1) = nI c1 := by rw [hC _ (by omega) hlt1, drop_s hd, hc1]
  have s2c : sw own 2 r = c0 + c1 := by rw [show (2 : Nat) = 1 + 1 from rfl, sw_add, ht1, hc0, hc1]
  have p1 : ∀ a b e, fm_393 N (.ref 174) (nI k) 1 (ctS V I L R tl a b e) = some (.inl (some (.int (nI (k + 1 + t1))), ctS V I L R tl a b e)) := fun a b e => by
    have := r_393 (V := V) (I := iup (iup (iup I 186 a) 187 b) 219 e) (L := L) (R := R) (tl := tl) (P := 1) hN hl hT hd hF (by omega)
    rw [ht1] at this
    exact this
  have ent1 : ∀ (e' : Nat → Int32) (p' : Nat), e' (k + 1 + t1) = nI p' → p' + c1 ≤ p + c → ∃ p', e' (k + 1 + tk 1 r) = nI p' ∧ p' + sw own 1 (r.drop (tk 1 r)) ≤ p + c := fun e' p' h1 h2 => ⟨p', by rw [ht1]; exact h1, by rw [ht1, hc1]; exact h2⟩
  have ne01 : k + 1 ≠ k + 1 + t1 := by omega
  by_cases k17 : x.1 < 17
  · have ha22 : arN x.1 = 2 := by unfold arN; rw [if_neg (by omega), if_neg (by omega), if_pos (by omega)]
    rw [ha22, s2c] at hcx
    refine ⟨upd a (p + c - 1) (nI x.1 - 3), upd b (p + c - 1) (nI 0), upd (upd e (k + 1) (nI p)) (k + 1 + t1) (nI (p + c0)), run (by omega) _ (ev_t go9 ((go74 _ _ _).trans ?_)), sml_upd hb (by omega), fun q hq => ?_, fun j hj => ?_⟩
    · unfold fg_497_97
      refine ev_f (nI_ge (a := 9) (by omega) (by omega)) (ev_f (nI_ge (b := 17) k17 (by decide)) (ev_b (a := .ref 219) rfl (ev_i rfl (ev_cI (p1 _ _ _) (ev_b (c_e (by omega) _) (ev_i rfl (ev_cV (c_498 (by omega) _ _) ?_)))))))
      exact c_132 (fun h => by have := (nI_eq (b := 17) (by omega) (by decide)).mp h; omega) (fun h => by have := (nI_eq (b := 18) (by omega) (by decide)).mp h; omega) (fun h => by have := (nI_eq (b := 20) (by omega) (by decide)).mp h; omega)
    · rcases (by omega : q = 0 ∨ q = 1) with rfl | rfl
      · exact ent0 _ (by rw [upd_ne ne01]; exact upd_eq)
      · exact ent1 _ (p + c0) upd_eq (by omega)
    · rw [upd_ne (fun h => hj 1 (by omega) (by rw [ht1]; exact h)), upd_ne (fun h => hj 0 (by omega) (by rw [tk_0]; exact h))]
  have go97 : ∀ q1 q2 h, fg_497_97 N (.ref 174) (nI k) (nI x.1) q1 q2 h = fg_497_132 N (.ref 174) (nI k) (nI x.1) q1 q2 h := fun q1 q2 h => by
    unfold fg_497_97
    exact ev_f (nI_ge (a := 9) (by omega) (by omega)) (ev_t (nI_le (a := 17) (by omega) (by omega)) rfl)
  have hc1' : c0 + c1 ≤ sw own (arN x.1) r := by
    have := sw_add own r 2 (arN x.1 - 2)
    rw [show 2 + (arN x.1 - 2) = arN x.1 by omega] at this
    omega
  by_cases k17e : x.1 = 17
  · have ha22 : arN x.1 = 2 := by rw [k17e]; rfl
    have ho : own x = 3 := by unfold own; rw [if_neg k9, if_neg k9e, if_neg k17, if_pos k17e]
    rw [ha22, s2c] at hcx
    refine ⟨upd (upd (upd a (p + c0) 18) (p + c - 1 - 1) 17) (p + c - 1) 0, upd (upd (upd b (p + c0) (nI (c1 + 1))) (p + c - 1 - 1) (nI 1)) (p + c - 1) (nI 0), upd (upd e (k + 1) (nI p)) (k + 1 + t1) (nI (p + c0 + 1)), run (by omega) _ (ev_t go9 ((go74 _ _ _).trans ((go97 _ _ _).trans ?_))), sml_upd (sml_upd (sml_upd hb (by omega)) (by omega)) (by omega), fun q hq => ?_, fun j hj => ?_⟩
    · unfold fg_497_132
      refine ev_f (fun h => h (by rw [k17e]; rfl)) (ev_i rfl (ev_cI (p1 _ _ _) (ev_b (a := .ref 253) rfl (ev_b (c_c (by omega) e1) (ev_i rfl ?_)))))
      rw [nI_1, nI_1, show nI (p + c - 1) - 1 = nI (p + c - 1 - 1) by rw [show p + c - 1 = (p + c - 1 - 1) + 1 by omega, nI_pred]; rfl]
      refine ev_cV (c_498 (by omega) _ _) (ev_b (a := .ref 219) rfl (ev_b (c_e (by omega) _) (ev_i rfl (ev_cV (c_498 (by omega) _ _) (ev_i rfl (ev_cV (c_498 (by omega) _ _) ?_))))))
      rw [k17e]
      exact c_193 (by decide) (by decide)
    · rcases (by omega : q = 0 ∨ q = 1) with rfl | rfl
      · exact ent0 _ (by rw [upd_ne ne01]; exact upd_eq)
      · exact ent1 _ (p + c0 + 1) upd_eq (by omega)
    · rw [upd_ne (fun h => hj 1 (by omega) (by rw [ht1]; exact h)), upd_ne (fun h => hj 0 (by omega) (by rw [tk_0]; exact h))]
  have go132 : ∀ q1 q2 h, fg_497_132 N (.ref 174) (nI k) (nI x.1) q1 q2 h = fg_497_193 N (.ref 174) (nI k) (nI x.1) q2 h := fun q1 q2 h => by
    unfold fg_497_132
    exact ev_t (fun h => k17e ((nI_eq (b := 17) (by omega) (by decide)).mp h)) rfl
  by_cases k18 : x.1 = 18
  · have ha22 : arN x.1 = 2 := by rw [k18]; rfl
    have ho : own x = 3 := by unfold own; rw [if_neg k9, if_neg k9e, if_neg k17, if_neg k17e, if_pos k18]
    rw [ha22, s2c] at hcx
    refine ⟨upd (upd (upd a (p + c0) 18) (p + c0 + 1) 0) (p + c0 + 2) 17, upd (upd (upd b (p + c0) (nI 2)) (p + c0 + 1) (nI 1)) (p + c0 + 2) (nI c1), upd (upd e (k + 1) (nI p)) (k + 1 + t1) (nI (p + c0 + 3)), run (by omega) _ (ev_t go9 ((go74 _ _ _).trans ((go97 _ _ _).trans ((go132 _ _ _).trans ?_)))), sml_upd (sml_upd (sml_upd hb (by omega)) (by omega)) (by omega), fun q hq => ?_, fun j hj => ?_⟩
    · unfold fg_497_193
      refine ev_f (fun h => h (by rw [k18]; rfl)) (ev_i rfl (ev_cI (p1 _ _ _) (ev_i rfl ?_)))
      rw [nI_1, show nI (p + c0) + 2 = nI (p + c0 + 2) from nI_add (p + c0) 2, show nI (p + c0) + 3 = nI (p + c0 + 3) from nI_add (p + c0) 3]
      refine ev_cV (c_498 (by omega) _ _) (ev_i rfl (ev_cV (c_498 (by omega) _ _) (ev_b (a := .ref 253) rfl (ev_b (c_c (by omega) e1) (ev_i rfl (ev_cV (c_498 (by omega) _ _) (ev_b (a := .ref 219) rfl (ev_b (c_e (by omega) _) ?_))))))))
      rw [k18]
      exact c_254 (by decide)
    · rcases (by omega : q = 0 ∨ q = 1) with rfl | rfl
      · exact ent0 _ (by rw [upd_ne ne01]; exact upd_eq)
      · exact ent1 _ (p + c0 + 3) upd_eq (by omega)
    · rw [upd_ne (fun h => hj 1 (by omega) (by rw [ht1]; exact h)), upd_ne (fun h => hj 0 (by omega) (by rw [tk_0]; exact h))]
  have go193 : ∀ q2 h, fg_497_193 N (.ref 174) (nI k) (nI x.1) q2 h = fg_497_254 N (.ref 174) (nI k) (nI x.1) q2 h := fun q2 h => by
    unfold fg_497_193
    exact ev_t (fun h => k18 ((nI_eq (b := 18) (by omega) (by decide)).mp h)) rfl
  have k20 : x.1 = 20 := by omega
  have ha3 : arN x.1 = 3 := by rw [k20]; rfl
  have ho : own x = 2 := by unfold own; rw [if_neg k9, if_neg k9e, if_neg k17, if_neg k17e, if_neg k18]
  have hlt2 := part_lt hd hF (show 2 < arN x.1 by omega)
  obtain ⟨t2, ht2⟩ : ∃ t2, tk 2 r = t2 := ⟨_, rfl⟩
  obtain ⟨c2, hc2⟩ : ∃ c2, sw own 1 (r.drop t2) = c2 := ⟨_, rfl⟩
  rw [ht2] at hlt2
  have ht2p : t1 < t2 := by
    have h2 := tk_add r 1 1
    have h3 := isF_add r 1 (m + arN x.1 - 1) (by rw [show 1 + (m + arN x.1 - 1) = m + arN x.1 by omega]; exact hF)
    have h4 := tk_pos (n := m + arN x.1 - 2) (l := r.drop (tk 1 r)) (by rw [show m + arN x.1 - 2 + 1 = m + arN x.1 - 1 by omega]; exact h3) 0
    have h5 : tk 2 r = tk 1 r + tk 1 (r.drop (tk 1 r)) := h2
    have h6 : 1 ≤ tk 1 (r.drop (tk 1 r)) := h4
    omega
  have e2 : I 253 (k + 1 + t2) = nI c2 := by rw [hC _ (by omega) hlt2, drop_s hd, hc2]
  have s3c : sw own 3 r = c0 + c1 + c2 := by rw [show (3 : Nat) = 2 + 1 from rfl, sw_add, ht2, s2c, hc2]
  rw [ha3, s3c] at hcx
  have p2 : ∀ a b e, fm_393 N (.ref 174) (nI k) 2 (ctS V I L R tl a b e) = some (.inl (some (.int (nI (k + 1 + t2))), ctS V I L R tl a b e)) := fun a b e => by
    have := r_393 (V := V) (I := iup (iup (iup I 186 a) 187 b) 219 e) (L := L) (R := R) (tl := tl) (P := 2) hN hl hT hd hF (by omega)
    rw [ht2] at this
    exact this
  refine ⟨upd (upd a (p + c0) 18) (p + c0 + 1 + c1) 17, upd (upd b (p + c0) (nI (c1 + 1))) (p + c0 + 1 + c1) (nI c2), upd (upd (upd e (k + 1) (nI p)) (k + 1 + t1) (nI (p + c0 + 1))) (k + 1 + t2) (nI (p + c0 + 2 + c1)), run (by omega) _ (ev_t go9 ((go74 _ _ _).trans ((go97 _ _ _).trans ((go132 _ _ _).trans ((go193 _ _).trans ?_))))), sml_upd (sml_upd hb (by omega)) (by omega), fun q hq => ?_, fun j hj => ?_⟩
  · unfold fg_497_254
    refine ev_f (fun h => h (by rw [k20]; rfl)) (ev_i rfl (ev_cI (p1 _ _ _) (ev_i rfl (ev_cI (p2 _ _ _) (ev_b (a := .ref 253) rfl (ev_b (c_c (by omega) e1) (ev_i rfl ?_)))))))
    rw [nI_1, nI_1]
    refine ev_cV (c_498 (by omega) _ _) (ev_b (a := .ref 219) rfl (ev_b (c_e (by omega) _) (ev_b (a := .ref 253) rfl (ev_b (c_c (by omega) e1) (ev_b (a := .ref 253) rfl (ev_b (c_c (by omega) e2) (ev_i rfl ?_)))))))
    rw [nI_add]
    refine ev_cV (c_498 (by omega) _ _) (ev_b (a := .ref 219) rfl (ev_b (a := .ref 253) rfl (ev_b (c_c (by omega) e1) ?_)))
    rw [show nI (p + c0) + 2 = nI (p + c0 + 2) from nI_add (p + c0) 2, nI_add]
    exact ev_b (c_e (by omega) _) rfl
  · rcases (by omega : q = 0 ∨ q = 1 ∨ q = 2) with rfl | rfl | rfl
    · exact ent0 _ (by rw [upd_ne (by omega), upd_ne ne01]; exact upd_eq)
    · exact ent1 _ (p + c0 + 1) (by rw [upd_ne (by omega)]; exact upd_eq) (by omega)
    · exact ⟨p + c0 + 2 + c1, by rw [ht2]; exact upd_eq, by rw [ht2, hc2]; omega⟩
  · rw [upd_ne (fun h => hj 2 (by omega) (by rw [ht2]; exact h)), upd_ne (fun h => hj 1 (by omega) (by rw [ht1]; exact h)), upd_ne (fun h => hj 0 (by omega) (by rw [tk_0]; exact h))]
