/-! ===== a tree with a place is sound ===== -/
def uSb (n : Nat) : Bool := (List.range 6).all (fun c => (List.range 21).all (fun s => Nat.beq (uW c s n) 0 || (Nat.beq (truN s) (c % 2) && ((!(Nat.beq (c / 2) 0) || (!(Nat.beq s 5) && !(Nat.beq s 6))) && (!(Nat.beq (c / 2) 1) || !(Nat.beq s 19))))))
set_option maxRecDepth 100000 in
theorem usb_1 : uSb 1 = true := by decide +kernel
set_option maxRecDepth 100000 in
theorem usb_2 : uSb 2 = true := by decide +kernel
set_option maxRecDepth 100000 in
theorem usb_3 : uSb 3 = true := by decide +kernel
set_option maxRecDepth 100000 in
theorem usb_4 : uSb 4 = true := by decide +kernel
set_option maxRecDepth 100000 in
theorem usb_5 : uSb 5 = true := by decide +kernel
set_option maxRecDepth 100000 in
theorem usb_6 : uSb 6 = true := by decide +kernel
set_option maxRecDepth 100000 in
theorem usb_7 : uSb 7 = true := by decide +kernel
set_option maxRecDepth 100000 in
theorem usb_8 : uSb 8 = true := by decide +kernel
set_option maxRecDepth 100000 in
theorem usb_9 : uSb 9 = true := by decide +kernel
set_option maxRecDepth 100000 in
theorem usb_10 : uSb 10 = true := by decide +kernel
set_option maxRecDepth 100000 in
theorem usb_11 : uSb 11 = true := by decide +kernel
set_option maxRecDepth 100000 in
theorem usb_12 : uSb 12 = true := by decide +kernel
theorem usb {n : Nat} (h1 : 1 ≤ n) (h : n ≤ 12) : uSb n = true := by
  rcases (by omega : n = 1 ∨ n = 2 ∨ n = 3 ∨ n = 4 ∨ n = 5 ∨ n = 6 ∨ n = 7 ∨ n = 8 ∨ n = 9 ∨ n = 10 ∨ n = 11 ∨ n = 12) with rfl | rfl | rfl | rfl | rfl | rfl | rfl | rfl | rfl | rfl | rfl | rfl
  · exact usb_1
  · exact usb_2
  · exact usb_3
  · exact usb_4
  · exact usb_5
  · exact usb_6
  · exact usb_7
  · exact usb_8
  · exact usb_9
  · exact usb_10
  · exact usb_11
  · exact usb_12
theorem us_k {n c s : Nat} (h1 : 1 ≤ n) (h : n ≤ 12) (hc : c < 6) (hs : s < 21) (hp : 0 < uW c s n) : truN s = c % 2 ∧ (c / 2 = 0 → s ≠ 5 ∧ s ≠ 6) ∧ (c / 2 = 1 → s ≠ 19) := by
  have k := List.all_eq_true.mp (usb h1 h) c (List.mem_range.mpr hc)
  have k2 := List.all_eq_true.mp k s (List.mem_range.mpr hs)
  rw [Bool.or_eq_true] at k2
  have k3 := k2.resolve_left (fun e => by have := Nat.eq_of_beq_eq_true e; omega)
  rw [Bool.and_eq_true, Bool.and_eq_true, Bool.or_eq_true, Bool.or_eq_true, Bool.and_eq_true] at k3
  obtain ⟨a1, a2, a3⟩ := k3
  have nb : ∀ {x y : Nat}, (!(Nat.beq x y)) = true → x ≠ y := fun {x y} e e2 => by
    subst e2
    rw [Nat.beq_refl] at e
    cases e
  refine ⟨Nat.eq_of_beq_eq_true a1, fun e => ?_, fun e => ?_⟩
  · have b := a2.resolve_left (fun e3 => nb e3 e)
    exact ⟨nb b.1, nb b.2⟩
  · exact nb (a3.resolve_left (fun e3 => nb e3 e))
def cxR : List (Nat × Nat × Nat) → List (Nat × Nat × Nat) → Prop
  | [], [] => True
  | [], _ :: _ => False
  | _ :: _, [] => False
  | x :: r, k :: cs => k.1 = x.1 % 2 ∧ k.2.2 = x.1 / 2 ∧ k.2.1 + x.2.1 ≤ 13 ∧ cxR r cs
theorem cxR_app : ∀ {a b c d : List (Nat × Nat × Nat)}, cxR a b → cxR c d → cxR (a ++ c) (b ++ d) := by
  intro a
  induction a with
  | nil =>
    intro b c d h1 h2
    cases b with
    | nil => exact h2
    | cons k b => exact absurd h1 (fun e => e)
  | cons x a ih =>
    intro b c d h1 h2
    cases b with
    | nil => exact absurd h1 (fun e => e)
    | cons k b => exact ⟨h1.1, h1.2.1, h1.2.2.1, ih h1.2.2.2 h2⟩
theorem pcN_m (c s p : Nat) : pcN c s p % 2 = twN s p ∧ pcN c s p / 2 = (if s = 19 ∧ p = 1 then 1 else c / 2) := by
  have h := tw_le s p
  unfold pcN
  exact ⟨by omega, by show _ = pwN (c / 2) s p; omega⟩
theorem kid_cx {c n S P d : Nat} (h20 : S ≤ 20) (hd : d + n ≤ 13) (ts : tsum (prt c n S P) + 1 = n) : cxR (prt c n S P) (kid S (c % 2, d, c / 2)) := by
  have m0 := pcN_m c S 0
  have m1 := pcN_m c S 1
  unfold kid
  unfold prt at ts ⊢
  by_cases a0 : arN S = 0
  · rw [if_pos a0, a0]
    trivial
  · rw [if_neg a0] at ts ⊢
    by_cases a1 : arN S = 1
    · rw [if_pos a1] at ts ⊢
      rw [a1]
      exact ⟨m0.1.symm, m0.2.symm, by show d + 1 + (n - 1) ≤ 13; have : (n - 1) + 0 + 1 = n := ts; omega, trivial⟩
    · rw [if_neg a1] at ts ⊢
      by_cases a2 : arN S = 2
      · rw [if_pos a2] at ts ⊢
        rw [a2]
        dsimp only [tsum] at ts
        exact ⟨m0.1.symm, m0.2.symm, by dsimp only; omega, m1.1.symm, m1.2.symm, by dsimp only; omega, trivial⟩
      · rw [if_neg a2] at ts ⊢
        have a3 : arN S = 3 := by have := ar_le S; omega
        have s20 : S = 20 := by
          unfold arN at a3
          by_cases c1 : S < 7
          · rw [if_pos c1] at a3; omega
          · rw [if_neg c1] at a3
            by_cases c2 : S < 10
            · rw [if_pos c2] at a3; omega
            · rw [if_neg c2] at a3
              by_cases c3 : S < 20
              · rw [if_pos c3] at a3; omega
              · omega
        subst s20
        rw [a3]
        dsimp only [tsum] at ts
        exact ⟨m0.1.symm, m0.2.symm, by dsimp only; omega, m1.1.symm, m1.2.symm, by dsimp only; omega, m1.1.symm, m1.2.symm, by dsimp only; omega, trivial⟩
theorem cx_un : ∀ (m : Nat) (st cs : List (Nat × Nat × Nat)), tsum st ≤ m → tok st → cxR st cs → okF cs (tun st) ∧ ∀ x, x ∈ tun st → x.1 ≠ 0 → x.2 = 0 := by
  intro m
  induction m with
  | zero =>
    intro st cs h1 h2 h3
    cases st with
    | nil =>
      cases cs with
      | nil => exact ⟨trivial, fun x hx => absurd hx List.not_mem_nil⟩
      | cons k cs => exact absurd h3 (fun e => e)
    | cons x r =>
      have e : x.2.1 + tsum r ≤ 0 := h1
      have := h2.2.1
      omega
  | succ m ih =>
    intro st cs h1 h2 h3
    cases st with
    | nil =>
      cases cs with
      | nil => exact ⟨trivial, fun x hx => absurd hx List.not_mem_nil⟩
      | cons k cs => exact absurd h3 (fun e => e)
    | cons x r =>
      cases cs with
      | nil => exact absurd h3 (fun e => e)
      | cons k cs =>
        obtain ⟨c, n, p⟩ := x
        obtain ⟨k1, k2, k3⟩ := k
        obtain ⟨t1, t2, t3, t4, t5⟩ := h2
        obtain ⟨e1, e2, e3, e4⟩ := h3
        dsimp only at t1 t2 t3 t4 e1 e2 e3
        subst e1
        subst e2
        have e : n + tsum r ≤ m + 1 := h1
        obtain ⟨u1, u2, u3, u4, u5⟩ := un_prt t3 t2 t1 t4
        obtain ⟨S, hS⟩ : ∃ S, S = (pk c n 20 0 p).1 := ⟨_, rfl⟩
        obtain ⟨P, hP⟩ : ∃ P, P = (pk c n 20 0 p).2 := ⟨_, rfl⟩
        rw [← hS, ← hP] at u1 u2 u3 u5
        rw [← hS] at u4
        obtain ⟨q1, q2, q3⟩ := us_k t2 t3 t1 (show S < 21 by omega) (by omega)
        obtain ⟨i1, i2⟩ := ih (prt c n S P ++ r) (kid S (c % 2, k2, c / 2) ++ cs) (by rw [tsum_app]; omega) (tok_app u2 t5) (cxR_app (kid_cx u4 e3 u3) e4)
        have et : tun ((c, n, p) :: r) = (S, if S = 0 then P else 0) :: tun (prt c n S P ++ r) := by
          show un c n p ++ tun r = _
          rw [u1, tun_app]
          rfl
        rw [et]
        refine ⟨⟨u4, q1, by dsimp only; omega, q2, q3, i1⟩, fun y hy hy0 => ?_⟩
        rcases List.mem_cons.mp hy with rfl | hy
        · exact if_neg hy0
        · exact i2 y hy hy0
/-- the tree with place P among those of n nodes -/
theorem un_okT {n P : Nat} {s v : Nat → Int32} (h1 : 1 ≤ n) (hn : n ≤ 12) (hP : P < uT 0 n) (hs : ∀ k x r, (un 0 n P).drop k = x :: r → s k = nI x.1 ∧ v k = nI x.2) : okT n s v := by
  obtain ⟨q1, q2⟩ := cx_un n [(0, n, P)] [(0, 1, 0)] (by show n + 0 ≤ n; omega) ⟨by show (0 : Nat) < 6; decide, h1, hn, hP, trivial⟩ ⟨by show (0 : Nat) = 0 % 2; decide, by show (0 : Nat) = 0 / 2; decide, by show 1 + n ≤ 13; omega, trivial⟩
  obtain ⟨f1, f2, f3⟩ := un_form n hn h1 0 P (by decide) hP
  have e : tun [(0, n, P)] = un 0 n P := List.append_nil _
  rw [e] at q1 q2
  refine ⟨un 0 n P, f2, q1, fun k x r hd => ?_⟩
  have hx : x ∈ un 0 n P := List.mem_of_mem_drop (by rw [hd]; exact List.mem_cons_self)
  obtain ⟨g1, g2⟩ := hs k x r hd
  refine ⟨g1, fun _ => .inl ⟨x.2, by have := (f3 x hx).2; omega, g2⟩, fun h0 => ?_⟩
  rw [g2, q2 x hx h0]
  rfl
theorem wrt_lt : ∀ (l : List (Nat × Nat)) (f : Nat → Int32) (s j : Nat), j < 2 * s → wrt f s l j = f j := by
  intro l
  induction l with
  | nil => intro f s j _; rfl
  | cons x l ih =>
    intro f s j h
    show wrt (upd (upd f (2 * s) (nI x.1)) (2 * s + 1) (nI x.2)) (s + 1) l j = _
    rw [ih _ _ _ (by omega), upd_ne (by omega), upd_ne (by omega)]
theorem wrt_at : ∀ (l : List (Nat × Nat)) (f : Nat → Int32) (s k : Nat) (x : Nat × Nat) (r : List (Nat × Nat)), l.drop k = x :: r → wrt f s l (2 * (s + k)) = nI x.1 ∧ wrt f s l (2 * (s + k) + 1) = nI x.2 := by
  intro l
  induction l with
  | nil => intro f s k x r h; rw [List.drop_nil] at h; cases h
  | cons y l ih =>
    intro f s k x r h
    cases k with
    | zero =>
      rw [List.drop_zero] at h
      injection h with h1 h2
      subst h1
      show wrt (upd (upd f (2 * s) (nI y.1)) (2 * s + 1) (nI y.2)) (s + 1) l (2 * (s + 0)) = _ ∧ wrt (upd (upd f (2 * s) (nI y.1)) (2 * s + 1) (nI y.2)) (s + 1) l (2 * (s + 0) + 1) = _
      rw [wrt_lt _ _ _ _ (by omega), wrt_lt _ _ _ _ (by omega), show 2 * (s + 0) = 2 * s from rfl, upd_ne (by omega), upd_eq, upd_eq]
      exact ⟨rfl, rfl⟩
    | succ k =>
      rw [List.drop_succ_cons] at h
      have e := ih (upd (upd f (2 * s) (nI y.1)) (2 * s + 1) (nI y.2)) (s + 1) k x r h
      rw [show s + 1 + k = s + (k + 1) by omega] at e
      exact e
