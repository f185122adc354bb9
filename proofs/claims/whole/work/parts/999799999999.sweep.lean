/-! ===== search in the class: all trees of a size ===== -/
theorem hd_263_23 {N : Nat} {rec_2 : Value → Int32 → Int32 → am_H → Option am_O} {x0 : Value} {x1 : Int32} {x2 : Int32} {s0 : Value} {s1 : Int32} {h : am_H} {r_ : Option am_O} (k_ : (if am_pOk 4 s0 h then am_cI true (fm_264 N s0 s1 x2 0 x2 x1 h) (fun v2 h3 => (if v2 = 0 then (rec_2 x0 x1 ((x2 + 1)) h3) else some (.inl (some (.int x2), h3)))) else none) = r_) : fg_263_23 N rec_2 x0 x1 x2 s0 s1 h = r_ := k_
theorem hd_263_2 {N : Nat} {K : Nat} {x0 : Value} {x1 : Int32} {x2 : Int32} {h : am_H} {r_ : Option am_O} (k_ : (if 14 ≤ x2 then some (.inl (some (.int (-1)), h)) else (if 10 ≤ x2 then (fg_263_23 N (fg_263_2 N K) x0 x1 x2 x0 ((x2 - 9)) h) else (fg_263_23 N (fg_263_2 N K) x0 x1 x2 x0 0 h))) = r_) : fg_263_2 N (K + 1) x0 x1 x2 h = r_ := by rw [fg_263_2]; exact k_
theorem hd_263_0 {N : Nat} {x0 : Value} {x1 : Int32} {h : am_H} {r_ : Option am_O} (k_ : (fg_263_2 N N x0 x1 0 h) = r_) : fg_263_0 N x0 x1 h = r_ := k_
theorem hm_263 {N : Nat} {y0 : Value} {y1 : Int32} {h : am_H} {r_ : Option am_O} (k_ : fg_263_0 N y0 y1 h = r_) : fm_263 N y0 y1 h = r_ := k_
theorem hd_266_136 {X : am_X} {N : Nat} {rec_13 : Value → Int32 → Int32 → Int32 → Int32 → Int32 → am_H → Option am_O} {rec_73 : Value → Int32 → Int32 → Int32 → Int32 → Int32 → Int32 → Int32 → Int32 → am_H → Option am_O} {rec_115 : Value → Int32 → Int32 → Int32 → Int32 → Int32 → Int32 → Int32 → Int32 → Int32 → Int32 → Int32 → am_H → Option am_O} {K : Nat} {x0 : Value} {x1 : Int32} {x2 : Int32} {x3 : Int32} {x4 : Int32} {x5 : Int32} {x6 : Int32} {x7 : Int32} {x8 : Int32} {x9 : Int32} {x10 : Int32} {x11 : Int32} {x12 : Int32} {h : am_H} {r_ : Option am_O} (k_ : (if x10 ≤ x12 then (rec_115 x0 x1 x2 x3 x4 x5 x6 x7 x8 x9 x10 ((x11 + 1)) h) else (if am_pOk 4 x0 h then am_cI true (fm_264 N x0 x5 x11 x12 x4 x2 h) (fun v3 h4 => (if v3 = 0 then (fg_266_136 X N rec_13 rec_73 rec_115 K x0 x1 x2 x3 ((x4 + 1)) x5 x6 x7 x8 x9 x10 x11 ((x12 + 1)) h4) else some (.inl (some (.int (x4 - x3)), h4)))) else none)) = r_) : fg_266_136 X N rec_13 rec_73 rec_115 (K + 1) x0 x1 x2 x3 x4 x5 x6 x7 x8 x9 x10 x11 x12 h = r_ := by rw [fg_266_136]; exact k_
theorem hd_266_115 {X : am_X} {N : Nat} {rec_13 : Value → Int32 → Int32 → Int32 → Int32 → Int32 → am_H → Option am_O} {rec_73 : Value → Int32 → Int32 → Int32 → Int32 → Int32 → Int32 → Int32 → Int32 → am_H → Option am_O} {K : Nat} {x0 : Value} {x1 : Int32} {x2 : Int32} {x3 : Int32} {x4 : Int32} {x5 : Int32} {x6 : Int32} {x7 : Int32} {x8 : Int32} {x9 : Int32} {x10 : Int32} {x11 : Int32} {h : am_H} {r_ : Option am_O} (k_ : ((am_pX X 30 (x8 + 1)).bind fun v1 => (if v1 ≤ x11 then (rec_73 x0 x1 x2 x3 x4 x5 x6 x7 ((x8 + 1)) h) else ((am_pX X 30 x9).bind fun v4 => (fg_266_136 X N rec_13 rec_73 (fg_266_115 X N rec_13 rec_73 K) N x0 x1 x2 x3 x4 x5 x6 x7 x8 x9 x10 x11 v4 h)))) = r_) : fg_266_115 X N rec_13 rec_73 (K + 1) x0 x1 x2 x3 x4 x5 x6 x7 x8 x9 x10 x11 h = r_ := by rw [fg_266_115]; exact k_
theorem hd_266_105 {X : am_X} {N : Nat} {rec_13 : Value → Int32 → Int32 → Int32 → Int32 → Int32 → am_H → Option am_O} {rec_73 : Value → Int32 → Int32 → Int32 → Int32 → Int32 → Int32 → Int32 → Int32 → am_H → Option am_O} {x0 : Value} {x1 : Int32} {x2 : Int32} {x3 : Int32} {x4 : Int32} {x5 : Int32} {x6 : Int32} {x7 : Int32} {x8 : Int32} {x9 : Int32} {s0 : Int32} {h : am_H} {r_ : Option am_O} (k_ : ((am_pX X 30 x8).bind fun v1 => (fg_266_115 X N rec_13 rec_73 N x0 x1 x2 x3 x4 x5 x6 x7 x8 x9 s0 v1 h)) = r_) : fg_266_105 X N rec_13 rec_73 x0 x1 x2 x3 x4 x5 x6 x7 x8 x9 s0 h = r_ := k_
theorem hd_266_73 {X : am_X} {N : Nat} {rec_13 : Value → Int32 → Int32 → Int32 → Int32 → Int32 → am_H → Option am_O} {K : Nat} {x0 : Value} {x1 : Int32} {x2 : Int32} {x3 : Int32} {x4 : Int32} {x5 : Int32} {x6 : Int32} {x7 : Int32} {x8 : Int32} {h : am_H} {r_ : Option am_O} (k_ : (if x7 ≤ x8 then (rec_13 x0 x1 x2 x3 x4 ((x5 + 1)) h) else (if x6 = 0 then ((am_pX X 30 (((x1 - 1) - x8) + 1)).bind fun v3 => (fg_266_105 X N rec_13 (fg_266_73 X N rec_13 K) x0 x1 x2 x3 x4 x5 x6 x7 x8 (((x1 - 1) - x8)) v3 h)) else (fg_266_105 X N rec_13 (fg_266_73 X N rec_13 K) x0 x1 x2 x3 x4 x5 x6 x7 x8 (((x1 - 1) - x8)) 1 h))) = r_) : fg_266_73 X N rec_13 (K + 1) x0 x1 x2 x3 x4 x5 x6 x7 x8 h = r_ := by rw [fg_266_73]; exact k_
theorem hd_266_71 {X : am_X} {N : Nat} {rec_13 : Value → Int32 → Int32 → Int32 → Int32 → Int32 → am_H → Option am_O} {x0 : Value} {x1 : Int32} {x2 : Int32} {x3 : Int32} {x4 : Int32} {x5 : Int32} {x6 : Int32} {x7 : Int32} {s0 : Int32} {h : am_H} {r_ : Option am_O} (k_ : (fg_266_73 X N rec_13 N x0 x1 x2 x3 x4 x5 x6 x7 s0 h) = r_) : fg_266_71 X N rec_13 x0 x1 x2 x3 x4 x5 x6 x7 s0 h = r_ := k_
theorem hd_266_57 {X : am_X} {N : Nat} {rec_13 : Value → Int32 → Int32 → Int32 → Int32 → Int32 → am_H → Option am_O} {x0 : Value} {x1 : Int32} {x2 : Int32} {x3 : Int32} {x4 : Int32} {x5 : Int32} {x6 : Int32} {s0 : Int32} {h : am_H} {r_ : Option am_O} (k_ : (if x6 = 0 then (fg_266_71 X N rec_13 x0 x1 x2 x3 x4 x5 x6 s0 1 h) else (fg_266_71 X N rec_13 x0 x1 x2 x3 x4 x5 x6 s0 ((x1 - 1)) h)) = r_) : fg_266_57 X N rec_13 x0 x1 x2 x3 x4 x5 x6 s0 h = r_ := k_
theorem hd_266_32 {X : am_X} {N : Nat} {rec_13 : Value → Int32 → Int32 → Int32 → Int32 → Int32 → am_H → Option am_O} {x0 : Value} {x1 : Int32} {x2 : Int32} {x3 : Int32} {x4 : Int32} {x5 : Int32} {s0 : Int32} {h : am_H} {r_ : Option am_O} (k_ : (if ¬ x5 = 9 then (if s0 = 0 then (fg_266_57 X N rec_13 x0 x1 x2 x3 x4 x5 s0 ((x1 - 1)) h) else (fg_266_57 X N rec_13 x0 x1 x2 x3 x4 x5 s0 x1 h)) else (fg_266_57 X N rec_13 x0 x1 x2 x3 x4 x5 s0 0 h)) = r_) : fg_266_32 X N rec_13 x0 x1 x2 x3 x4 x5 s0 h = r_ := k_
theorem hd_266_13 {X : am_X} {N : Nat} {K : Nat} {x0 : Value} {x1 : Int32} {x2 : Int32} {x3 : Int32} {x4 : Int32} {x5 : Int32} {h : am_H} {r_ : Option am_O} (k_ : (if 14 < x5 then some (.inl (some (.int (-1)), h)) else (if 9 ≤ x5 then (fg_266_32 X N (fg_266_13 X N K) x0 x1 x2 x3 x4 x5 0 h) else (fg_266_32 X N (fg_266_13 X N K) x0 x1 x2 x3 x4 x5 1 h))) = r_) : fg_266_13 X N (K + 1) x0 x1 x2 x3 x4 x5 h = r_ := by rw [fg_266_13]; exact k_
theorem hd_266_0 {X : am_X} {N : Nat} {x0 : Value} {x1 : Int32} {x2 : Int32} {h : am_H} {r_ : Option am_O} (k_ : ((am_pX X 30 x1).bind fun v1 => (fg_266_13 X N N x0 x1 x2 v1 v1 7 h)) = r_) : fg_266_0 X N x0 x1 x2 h = r_ := k_
theorem hm_266 {X : am_X} {N : Nat} {y0 : Value} {y1 : Int32} {y2 : Int32} {h : am_H} {r_ : Option am_O} (k_ : fg_266_0 X N y0 y1 y2 h = r_) : fm_266 X N y0 y1 y2 h = r_ := k_

def rtB (I : Nat → Nat → Int32) (m : Nat) (cN : Nat → Nat) (n p : Nat) : Bool := rb (fun k => vC I (cN k) n p) (fun k => I 200 (cN k)) m 0
def scn (I : Nat → Nat → Int32) (m : Nat) (cN : Nat → Nat) (n P : Nat) : Prop := ∀ p, p < P → rtB I m cN n p = false
def FR (n : Nat) : Nat := ([0, 0, 14, 42, 1078, 7070] : List Nat).getD n 0
theorem FR_s : ∀ n, n < 5 → 1 ≤ n → FR (n + 1) = FR n + uT 4 n := by decide +kernel
theorem FR_m : ∀ n', n' < 6 → ∀ n, n < n' → FR n ≤ FR n' := by decide
theorem FR_5 : ∀ n, n < 6 → FR n ≤ 7070 := by decide
theorem uT4_b : ∀ n, n < 6 → uT 4 n ≤ 160944 := by decide +kernel
theorem sF7 : ∀ n, n < 6 → 2 ≤ n → sF 4 n 7 = 0 := by decide +kernel
theorem gX30 {Ln : Nat} {xs : Nat → Int32} {i : Nat} (h : i < 6) : am_pX (am_X0 Ln xs) 30 (nI i) = some (nI (FR i)) := by
  rcases (by omega : i = 0 ∨ i = 1 ∨ i = 2 ∨ i = 3 ∨ i = 4 ∨ i = 5) with rfl | rfl | rfl | rfl | rfl | rfl <;> rfl
def lowK (I : Nat → Nat → Int32) (cN : Nat → Nat) (n k : Nat) (Fk : Nat → Int64) : Prop := ∀ n', 1 ≤ n' → n' < n → ∀ p, p < uT 4 n' → Fk (FR n' + p) = encO (vC I (cN k) n' p)
def filS (I : Nat → Nat → Int32) (m : Nat) (cN : Nat → Nat) (n P : Nat) (F : Nat → Nat → Int64) : Prop := ∀ k, k < m → ∀ p, p < P → F k (FR n + p) = encO (vC I (cN k) n p)
/-- P trees are gone through, none was right -/
def stS (I : Nat → Nat → Int32) (R : Nat → Nat → Option Nat) (m : Nat) (cN a : Nat → Nat) (kp : Bool) (n P : Nat) (tl0 tl : am_H) (F : Nat → Nat → Int64) : Prop := tbl R tl m a F ∧ tlq a m tl0 tl ∧ (∀ k, k < m → lowK I cN n k (F k)) ∧ (kp = true → filS I m cN n P F) ∧ scn I m cN n P
def fndS (V : Nat → Nat → Value) (I : Nat → Nat → Int32) (L : Nat → Nat → Int64) (R : Nat → Nat → Option Nat) (m : Nat) (cN a : Nat → Nat) (n : Nat) (tl0 : am_H) (Q : Nat) (run : Option am_O) : Prop := ∃ tl' F' P1, P1 < Q ∧ run = some (.inl (some (.int (nI P1)), fx V I L R ++ tl')) ∧ tbl R tl' m a F' ∧ tlq a m tl0 tl' ∧ rtB I m cN n P1 = true ∧ scn I m cN n P1
theorem fndS_le {V : Nat → Nat → Value} {I : Nat → Nat → Int32} {L : Nat → Nat → Int64} {R : Nat → Nat → Option Nat} {tl0 : am_H} {m n : Nat} {cN a : Nat → Nat} {Q Q' : Nat} {run : Option am_O} (h : Q ≤ Q') (hf : fndS V I L R m cN a n tl0 Q run) : fndS V I L R m cN a n tl0 Q' run := by
  obtain ⟨tl', F', P1, h1, h2⟩ := hf
  exact ⟨tl', F', P1, by omega, h2⟩
set_option maxRecDepth 100000 in
set_option maxHeartbeats 4000000 in
theorem c_264p {V : Nat → Nat → Value} {I : Nat → Nat → Int32} {L : Nat → Nat → Int64} {R : Nat → Nat → Option Nat} {tl0 : am_H} {N m n : Nat} {cN a : Nat → Nat} {kp : Bool} (hN : 200000 < N) (hc : csS V I m cN) (hi : ∀ k k', k < m → k' < m → a k = a k' → k = k') (n1 : 1 ≤ n) (n5 : n ≤ 5) (hk4 : kp = true → n ≤ 4) {s P : Nat} {xa xb : Int32} {tl : am_H} {F : Nat → Nat → Int64} (hP : P < uT 4 n) (hst : stS I R m cN a kp n P tl0 tl F) (h265 : ∀ (tl : am_H) (F : Nat → Nat → Int64) (k : Nat), k < m → tbl R tl m a F → lowK I cN n k (F k) → fm_265 (.ref 76) (nI s) xa xb (nI k) (fx V I L R ++ tl) = some (.inl (some (.long (encO (vC I (cN k) n P))), fx V I L R ++ tl))) : ∃ tl' F', fm_264 N (.ref 76) (nI s) xa xb (nI (FR n + P)) (bI kp) (fx V I L R ++ tl) = some (.inl (some (.int (bI (rtB I m cN n P))), fx V I L R ++ tl')) ∧ tbl R tl' m a F' ∧ tlq a m tl0 tl' ∧ (rtB I m cN n P = false → stS I R m cN a kp n (P + 1) tl0 tl' F') := by
  obtain ⟨t1, q1, l1, f1, s1⟩ := hst
  have ub := uT4_b n (by omega)
  have fb := FR_5 n (by omega)
  have m24 := hc.2.2.1
  have ho : kp = true → FR n + P < 7070 := fun h => by
    have h4 := hk4 h
    have := FR_s n (by omega) n1
    have := FR_5 (n + 1) (by omega)
    omega
  obtain ⟨tl', F', e, t2, q2, x2, x3⟩ := c_264l (V := V) (I := I) (L := L) (R := R) (N := N) (s := s) (xa := xa) (xb := xb) (kp := kp) (out := FR n + P) (o := fun k => vC I (cN k) n P) (Q := fun Fk k => lowK I cN n k Fk) hc hi ho (by omega) h265 m 0 N tl F true (by omega) (by omega) t1 (fun j _ hj => l1 j hj)
  rw [Bool.true_and] at e
  refine ⟨tl', F', hm_264 (hd_264_0 e), t2, tlq_t q1 q2, fun hr => ⟨t2, tlq_t q1 q2, fun k hk => ?_, fun h => ?_, fun p hp => ?_⟩⟩
  · cases hkp : kp with
    | false => rw [x3 hkp]; exact l1 k hk
    | true =>
      rw [x2 hkp k hk, if_pos (Nat.zero_le k)]
      intro n' h1 h2 p hp
      have a1 := FR_s n' (by omega) h1
      have a2 : FR (n' + 1) ≤ FR n := by
        by_cases z : n' + 1 = n
        · rw [z]; exact Nat.le_refl _
        · exact FR_m n (by omega) (n' + 1) (by omega)
      rw [show vp_updL (F k) (FR n + P) (encO (vC I (cN k) n P)) (FR n' + p) = F k (FR n' + p) from if_neg (by omega)]
      exact l1 k hk n' h1 h2 p hp
  · intro k hk p hp
    rw [x2 h k hk, if_pos (Nat.zero_le k)]
    by_cases c : p = P
    · rw [c]
      exact if_pos rfl
    · rw [show vp_updL (F k) (FR n + P) (encO (vC I (cN k) n P)) (FR n + p) = F k (FR n + p) from if_neg (by omega)]
      exact f1 h k hk p (by omega)
  · by_cases c : p = P
    · rw [c]; exact hr
    · exact s1 p (by omega)
set_option maxRecDepth 100000 in
set_option maxHeartbeats 4000000 in
theorem c_263l {V : Nat → Nat → Value} {I : Nat → Nat → Int32} {L : Nat → Nat → Int64} {R : Nat → Nat → Option Nat} {tl0 : am_H} {N m : Nat} {cN a : Nat → Nat} {kp : Bool} (hN : 200000 < N) (hc : csS V I m cN) (hi : ∀ k k', k < m → k' < m → a k = a k' → k = k') : ∀ (t p K : Nat) (tl : am_H) (F : Nat → Nat → Int64), p + t = 14 → t < K → stS I R m cN a kp 1 p tl0 tl F → fndS V I L R m cN a 1 tl0 14 (fg_263_2 N K (.ref 76) (bI kp) (nI p) (fx V I L R ++ tl)) ∨ ∃ tl' F', stS I R m cN a kp 1 14 tl0 tl' F' ∧ fg_263_2 N K (.ref 76) (bI kp) (nI p) (fx V I L R ++ tl) = some (.inl (some (.int (-1)), fx V I L R ++ tl')) := by
  intro t
  induction t with
  | zero =>
    intro p K tl F hp hK hst
    obtain ⟨K, rfl⟩ : ∃ k, K = k + 1 := ⟨K - 1, by omega⟩
    obtain rfl : p = 14 := by omega
    refine .inr ⟨tl, F, hst, ?_⟩
    apply hd_263_2
    exact ev_t (by decide) rfl
  | succ t ih =>
    intro p K tl F hp hK hst
    obtain ⟨K, rfl⟩ : ∃ k, K = k + 1 := ⟨K - 1, by omega⟩
    have h14 := u4_t.1
    obtain ⟨s, es⟩ : ∃ s, s = if p < 10 then 0 else p - 9 := ⟨_, rfl⟩
    have s5 : s < 5 := by rw [es]; split <;> omega
    obtain ⟨tl', F', e, t2, q2, st2⟩ := c_264p (V := V) (I := I) (L := L) (R := R) (tl0 := tl0) (N := N) (m := m) (n := 1) (cN := cN) (a := a) (kp := kp) hN hc hi (by omega) (by omega) (fun _ => by omega) (s := s) (P := p) (xa := nI p) (xb := 0) (by omega) hst (fun tl F k hk ht hl => by
      rw [c_265a hc hk s5]
      unfold vC
      rw [vQ_0 (by omega)]
      by_cases c : p < 10
      · rw [if_pos c] at es
        rw [if_pos es, if_pos c]
      · rw [if_neg c] at es
        rw [if_neg (by omega), if_neg c, es])
    rw [show FR 1 + p = p from Nat.zero_add p] at e
    have e23 : fg_263_23 N (fg_263_2 N K) (.ref 76) (bI kp) (nI p) (.ref 76) (nI s) (fx V I L R ++ tl) = if bI (rtB I m cN 1 p) = 0 then fg_263_2 N K (.ref 76) (bI kp) (nI (p + 1)) (fx V I L R ++ tl') else some (.inl (some (.int (nI p)), fx V I L R ++ tl')) := by
      apply hd_263_23
      refine ev_i rfl (ev_cI e ?_)
      rw [nI_1]
    have e0 : fg_263_2 N (K + 1) (.ref 76) (bI kp) (nI p) (fx V I L R ++ tl) = fg_263_23 N (fg_263_2 N K) (.ref 76) (bI kp) (nI p) (.ref 76) (nI s) (fx V I L R ++ tl) := by
      apply hd_263_2
      refine ev_f (nI_ge (b := 14) (by omega) (by omega)) ?_
      by_cases c : p < 10
      · rw [if_pos c] at es
        rw [es]
        exact ev_f (nI_ge (b := 10) c (by omega)) rfl
      · rw [if_neg c] at es
        rw [es]
        refine ev_t (nI_le (a := 10) (by omega) (by omega)) ?_
        rw [show nI p - 9 = nI (p - 9) from nI_sub (b := 9) (by omega)]
    rw [e0, e23]
    cases hr : rtB I m cN 1 p with
    | true =>
      rw [if_neg (by decide)]
      exact .inl ⟨tl', F', p, by omega, rfl, t2, q2, hr, hst.2.2.2.2⟩
    | false =>
      rw [if_pos (by decide)]
      exact ih (p + 1) K tl' F' (by omega) (by omega) (st2 hr)
set_option maxRecDepth 100000 in
set_option maxHeartbeats 4000000 in
theorem c_266b {V : Nat → Nat → Value} {I : Nat → Nat → Int32} {L : Nat → Nat → Int64} {R : Nat → Nat → Option Nat} {tl0 : am_H} {N m n : Nat} {cN a : Nat → Nat} {kp : Bool} (hN : 200000 < N) (hc : csS V I m cN) (hi : ∀ k k', k < m → k' < m → a k = a k' → k = k') (n1 : 1 ≤ n) (n5 : n ≤ 5) (hk4 : kp = true → n ≤ 4) {X : am_X} {s P0 cb qa qb : Nat} {x6 x7 x8 x9 : Int32} {r13 : Value → Int32 → Int32 → Int32 → Int32 → Int32 → am_H → Option am_O} {r73 : Value → Int32 → Int32 → Int32 → Int32 → Int32 → Int32 → Int32 → Int32 → am_H → Option am_O} {r115 : Value → Int32 → Int32 → Int32 → Int32 → Int32 → Int32 → Int32 → Int32 → Int32 → Int32 → Int32 → am_H → Option am_O} (hP : P0 + cb ≤ uT 4 n) (hqa : qa < 7070) (hqb : qb + cb ≤ 7070) (h265 : ∀ j, j < cb → ∀ (tl : am_H) (F : Nat → Nat → Int64) (k : Nat), k < m → tbl R tl m a F → lowK I cN n k (F k) → fm_265 (.ref 76) (nI s) (nI qa) (nI (qb + j)) (nI k) (fx V I L R ++ tl) = some (.inl (some (.long (encO (vC I (cN k) n (P0 + j)))), fx V I L R ++ tl))) : ∀ (t j K : Nat) (tl : am_H) (F : Nat → Nat → Int64), j + t = cb → t < K → stS I R m cN a kp n (P0 + j) tl0 tl F → fndS V I L R m cN a n tl0 (P0 + cb) (fg_266_136 X N r13 r73 r115 K (.ref 76) (nI n) (bI kp) (nI (FR n)) (nI (FR n + (P0 + j))) (nI s) x6 x7 x8 x9 (nI (qb + cb)) (nI qa) (nI (qb + j)) (fx V I L R ++ tl)) ∨ ∃ tl' F', stS I R m cN a kp n (P0 + cb) tl0 tl' F' ∧ fg_266_136 X N r13 r73 r115 K (.ref 76) (nI n) (bI kp) (nI (FR n)) (nI (FR n + (P0 + j))) (nI s) x6 x7 x8 x9 (nI (qb + cb)) (nI qa) (nI (qb + j)) (fx V I L R ++ tl) = r115 (.ref 76) (nI n) (bI kp) (nI (FR n)) (nI (FR n + (P0 + cb))) (nI s) x6 x7 x8 x9 (nI (qb + cb)) (nI (qa + 1)) (fx V I L R ++ tl') := by
  have ub := uT4_b n (by omega)
  have fb := FR_5 n (by omega)
  intro t
  induction t with
  | zero =>
    intro j K tl F hj hK hst
    obtain ⟨K, rfl⟩ : ∃ k, K = k + 1 := ⟨K - 1, by omega⟩
    obtain rfl : j = cb := by omega
    refine .inr ⟨tl, F, hst, ?_⟩
    apply hd_266_136
    rw [nI_1]
    exact ev_t (nI_le (Nat.le_refl _) (by omega)) rfl
  | succ t ih =>
    intro j K tl F hj hK hst
    obtain ⟨K, rfl⟩ : ∃ k, K = k + 1 := ⟨K - 1, by omega⟩
    obtain ⟨tl', F', e, t2, q2, st2⟩ := c_264p hN hc hi n1 n5 hk4 (s := s) (P := P0 + j) (xa := nI qa) (xb := nI (qb + j)) (by omega) hst (h265 j (by omega))
    have e0 : fg_266_136 X N r13 r73 r115 (K + 1) (.ref 76) (nI n) (bI kp) (nI (FR n)) (nI (FR n + (P0 + j))) (nI s) x6 x7 x8 x9 (nI (qb + cb)) (nI qa) (nI (qb + j)) (fx V I L R ++ tl) = if bI (rtB I m cN n (P0 + j)) = 0 then fg_266_136 X N r13 r73 r115 K (.ref 76) (nI n) (bI kp) (nI (FR n)) (nI (FR n + (P0 + (j + 1)))) (nI s) x6 x7 x8 x9 (nI (qb + cb)) (nI qa) (nI (qb + (j + 1))) (fx V I L R ++ tl') else some (.inl (some (.int (nI (P0 + j))), fx V I L R ++ tl')) := by
      apply hd_266_136
      refine ev_f (nI_ge (by omega) (by omega)) (ev_i rfl (ev_cI e ?_))
      rw [nI_1, nI_1, nI_sub (by omega), show FR n + (P0 + j) + 1 = FR n + (P0 + (j + 1)) by omega, show qb + j + 1 = qb + (j + 1) by omega, show FR n + (P0 + j) - FR n = P0 + j by omega]
    rw [e0]
    cases hr : rtB I m cN n (P0 + j) with
    | true =>
      rw [if_neg (by decide)]
      exact .inl ⟨tl', F', P0 + j, by omega, rfl, t2, q2, hr, hst.2.2.2.2⟩
    | false =>
      rw [if_pos (by decide)]
      exact ih (j + 1) K tl' F' (by omega) (by omega) (st2 hr)
set_option maxRecDepth 100000 in
set_option maxHeartbeats 4000000 in
theorem c_266a {V : Nat → Nat → Value} {I : Nat → Nat → Int32} {L : Nat → Nat → Int64} {R : Nat → Nat → Option Nat} {tl0 : am_H} {N m n : Nat} {cN a : Nat → Nat} {kp : Bool} (hN : 200000 < N) (hc : csS V I m cN) (hi : ∀ k k', k < m → k' < m → a k = a k' → k = k') (n1 : 1 ≤ n) (n5 : n ≤ 5) (hk4 : kp = true → n ≤ 4) {Ln : Nat} {xs : Nat → Int32} {s f g P0 cb qb : Nat} {x6 x7 : Int32} {r13 : Value → Int32 → Int32 → Int32 → Int32 → Int32 → am_H → Option am_O} {r73 : Value → Int32 → Int32 → Int32 → Int32 → Int32 → Int32 → Int32 → Int32 → am_H → Option am_O} (f1 : 1 ≤ f) (fn : f < n) (g5 : g < 6) (hqb : qb = FR g) (hP : P0 + uT 4 f * cb ≤ uT 4 n) (hq : qb + cb ≤ 7070) (h265 : ∀ i j, i < uT 4 f → j < cb → ∀ (tl : am_H) (F : Nat → Nat → Int64) (k : Nat), k < m → tbl R tl m a F → lowK I cN n k (F k) → fm_265 (.ref 76) (nI s) (nI (FR f + i)) (nI (qb + j)) (nI k) (fx V I L R ++ tl) = some (.inl (some (.long (encO (vC I (cN k) n (P0 + (i * cb + j))))), fx V I L R ++ tl))) : ∀ (t i K : Nat) (tl : am_H) (F : Nat → Nat → Int64), i + t = uT 4 f → t < K → stS I R m cN a kp n (P0 + i * cb) tl0 tl F → fndS V I L R m cN a n tl0 (P0 + uT 4 f * cb) (fg_266_115 (am_X0 Ln xs) N r13 r73 K (.ref 76) (nI n) (bI kp) (nI (FR n)) (nI (FR n + (P0 + i * cb))) (nI s) x6 x7 (nI f) (nI g) (nI (qb + cb)) (nI (FR f + i)) (fx V I L R ++ tl)) ∨ ∃ tl' F', stS I R m cN a kp n (P0 + uT 4 f * cb) tl0 tl' F' ∧ fg_266_115 (am_X0 Ln xs) N r13 r73 K (.ref 76) (nI n) (bI kp) (nI (FR n)) (nI (FR n + (P0 + i * cb))) (nI s) x6 x7 (nI f) (nI g) (nI (qb + cb)) (nI (FR f + i)) (fx V I L R ++ tl) = r73 (.ref 76) (nI n) (bI kp) (nI (FR n)) (nI (FR n + (P0 + uT 4 f * cb))) (nI s) x6 x7 (nI (f + 1)) (fx V I L R ++ tl') := by
  have ub := uT4_b n (by omega)
  have ef := FR_s f (by omega) f1
  have f7 := FR_5 (f + 1) (by omega)
  have gX : am_pX (am_X0 Ln xs) 30 (nI f + 1) = some (nI (FR (f + 1))) := by
    rw [nI_1]
    exact gX30 (by omega)
  intro t
  induction t with
  | zero =>
    intro i K tl F hi' hK hst
    obtain ⟨K, rfl⟩ : ∃ k, K = k + 1 := ⟨K - 1, by omega⟩
    obtain rfl : i = uT 4 f := by omega
    refine .inr ⟨tl, F, hst, ?_⟩
    apply hd_266_115
    refine ev_b gX (ev_t (nI_le (by omega) (by omega)) ?_)
    rw [nI_1]
  | succ t ih =>
    intro i K tl F hi' hK hst
    obtain ⟨K, rfl⟩ : ∃ k, K = k + 1 := ⟨K - 1, by omega⟩
    have hm1 : (i + 1) * cb ≤ uT 4 f * cb := Nat.mul_le_mul_right _ (by omega)
    have hm2 : (i + 1) * cb = i * cb + cb := Nat.succ_mul i cb
    have e0 : fg_266_115 (am_X0 Ln xs) N r13 r73 (K + 1) (.ref 76) (nI n) (bI kp) (nI (FR n)) (nI (FR n + (P0 + i * cb))) (nI s) x6 x7 (nI f) (nI g) (nI (qb + cb)) (nI (FR f + i)) (fx V I L R ++ tl) = fg_266_136 (am_X0 Ln xs) N r13 r73 (fg_266_115 (am_X0 Ln xs) N r13 r73 K) N (.ref 76) (nI n) (bI kp) (nI (FR n)) (nI (FR n + (P0 + i * cb + 0))) (nI s) x6 x7 (nI f) (nI g) (nI (qb + cb)) (nI (FR f + i)) (nI (qb + 0)) (fx V I L R ++ tl) := by
      apply hd_266_115
      refine ev_b gX (ev_f (nI_ge (by omega) (by omega)) (ev_b (gX30 g5) ?_))
      rw [Nat.add_zero, Nat.add_zero, hqb]
    have h := c_266b (V := V) (I := I) (L := L) (R := R) (tl0 := tl0) (N := N) (m := m) (n := n) (cN := cN) (a := a) (kp := kp) hN hc hi n1 n5 hk4 (X := am_X0 Ln xs) (s := s) (P0 := P0 + i * cb) (cb := cb) (qa := FR f + i) (qb := qb) (x6 := x6) (x7 := x7) (x8 := nI f) (x9 := nI g) (r13 := r13) (r73 := r73) (r115 := fg_266_115 (am_X0 Ln xs) N r13 r73 K) (by omega) (by omega) hq (fun j hj tl F k hk ht hl => by
      have := h265 i j (by omega) hj tl F k hk ht hl
      rw [show P0 + i * cb + j = P0 + (i * cb + j) by omega]
      exact this) cb 0 N tl F (by omega) (by omega) hst
    rw [e0]
    rcases h with h | ⟨tl', F', st2, e2⟩
    · exact .inl (fndS_le (by omega) h)
    · rw [e2]
      have h2 := ih (i + 1) K tl' F' (by omega) (by omega) (by rw [hm2, show P0 + (i * cb + cb) = P0 + i * cb + cb by omega]; exact st2)
      rw [hm2, show P0 + (i * cb + cb) = P0 + i * cb + cb by omega] at h2
      exact h2
