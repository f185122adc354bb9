/-! ===== exact fractions ===== -/
theorem lN_t {n : Nat} (h : n < 2 ^ 62) : (lN n).toInt = (n : Int) := by
  unfold lN
  exact Int64.toInt_ofNat_of_lt (by omega)
theorem iL_of {x : Int64} {t : Int} (h : x.toInt = t) : x = Int64.ofInt t := by
  rw [← h]
  exact (Int64.ofInt_toInt x).symm
theorem iL_t {t : Int} (h1 : -2 ^ 62 ≤ t) (h2 : t < 2 ^ 62) : (Int64.ofInt t).toInt = t := by
  rw [Int64.toInt_ofInt]
  exact bm64 (by omega) (by omega)
theorem dvI {x y : Int64} {t : Int} {d : Nat} (hx : x.toInt = t) (hy : y.toInt = (d : Int)) (hd : 0 < d) (h1 : -2 ^ 62 ≤ t) (h2 : t < 2 ^ 62) : (x / y).toInt = t.tdiv d := by
  rw [Int64.toInt_div, hx, hy]
  have b : (t.tdiv (d : Int)).natAbs ≤ t.natAbs := by
    rw [Int.natAbs_tdiv]
    exact Nat.div_le_self _ _
  exact bm64 (by omega) (by omega)
theorem dvL {A B : Nat} (hA : 0 < A) (hA2 : A < 2 ^ 62) (hB : B < 2 ^ 62) : lN B / lN A = lN (B / A) := by
  have hq : B / A ≤ B := Nat.div_le_self _ _
  apply Int64.toInt_inj.mp
  rw [dvI (lN_t hB) (lN_t hA2) hA (by omega) (by omega), lN_t (by omega)]
  exact Int.ofNat_tdiv B A |>.symm
theorem mdL {A B : Nat} (hA : 0 < A) (hA2 : A < 2 ^ 62) (hB : B < 2 ^ 62) : lN B - lN B / lN A * lN A = lN (B % A) := by
  rw [dvL hA hA2 hB, lN_mul, lN_sub (Nat.div_mul_le_self _ _)]
  congr 1
  have := Nat.div_add_mod B A
  rw [Nat.mul_comm] at this
  omega
theorem half {A B : Nat} (hA : 0 < A) (hr : 0 < B % A) : 2 * (A % (B % A)) < A := by
  have h1 := Nat.mod_lt B hA
  have h2 := Nat.mod_lt A hr
  by_cases c : 2 * (B % A) ≤ A
  · omega
  · have e : A % (B % A) = A - B % A := by
      rw [Nat.mod_eq_sub_mod (by omega), Nat.mod_eq_of_lt (by omega)]
    omega
theorem lN_ne {A : Nat} (hA : 0 < A) (hA2 : A < 2 ^ 62) : ¬ lN A = 0 := fun e => by
  have := congrArg Int64.toInt e
  rw [lN_t hA2] at this
  have z : (0 : Int64).toInt = 0 := by decide
  omega
theorem lN_cz {A : Nat} (hA2 : A < 2 ^ 62) : (lg_cmp (lN A) 0 = 0) ↔ A = 0 := by
  rw [lg_cmp_eq]
  constructor
  · intro e
    rcases Nat.eq_zero_or_pos A with h | h
    · exact h
    · exact absurd e (lN_ne h hA2)
  · intro e
    rw [e]
    rfl
/-- the class's divisor -/
theorem c_143l {N : Nat} {x1 x3 : Int64} {h : am_H} {x0 : Value} : ∀ (j A B i K : Nat), A < 2 ^ j → A < 2 ^ 62 → B < 2 ^ 62 → i + 2 * j < 200 → 2 * j < K → fg_143_12 N K x0 x1 x3 (lN A) (lN B) (nI i) h = fg_143_48 N x0 x1 x3 (lN (Nat.gcd A B)) h := by
  intro j
  induction j with
  | zero =>
    intro A B i K hA hA2 hB hi hK
    obtain ⟨K, rfl⟩ : ∃ k, K = k + 1 := ⟨K - 1, by omega⟩
    have e : A = 0 := by rw [Nat.pow_zero] at hA; omega
    subst e
    rw [fg_143_12, Nat.gcd_zero_left]
    exact ev_f (show ¬ (200 : Int32) ≤ nI i from nI_ge (b := 200) (by omega) (by decide)) (ev_t ((lN_cz (by omega)).mpr rfl) rfl)
  | succ j ih =>
    intro A B i K hA hA2 hB hi hK
    obtain ⟨K, rfl⟩ : ∃ k, K = k + 1 := ⟨K - 1, by omega⟩
    rw [fg_143_12]
    refine ev_f (show ¬ (200 : Int32) ≤ nI i from nI_ge (b := 200) (by omega) (by decide)) ?_
    rcases Nat.eq_zero_or_pos A with e | e
    · subst e
      rw [Nat.gcd_zero_left]
      exact ev_t ((lN_cz (by omega)).mpr rfl) rfl
    · refine ev_f (fun c => by have := (lN_cz hA2).mp c; omega) (ev_i (lN_ne e hA2) ?_)
      rw [mdL e hA2 hB, nI_1]
      have m1 := Nat.mod_lt B e
      obtain ⟨K, rfl⟩ : ∃ k, K = k + 1 := ⟨K - 1, by omega⟩
      rw [fg_143_12, Nat.gcd_rec A B]
      refine ev_f (show ¬ (200 : Int32) ≤ nI (i + 1) from nI_ge (b := 200) (by omega) (by decide)) ?_
      rcases Nat.eq_zero_or_pos (B % A) with e2 | e2
      · rw [e2, Nat.gcd_zero_left]
        exact ev_t ((lN_cz (by omega)).mpr rfl) rfl
      · refine ev_f (fun c => by have := (lN_cz (by omega)).mp c; omega) (ev_i (lN_ne e2 (by omega)) ?_)
        rw [mdL e2 (by omega) hA2, nI_1]
        have m2 := half e e2
        have m3 := Nat.mod_lt A e2
        rw [Nat.gcd_rec (B % A) A]
        exact ih (A % (B % A)) (B % A) (i + 1 + 1) K (by rw [Nat.pow_succ] at hA; omega) (by omega) (by omega) (by omega) (by omega)
/-- the reference's -/
theorem r_430l {N : Nat} {h : am_H} : ∀ (j A B K : Nat), A < 2 ^ j → A < 2 ^ 62 → B < 2 ^ 62 → 2 * j < K → fg_430_17 N K (lN B) (lN A) h = some (.inl (some (.long (lN (Nat.gcd A B))), h)) := by
  intro j
  induction j with
  | zero =>
    intro A B K hA hA2 hB hK
    obtain ⟨K, rfl⟩ : ∃ k, K = k + 1 := ⟨K - 1, by omega⟩
    have e : A = 0 := by rw [Nat.pow_zero] at hA; omega
    subst e
    rw [fg_430_17, Nat.gcd_zero_left]
    exact ev_t ((lN_cz (by omega)).mpr rfl) rfl
  | succ j ih =>
    intro A B K hA hA2 hB hK
    obtain ⟨K, rfl⟩ : ∃ k, K = k + 1 := ⟨K - 1, by omega⟩
    rw [fg_430_17]
    rcases Nat.eq_zero_or_pos A with e | e
    · subst e
      rw [Nat.gcd_zero_left]
      exact ev_t ((lN_cz (by omega)).mpr rfl) rfl
    · refine ev_f (fun c => by have := (lN_cz hA2).mp c; omega) (ev_i (lN_ne e hA2) ?_)
      rw [mdL e hA2 hB]
      have m1 := Nat.mod_lt B e
      obtain ⟨K, rfl⟩ : ∃ k, K = k + 1 := ⟨K - 1, by omega⟩
      rw [fg_430_17, Nat.gcd_rec A B]
      rcases Nat.eq_zero_or_pos (B % A) with e2 | e2
      · rw [e2, Nat.gcd_zero_left]
        exact ev_t ((lN_cz (by omega)).mpr rfl) rfl
      · refine ev_f (fun c => by have := (lN_cz (by omega)).mp c; omega) (ev_i (lN_ne e2 (by omega)) ?_)
        rw [mdL e2 (by omega) hA2]
        have m2 := half e e2
        have m3 := Nat.mod_lt A e2
        rw [Nat.gcd_rec (B % A) A]
        exact ih (A % (B % A)) (B % A) K (by rw [Nat.pow_succ] at hA; omega) (by omega) (by omega) (by omega)
/-- a fraction in lowest terms -/
def gdN (t : Int) (d : Nat) : Nat := Nat.gcd t.natAbs d
theorem gd_pos {t : Int} {d : Nat} (hd : 0 < d) : 0 < gdN t d := Nat.gcd_pos_of_pos_right _ hd
theorem gd_le {t : Int} {d : Nat} (hd : 0 < d) : gdN t d ≤ d := Nat.gcd_le_right _ hd
theorem low_nat {n1 d1 n2 d2 : Nat} (h1 : 0 < d1) (h2 : 0 < d2) (h : n1 * d2 = n2 * d1) : n1 / Nat.gcd n1 d1 = n2 / Nat.gcd n2 d2 ∧ d1 / Nat.gcd n1 d1 = d2 / Nat.gcd n2 d2 := by
  have g1 : 0 < Nat.gcd n1 d1 := Nat.gcd_pos_of_pos_right _ h1
  have g2 : 0 < Nat.gcd n2 d2 := Nat.gcd_pos_of_pos_right _ h2
  have c1 : Nat.Coprime (n1 / Nat.gcd n1 d1) (d1 / Nat.gcd n1 d1) := Nat.coprime_div_gcd_div_gcd g1
  have c2 : Nat.Coprime (n2 / Nat.gcd n2 d2) (d2 / Nat.gcd n2 d2) := Nat.coprime_div_gcd_div_gcd g2
  have e1 : n1 = n1 / Nat.gcd n1 d1 * Nat.gcd n1 d1 := (Nat.div_mul_cancel (Nat.gcd_dvd_left _ _)).symm
  have e2 : d1 = d1 / Nat.gcd n1 d1 * Nat.gcd n1 d1 := (Nat.div_mul_cancel (Nat.gcd_dvd_right _ _)).symm
  have e3 : n2 = n2 / Nat.gcd n2 d2 * Nat.gcd n2 d2 := (Nat.div_mul_cancel (Nat.gcd_dvd_left _ _)).symm
  have e4 : d2 = d2 / Nat.gcd n2 d2 * Nat.gcd n2 d2 := (Nat.div_mul_cancel (Nat.gcd_dvd_right _ _)).symm
  generalize Nat.gcd n1 d1 = g at *
  generalize Nat.gcd n2 d2 = k at *
  generalize n1 / g = a at *
  generalize d1 / g = b at *
  generalize n2 / k = c at *
  generalize d2 / k = d at *
  subst e1 e2 e3 e4
  have h' : a * d = c * b := by
    have p : 0 < g * k := Nat.mul_pos g1 g2
    apply Nat.eq_of_mul_eq_mul_left p
    have x1 : g * k * (a * d) = a * g * (d * k) := by
      rw [Nat.mul_mul_mul_comm, Nat.mul_comm g a, Nat.mul_comm k d]
    have x2 : g * k * (c * b) = c * k * (b * g) := by
      rw [Nat.mul_comm g k, Nat.mul_mul_mul_comm, Nat.mul_comm k c, Nat.mul_comm g b]
    rw [x1, x2]
    exact h
  constructor
  · exact Nat.dvd_antisymm (c1.dvd_of_dvd_mul_right ⟨d, by rw [h']⟩) (c2.dvd_of_dvd_mul_right ⟨b, by rw [← h']⟩)
  · refine Nat.dvd_antisymm (c1.symm.dvd_of_dvd_mul_left (n := d) (m := a) ⟨c, by rw [h', Nat.mul_comm]⟩) (c2.symm.dvd_of_dvd_mul_left (n := b) (m := c) ⟨a, by rw [← h', Nat.mul_comm]⟩)
theorem low_uq {t1 t2 : Int} {d1 d2 : Nat} (h1 : 0 < d1) (h2 : 0 < d2) (h : t1 * d2 = t2 * d1) : t1.tdiv (gdN t1 d1) = t2.tdiv (gdN t2 d2) ∧ d1 / gdN t1 d1 = d2 / gdN t2 d2 := by
  have hn : t1.natAbs * d2 = t2.natAbs * d1 := by
    have := congrArg Int.natAbs h
    rw [Int.natAbs_mul, Int.natAbs_mul, Int.natAbs_natCast, Int.natAbs_natCast] at this
    exact this
  obtain ⟨k1, k2⟩ := low_nat h1 h2 hn
  refine ⟨?_, k2⟩
  have p1 : (0 : Int) < (d1 : Int) := by omega
  have p2 : (0 : Int) < (d2 : Int) := by omega
  by_cases c : 0 ≤ t1
  · have c2 : 0 ≤ t2 := by
      by_cases q : t2 < 0
      · have x1 := Int.mul_neg_of_neg_of_pos q p1
        have x2 := Int.mul_nonneg c (Int.le_of_lt p2)
        omega
      · omega
    obtain ⟨a, rfl⟩ := Int.eq_ofNat_of_zero_le c
    obtain ⟨b, rfl⟩ := Int.eq_ofNat_of_zero_le c2
    rw [← Int.ofNat_tdiv, ← Int.ofNat_tdiv]
    exact congrArg _ k1
  · have c2 : ¬ 0 ≤ t2 := fun q => by
      have x1 := Int.mul_neg_of_neg_of_pos (show t1 < 0 by omega) p2
      have x2 := Int.mul_nonneg q (Int.le_of_lt p1)
      omega
    obtain ⟨a, ha⟩ := Int.eq_ofNat_of_zero_le (show 0 ≤ -t1 by omega)
    obtain ⟨b, hb⟩ := Int.eq_ofNat_of_zero_le (show 0 ≤ -t2 by omega)
    obtain rfl : t1 = -(a : Int) := by omega
    obtain rfl : t2 = -(b : Int) := by omega
    unfold gdN
    rw [Int.natAbs_neg, Int.natAbs_neg, Int.natAbs_natCast, Int.natAbs_natCast] at k1 ⊢
    rw [Int.neg_tdiv, Int.neg_tdiv, ← Int.ofNat_tdiv, ← Int.ofNat_tdiv, k1]
/-- |x| -/
theorem absL {x : Int64} {t : Int} (hx : x.toInt = t) (h1 : -2 ^ 62 < t) (h2 : t < 2 ^ 62) : (if 0 ≤ lg_cmp x 0 then x else -x) = lN t.natAbs := by
  have z1 : (0 : Int64).toInt = 0 := by decide
  by_cases c : 0 ≤ lg_cmp x 0
  · rw [if_pos c]
    have c' := (lg_cmp_ge _ _).mp c
    rw [Int64.le_iff_toInt_le, z1, hx] at c'
    exact lN_ofInt (by rw [hx]; omega) (by omega)
  · rw [if_neg c]
    have c' : ¬ ((0 : Int64) ≤ x) := fun h => c ((lg_cmp_ge _ _).mpr h)
    rw [Int64.le_iff_toInt_le, z1, hx] at c'
    refine lN_ofInt ?_ (by omega)
    rw [Int64.toInt_neg, hx, bm64 (by omega) (by omega)]
    omega
set_option maxRecDepth 100000 in
set_option maxHeartbeats 1600000 in
/-- the class lowers a fraction -/
theorem c_143 {V : Nat → Nat → Value} {I : Nat → Nat → Int32} {L : Nat → Nat → Int64} {R : Nat → Nat → Option Nat} {tl : am_H} {N d : Nat} {x : Int64} {t : Int} (hN : 200 < N) (hx : x.toInt = t) (h1 : -2 ^ 60 ≤ t) (h2 : t < 2 ^ 60) (hd : 0 < d) (hd2 : d < 2 ^ 60) : fm_143 N (.ref 14) x (lN d) (fx V I L R ++ tl) = some (.inl (none, fx (vup (vup V 14 4 (.long (Int64.ofInt (t.tdiv (gdN t d))))) 14 5 (.long (lN (d / gdN t d)))) I L R ++ tl)) := by
  have gp := gd_pos (t := t) hd
  have gl := gd_le (t := t) hd
  have hg : (lN (gdN t d)).toInt = (gdN t d : Int) := lN_t (by omega)
  have cg : ¬ lg_cmp (lN (gdN t d)) 0 ≤ 0 := fun e => by
    have := (lg_cmp_le _ _).mp e
    rw [Int64.le_iff_toInt_le, hg] at this
    have z1 : (0 : Int64).toInt = 0 := by decide
    omega
  have ex : x / lN (gdN t d) = Int64.ofInt (t.tdiv (gdN t d)) := iL_of (dvI hx hg gp (by omega) (by omega))
  unfold fm_143 fg_143_0
  refine ev_cL (v := lN t.natAbs) ((pe_135 _ _).trans (by unfold pv_135; rw [absL hx (by omega) (by omega)])) ?_
  refine (c_143l (N := N) (x1 := x) (x3 := lN d) (x0 := Value.ref 14) (h := fx V I L R ++ tl) 61 t.natAbs d 0 N (by omega) (by omega) (by omega) (by omega) (by omega)).trans ?_
  show fg_143_48 N (.ref 14) x (lN d) (lN (gdN t d)) (fx V I L R ++ tl) = _
  unfold fg_143_48
  refine ev_f cg (ev_i (lN_ne gp (by omega)) ?_)
  unfold fg_143_64
  rw [ex]
  refine ev_b qp_14_4 (ev_f cg (ev_i (lN_ne gp (by omega)) ?_))
  unfold fg_143_83
  rw [dvL gp (by omega) (by omega)]
  exact ev_b qp_14_5 rfl
set_option maxRecDepth 100000 in
set_option maxHeartbeats 1600000 in
theorem r_429 {V : Nat → Nat → Value} {I : Nat → Nat → Int32} {L : Nat → Nat → Int64} {R : Nat → Nat → Option Nat} {tl : am_H} {N d : Nat} {x : Int64} {t : Int} (hN : 200 < N) (h91 : V 174 91 = .long x) (h92 : V 174 92 = .long (lN d)) (hx : x.toInt = t) (h1 : -2 ^ 60 ≤ t) (h2 : t < 2 ^ 60) (hd : 0 < d) (hd2 : d < 2 ^ 60) : fm_429 N (.ref 174) (fx V I L R ++ tl) = some (.inl (none, fx (vup (vup V 174 91 (.long (Int64.ofInt (t.tdiv (gdN t d))))) 174 92 (.long (lN (d / gdN t d)))) I L R ++ tl)) := by
  have gp := gd_pos (t := t) hd
  have gl := gd_le (t := t) hd
  have hg : (lN (gdN t d)).toInt = (gdN t d : Int) := lN_t (by omega)
  have ex : x / lN (gdN t d) = Int64.ofInt (t.tdiv (gdN t d)) := iL_of (dvI hx hg gp (by omega) (by omega))
  have e430 : fm_430 N x (lN d) (fx V I L R ++ tl) = some (.inl (some (.long (lN (gdN t d))), (fx V I L R ++ tl))) := by
    have k0 := r_430l (N := N) (h := fx V I L R ++ tl) 60 d t.natAbs N (by omega) (by omega) (by omega) (by omega)
    rw [Nat.gcd_comm] at k0
    have ea := absL hx (show -2 ^ 62 < t by omega) (by omega)
    unfold fm_430 fg_430_0
    by_cases c : 0 ≤ lg_cmp x 0
    · rw [if_pos c] at ea
      refine ev_t c ?_
      unfold fg_430_12
      rw [ea]
      exact k0
    · rw [if_neg c] at ea
      refine ev_f c ?_
      unfold fg_430_12
      rw [ea]
      exact k0
  unfold fm_429 fg_429_0
  refine ev_b (rdL h91) (ev_b (rdL h92) (ev_cL e430 (ev_b (rdL h91) (ev_i (lN_ne gp (by omega)) ?_))))
  rw [ex]
  refine ev_b qp_174_91 (ev_b (a := lN d) (by show am_vL (some (V 174 92)) = _; rw [h92]; rfl) (ev_i (lN_ne gp (by omega)) ?_))
  rw [dvL gp (by omega) (by omega)]
  exact ev_b qp_174_92 rfl
