/-! ===== place(b): the class ===== -/

set_option maxRecDepth 100000 in
set_option maxHeartbeats 1600000 in
theorem c_77i_79 {V : Nat → Nat → Value} {I : Nat → Nat → Int32} {L : Nat → Nat → Int64} {R : Nat → Nat → Option Nat} {tl : am_H} {N k m a : Nat} {l r : List (Nat × Nat)} {x : Nat × Nat} {g : Nat → Int32} {rc : Value → Value → Int32 → am_H → Option am_O} (h7 : V 79 7 = .int (nI l.length)) (hl : l.length ≤ 60) (hd : l.drop k = x :: r) (hF : isF (m + arN x.1) r) (hg : ∀ j, k < j → j < l.length → g j = nI (enL l j)) : ∀ (q p K : Nat), p + q = arN x.1 → q < K → fg_77_39 N rc K (.ref 79) (.ref a) (nI k) (nI (k + 1 + tk p r)) (nI q) (fx V (iup I 80 g) L R ++ tl) = rc (.ref 79) (.ref a) (nI k + (-1)) (fx V (iup I 80 (upd g k (nI (enL l k)))) L R ++ tl) := by
  have hlen := drop_len hd
  have ha := ar_le x.1
  intro q
  induction q with
  | zero =>
    intro p K hp hK
    obtain ⟨K, rfl⟩ : ∃ k, K = k + 1 := ⟨K - 1, by omega⟩
    have e : k + 1 + tk p r = enL l k := by
      unfold enL
      rw [hd, show (1 : Nat) = 0 + 1 from rfl, tk_c, show 0 + arN x.1 = p by omega]
      omega
    rw [fg_77_39, e]
    exact ev_t (by decide) (ev_b (a := Value.ref 80) rfl (ev_b (a := fx V (iup I 80 (upd g k (nI (enL l k)))) L R ++ tl) (ev_s (f := g) (n := 60) rfl (am_inb_n (by omega) (by omega)) rfl (by rw [nI_clamp (by omega)]; rfl)) rfl))
  | succ q ih =>
    intro p K hp hK
    obtain ⟨K, rfl⟩ : ∃ k, K = k + 1 := ⟨K - 1, by omega⟩
    have lt := part_lt hd hF (show p < arN x.1 by omega)
    have e : g (k + 1 + tk p r) = nI (k + 1 + tk (p + 1) r) := by
      rw [hg _ (by omega) lt]
      unfold enL
      rw [drop_s hd, tk_add r p 1]
      congr 1
      omega
    rw [fg_77_39]
    refine ev_f (nI_nle (by omega) (by omega)) (ev_b (a := nI l.length) (by show am_vI (some (V 79 7)) = _; rw [h7]; rfl) (ev_f (nI_ge lt (by omega)) (ev_b (a := Value.ref 80) rfl (ev_b (a := nI (k + 1 + tk (p + 1) r)) ((ev_a (f := g) (n := 60) rfl (am_inb_n (by omega) (by omega))).trans (by rw [nI_clamp (by omega), e])) ?_))))
    unfold fg_77_65
    rw [nI_m1]
    exact ih (p + 1) K (by omega) (by omega)
set_option maxRecDepth 100000 in
set_option maxHeartbeats 1600000 in
theorem c_77o_79 {V : Nat → Nat → Value} {I : Nat → Nat → Int32} {L : Nat → Nat → Int64} {R : Nat → Nat → Option Nat} {tl : am_H} {N a it kd ln m0 : Nat} {f : Nat → Int32} {l : List (Nat × Nat)} (hN : 100 < N) (hk0 : kd ≠ 2) (hp : prA V I tl a it kd ln l.length m0 f) (ha : a ≠ 79) (hit : it ≠ 80) (hm0 : l.length * wdN kd ≤ m0) (hm1 : m0 ≤ 1000) (h7 : V 79 7 = .int (nI l.length)) (hl : l.length ≤ 60) (hS : ∀ k x r, l.drop k = x :: r → f (k * 2) = nI x.1 ∧ x.1 ≤ 20) (hF : isF 1 l) : ∀ (k K : Nat) (g : Nat → Int32), k ≤ l.length → k < K → (∀ j, k ≤ j → j < l.length → g j = nI (enL l j)) → ∃ g', (∀ j, j < l.length → g' j = nI (enL l j)) ∧ fg_77_20 N K (.ref 79) (.ref a) (nI k + (-1)) (fx V (iup I 80 g) L R ++ tl) = some (.inl (none, fx V (iup I 80 g') L R ++ tl)) := by
  have w2 : wdN kd = 2 := if_neg hk0
  intro k
  induction k with
  | zero =>
    intro K g hk hK hg
    obtain ⟨K, rfl⟩ : ∃ k, K = k + 1 := ⟨K - 1, by omega⟩
    refine ⟨g, fun j hj => hg j (by omega) hj, ?_⟩
    rw [fg_77_20]
    exact ev_t (by decide) rfl
  | succ k ih =>
    intro K g hk hK hg
    obtain ⟨K, rfl⟩ : ∃ k, K = k + 1 := ⟨K - 1, by omega⟩
    obtain ⟨x, r, m, hd, hm⟩ := isF_at hF (show k < l.length by omega)
    obtain ⟨s1, s2⟩ := hS k x r hd
    have har := ar_le x.1
    have hpg := hp V (iup I 80 g) L R (fun j => rfl) (iup_na hit)
    have g0 := c_54 (k := k) (w := 0) hpg hm0 hm1 hl (by omega) (by omega)
    rw [w2, Nat.add_zero, s1] at g0
    obtain ⟨x1, x2, x3, x4, x5, x6, p1, p2⟩ := hpg
    have e := c_77i_79 (V := V) (I := I) (L := L) (R := R) (tl := tl) (N := N) (a := a) (rc := fg_77_20 N K) h7 hl hd hm (fun j h1 h2 => hg j (by omega) h2) (arN x.1) 0 N (by omega) (by omega)
    rw [tk_0, Nat.add_zero] at e
    obtain ⟨g', h1, h2⟩ := ih K (upd g k (nI (enL l k))) (by omega) (by omega) (fun j j1 j2 => by
      by_cases c : j = k
      · rw [c]; exact upd_eq
      · rw [upd_ne c]; exact hg j (by omega) j2)
    refine ⟨g', h1, ?_⟩
    rw [fg_77_20, nI_m1]
    refine ev_f (nI_pos (by omega)) (ev_i (ev_ok p1) (ev_cI g0 (ev_cI (pe_14 _ _) ?_)))
    rw [show pv_14 (nI x.1) = nI (arN x.1) from ar14 x.1 (by omega), nI_1]
    exact e.trans h2
set_option maxRecDepth 100000 in
set_option maxHeartbeats 1600000 in
theorem c_77_79 {V : Nat → Nat → Value} {I : Nat → Nat → Int32} {L : Nat → Nat → Int64} {R : Nat → Nat → Option Nat} {tl : am_H} {N a it kd ln m0 : Nat} {f : Nat → Int32} {l : List (Nat × Nat)} (hN : 100 < N) (hk0 : kd ≠ 2) (hp : prA V I tl a it kd ln l.length m0 f) (ha : a ≠ 79) (hit : it ≠ 80) (hm0 : l.length * wdN kd ≤ m0) (hm1 : m0 ≤ 1000) (hl : l.length ≤ 60) (hS : ∀ k x r, l.drop k = x :: r → f (k * 2) = nI x.1 ∧ x.1 ≤ 20) (hF : isF 1 l) : ∃ g', (∀ j, j < l.length → g' j = nI (enL l j)) ∧ fm_77 N (.ref 79) (.ref a) (fx V I L R ++ tl) = some (.inl (none, fx (vup V 79 7 (.int (nI l.length))) (iup I 80 g') L R ++ tl)) := by
  obtain ⟨x1, x2, x3, x4, x5, x6, p1, p2⟩ := hp V I L R (fun j => rfl) rfl
  obtain ⟨g', h1, h2⟩ := c_77o_79 (V := vup V 79 7 (.int (nI l.length))) (I := I) (L := L) (R := R) (tl := tl) (N := N) hN hk0 (fun W J L' R' hW hJ => hp W J L' R' (fun j => (hW j).trans (vup_na ha)) hJ) ha hit hm0 hm1 vup_eq hl hS hF l.length N (I 80) (Nat.le_refl _) (by omega) (fun j j1 j2 => by omega)
  refine ⟨g', h1, ?_⟩
  rw [iup_self] at h2
  unfold fm_77 fg_77_0
  refine ev_b (ev_gI p1 rfl rfl) (ev_cI (pe_38 _ _ _) ?_)
  rw [show pv_38 (nI l.length) 60 = nI l.length from if_neg (fun e => nI_nlt (a := 60) hl (by omega) e)]
  refine ev_b qp_79_7 (ev_b (a := nI l.length) rfl ?_)
  rw [Int32.sub_eq_add_neg]
  exact h2

def sF (c n : Nat) : Nat → Nat
  | 0 => 0
  | s + 1 => sF c n s + uW c s n
def s2 (a b M : Nat) : Nat → Nat
  | 0 => 0
  | m + 1 => s2 a b M m + uT a (m + 1) * uT b (M - (m + 1))
def s3 (a b M : Nat) : Nat → Nat
  | 0 => 0
  | m + 1 => s3 a b M m + uT a (m + 1) * s2 b b (M - (m + 1)) (M - (m + 1) - 1)
def ctL (l : List (Nat × Nat)) (k : Nat) : Nat := 2 * (cxK l k).2.2 + (cxK l k).1
/-- the rank of the tree at a node; d: how deep it still may go -/
def rkN (l : List (Nat × Nat)) (v : Nat → Int32) : Nat → Nat → Nat
  | 0, _ => 0
  | d + 1, k => sF (ctL l k) (tk 1 (l.drop k)) (sL l k) + (if arN (sL l k) = 0 then clN v k else if arN (sL l k) = 1 then rkN l v d (k + 1) else if arN (sL l k) = 2 then s2 (pcN (ctL l k) (sL l k) 0) (pcN (ctL l k) (sL l k) 1) (tk 1 (l.drop k) - 1) (enL l (k + 1) - (k + 1) - 1) + rkN l v d (k + 1) * uT (pcN (ctL l k) (sL l k) 1) (enL l (enL l (k + 1)) - enL l (k + 1)) + rkN l v d (enL l (k + 1)) else (s3 (pcN (ctL l k) (sL l k) 0) (pcN (ctL l k) (sL l k) 1) (tk 1 (l.drop k) - 1) (enL l (k + 1) - (k + 1) - 1) + uT (pcN (ctL l k) (sL l k) 0) (enL l (k + 1) - (k + 1)) * s2 (pcN (ctL l k) (sL l k) 1) (pcN (ctL l k) (sL l k) 1) (tk 1 (l.drop k) - 1 - (enL l (k + 1) - (k + 1))) (enL l (enL l (k + 1)) - enL l (k + 1) - 1)) + (rkN l v d (k + 1) * uT (pcN (ctL l k) (sL l k) 1) (enL l (enL l (k + 1)) - enL l (k + 1)) + rkN l v d (enL l (k + 1))) * uT (pcN (ctL l k) (sL l k) 1) (tk 1 (l.drop k) - 1 - (enL l (k + 1) - (k + 1)) - (enL l (enL l (k + 1)) - enL l (k + 1))) + rkN l v d (enL l (enL l (k + 1))))
def rR (l : List (Nat × Nat)) (v : Nat → Int32) (k : Nat) : Nat := rkN l v (13 - dpL l k) k
theorem tw_1 (s p : Nat) : twN s p ≤ 1 := tw_le s p
theorem ct_lt {l r : List (Nat × Nat)} {x : Nat × Nat} {k : Nat} (ho : okF [(0, 1, 0)] l) (hd : l.drop k = x :: r) : ctL l k < 4 ∧ ctL l k / 2 = inL l k ∧ ctL l k = 2 * inL l k + truN x.1 := by
  have i1 := in_le1 l k
  obtain ⟨q1, q2, -⟩ := form_at ho hd
  have t1 : truN x.1 ≤ 1 := by
    have key : ∀ s, s < 21 → truN s ≤ 1 := by decide
    exact key x.1 (by omega)
  unfold inL at i1 ⊢
  unfold ctL
  rw [← q2]
  refine ⟨by omega, by omega, rfl⟩
theorem ct_part {l r : List (Nat × Nat)} {x : Nat × Nat} {k p : Nat} (ho : okF [(0, 1, 0)] l) (hd : l.drop k = x :: r) (hp : p < arN x.1) : ctL l (k + 1 + tk p r) = pcN (ctL l k) x.1 p := by
  obtain ⟨-, -, -, -, -, q6⟩ := form_at ho hd
  obtain ⟨y, r2, w1, w2⟩ := q6 p hp
  obtain ⟨-, c2, -⟩ := ct_lt ho hd
  unfold pcN pwN
  rw [c2]
  unfold ctL
  rw [w2]
  rfl
/-- where the parts lie, by the ends -/
theorem en_1 {l r : List (Nat × Nat)} {x : Nat × Nat} {k : Nat} (hd : l.drop k = x :: r) : enL l (k + 1) = k + 1 + tk 1 r := by
  unfold enL
  have := drop_s hd 0
  rw [Nat.add_zero, List.drop_zero] at this
  rw [this]
theorem en_2 {l r : List (Nat × Nat)} {x : Nat × Nat} {k : Nat} (hd : l.drop k = x :: r) : enL l (enL l (k + 1)) = k + 1 + tk 2 r := by
  rw [en_1 hd]
  unfold enL
  rw [drop_s hd, show (2 : Nat) = 1 + 1 from rfl, tk_add r 1 1]
  omega
theorem rR_eq {l r : List (Nat × Nat)} {x : Nat × Nat} {v : Nat → Int32} {k : Nat} (ho : okF [(0, 1, 0)] l) (hd : l.drop k = x :: r) : rR l v k = sF (ctL l k) (tk 1 (l.drop k)) x.1 + (if arN x.1 = 0 then clN v k else if arN x.1 = 1 then rR l v (k + 1) else if arN x.1 = 2 then s2 (pcN (ctL l k) x.1 0) (pcN (ctL l k) x.1 1) (tk 1 (l.drop k) - 1) (tk 1 r - 1) + rR l v (k + 1) * uT (pcN (ctL l k) x.1 1) (tk 2 r - tk 1 r) + rR l v (k + 1 + tk 1 r) else (s3 (pcN (ctL l k) x.1 0) (pcN (ctL l k) x.1 1) (tk 1 (l.drop k) - 1) (tk 1 r - 1) + uT (pcN (ctL l k) x.1 0) (tk 1 r) * s2 (pcN (ctL l k) x.1 1) (pcN (ctL l k) x.1 1) (tk 1 (l.drop k) - 1 - tk 1 r) (tk 2 r - tk 1 r - 1)) + (rR l v (k + 1) * uT (pcN (ctL l k) x.1 1) (tk 2 r - tk 1 r) + rR l v (k + 1 + tk 1 r)) * uT (pcN (ctL l k) x.1 1) (tk 1 (l.drop k) - 1 - tk 1 r - (tk 2 r - tk 1 r)) + rR l v (k + 1 + tk 2 r)) := by
  obtain ⟨-, -, d12, -, -, -⟩ := form_at ho hd
  have d12 : dpL l k ≤ 12 := d12
  have e : 13 - dpL l k = (12 - dpL l k) + 1 := by omega
  have p0 : 1 ≤ arN x.1 → rR l v (k + 1) = rkN l v (12 - dpL l k) (k + 1) := fun h => by
    obtain ⟨-, d, -⟩ := fm_part ho hd (p := 0) (by omega)
    rw [tk_0, Nat.add_zero] at d
    unfold rR
    rw [d, show 13 - (dpL l k + 1) = 12 - dpL l k by omega]
  have p1 : 2 ≤ arN x.1 → rR l v (k + 1 + tk 1 r) = rkN l v (12 - dpL l k) (k + 1 + tk 1 r) := fun h => by
    obtain ⟨-, d, -⟩ := fm_part ho hd (p := 1) (by omega)
    unfold rR
    rw [d, show 13 - (dpL l k + 1) = 12 - dpL l k by omega]
  have p2 : 3 ≤ arN x.1 → rR l v (k + 1 + tk 2 r) = rkN l v (12 - dpL l k) (k + 1 + tk 2 r) := fun h => by
    obtain ⟨-, d, -⟩ := fm_part ho hd (p := 2) (by omega)
    unfold rR
    rw [d, show 13 - (dpL l k + 1) = 12 - dpL l k by omega]
  have u : rR l v k = rkN l v ((12 - dpL l k) + 1) k := by unfold rR; rw [e]
  rw [u, rkN, sL_at hd, en_2 hd, en_1 hd, show k + 1 + tk 1 r - (k + 1) = tk 1 r by omega, show k + 1 + tk 2 r - (k + 1 + tk 1 r) = tk 2 r - tk 1 r by omega]
  by_cases c0 : arN x.1 = 0
  · rw [if_pos c0, if_pos c0]
  · rw [if_neg c0, if_neg c0]
    by_cases c1 : arN x.1 = 1
    · rw [if_pos c1, if_pos c1, p0 (by omega)]
    · rw [if_neg c1, if_neg c1]
      by_cases c2 : arN x.1 = 2
      · rw [if_pos c2, if_pos c2, p0 (by omega), p1 (by omega)]
      · rw [if_neg c2, if_neg c2, p0 (by omega), p1 (by omega), p2 (by omega)]
theorem rk_fx {V : Nat → Nat → Value} {I : Nat → Nat → Int32} {L : Nat → Nat → Int64} {R : Nat → Nat → Option Nat} {tl : am_H} {A : Nat} (h3 : V 76 3 = .ref A) (h7 : L 77 = tW) (h8 : L 78 = tT) : rkH (fx V I L R ++ tl) A := by
  refine ⟨[.ref 77, .ref 78, .ref 79, V 76 3, .ref 87, .ref 88, V 76 6, V 76 7, V 76 8], rfl, rfl, rfl, by rw [h3]; rfl, ?_, ?_⟩
  · show some (Sum.inl (1, 1638, Sum.inr (Sum.inl (L 77)))) = _
    rw [h7]
  · show some (Sum.inl (1, 78, Sum.inr (Sum.inl (L 78)))) = _
    rw [h8]
set_option maxRecDepth 100000 in
set_option maxHeartbeats 1600000 in
theorem c_101l {h : am_H} {A a b M N q : Nat} (hR : rkH h A) (ha : a < 6) (hb : b < 6) (hq : q ≤ M) (hM : M < 13) : ∀ (m i K : Nat), i + m = q → 1 ≤ i → m < K → fg_101_6 N K (.ref 76) (nI a) (nI b) (nI M) (nI q) (lN (s2 a b M (i - 1))) (nI i) h = some (.inl (some (.long (lN (s2 a b M (q - 1)))), h)) := by
  intro m
  induction m with
  | zero =>
    intro i K hi h1 hK
    obtain ⟨K, rfl⟩ : ∃ k, K = k + 1 := ⟨K - 1, by omega⟩
    rw [fg_101_6, show i = q by omega]
    exact ev_t (nI_le (Nat.le_refl _) (by omega)) rfl
  | succ m ih =>
    intro i K hi h1 hK
    obtain ⟨K, rfl⟩ : ∃ k, K = k + 1 := ⟨K - 1, by omega⟩
    have e := ih (i + 1) K (by omega) (by omega) (by omega)
    rw [Nat.add_sub_cancel] at e
    obtain ⟨j, rfl⟩ : ∃ j, i = j + 1 := ⟨i - 1, by omega⟩
    rw [fg_101_6]
    dsimp only
    rw [nI_sub (by omega), nI_1]
    refine ev_f (nI_ge (by omega) (by omega)) (ev_i (rk_ok hR) (ev_cL (e_15u hR ha (by omega) (by omega)) (ev_i (rk_ok hR) (ev_cL (e_15u hR hb (by omega) (by omega)) ?_))))
    rw [lN_mul, lN_add, show s2 a b M (j + 1 - 1) + uT a (j + 1) * uT b (M - (j + 1)) = s2 a b M (j + 1) from rfl]
    exact e
theorem c_101 {h : am_H} {A a b M N q : Nat} (hN : 100 < N) (hR : rkH h A) (ha : a < 6) (hb : b < 6) (h1 : 1 ≤ q) (hq : q ≤ M) (hM : M < 13) : fm_101 N (.ref 76) (nI a) (nI b) (nI M) (nI q) h = some (.inl (some (.long (lN (s2 a b M (q - 1)))), h)) := c_101l hR ha hb hq hM (q - 1) 1 N (by omega) (by omega) (by omega)
theorem two_s2 {a b S : Nat} (ha : a < 6) (hb : b < 6) (hS : S < 13) : ∀ (m i : Nat), i + m = S → 1 ≤ i → rkTwo tT (nI a) (nI b) (nI S) m (nI i) (lN (s2 a b S (i - 1))) = lN (s2 a b S (S - 1)) := by
  intro m
  induction m with
  | zero => intro i hi h1; rw [rkTwo, show i = S by omega]
  | succ m ih =>
    intro i hi h1
    obtain ⟨j, rfl⟩ : ∃ j, i = j + 1 := ⟨i - 1, by omega⟩
    have e := ih (j + 1 + 1) (by omega) (by omega)
    rw [rkTwo, nI_sub (by omega), rkTot_u ha (by omega) (by omega), rkTot_u hb (by omega) (by omega), lN_mul, lN_add, nI_1]
    exact e
theorem c_16 {h : am_H} {A a b S N : Nat} (hN : 100 < N) (hR : rkH h A) (ha : a < 6) (hb : b < 6) (h1 : 1 ≤ S) (hS : S < 13) : fm_16 N (.ref 76) (nI a) (nI b) (nI S) h = some (.inl (some (.long (lN (s2 a b S (S - 1)))), h)) := by
  obtain ⟨fs, r1, r2, r3, r4, r5, r6⟩ := hR
  have e := e_16 (N := N) r1 r3 r6 (nI a) (nI b) (s := S) (by omega) (by omega)
  rw [show rkTwo tT (nI a) (nI b) (nI S) (S - 1) 1 0 = lN (s2 a b S (S - 1)) from two_s2 ha hb hS (S - 1) 1 (by omega) (by omega)] at e
  exact e
set_option maxRecDepth 100000 in
set_option maxHeartbeats 1600000 in
theorem c_102l {h : am_H} {A a b M N f g : Nat} (hN : 100 < N) (hR : rkH h A) (ha : a < 6) (hb : b < 6) (h1 : 1 ≤ g) (hf : f + g ≤ M) (hM : M < 13) : ∀ (m i K : Nat), i + m = f → 1 ≤ i → m < K → fg_102_6 N K (.ref 76) (nI a) (nI b) (nI M) (nI f) (nI g) (lN (s3 a b M (i - 1))) (nI i) h = some (.inl (some (.long (lN (s3 a b M (f - 1) + uT a f * s2 b b (M - f) (g - 1)))), h)) := by
  intro m
  induction m with
  | zero =>
    intro i K hi h1' hK
    obtain ⟨K, rfl⟩ : ∃ k, K = k + 1 := ⟨K - 1, by omega⟩
    obtain rfl : i = f := by omega
    rw [fg_102_6]
    dsimp only
    rw [nI_sub (by omega)]
    refine ev_t (nI_le (Nat.le_refl _) (by omega)) (ev_i (rk_ok hR) (ev_cL (e_15u hR ha (by omega) (by omega)) (ev_i (rk_ok hR) (ev_cL (c_101 hN hR hb hb h1 (by omega) (by omega)) ?_))))
    rw [lN_mul, lN_add]
  | succ m ih =>
    intro i K hi h1' hK
    obtain ⟨K, rfl⟩ : ∃ k, K = k + 1 := ⟨K - 1, by omega⟩
    have e := ih (i + 1) K (by omega) (by omega) (by omega)
    rw [Nat.add_sub_cancel] at e
    obtain ⟨j, rfl⟩ : ∃ j, i = j + 1 := ⟨i - 1, by omega⟩
    rw [fg_102_6]
    dsimp only
    rw [nI_sub (show f ≤ M by omega), nI_sub (show j + 1 ≤ M by omega), nI_1]
    refine ev_f (nI_ge (by omega) (by omega)) (ev_i (rk_ok hR) (ev_cL (e_15u hR ha (by omega) (by omega)) (ev_i (rk_ok hR) (ev_cL (c_16 hN hR hb hb (by omega) (by omega)) ?_))))
    rw [lN_mul, lN_add, show s3 a b M (j + 1 - 1) + uT a (j + 1) * s2 b b (M - (j + 1)) (M - (j + 1) - 1) = s3 a b M (j + 1) from rfl]
    exact e
theorem c_102 {h : am_H} {A a b M N f g : Nat} (hN : 100 < N) (hR : rkH h A) (ha : a < 6) (hb : b < 6) (hf1 : 1 ≤ f) (h1 : 1 ≤ g) (hf : f + g ≤ M) (hM : M < 13) : fm_102 N (.ref 76) (nI a) (nI b) (nI M) (nI f) (nI g) h = some (.inl (some (.long (lN (s3 a b M (f - 1) + uT a f * s2 b b (M - f) (g - 1)))), h)) := c_102l hN hR ha hb h1 hf hM (f - 1) 1 N (by omega) (by omega) (by omega)
/-- the ranks' tree, and its ends -/
def rkE (V : Nat → Nat → Value) (I : Nat → Nat → Int32) (L : Nat → Nat → Int64) (R : Nat → Nat → Option Nat) (tl : am_H) (A : Nat) (l : List (Nat × Nat)) (v : Nat → Int32) : Prop := V 76 3 = .ref A ∧ L 77 = tW ∧ L 78 = tT ∧ V 79 7 = .int (nI l.length) ∧ (∀ j, j < l.length → I 80 j = nI (enL l j)) ∧ am_pOk 3 (.ref A) (fx V I L R ++ tl) = true ∧ (∀ k x r, l.drop k = x :: r → fm_54 (.ref A) (nI k) 0 (fx V I L R ++ tl) = some (.inl (some (.int (nI x.1)), fx V I L R ++ tl)) ∧ fm_54 (.ref A) (nI k) 1 (fx V I L R ++ tl) = some (.inl (some (.int (v k)), fx V I L R ++ tl))) ∧ ∀ k x r, l.drop k = x :: r → arN x.1 = 0 → (v k).toInt64 = lN (clN v k)
set_option maxRecDepth 100000 in
set_option maxHeartbeats 1600000 in
theorem c_100k {V : Nat → Nat → Value} {I : Nat → Nat → Int32} {L : Nat → Nat → Int64} {R : Nat → Nat → Option Nat} {tl : am_H} {k n e : Nat} (h7 : V 79 7 = .int (nI n)) (hk : k < n) (hn : n ≤ 60) (he : I 80 k = nI e) : fm_100 (.ref 79) (nI k) (fx V I L R ++ tl) = some (.inl (some (.int (nI e)), fx V I L R ++ tl)) := by
  unfold fm_100 fg_100_0
  exact ev_f (nI_pos (by omega)) (ev_b (rdI h7) (ev_f (nI_ge hk (by omega)) (ev_b (a := Value.ref 80) rfl (ev_b ((qa_80 (by omega)).trans (congrArg some he)) rfl))))
set_option maxRecDepth 100000 in
set_option maxHeartbeats 1600000 in
theorem c_99l {V : Nat → Nat → Value} {I : Nat → Nat → Int32} {L : Nat → Nat → Int64} {R : Nat → Nat → Option Nat} {tl : am_H} {A N c n s : Nat} {x2 x3 x6 x7 : Int32} {rc : Value → Int32 → Int32 → Int32 → am_H → Option am_O} (hR : rkH (fx V I L R ++ tl) A) (hc : c < 6) (h1 : 1 ≤ n) (hn : n < 13) (hs : s ≤ 20) {o : Option am_O} (ho : ∀ K, fg_99_55 N rc (K + 1) (.ref 76) (nI c) x2 x3 (nI s) (nI n) x6 x7 (lN (sF c n s)) (nI s) (fx V I L R ++ tl) = o) : ∀ (m i K : Nat), i + m = s → m < K → fg_99_55 N rc K (.ref 76) (nI c) x2 x3 (nI s) (nI n) x6 x7 (lN (sF c n i)) (nI i) (fx V I L R ++ tl) = o := by
  intro m
  induction m with
  | zero =>
    intro i K hi hK
    obtain ⟨K, rfl⟩ : ∃ k, K = k + 1 := ⟨K - 1, by omega⟩
    rw [show i = s by omega]
    exact ho K
  | succ m ih =>
    intro i K hi hK
    obtain ⟨K, rfl⟩ : ∃ k, K = k + 1 := ⟨K - 1, by omega⟩
    rw [fg_99_55]
    refine ev_f (nI_ge (by omega) (by omega)) (ev_i (rk_ok hR) (ev_cL (e_93 hR hc (by omega) h1 hn) ?_))
    rw [lN_add, nI_1]
    exact ih (i + 1) K (by omega) (by omega)
set_option maxRecDepth 100000 in
set_option maxHeartbeats 1600000 in
theorem c_99 {V : Nat → Nat → Value} {I : Nat → Nat → Int32} {L : Nat → Nat → Int64} {R : Nat → Nat → Option Nat} {tl : am_H} {A N : Nat} {l : List (Nat × Nat)} {v : Nat → Int32} (hN : 100 < N) (ho : okF [(0, 1, 0)] l) (hl : l.length ≤ 12) (hE : rkE V I L R tl A l v) : ∀ (d k K : Nat), dpL l k + d = 13 → k < l.length → d < K → gr_99 N K 99 [.ref 76, .int (nI (ctL l k)), .int (nI k), .int (nI (dpL l k))] (fx V I L R ++ tl) = some (.inl (some (.long (lN (rR l v k))), fx V I L R ++ tl)) := by
  obtain ⟨h3, h7, h8, hz, he, hok, hg, hcv⟩ := hE
  have hR := rk_fx (V := V) (I := I) (L := L) (R := R) (tl := tl) h3 h7 h8
  intro d
  induction d with
  | zero =>
    intro k K hd hk hK
    have := tl_b ho (by omega) hk
    omega
  | succ d ih =>
    intro k K hd hk hK
    obtain ⟨K, rfl⟩ : ∃ j, K = j + 1 := ⟨K - 1, by omega⟩
    obtain ⟨x, r, mm, hdr, hF⟩ := isF_at (okF_F l _ ho) hk
    obtain ⟨x20, -⟩ := form_at ho hdr
    obtain ⟨c4, -, ct⟩ := ct_lt ho hdr
    have len := drop_len hdr
    obtain ⟨n, hn⟩ : ∃ n, n = tk 1 (l.drop k) := ⟨_, rfl⟩
    have n1 : 1 ≤ n := by rw [hn, tl_e hdr]; omega
    have n2 : k + n ≤ l.length := by rw [hn]; exact tk_1le (by omega)
    have ek : enL l k = k + n := by unfold enL; rw [hn]
    have ar3 := ar_le x.1
    have rq := rR_eq (v := v) ho hdr
    rw [← hn] at rq
    obtain ⟨c, hc⟩ : ∃ c, c = ctL l k := ⟨_, rfl⟩
    rw [← hc] at rq c4 ct ⊢
    have pa : pcN c x.1 0 < 6 := pc_lt (by omega)
    have pb : pcN c x.1 1 < 6 := pc_lt (by omega)
    obtain ⟨g0, g1⟩ := hg k x r hdr
    have R76 : am_vR (am_pG 1027 (.ref 76) (fx V I L R ++ tl)) = some (.ref A) := by show am_vR (some (V 76 3)) = _; rw [h3]; rfl
    rw [gr_99]
    show fo_99 N _ (.ref 76) (nI c) (nI k) (nI (dpL l k)) (fx V I L R ++ tl) = _
    unfold fo_99 fg_99_0
    refine ev_t (nI_le (b := 12) (by omega) (by decide)) (ev_b R76 (ev_i hok (ev_cI g0 (ev_b (a := Value.ref 79) rfl (ev_i rfl (ev_cI (c_100k hz hk (by omega) (he k hk)) (ev_cI (pe_12 _ _ _ _) (ev_cI (pe_12 _ _ _ _) ?_))))))))
    rw [show pv_12 (nI c) (nI x.1) 0 = nI (pcN c x.1 0) from pc_eq c (by omega) x.1 (by omega) 0 (by omega), show pv_12 (nI c) (nI x.1) 1 = nI (pcN c x.1 1) from pc_eq c (by omega) x.1 (by omega) 1 (by omega), ek, nI_sub (by omega), show k + n - k = n by omega]
    refine c_99l (s := x.1) hR (by omega) n1 (by omega) x20 (fun K0 => ?_) x.1 0 N (by omega) (by omega)
    rw [fg_99_55]
    refine ev_t (nI_le (Nat.le_refl _) (by omega)) (ev_cI (pe_14 _ _) ?_)
    rw [ar14 x.1 (by omega)]
    by_cases a0 : arN x.1 = 0
    · rw [if_pos a0] at rq
      refine ev_f (fun e => e (by rw [a0]; rfl)) (ev_b R76 (ev_i hok (ev_cI g1 ?_)))
      rw [hcv k x r hdr a0, lN_add, rq]
    · rw [if_neg a0] at rq
      have q1 : k + 1 < l.length := by
        have := part_lt hdr hF (show 0 < arN x.1 by omega)
        rw [tk_0] at this
        omega
      obtain ⟨-, d0, -⟩ := fm_part ho hdr (p := 0) (by omega)
      have c0 := ct_part ho hdr (p := 0) (by omega)
      rw [tk_0, Nat.add_zero] at d0 c0
      have i0 := ih (k + 1) K (by omega) q1 (by omega)
      rw [c0, d0, ← hc] at i0
      have e1 := c_100k (V := V) (I := I) (L := L) (R := R) (tl := tl) hz q1 (by omega) ((he (k + 1) q1).trans (by rw [en_1 hdr]))
      have t1 : 1 ≤ tk 1 r := by
        have h8 : 1 + tk 1 r = 1 + tk 0 r + tk 1 (l.drop (k + 1 + tk 0 r)) := (fm_part ho hdr (p := 0) (by omega)).2.2.2.2.1
        have h9 : 1 ≤ tk 1 (l.drop (k + 1 + tk 0 r)) := (fm_part ho hdr (p := 0) (by omega)).2.2.2.1
        rw [tk_0] at h8 h9
        omega
      refine ev_t (fun e => a0 ((nI_eq (b := 0) (by omega) (by omega)).mp e)) (ev_b (a := Value.ref 79) rfl (ev_i rfl ?_))
      rw [nI_1, nI_1]
      refine ev_cI e1 (ev_i (rk_ok hR) (ev_cL i0 (ev_cI (pe_14 _ _) ?_)))
      rw [ar14 x.1 (by omega)]
      by_cases a1 : arN x.1 = 1
      · rw [if_pos a1] at rq
        refine ev_f (fun e => e (by rw [a1]; rfl)) ?_
        rw [lN_add, rq]
      · rw [if_neg a1] at rq
        obtain ⟨q2, d1, -, u1, u2', -⟩ := fm_part ho hdr (p := 1) (by omega)
        have u2 : 1 + tk 2 r = 1 + tk 1 r + tk 1 (l.drop (k + 1 + tk 1 r)) := u2'
        have c1 := ct_part ho hdr (p := 1) (by omega)
        have i1 := ih (k + 1 + tk 1 r) K (by omega) q2 (by omega)
        rw [c1, d1, ← hc] at i1
        have e2 := c_100k (V := V) (I := I) (L := L) (R := R) (tl := tl) hz q2 (by omega) ((he _ q2).trans (by rw [← en_1 hdr, en_2 hdr]))
        have nn : n = 1 + tk (arN x.1) r := by rw [hn]; exact tl_e hdr
        have t2 : tk 1 r + 1 ≤ tk 2 r := by omega
        refine ev_t (fun e => a1 ((nI_eq (b := 1) (by omega) (by omega)).mp e)) (ev_b (a := Value.ref 79) rfl (ev_i rfl (ev_cI e2 (ev_i (rk_ok hR) (ev_cL i1 (ev_cI (pe_14 _ _) ?_))))))
        rw [ar14 x.1 (by omega)]
        rw [nI_sub (show k + 1 + tk 1 r ≤ k + 1 + tk 2 r by omega), show nI n - 1 = nI (n - 1) from nI_sub (b := 1) n1, nI_sub (show k ≤ k + 1 + tk 1 r by omega), show nI (k + 1 + tk 1 r - k) - 1 = nI (k + 1 + tk 1 r - k - 1) from nI_sub (b := 1) (by omega), show k + 1 + tk 1 r - k - 1 = tk 1 r by omega, show k + 1 + tk 2 r - (k + 1 + tk 1 r) = tk 2 r - tk 1 r by omega]
        by_cases a2 : arN x.1 = 2
        · rw [if_pos a2] at rq
          rw [a2] at nn
          refine ev_f (fun e => e (by rw [a2]; rfl)) (ev_i (rk_ok hR) (ev_cL (c_101 hN hR pa pb t1 (by omega) (by omega)) (ev_i (rk_ok hR) (ev_cL (e_15u hR pb (by omega) (by omega)) ?_))))
          rw [lN_mul, lN_add, lN_add, lN_add]
          refine congrArg (fun z => some (Sum.inl (some (Value.long (lN z)), fx V I L R ++ tl))) ?_
          rw [rq]
          omega
        · rw [if_neg a2] at rq
          have a3 : arN x.1 = 3 := by omega
          rw [a3] at nn
          obtain ⟨q3, d2, -, u3, u4', -⟩ := fm_part ho hdr (p := 2) (by omega)
          have u4 : 1 + tk 3 r = 1 + tk 2 r + tk 1 (l.drop (k + 1 + tk 2 r)) := u4'
          have c2 := ct_part ho hdr (p := 2) (by omega)
          have i2 := ih (k + 1 + tk 2 r) K (by omega) q3 (by omega)
          have pb2 : pcN c x.1 2 = pcN c x.1 1 := by
            have key : ∀ s, s < 21 → arN s = 3 → twN s 2 = twN s 1 ∧ s ≠ 19 := by decide
            obtain ⟨k1, k2⟩ := key x.1 (by omega) a3
            unfold pcN pwN
            rw [if_neg (fun e => k2 e.1), if_neg (fun e => k2 e.1), k1]
          rw [c2, d2, ← hc, pb2] at i2
          refine ev_t (fun e => a2 ((nI_eq (b := 2) (by omega) (by omega)).mp e)) (ev_i (rk_ok hR) ?_)
          rw [nI_add, show k + 1 + tk 1 r + (tk 2 r - tk 1 r) = k + 1 + tk 2 r by omega, nI_sub (show tk 1 r ≤ n - 1 by omega), nI_sub (show tk 2 r - tk 1 r ≤ n - 1 - tk 1 r by omega)]
          refine ev_cL i2 (ev_i (rk_ok hR) (ev_cL (c_102 hN hR pa pb t1 (by omega) (by omega) (by omega)) (ev_i (rk_ok hR) (ev_cL (e_15u hR pb (by omega) (by omega)) (ev_i (rk_ok hR) (ev_cL (e_15u hR pb (by omega) (by omega)) ?_))))))
          rw [lN_mul, lN_add, lN_add, lN_mul, lN_add, lN_add]
          refine congrArg (fun z => some (Sum.inl (some (Value.long (lN z)), fx V I L R ++ tl))) ?_
          rw [rq]
          omega
