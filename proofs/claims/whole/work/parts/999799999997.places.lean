/-! ===== search: what a tree of up to five nodes comes to, by its place ===== -/
def smpS (s : Nat) : Prop := s < 5 ∨ s = 7 ∨ s = 8 ∨ (10 ≤ s ∧ s ≤ 14)
def smB (s : Nat) : Bool := decide (s < 5) || decide (s = 7) || decide (s = 8) || (decide (10 ≤ s) && decide (s ≤ 14))
theorem smB_t {s : Nat} (h : smB s = true) : smpS s := by
  unfold smB at h
  unfold smpS
  rw [Bool.or_eq_true, Bool.or_eq_true, Bool.or_eq_true, Bool.and_eq_true, decide_eq_true_iff, decide_eq_true_iff, decide_eq_true_iff, decide_eq_true_iff, decide_eq_true_iff] at h
  omega
theorem u4_smp : ∀ n, n < 6 → 1 ≤ n → ∀ s, s < 21 → (uW 4 s n = 0 ∨ smB s = true) := by decide +kernel
theorem u4_t : uT 4 1 = 14 ∧ uT 4 2 = 28 ∧ uT 4 3 = 1036 ∧ uT 4 4 = 5992 ∧ uT 4 5 = 160944 := by decide +kernel
theorem u4_w : ∀ n, n < 6 → 2 ≤ n → (∀ s, s < 7 → uW 4 s n = 0) ∧ uW 4 7 n = uT 4 (n - 1) ∧ uW 4 8 n = uT 4 (n - 1) ∧ uW 4 9 n = 0 ∧ (∀ s, s < 15 → 10 ≤ s → uW 4 s n = s2 4 4 (n - 1) (n - 2)) ∧ sF 4 n 15 = uT 4 n := by decide +kernel
theorem u4_1 : (∀ s, s < 5 → uW 4 s 1 = if s = 0 then 10 else 1) ∧ sF 4 1 5 = 14 ∧ (∀ s, s < 5 → sF 4 1 s = if s = 0 then 0 else 9 + s) := by decide +kernel
theorem pc4 : ∀ s, s < 15 → 7 ≤ s → s ≠ 9 → pcN 4 s 0 = 4 ∧ pcN 4 s 1 = 4 := by decide
theorem smpS_20 {s : Nat} (h : smpS s) : s < 15 := by unfold smpS at h; omega
/-! which tree -/
theorem sF_le {c n s t : Nat} (h : s ≤ t) : sF c n s ≤ sF c n t := by
  obtain ⟨d, rfl⟩ : ∃ d, t = s + d := ⟨t - s, by omega⟩
  clear h
  induction d with
  | zero => exact Nat.le_refl _
  | succ d ih => exact Nat.le_trans ih (Nat.le_add_right _ _)
theorem pk_at {c n s r : Nat} (hs : s ≤ 20) (hr : r < uW c s n) : ∀ (m s0 : Nat), m + s0 = 20 → s0 ≤ s → pk c n m s0 (sF c n s - sF c n s0 + r) = (s, r) := by
  intro m
  induction m with
  | zero =>
    intro s0 h0 h1
    obtain rfl : s0 = s := by omega
    show (s0, sF c n s0 - sF c n s0 + r) = _
    rw [Nat.sub_self, Nat.zero_add]
  | succ m ih =>
    intro s0 h0 h1
    rw [pk]
    by_cases q : s0 = s
    · subst q
      rw [Nat.sub_self, Nat.zero_add, if_pos hr]
    · have h2 : sF c n (s0 + 1) ≤ sF c n s := sF_le (by omega)
      have h3 : sF c n (s0 + 1) = sF c n s0 + uW c s0 n := rfl
      rw [if_neg (by omega), show sF c n s - sF c n s0 + r - uW c s0 n = sF c n s - sF c n (s0 + 1) + r by omega]
      exact ih (s0 + 1) (by omega) (by omega)
theorem pk_0 {c n s r : Nat} (hs : s ≤ 20) (hr : r < uW c s n) : pk c n 20 0 (sF c n s + r) = (s, r) := by
  have h := pk_at hs hr 20 0 rfl (Nat.zero_le s)
  rw [show sF c n 0 = 0 from rfl, Nat.sub_zero] at h
  exact h
theorem s2_le {a b M s t : Nat} (h : s ≤ t) : s2 a b M s ≤ s2 a b M t := by
  obtain ⟨d, rfl⟩ : ∃ d, t = s + d := ⟨t - s, by omega⟩
  clear h
  induction d with
  | zero => exact Nat.le_refl _
  | succ d ih => exact Nat.le_trans ih (Nat.le_add_right _ _)
theorem pk2_at {a b M f r : Nat} (hr : r < uT a f * uT b (M - f)) : ∀ (m f0 : Nat), 1 ≤ f0 → f0 ≤ f → f < f0 + m → pk2 a b M m f0 (s2 a b M (f - 1) - s2 a b M (f0 - 1) + r) = (f, r) := by
  intro m
  induction m with
  | zero => intro f0 h1 h2 h3; omega
  | succ m ih =>
    intro f0 h1 h2 h3
    rw [pk2]
    by_cases q : f0 = f
    · subst q
      rw [Nat.sub_self, Nat.zero_add, if_pos hr]
    · obtain ⟨g, rfl⟩ : ∃ g, f0 = g + 1 := ⟨f0 - 1, by omega⟩
      have e : s2 a b M (g + 1) = s2 a b M g + uT a (g + 1) * uT b (M - (g + 1)) := rfl
      have h4 : s2 a b M (g + 1) ≤ s2 a b M (f - 1) := s2_le (by omega)
      rw [show g + 1 - 1 = g by omega, if_neg (by omega), show s2 a b M (f - 1) - s2 a b M g + r - uT a (g + 1) * uT b (M - (g + 1)) = s2 a b M (f - 1) - s2 a b M (g + 1 + 1 - 1) + r by rw [show g + 1 + 1 - 1 = g + 1 by omega]; omega]
      exact ih (g + 1 + 1) (by omega) (by omega) (by omega)
theorem pk2_0 {a b M f r : Nat} (hr : r < uT a f * uT b (M - f)) (h1 : 1 ≤ f) (h2 : f < M) : pk2 a b M (M - 1) 1 (s2 a b M (f - 1) + r) = (f, r) := by
  have h := pk2_at hr (M - 1) 1 (Nat.le_refl 1) h1 (by omega)
  rw [show s2 a b M (1 - 1) = 0 from rfl, Nat.sub_zero] at h
  exact h
/-! what it comes to -/
def on1 (len : Nat) (row : Nat → Int32) (s : Nat) (a : Int32) : Option Int32 := if s = 7 then some (-a) else if a < 0 ∨ nI len ≤ a then none else some (row a.toNatClampNeg)
def on2 (s : Nat) (a b : Int32) : Option Int32 := if (s = 13 ∨ s = 14) ∧ b = 0 then none else some (twoV s a b (0, 0, 0, 0)).1
def vP (x y z : Int32) (len : Nat) (row : Nat → Int32) : Nat → Nat → Nat → Option Int32
  | 0, _, _ => none
  | d + 1, n, p => if (pk 4 n 20 0 p).1 < 7 then some (lfV x y z len (pk 4 n 20 0 p).1 (if (pk 4 n 20 0 p).1 = 0 then nI (pk 4 n 20 0 p).2 else 0) (0, 0, 0, 0))
    else if (pk 4 n 20 0 p).1 < 10 then (vP x y z len row d (n - 1) (pk 4 n 20 0 p).2).bind (on1 len row (pk 4 n 20 0 p).1)
    else (vP x y z len row d (pk2 4 4 (n - 1) (n - 2) 1 (pk 4 n 20 0 p).2).1 ((pk2 4 4 (n - 1) (n - 2) 1 (pk 4 n 20 0 p).2).2 / uT 4 (n - 1 - (pk2 4 4 (n - 1) (n - 2) 1 (pk 4 n 20 0 p).2).1))).bind (fun a => (vP x y z len row d (n - 1 - (pk2 4 4 (n - 1) (n - 2) 1 (pk 4 n 20 0 p).2).1) ((pk2 4 4 (n - 1) (n - 2) 1 (pk 4 n 20 0 p).2).2 % uT 4 (n - 1 - (pk2 4 4 (n - 1) (n - 2) 1 (pk 4 n 20 0 p).2).1))).bind (on2 (pk 4 n 20 0 p).1 a))
def vQ (x y z : Int32) (len : Nat) (row : Nat → Int32) (n p : Nat) : Option Int32 := vP x y z len row n n p
/-- a tree by its place: its sort, and its parts by theirs -/
theorem un4 {n p : Nat} (n1 : 1 ≤ n) (n5 : n ≤ 5) (hp : p < uT 4 n) : ∃ s r, pk 4 n 20 0 p = (s, r) ∧ smpS s ∧ r < uW 4 s n ∧ ((s < 5 ∧ n = 1 ∧ un 4 n p = [(s, if s = 0 then r else 0)] ∧ (s = 0 → r < 10)) ∨ ((s = 7 ∨ s = 8) ∧ 2 ≤ n ∧ r < uT 4 (n - 1) ∧ un 4 n p = (s, 0) :: un 4 (n - 1) r) ∨ ((10 ≤ s ∧ s ≤ 14) ∧ 3 ≤ n ∧ ∃ f q, pk2 4 4 (n - 1) (n - 2) 1 r = (f, q) ∧ 1 ≤ f ∧ f + 1 < n ∧ q / uT 4 (n - 1 - f) < uT 4 f ∧ q % uT 4 (n - 1 - f) < uT 4 (n - 1 - f) ∧ un 4 n p = (s, 0) :: (un 4 f (q / uT 4 (n - 1 - f)) ++ un 4 (n - 1 - f) (q % uT 4 (n - 1 - f))))) := by
  obtain ⟨e, ht, hs, h20, hw⟩ := un_prt (c := 4) (by omega) n1 (by omega) hp
  obtain ⟨q, eq⟩ : ∃ q, q = pk 4 n 20 0 p := ⟨_, rfl⟩
  obtain ⟨s, r⟩ := q
  rw [← eq] at e ht hs h20 hw
  dsimp only at e ht hs h20 hw
  have hS : smpS s := by
    rcases u4_smp n (by omega) n1 s (by omega) with h | h
    · omega
    · exact smB_t h
  have h15 := smpS_20 hS
  have us := u_s n1 (by omega) (show 4 < 6 by omega) (s := s) (by omega) (by omega)
  refine ⟨s, r, eq.symm, hS, hw, ?_⟩
  unfold smpS at hS
  rcases (by omega : s < 5 ∨ (s = 7 ∨ s = 8) ∨ (10 ≤ s ∧ s ≤ 14)) with k | k | k
  · have ar : arN s = 0 := if_pos (by omega)
    have ep : prt 4 n s r = [] := if_pos ar
    rw [ep] at e
    obtain ⟨u1, u2⟩ := us.2.1 ar
    refine .inl ⟨k, u1, e, fun h => by omega⟩
  · have ar : arN s = 1 := by unfold arN; rw [if_neg (by omega), if_pos (by omega)]
    obtain ⟨p0, -⟩ := pc4 s h15 (by omega) (by omega)
    have ep : prt 4 n s r = [(4, n - 1, r)] := by unfold prt; rw [if_neg (by omega), if_pos ar, p0]
    rw [ep] at e ht
    refine .inr (.inl ⟨k, by have := ht.2.1; dsimp only at this; omega, ht.2.2.2.1, ?_⟩)
    rw [e, if_neg (by omega)]
    show _ :: (un 4 (n - 1) r ++ []) = _
    rw [List.append_nil]
  · have ar : arN s = 2 := by unfold arN; rw [if_neg (by omega), if_neg (by omega), if_pos (by omega)]
    obtain ⟨p0, p1⟩ := pc4 s h15 (by omega) (by omega)
    obtain ⟨t, et⟩ : ∃ t, t = pk2 4 4 (n - 1) (n - 2) 1 r := ⟨_, rfl⟩
    obtain ⟨f, q⟩ := t
    have ep : prt 4 n s r = [(4, f, q / uT 4 (n - 1 - f)), (4, n - 1 - f, q % uT 4 (n - 1 - f))] := by
      unfold prt
      rw [if_neg (by omega), if_neg (by omega), if_pos ar, p0, p1, ← et]
    rw [ep] at e ht
    obtain ⟨-, a1, -, a3, -, b1, -, b3, -⟩ := ht
    dsimp only at a1 a3 b1 b3
    refine .inr (.inr ⟨k, by omega, f, q, et.symm, a1, by omega, a3, b3, ?_⟩)
    rw [e, if_neg (by omega)]
    show _ :: (un 4 f _ ++ (un 4 (n - 1 - f) _ ++ [])) = _
    rw [List.append_nil]
theorem vP_f {x y z : Int32} {len : Nat} {row : Nat → Int32} : ∀ (n d d' p : Nat), 1 ≤ n → n ≤ 5 → p < uT 4 n → n ≤ d → n ≤ d' → vP x y z len row d n p = vP x y z len row d' n p := by
  intro n
  induction n using Nat.strongRecOn with
  | ind n ih =>
    intro d d' p n1 n5 hp h1 h2
    obtain ⟨d, rfl⟩ : ∃ k, d = k + 1 := ⟨d - 1, by omega⟩
    obtain ⟨d', rfl⟩ : ∃ k, d' = k + 1 := ⟨d' - 1, by omega⟩
    obtain ⟨s, r, e, hS, hw, h⟩ := un4 n1 n5 hp
    rw [vP, vP, e]
    dsimp only
    rcases h with ⟨k, -⟩ | ⟨k, k2, hr, -⟩ | ⟨k, k2, f, q, e2, f1, f2, a3, b3, -⟩
    · rw [if_pos (show s < 7 by omega), if_pos (show s < 7 by omega)]
    · rw [if_neg (show ¬ s < 7 by omega), if_pos (show s < 10 by omega), if_neg (show ¬ s < 7 by omega), if_pos (show s < 10 by omega), ih (n - 1) (by omega) d d' r (by omega) (by omega) hr (by omega) (by omega)]
    · rw [if_neg (show ¬ s < 7 by omega), if_neg (show ¬ s < 10 by omega), if_neg (show ¬ s < 7 by omega), if_neg (show ¬ s < 10 by omega), e2]
      dsimp only
      rw [ih f (by omega) d d' _ f1 (by omega) a3 (by omega) (by omega), ih (n - 1 - f) (by omega) d d' _ (by omega) (by omega) b3 (by omega) (by omega)]
theorem vQ_0 {x y z : Int32} {len : Nat} {row : Nat → Int32} {p : Nat} (hp : p < 14) : vQ x y z len row 1 p = some (if p < 10 then nI p else lfV x y z len (p - 9) 0 (0, 0, 0, 0)) := by
  obtain ⟨w1, w2, w3⟩ := u4_1
  unfold vQ
  by_cases c : p < 10
  · have e : pk 4 1 20 0 p = (0, p) := by
      have := pk_0 (c := 4) (n := 1) (s := 0) (r := p) (by omega) (by rw [w1 0 (by omega), if_pos rfl]; exact c)
      rw [show sF 4 1 0 = 0 from rfl, Nat.zero_add] at this
      exact this
    rw [vP, e, if_pos c]
    rfl
  · have e : pk 4 1 20 0 p = (p - 9, 0) := by
      have := pk_0 (c := 4) (n := 1) (s := p - 9) (r := 0) (by omega) (by rw [w1 (p - 9) (by omega), if_neg (by omega)]; omega)
      rw [w3 (p - 9) (by omega), if_neg (by omega), show 9 + (p - 9) + 0 = p by omega] at this
      exact this
    rw [vP, e, if_neg c]
    dsimp only
    rw [if_pos (by omega), if_neg (by omega)]
theorem vQ_1 {x y z : Int32} {len : Nat} {row : Nat → Int32} {n s r : Nat} (n2 : 2 ≤ n) (n5 : n ≤ 5) (hs : s = 7 ∨ s = 8) (hr : r < uT 4 (n - 1)) : vQ x y z len row n (sF 4 n s + r) = (vQ x y z len row (n - 1) r).bind (on1 len row s) := by
  obtain ⟨w0, w7, w8, -⟩ := u4_w n (by omega) n2
  have e : pk 4 n 20 0 (sF 4 n s + r) = (s, r) := pk_0 (by omega) (by rcases hs with rfl | rfl <;> omega)
  unfold vQ
  obtain ⟨d, rfl⟩ : ∃ k, n = k + 1 := ⟨n - 1, by omega⟩
  rw [vP, e]
  dsimp only
  rw [if_neg (by omega), if_pos (by omega)]
  rfl
theorem vQ_2 {x y z : Int32} {len : Nat} {row : Nat → Int32} {n s f a b : Nat} (n3 : 3 ≤ n) (n5 : n ≤ 5) (hs : 10 ≤ s ∧ s ≤ 14) (f1 : 1 ≤ f) (f2 : f + 1 < n) (ha : a < uT 4 f) (hb : b < uT 4 (n - 1 - f)) : vQ x y z len row n (sF 4 n s + (s2 4 4 (n - 1) (f - 1) + (a * uT 4 (n - 1 - f) + b))) = (vQ x y z len row f a).bind (fun u => (vQ x y z len row (n - 1 - f) b).bind (on2 s u)) := by
  obtain ⟨w0, w7, w8, w9, w10, -⟩ := u4_w n (by omega) (by omega)
  have hc : 0 < uT 4 (n - 1 - f) := by omega
  have hab : a * uT 4 (n - 1 - f) + b < uT 4 f * uT 4 (n - 1 - f) := by
    have : (a + 1) * uT 4 (n - 1 - f) ≤ uT 4 f * uT 4 (n - 1 - f) := Nat.mul_le_mul_right _ ha
    rw [Nat.succ_mul] at this
    omega
  have h2 := pk2_0 (a := 4) (b := 4) (M := n - 1) hab f1 (by omega)
  rw [show n - 1 - 1 = n - 2 by omega] at h2
  have hw : s2 4 4 (n - 1) (f - 1) + (a * uT 4 (n - 1 - f) + b) < uW 4 s n := by
    rw [w10 s (by omega) hs.1]
    have e1 : s2 4 4 (n - 1) f = s2 4 4 (n - 1) (f - 1) + uT 4 f * uT 4 (n - 1 - f) := by
      obtain ⟨g, rfl⟩ : ∃ g, f = g + 1 := ⟨f - 1, by omega⟩
      rfl
    have := s2_le (a := 4) (b := 4) (M := n - 1) (s := f) (t := n - 2) (by omega)
    omega
  have e : pk 4 n 20 0 (sF 4 n s + (s2 4 4 (n - 1) (f - 1) + (a * uT 4 (n - 1 - f) + b))) = (s, s2 4 4 (n - 1) (f - 1) + (a * uT 4 (n - 1 - f) + b)) := pk_0 (by omega) hw
  unfold vQ
  obtain ⟨d, rfl⟩ : ∃ k, n = k + 1 := ⟨n - 1, by omega⟩
  rw [vP, e]
  dsimp only
  rw [if_neg (by omega), if_neg (by omega), h2]
  dsimp only
  rw [show (a * uT 4 (d + 1 - 1 - f) + b) / uT 4 (d + 1 - 1 - f) = a by rw [Nat.mul_comm, Nat.mul_add_div hc, Nat.div_eq_of_lt hb]; omega, show (a * uT 4 (d + 1 - 1 - f) + b) % uT 4 (d + 1 - 1 - f) = b by rw [Nat.mul_comm, Nat.mul_add_mod, Nat.mod_eq_of_lt hb], vP_f f d f a f1 (by omega) ha (by omega) (Nat.le_refl f), vP_f (d + 1 - 1 - f) d (d + 1 - 1 - f) b (by omega) (by omega) hb (by omega) (Nat.le_refl _)]
/-! the tree itself -/
theorem un4_F {n p : Nat} (n1 : 1 ≤ n) (n5 : n ≤ 5) (hp : p < uT 4 n) : okF [(0, 1, 2)] (un 4 n p) ∧ (un 4 n p).length = n ∧ isF 1 (un 4 n p) := by
  have h := cx_un n [(4, n, p)] [(0, 1, 2)] (by show n + 0 ≤ n; omega) ⟨by omega, n1, by show n ≤ 12; omega, hp, trivial⟩ ⟨by show 0 = 4 % 2; decide, by show 2 = 4 / 2; decide, by show 1 + n ≤ 13; omega, trivial⟩
  have e : tun [(4, n, p)] = un 4 n p := List.append_nil _
  rw [e] at h
  obtain ⟨u1, u2, -⟩ := un_form n (by omega) n1 4 p (by omega) hp
  exact ⟨h.1, u2, u1⟩
theorem un4_s : ∀ (n p : Nat), 1 ≤ n → n ≤ 5 → p < uT 4 n → ∀ q, q ∈ un 4 n p → smpS q.1 ∧ (q.1 = 0 → q.2 < 10) ∧ (q.1 ≠ 0 → q.2 = 0) := by
  intro n
  induction n using Nat.strongRecOn with
  | ind n ih =>
    intro p n1 n5 hp q hq
    obtain ⟨s, r, e, hS, hw, h⟩ := un4 n1 n5 hp
    rcases h with ⟨k, k1, e2, e3⟩ | ⟨k, k2, hr, e2⟩ | ⟨k, k2, f, t, e3, f1, f2, a3, b3, e2⟩
    · rw [e2] at hq
      rw [List.mem_singleton.mp hq]
      refine ⟨hS, fun h => ?_, fun h => if_neg h⟩
      show (if s = 0 then r else 0) < 10
      rw [if_pos h]
      exact e3 h
    · rw [e2] at hq
      rcases List.mem_cons.mp hq with h | h
      · rw [h]
        exact ⟨hS, fun h => absurd h (by show ¬ s = 0; omega), fun _ => rfl⟩
      · exact ih (n - 1) (by omega) r (by omega) (by omega) hr q h
    · rw [e2] at hq
      rcases List.mem_cons.mp hq with h | h
      · rw [h]
        exact ⟨hS, fun h => absurd h (by show ¬ s = 0; omega), fun _ => rfl⟩
      · rcases List.mem_append.mp h with h | h
        · exact ih f (by omega) _ f1 (by omega) a3 q h
        · exact ih (n - 1 - f) (by omega) _ (by omega) (by omega) b3 q h
/-- a row of simple sorts that is wanted in one way is wanted in another -/
theorem okF_ds : ∀ (l : List (Nat × Nat)) (cs ds : List (Nat × Nat × Nat)), (∀ q, q ∈ l → smpS q.1) → cs.length = ds.length → (∀ (k : Nat) (c d : Nat × Nat × Nat), cs[k]? = some c → ds[k]? = some d → c.1 = d.1 ∧ c.2.1 = d.2.1) → okF cs l → okF ds l := by
  intro l
  induction l with
  | nil =>
    intro cs ds hl he hc h
    cases cs with
    | nil =>
      cases ds with
      | nil => exact h
      | cons d ds => exact absurd he (by simp)
    | cons c cs => exact absurd h (fun e => e)
  | cons q l ih =>
    intro cs ds hl he hc h
    cases cs with
    | nil => exact absurd h (fun e => e)
    | cons c cs =>
      cases ds with
      | nil => exact absurd he (by simp)
      | cons d ds =>
        obtain ⟨h1, h2, h3, h4, h5, h6⟩ := h
        have e0 := hc 0 c d rfl rfl
        have sm := hl q (List.mem_cons_self ..)
        unfold smpS at sm
        refine ⟨h1, by rw [← e0.1]; exact h2, by rw [← e0.2]; exact h3, fun _ => ⟨by omega, by omega⟩, fun _ => by omega, ?_⟩
        refine ih _ _ (fun q hq => hl q (List.mem_cons_of_mem _ hq)) ?_ ?_ h6
        · rw [List.length_append, List.length_append]
          unfold kid
          rw [List.length_map, List.length_map]
          have : cs.length = ds.length := by simpa using he
          omega
        · intro k c' d' hk1 hk2
          by_cases z : k < arN q.1
          · have l1 : (kid q.1 c).length = arN q.1 := by unfold kid; rw [List.length_map, List.length_range]
            have l2 : (kid q.1 d).length = arN q.1 := by unfold kid; rw [List.length_map, List.length_range]
            rw [List.getElem?_append_left (by omega)] at hk1 hk2
            unfold kid at hk1 hk2
            rw [List.getElem?_map, List.getElem?_range z] at hk1 hk2
            rw [← Option.some.inj hk1, ← Option.some.inj hk2]
            exact ⟨rfl, by show c.2.1 + 1 = d.2.1 + 1; rw [e0.2]⟩
          · have l1 : (kid q.1 c).length = arN q.1 := by unfold kid; rw [List.length_map, List.length_range]
            have l2 : (kid q.1 d).length = arN q.1 := by unfold kid; rw [List.length_map, List.length_range]
            rw [List.getElem?_append_right (by omega), l1] at hk1
            rw [List.getElem?_append_right (by omega), l2] at hk2
            exact hc (k - arN q.1 + 1) c' d' hk1 hk2
theorem un4_0 {n p : Nat} (n1 : 1 ≤ n) (n5 : n ≤ 5) (hp : p < uT 4 n) : okF [(0, 1, 0)] (un 4 n p) := by
  refine okF_ds _ [(0, 1, 2)] _ (fun q hq => (un4_s n p n1 n5 hp q hq).1) rfl (fun k c d h1 h2 => ?_) (un4_F n1 n5 hp).1
  cases k with
  | zero =>
    rw [← Option.some.inj h1, ← Option.some.inj h2]
    exact ⟨rfl, rfl⟩
  | succ k => exact absurd h1 (by simp)
/-! running it -/
def uz (n p : Nat) : List (Nat × Nat) := (un 4 n p).map (fun q => (q.1, 0))
theorem uz_F {n p : Nat} (n1 : 1 ≤ n) (n5 : n ≤ 5) (hp : p < uT 4 n) : isF 1 (uz n p) ∧ (uz n p).length = n := by
  have o := okF_map _ _ (un4_F n1 n5 hp).1
  exact ⟨okF_F _ _ o, by unfold uz; rw [List.length_map]; exact (un4_F n1 n5 hp).2.1⟩
theorem lfV_st {x y z : Int32} {len : Nat} {row : Nat → Int32} {s : Nat} {c : Int32} {st : eSt} (h : s < 5) : lfV x y z len s c st = lfV x y z len s c (0, 0, 0, 0) := by
  unfold lfV
  rw [if_neg (show ¬ s = 5 by omega), if_neg (show ¬ s = 6 by omega), if_neg (show ¬ s = 5 by omega), if_neg (show ¬ s = 6 by omega)]
theorem twoV_1 {s : Nat} {a b : Int32} {st : eSt} (hs : 10 ≤ s ∧ s ≤ 14) : (∀ w, on2 s a b = some w → twoV s a b st = (w, st)) ∧ (on2 s a b = none → (twoV s a b st).2.1 ≠ 0) := by
  unfold on2
  rcases (by omega : s = 10 ∨ s = 11 ∨ s = 12 ∨ s = 13 ∨ s = 14) with rfl | rfl | rfl | rfl | rfl
  · rw [if_neg (fun h => by rcases h.1 with h | h <;> exact absurd h (by decide))]
    exact ⟨fun w h => by rw [← Option.some.inj h]; rfl, fun h => by cases h⟩
  · rw [if_neg (fun h => by rcases h.1 with h | h <;> exact absurd h (by decide))]
    exact ⟨fun w h => by rw [← Option.some.inj h]; rfl, fun h => by cases h⟩
  · rw [if_neg (fun h => by rcases h.1 with h | h <;> exact absurd h (by decide))]
    exact ⟨fun w h => by rw [← Option.some.inj h]; rfl, fun h => by cases h⟩
  · have e : ∀ st : eSt, twoV 13 a b st = if b = 0 then (0, ((1, st.2) : eSt)) else (a / b, st) := fun st => rfl
    by_cases c : b = 0
    · rw [if_pos ⟨.inl rfl, c⟩, e, if_pos c]
      exact ⟨fun w h => (by cases h), fun _ => by show (1 : Int32) ≠ 0; decide⟩
    · rw [if_neg (fun h => c h.2), e, e, if_neg c, if_neg c]
      exact ⟨fun w h => by rw [← Option.some.inj h], fun h => by cases h⟩
  · have e : ∀ st : eSt, twoV 14 a b st = if b = 0 then (0, ((1, st.2) : eSt)) else (a - a / b * b, st) := fun st => rfl
    by_cases c : b = 0
    · rw [if_pos ⟨.inr rfl, c⟩, e, if_pos c]
      exact ⟨fun w h => (by cases h), fun _ => by show (1 : Int32) ≠ 0; decide⟩
    · rw [if_neg (fun h => c h.2), e, e, if_neg c, if_neg c]
      exact ⟨fun w h => by rw [← Option.some.inj h], fun h => by cases h⟩
theorem oneV_1 {len : Nat} {row : Nat → Int32} {s : Nat} {a : Int32} {st : eSt} (hs : s = 7 ∨ s = 8) : (∀ w, on1 len row s a = some w → oneV len row s a st = (w, st)) ∧ (on1 len row s a = none → (oneV len row s a st).2.1 ≠ 0) := by
  unfold on1
  rcases hs with rfl | rfl
  · rw [if_pos rfl]
    exact ⟨fun w h => by rw [← Option.some.inj h]; rfl, fun h => by cases h⟩
  · rw [if_neg (by decide)]
    have e : oneV len row 8 a st = if a < 0 ∨ nI len ≤ a then (0, ((2, st.2) : eSt)) else (row a.toNatClampNeg, st) := rfl
    rw [e]
    by_cases c : a < 0 ∨ nI len ≤ a
    · rw [if_pos c, if_pos c]
      exact ⟨fun w h => (by cases h), fun _ => by show (2 : Int32) ≠ 0; decide⟩
    · rw [if_neg c, if_neg c]
      exact ⟨fun w h => by rw [← Option.some.inj h], fun h => by cases h⟩
theorem evP_n {len : Nat} {row : Nat → Int32} {s : Nat} {a : Int32} {st : eSt} {e2 e3 : eSt → Int32 × eSt} (h : st.1 ≠ 0) : (evP len row s a st e2 e3).2.1 ≠ 0 := by
  unfold evP
  rw [if_pos h]
  exact h
theorem evP_1 {len : Nat} {row : Nat → Int32} {s : Nat} {a : Int32} {st : eSt} {e2 e3 : eSt → Int32 × eSt} (h : st.1 = 0) (hs : s = 7 ∨ s = 8) : evP len row s a st e2 e3 = oneV len row s a st := by
  unfold evP evQ
  rw [if_neg (fun q => q h), if_neg (by omega), if_neg (by omega), if_pos (by omega)]
theorem evP_2 {len : Nat} {row : Nat → Int32} {s : Nat} {a : Int32} {st : eSt} {e2 e3 : eSt → Int32 × eSt} (h : st.1 = 0) (hs : 10 ≤ s ∧ s ≤ 14) : evP len row s a st e2 e3 = if (e2 st).2.1 ≠ 0 then e2 st else twoV s a (e2 st).1 (e2 st).2 := by
  unfold evP evQ evR
  rw [if_neg (fun q => q h), if_neg (by omega), if_neg (by omega), if_neg (by omega), if_neg (by omega), if_neg (by omega)]
  by_cases q : (e2 st).2.1 ≠ 0
  · rw [if_pos q, if_pos q]
  · rw [if_neg q, if_neg q, if_neg (by omega)]
set_option maxRecDepth 100000 in
theorem ev4 {x y z : Int32} {len : Nat} {row : Nat → Int32} {lm : Nat} {l0 : List (Nat × Nat)} {v : Nat → Int32} : ∀ (n p : Nat), 1 ≤ n → n ≤ 5 → p < uT 4 n → ∀ (k d u : Nat) (c1 c2 : Int32) (r : List (Nat × Nat)), l0.drop k = uz n p ++ r → (∀ j q, (un 4 n p)[j]? = some q → v (k + j) = nI q.2) → n ≤ d → u + n ≤ lm → (∀ w, vQ x y z len row n p = some w → evN x y z len row lm (sL l0) v (enL l0) d k (0, u, c1, c2) = (w, (0, u + n, c1, c2))) ∧ (vQ x y z len row n p = none → (evN x y z len row lm (sL l0) v (enL l0) d k (0, u, c1, c2)).2.1 ≠ 0) := by
  intro n
  induction n using Nat.strongRecOn with
  | ind n ih =>
    intro p n1 n5 hp k d u c1 c2 r hl hv hd hu
    obtain ⟨d, rfl⟩ : ∃ k, d = k + 1 := ⟨d - 1, by omega⟩
    obtain ⟨s, t, e, hS, hw, h⟩ := un4 n1 n5 hp
    have hd0 : ∃ R, l0.drop k = (s, 0) :: R := by
      unfold uz at hl
      rcases h with ⟨-, -, e2, -⟩ | ⟨-, -, -, e2⟩ | ⟨-, -, f, q, -, -, -, -, -, e2⟩
      · rw [e2] at hl; exact ⟨_, hl⟩
      · rw [e2] at hl; exact ⟨_, hl⟩
      · rw [e2] at hl; exact ⟨_, hl⟩
    obtain ⟨R, hR⟩ := hd0
    have hs : sL l0 k = s := sL_at hR
    have unf : evN x y z len row lm (sL l0) v (enL l0) (d + 1) k (0, u, c1, c2) = (if s < 7 then (lfV x y z len s (v k) (0, u + 1, c1, c2), (0, u + 1, c1, c2)) else evP len row s (evN x y z len row lm (sL l0) v (enL l0) d (k + 1) (0, u + 1, c1, c2)).1 (evN x y z len row lm (sL l0) v (enL l0) d (k + 1) (0, u + 1, c1, c2)).2 (evN x y z len row lm (sL l0) v (enL l0) d (enL l0 (k + 1))) (evN x y z len row lm (sL l0) v (enL l0) d (enL l0 (enL l0 (k + 1))))) := by
      rw [evN, if_neg (fun q => q rfl), if_pos (show u < lm by omega), hs]
    rw [unf]
    have vq : vQ x y z len row n p = (if s < 7 then some (lfV x y z len s (if s = 0 then nI t else 0) (0, 0, 0, 0)) else if s < 10 then (vP x y z len row (n - 1) (n - 1) t).bind (on1 len row s) else (vP x y z len row (n - 1) (pk2 4 4 (n - 1) (n - 2) 1 t).1 ((pk2 4 4 (n - 1) (n - 2) 1 t).2 / uT 4 (n - 1 - (pk2 4 4 (n - 1) (n - 2) 1 t).1))).bind (fun a => (vP x y z len row (n - 1) (n - 1 - (pk2 4 4 (n - 1) (n - 2) 1 t).1) ((pk2 4 4 (n - 1) (n - 2) 1 t).2 % uT 4 (n - 1 - (pk2 4 4 (n - 1) (n - 2) 1 t).1))).bind (on2 s a))) := by
      unfold vQ
      obtain ⟨m, rfl⟩ : ∃ k, n = k + 1 := ⟨n - 1, by omega⟩
      rw [vP, e]
      rfl
    rw [vq]
    rcases h with ⟨k5, k1, e2, e3⟩ | ⟨k7, k2, hr, e2⟩ | ⟨k10, k3, f, q, e3, f1, f2, a3, b3, e2⟩
    · rw [if_pos (show s < 7 by omega), if_pos (show s < 7 by omega)]
      have hvk : v k = if s = 0 then nI t else 0 := by
        have := hv 0 (s, if s = 0 then t else 0) (by rw [e2]; rfl)
        rw [Nat.add_zero] at this
        rw [this]
        by_cases c : s = 0
        · exact (congrArg nI (if_pos c)).trans (if_pos c).symm
        · exact (congrArg nI (if_neg c)).trans (if_neg c).symm
      refine ⟨fun w hw => ?_, fun hw => by cases hw⟩
      rw [← Option.some.inj hw, hvk, lfV_st (row := row) k5, k1]
    · rw [if_neg (show ¬ s < 7 by omega), if_pos (show s < 10 by omega), if_neg (show ¬ s < 7 by omega)]
      have hl1 : l0.drop (k + 1) = uz (n - 1) t ++ r := by
        have := drop_s hR 0
        rw [Nat.add_zero, List.drop_zero] at this
        rw [this]
        unfold uz at hl ⊢
        rw [e2] at hl
        rw [hR] at hl
        exact (List.cons.inj hl).2
      obtain ⟨i1, i2⟩ := ih (n - 1) (by omega) t (by omega) (by omega) hr (k + 1) d (u + 1) c1 c2 r hl1 (fun j q hq => by
        have := hv (j + 1) q (by rw [e2]; exact hq)
        rw [show k + (j + 1) = k + 1 + j by omega] at this
        exact this) (by omega) (by omega)
      cases c : vQ x y z len row (n - 1) t with
      | none =>
        have c' : vP x y z len row (n - 1) (n - 1) t = none := c
        rw [c']
        exact ⟨fun w hw => (by cases hw), fun _ => evP_n (i2 c)⟩
      | some a =>
        have c' : vP x y z len row (n - 1) (n - 1) t = some a := c
        rw [c', i1 a c]
        dsimp only
        rw [evP_1 rfl k7, show u + 1 + (n - 1) = u + n by omega]
        obtain ⟨o1, o2⟩ := oneV_1 (len := len) (row := row) (a := a) (st := (0, u + n, c1, c2)) k7
        exact ⟨fun w hw => o1 w hw, fun hw => o2 hw⟩
    · rw [if_neg (show ¬ s < 7 by omega), if_neg (show ¬ s < 10 by omega), if_neg (show ¬ s < 7 by omega), e3]
      dsimp only
      rw [vP_f f (n - 1) f _ f1 (by omega) a3 (by omega) (Nat.le_refl f), vP_f (n - 1 - f) (n - 1) (n - 1 - f) _ (by omega) (by omega) b3 (by omega) (Nat.le_refl _)]
      generalize ha : q / uT 4 (n - 1 - f) = a at *
      generalize hb : q % uT 4 (n - 1 - f) = b at *
      have hl1 : l0.drop (k + 1) = uz f a ++ (uz (n - 1 - f) b ++ r) := by
        have := drop_s hR 0
        rw [Nat.add_zero, List.drop_zero] at this
        rw [this]
        unfold uz at hl ⊢
        rw [e2] at hl
        rw [hR] at hl
        have h2 := (List.cons.inj hl).2
        rw [h2, List.map_append]
        exact List.append_assoc _ _ _
      obtain ⟨F1, F2⟩ := uz_F f1 (by omega) a3
      have hen : enL l0 (k + 1) = k + 1 + f := by
        unfold enL
        rw [hl1, tk_app _ _ 1 F1, F2]
      have hl2 : l0.drop (k + 1 + f) = uz (n - 1 - f) b ++ r := by
        have := drop_s hR f
        rw [this]
        have h0 := drop_s hR 0
        rw [Nat.add_zero, List.drop_zero] at h0
        rw [← h0, hl1, List.drop_append_of_le_length (by omega), List.drop_of_length_le (by omega), List.nil_append]
      have la : (un 4 f a).length = f := (un4_F f1 (by omega) a3).2.1
      obtain ⟨i1, i2⟩ := ih f (by omega) a f1 (by omega) a3 (k + 1) d (u + 1) c1 c2 _ hl1 (fun j t hq => by
        have := hv (j + 1) t (by
          rw [e2]
          show (un 4 f a ++ un 4 (n - 1 - f) b)[j]? = some t
          rw [List.getElem?_append_left (List.getElem?_eq_some_iff.mp hq).1]
          exact hq)
        rw [show k + (j + 1) = k + 1 + j by omega] at this
        exact this) (by omega) (by omega)
      obtain ⟨j1, j2⟩ := ih (n - 1 - f) (by omega) b (by omega) (by omega) b3 (k + 1 + f) d (u + 1 + f) c1 c2 _ hl2 (fun j t hq => by
        have := hv (j + f + 1) t (by
          rw [e2]
          show (un 4 f a ++ un 4 (n - 1 - f) b)[j + f]? = some t
          rw [List.getElem?_append_right (by omega), la, Nat.add_sub_cancel]
          exact hq)
        rw [show k + (j + f + 1) = k + 1 + f + j by omega] at this
        exact this) (by omega) (by omega)
      cases c : vQ x y z len row f a with
      | none =>
        have c' : vP x y z len row f f a = none := c
        rw [c']
        exact ⟨fun w hw => (by cases hw), fun _ => evP_n (i2 c)⟩
      | some g =>
        have c' : vP x y z len row f f a = some g := c
        rw [c', i1 g c]
        dsimp only
        rw [evP_2 rfl k10, hen]
        cases c2' : vQ x y z len row (n - 1 - f) b with
        | none =>
          have c3 : vP x y z len row (n - 1 - f) (n - 1 - f) b = none := c2'
          rw [if_pos (j2 c2')]
          refine ⟨fun w hw => ?_, fun _ => j2 c2'⟩
          rw [show (some g).bind (fun a => (vP x y z len row (n - 1 - f) (n - 1 - f) b).bind (on2 s a)) = none by rw [c3]; rfl] at hw
          cases hw
        | some h =>
          have c3 : vP x y z len row (n - 1 - f) (n - 1 - f) b = some h := c2'
          rw [j1 h c2', if_neg (fun q => q rfl), show (some g).bind (fun a => (vP x y z len row (n - 1 - f) (n - 1 - f) b).bind (on2 s a)) = on2 s g h by rw [c3]; rfl, show u + 1 + f + (n - 1 - f) = u + n by omega]
          exact twoV_1 k10
