/-! ===== Ranks.grow(): the nodes of unr, one behind another ===== -/
theorem lM_i {n : Nat} (h : n < 2 ^ 62) : (lN n).toInt = (n : Int) := lg_ofNat_toInt (by omega)
theorem lM_le {a b : Nat} (ha : a < 2 ^ 62) (hb : b < 2 ^ 62) : lN a ≤ lN b ↔ a ≤ b := by
  rw [Int64.le_iff_toInt_le, lM_i ha, lM_i hb]
  omega
theorem lM_lt {a b : Nat} (ha : a < 2 ^ 62) (hb : b < 2 ^ 62) : lN a < lN b ↔ a < b := by
  rw [Int64.lt_iff_toInt_lt, lM_i ha, lM_i hb]
  omega
theorem lM_div {a b : Nat} (ha : a < 2 ^ 62) (hb : b < 2 ^ 62) : lN a / lN b = lN (a / b) := by
  have h1 : a / b < 2 ^ 62 := Nat.lt_of_le_of_lt (Nat.div_le_self a b) ha
  apply Int64.toInt_inj.mp
  rw [Int64.toInt_div_of_ne_left _ _ (fun e => by have e2 := congrArg Int64.toInt e; rw [lM_i ha] at e2; have e3 : (Int64.minValue).toInt = -9223372036854775808 := (by decide); omega), lM_i ha, lM_i hb, lM_i h1]
  rfl
theorem lM_mod {a b : Nat} (ha : a < 2 ^ 62) (hb : b < 2 ^ 62) : lN a - lN a / lN b * lN b = lN (a % b) := by
  rw [lM_div ha hb, lN_mul, lN_sub (Nat.div_mul_le_self a b)]
  congr 1
  have := Nat.div_add_mod a b
  rw [Nat.mul_comm] at this
  omega
theorem pc_eq : ∀ c, c < 6 → ∀ s, s < 21 → ∀ p, p < 2 → pv_12 (nI c) (nI s) (nI p) = nI (pcN c s p) := by decide +kernel
theorem pa_eq : ∀ s, s < 21 → pv_14 (nI s) = nI (arN s) := by decide +kernel
/-- Ranks in a heap, its tree at A -/
def rkH (h : am_H) (A : Nat) : Prop := ∃ fs : List Value, h[76]? = some (.inr (4, fs)) ∧ fs[0]? = some (.ref 77) ∧ fs[1]? = some (.ref 78) ∧ fs[3]? = some (.ref A) ∧ h[77]? = some (.inl (1, 1638, .inr (.inl tW))) ∧ h[78]? = some (.inl (1, 78, .inr (.inl tT)))
theorem tW_u {c s n : Nat} (hn : n < 13) : tW ((c * 21 + s) * 13 + n) = lN (uW c s n) := by
  unfold tW uW lN
  rw [show ((c * 21 + s) * 13 + n) % 13 = n by omega, show ((c * 21 + s) * 13 + n) / 13 = 21 * c + s by omega]
theorem tT_u {c n : Nat} (h1 : 1 ≤ n) (hn : n < 13) : tT (c * 13 + n) = lN (uT c n) := by
  unfold tT uT lN
  rw [if_neg (by omega), if_neg (by omega), if_neg (by omega), show c * 13 + n = 13 * c + n by omega]
theorem e_93 {h : am_H} {A c s n : Nat} (hR : rkH h A) (hc : c < 6) (hs : s < 21) (h1 : 1 ≤ n) (hn : n < 13) : fm_93 (.ref 76) (nI c) (nI s) (nI n) h = some (.inl (some (.long (lN (uW c s n))), h)) := by
  obtain ⟨fs, h6, f0, f1, f3, h7, h8⟩ := hR
  unfold fm_93 fg_93_0
  refine ev_f (nI_nle (by omega) (by omega)) ?_
  refine ev_f (nI_ge (a := n) (b := 13) hn (by decide)) ?_
  refine ev_b (ev_gR (x := .ref 77) h6 rfl f0 rfl) ?_
  rw [show (nI c * 21 + nI s) * 13 + nI n = nI ((c * 21 + s) * 13 + n) by rw [← nI_add, nI_mul, ← nI_add, nI_mul]; rfl]
  refine ev_b (ev_aL h7 (am_inb_n (by omega) (by omega))) ?_
  rw [nI_clamp (by omega), tW_u hn]
  rfl
theorem e_15u {h : am_H} {A c n : Nat} (hR : rkH h A) (hc : c < 6) (h1 : 1 ≤ n) (hn : n < 13) : fm_15 (.ref 76) (nI c) (nI n) h = some (.inl (some (.long (lN (uT c n))), h)) := by
  obtain ⟨fs, h6, f0, f1, f3, h7, h8⟩ := hR
  rw [e_15 h6 f1 h8]
  unfold rkTot
  rw [if_neg (nI_nle (by omega) (by omega)), if_neg (show ¬ (13 : Int32) ≤ nI n from nI_ge (a := n) (b := 13) hn (by decide)), if_neg (nI_pos (by omega)), if_neg (show ¬ (6 : Int32) ≤ nI c from nI_ge (a := c) (b := 6) hc (by decide)), rk_mul (b := 0), nI_clamp (by omega), tT_u h1 hn]
/-- a program of width 2 in a heap, of s items -/
def hg (h : am_H) (A B m : Nat) (fs : List Value) (s : Nat) (f : Nat → Int32) : am_H := (h.set A (.inr (3, fs.set 3 (.int (nI s))))).set B (.inl (0, m, .inl f))
def hgO (h : am_H) (A B : Nat) (fs : List Value) : Prop := A ≠ B ∧ A < h.length ∧ B < h.length ∧ fs.length = 11 ∧ fs[0]? = some (.ref B) ∧ fs[4]? = some (.int 2)
theorem hg_o {h : am_H} {A B m s a : Nat} {fs : List Value} {f : Nat → Int32} (h1 : a ≠ A) (h2 : a ≠ B) : (hg h A B m fs s f)[a]? = h[a]? := by
  unfold hg
  rw [List.getElem?_set_ne (fun e => h2 e.symm), List.getElem?_set_ne (fun e => h1 e.symm)]
theorem hg_A {h : am_H} {A B m s : Nat} {fs : List Value} {f : Nat → Int32} (hO : hgO h A B fs) : (hg h A B m fs s f)[A]? = some (.inr (3, fs.set 3 (.int (nI s)))) := by
  obtain ⟨h1, h2, h3, h4, f0, f4⟩ := hO
  unfold hg
  rw [List.getElem?_set_ne (fun e => h1 e.symm), List.getElem?_set_self h2]
theorem hg_B {h : am_H} {A B m s : Nat} {fs : List Value} {f : Nat → Int32} (hO : hgO h A B fs) : (hg h A B m fs s f)[B]? = some (.inl (0, m, .inl f)) := by
  obtain ⟨h1, h2, h3, h4, f0, f4⟩ := hO
  unfold hg
  rw [List.getElem?_set_self (by rw [List.length_set]; exact h3)]
theorem hg_sB {h : am_H} {A B m s : Nat} {fs : List Value} {f g : Nat → Int32} : (hg h A B m fs s f).set B (.inl (0, m, .inl g)) = hg h A B m fs s g := by
  unfold hg
  rw [List.set_set]
theorem hg_sA {h : am_H} {A B m s s1 : Nat} {fs : List Value} {f : Nat → Int32} (hO : hgO h A B fs) : (hg h A B m fs s f).set A (.inr (3, (fs.set 3 (.int (nI s))).set 3 (.int (nI s1)))) = hg h A B m fs s1 f := by
  unfold hg
  rw [List.set_comm _ _ (fun e => hO.1 e.symm), List.set_set, List.set_set]
theorem fs_ne {fs : List Value} {v w : Value} {j : Nat} (hj : j ≠ 3) (h : fs[j]? = some w) : (fs.set 3 v)[j]? = some w := by
  rw [List.getElem?_set_ne (fun e => hj e.symm)]
  exact h
theorem fs_3 {fs : List Value} {v : Value} (h : fs.length = 11) : (fs.set 3 v)[3]? = some v := List.getElem?_set_self (by omega)
theorem e_41 {h : am_H} {A B m s N : Nat} {fs : List Value} {f : Nat → Int32} (hO : hgO h A B fs) (hm : m < 2 ^ 30) (hs : 2 * s + 2 ≤ m) (hN : 1 ≤ N) (a b : Int32) : fm_41 N (.ref A) a b (hg h A B m fs s f) = some (.inl (some (.int 1), hg h A B m fs (s + 1) (upd (upd f (2 * s) a) (2 * s + 1) b))) := by
  obtain ⟨h1, h2, h3, h4, f0, f4⟩ := id hO
  have gA : ∀ {s f}, (hg h A B m fs s f)[A]? = some (.inr (3, fs.set 3 (.int (nI s)))) := fun {s f} => hg_A hO
  obtain ⟨N, rfl⟩ : ∃ k, N = k + 1 := ⟨N - 1, by omega⟩
  unfold fm_41 fg_41_0
  refine ev_b (ev_gI (x := nI s) gA rfl (fs_3 h4)) ?_
  refine ev_b (ev_gI (x := 2) gA rfl (fs_ne (by omega) f4)) ?_
  refine ev_b (ev_gI (x := 2) gA rfl (fs_ne (by omega) f4)) ?_
  refine ev_b (ev_gR (x := .ref B) gA rfl (fs_ne (by omega) f0) rfl) ?_
  refine ev_b (a := nI m) (by unfold am_pLen; simp only [hg_B hO]; rfl) ?_
  rw [show nI s * 2 = nI (2 * s) by rw [Nat.mul_comm, nI_mul]; rfl]
  refine ev_t (by rw [show (2 : Int32) = nI 2 from rfl, nI_add]; exact nI_le hs (by omega)) ?_
  rw [fg_41_29]
  refine ev_b (ev_gI (x := 2) gA rfl (fs_ne (by omega) f4)) ?_
  refine ev_t (by decide) ?_
  refine ev_b (ev_gR (x := .ref B) gA rfl (fs_ne (by omega) f0) rfl) ?_
  refine ev_b (ev_s (hg_B hO) (am_inb_n (by omega) (by omega)) rfl hg_sB) ?_
  refine ev_b (ev_gR (x := .ref B) gA rfl (fs_ne (by omega) f0) rfl) ?_
  rw [nI_1]
  refine ev_b (ev_s (hg_B hO) (am_inb_n (by omega) (by omega)) rfl hg_sB) ?_
  refine ev_b (ev_gI (x := nI s) gA rfl (fs_3 h4)) ?_
  rw [nI_1]
  refine ev_b (ev_p (fs1 := (fs.set 3 (.int (nI s))).set 3 (.int (nI (s + 1)))) gA (by rw [List.length_set, h4]; rfl) rfl (hg_sA hO)) ?_
  rw [nI_clamp (by omega), nI_clamp (by omega)]
/-- nodes are written one behind another -/
def wrt : (Nat → Int32) → Nat → List (Nat × Nat) → Nat → Int32
  | f, _, [] => f
  | f, s, x :: l => wrt (upd (upd f (2 * s) (nI x.1)) (2 * s + 1) (nI x.2)) (s + 1) l
theorem wrt_app : ∀ (l r : List (Nat × Nat)) (f : Nat → Int32) (s : Nat), wrt f s (l ++ r) = wrt (wrt f s l) (s + l.length) r := by
  intro l
  induction l with
  | nil => intro r f s; rfl
  | cons x l ih =>
    intro r f s
    show wrt _ (s + 1) (l ++ r) = wrt (wrt _ (s + 1) l) (s + (l.length + 1)) r
    rw [ih, show s + 1 + l.length = s + (l.length + 1) by omega]
theorem rk_ok {h : am_H} {A : Nat} (hR : rkH h A) : am_pOk 4 (.ref 76) h = true := by
  obtain ⟨fs, h6, -⟩ := hR
  exact ev_ok h6
theorem uW_le {c n : Nat} : ∀ m s p, p < sumF c n m s → sumF c n m s < 2 ^ 50 → p < 2 ^ 50 := by
  intro m s p h1 h2
  omega
theorem e_92p {h : am_H} {A c n N : Nat} {d : Int32} (hR : rkH h A) (hc : c < 6) (h1 : 1 ≤ n) (hn : n < 13)
    {r1 : Value → Int32 → Int32 → Int64 → Int32 → am_H → Option am_O} {r2 r3 : Value → Int32 → Int32 → Int32 → Int64 → Int32 → am_H → Option am_O} :
    ∀ (m s p K : Nat), m + s = 20 → m < K → p < sumF c n (m + 1) s → sumF c n (m + 1) s < 2 ^ 50 → fg_92_14 N r1 r2 r3 K (.ref 76) (nI c) (nI n) d (nI s) (lN p) h = fg_92_54 N r1 r2 r3 (.ref 76) (nI c) (nI n) d (nI (pk c n m s p).1) (lN (pk c n m s p).2) h := by
  intro m
  induction m with
  | zero =>
    intro s p K hm hK hp hb
    obtain ⟨K, rfl⟩ : ∃ k, K = k + 1 := ⟨K - 1, by omega⟩
    rw [fg_92_14, show s = 20 by omega]
    exact ev_t (by decide) rfl
  | succ m ih =>
    intro s p K hm hK hp hb
    obtain ⟨K, rfl⟩ : ∃ k, K = k + 1 := ⟨K - 1, by omega⟩
    rw [sumF] at hp hb
    rw [fg_92_14]
    refine ev_f (nI_ge (show s < 20 by omega) (by decide)) ?_
    refine ev_i (rk_ok hR) ?_
    refine ev_cL (e_93 hR hc (by omega) h1 hn) ?_
    rw [pk]
    by_cases c1 : p < uW c s n
    · rw [if_pos c1]
      exact ev_t ((lg_cmp_lt _ _).mpr ((lM_lt (by omega) (by omega)).mpr c1)) rfl
    · rw [if_neg c1]
      refine ev_f (fun e => c1 ((lM_lt (by omega) (by omega)).mp ((lg_cmp_lt _ _).mp e))) ?_
      refine ev_i (rk_ok hR) ?_
      refine ev_cL (e_93 hR hc (by omega) h1 hn) ?_
      rw [nI_1, lN_sub (by omega)]
      exact ih (s + 1) (p - uW c s n) K (by omega) (by omega) (by omega) (by omega)
theorem uT_lt {a f : Nat} (ha : a < 6) : uT a f < 2 ^ 50 := by
  by_cases h0 : f = 0
  · subst h0; exact (by decide : 0 < 2 ^ 50)
  · by_cases h1 : 13 ≤ f
    · unfold uT; rw [if_neg h0, if_pos h1]; exact (by decide : 0 < 2 ^ 50)
    · exact (u_c (by omega) (by omega) ha).2
theorem e_94 {h h1 h2 : am_H} {A a b M N : Nat} {d : Int32} (hR : rkH h A) (hR1 : rkH h1 A) (ha : a < 6) (hb : b < 6) (hM : M < 13)
    {r1 : Value → Int32 → Int32 → Int64 → Int32 → am_H → Option am_O} {r2 r3 : Value → Int32 → Int32 → Int32 → Int64 → Int32 → am_H → Option am_O} :
    ∀ (m f p K : Nat), f + m = M → 1 ≤ f → m < K → p < sum2 a b M m f → sum2 a b M m f < 2 ^ 50 →
      r1 (.ref 76) (nI a) (nI (pk2 a b M m f p).1) (lN ((pk2 a b M m f p).2 / uT b (M - (pk2 a b M m f p).1))) d h = some (.inl (none, h1)) →
      r1 (.ref 76) (nI b) (nI (M - (pk2 a b M m f p).1)) (lN ((pk2 a b M m f p).2 % uT b (M - (pk2 a b M m f p).1))) d h1 = some (.inl (none, h2)) →
      fg_94_7 N r1 r2 r3 K (.ref 76) (nI a) (nI b) (nI M) d (lN p) (nI f) h = some (.inl (none, h2)) := by
  intro m
  induction m with
  | zero => intro f p K hm hf hK hp; rw [sum2] at hp; omega
  | succ m ih =>
    intro f p K hm hf hK hp hb2 q1 q2
    obtain ⟨K, rfl⟩ : ∃ k, K = k + 1 := ⟨K - 1, by omega⟩
    rw [sum2] at hp hb2
    rw [pk2] at q1 q2
    rw [fg_94_7]
    refine ev_f (nI_ge (by omega) (by omega)) ?_
    refine ev_i (rk_ok hR) ?_
    rw [nI_sub (by omega : f ≤ M)]
    refine ev_cL (e_15u hR hb (by omega) (by omega)) ?_
    refine ev_i (rk_ok hR) ?_
    refine ev_cL (e_15u hR ha (by omega) (by omega)) ?_
    rw [lN_mul]
    by_cases c1 : p < uT a f * uT b (M - f)
    · rw [if_pos c1] at q1 q2
      have hpos : 0 < uT b (M - f) := Nat.pos_of_ne_zero (fun e => by rw [e, Nat.mul_zero] at c1; omega)
      have hlt := uT_lt (f := M - f) hb
      have hne : (lN (uT b (M - f)) : Int64) ≠ 0 := fun e => absurd ((lM_le (b := 0) (by omega) (by omega)).mp (Int64.le_of_eq e)) (by omega)
      refine ev_f (fun e => absurd ((lM_le (by omega) (by omega)).mp ((lg_cmp_ge _ _).mp e)) (by omega)) ?_
      refine ev_f (fun e => absurd ((lM_le (b := 0) (by omega) (by omega)).mp ((lg_cmp_le _ _).mp e)) (by omega)) ?_
      refine ev_i hne ?_
      refine ev_i (rk_ok hR) ?_
      rw [lM_div (by omega) (by omega)]
      refine ev_cV q1 ?_
      refine ev_i hne ?_
      refine ev_i (rk_ok hR1) ?_
      rw [← lM_div (by omega) (by omega), lM_mod (by omega) (by omega)]
      exact ev_cV q2 rfl
    · rw [if_neg c1] at q1 q2
      refine ev_t ((lg_cmp_ge _ _).mpr ((lM_le (by omega) (by omega)).mpr (by omega))) ?_
      unfold fg_94_82
      rw [lN_sub (by omega), nI_1]
      exact ih (f + 1) (p - uT a f * uT b (M - f)) K (by omega) (by omega) (by omega) (by omega) (by omega) q1 q2
theorem e_95t {h h1 h2 h3 : am_H} {A a b M f N : Nat} {d : Int32} (hR : rkH h A) (hR1 : rkH h1 A) (hR2 : rkH h2 A) (ha : a < 6) (hb : b < 6) (hM : M < 13) (hf : 1 ≤ f)
    {r1 : Value → Int32 → Int32 → Int64 → Int32 → am_H → Option am_O} {r2 r3 : Value → Int32 → Int32 → Int32 → Int64 → Int32 → am_H → Option am_O} {rec7 : Value → Int32 → Int32 → Int32 → Int32 → Int64 → Int32 → am_H → Option am_O} :
    ∀ (m g p K : Nat), f + g + m = M → 1 ≤ g → m < K → p < sum3g a b M f m g → sum3g a b M f m g < 2 ^ 50 →
      r1 (.ref 76) (nI a) (nI f) (lN ((pk3g a b M f m g p).2.1 / (uT b (pk3g a b M f m g p).1 * uT b (M - f - (pk3g a b M f m g p).1)))) d h = some (.inl (none, h1)) →
      r1 (.ref 76) (nI b) (nI (pk3g a b M f m g p).1) (lN ((pk3g a b M f m g p).2.1 % (uT b (pk3g a b M f m g p).1 * uT b (M - f - (pk3g a b M f m g p).1)) / uT b (M - f - (pk3g a b M f m g p).1))) d h1 = some (.inl (none, h2)) →
      r1 (.ref 76) (nI b) (nI (M - f - (pk3g a b M f m g p).1)) (lN ((pk3g a b M f m g p).2.1 % uT b (M - f - (pk3g a b M f m g p).1))) d h2 = some (.inl (none, h3)) →
      fg_95_18 N r1 r2 r3 rec7 K (.ref 76) (nI a) (nI b) (nI M) d (lN p) (nI f) (nI g) h = some (.inl (none, h3)) := by
  intro m
  induction m with
  | zero => intro g p K hm hg hK hp; rw [sum3g] at hp; omega
  | succ m ih =>
    intro g p K hm hg hK hp hb2 q1 q2 q3
    obtain ⟨K, rfl⟩ : ∃ k, K = k + 1 := ⟨K - 1, by omega⟩
    rw [sum3g] at hp hb2
    rw [pk3g] at q1 q2 q3
    rw [fg_95_18]
    refine ev_f (by rw [nI_sub (by omega : f ≤ M)]; exact nI_ge (by omega) (by omega)) ?_
    refine ev_i (rk_ok hR) ?_
    rw [nI_sub (by omega : f ≤ M), nI_sub (by omega : g ≤ M - f)]
    refine ev_cL (e_15u hR hb (by omega) (by omega)) ?_
    refine ev_i (rk_ok hR) ?_
    refine ev_cL (e_15u hR hb (by omega) (by omega)) ?_
    refine ev_i (rk_ok hR) ?_
    refine ev_cL (e_15u hR ha (by omega) (by omega)) ?_
    rw [lN_mul, lN_mul]
    by_cases c1 : p < uT a f * (uT b g * uT b (M - f - g))
    · rw [if_pos c1] at q1 q2 q3
      have hp3 : 0 < uT b (M - f - g) := Nat.pos_of_ne_zero (fun e => by rw [e, Nat.mul_zero, Nat.mul_zero] at c1; omega)
      have hp2 : 0 < uT b g * uT b (M - f - g) := Nat.pos_of_ne_zero (fun e => by rw [e, Nat.mul_zero] at c1; omega)
      have hpa : 0 < uT a f := Nat.pos_of_ne_zero (fun e => by rw [e, Nat.zero_mul] at c1; omega)
      have hle : uT b g * uT b (M - f - g) ≤ uT a f * (uT b g * uT b (M - f - g)) := Nat.le_mul_of_pos_left _ hpa
      have hlt := uT_lt (f := M - f - g) hb
      have hne3 : (lN (uT b (M - f - g)) : Int64) ≠ 0 := fun e => absurd ((lM_le (b := 0) (by omega) (by omega)).mp (Int64.le_of_eq e)) (by omega)
      have hne2 : (lN (uT b g * uT b (M - f - g)) : Int64) ≠ 0 := fun e => absurd ((lM_le (b := 0) (by omega) (by omega)).mp (Int64.le_of_eq e)) (by omega)
      have hmod : p % (uT b g * uT b (M - f - g)) < 2 ^ 62 := Nat.lt_of_le_of_lt (Nat.mod_le _ _) (by omega)
      refine ev_f (fun e => absurd ((lM_le (by omega) (by omega)).mp ((lg_cmp_ge _ _).mp e)) (by omega)) ?_
      refine ev_f (fun e => absurd ((lM_le (b := 0) (by omega) (by omega)).mp ((lg_cmp_le _ _).mp e)) (by omega)) ?_
      refine ev_f (fun e => absurd ((lM_le (b := 0) (by omega) (by omega)).mp ((lg_cmp_le _ _).mp e)) (by omega)) ?_
      rw [lM_mod (by omega) (by omega), lM_mod (by omega) (by omega), lM_div (by omega) (by omega), lM_div hmod (by omega)]
      refine ev_i hne2 ?_
      refine ev_i (rk_ok hR) ?_
      refine ev_cV q1 ?_
      refine ev_i hne2 ?_
      refine ev_i hne3 ?_
      refine ev_i (rk_ok hR1) ?_
      refine ev_cV q2 ?_
      refine ev_i hne3 ?_
      refine ev_i (rk_ok hR2) ?_
      exact ev_cV q3 rfl
    · rw [if_neg c1] at q1 q2 q3
      refine ev_t ((lg_cmp_ge _ _).mpr ((lM_le (by omega) (by omega)).mpr (by omega))) ?_
      unfold fg_95_138
      rw [lN_sub (by omega), nI_1]
      exact ih (g + 1) _ K (by omega) (by omega) (by omega) (by omega) (by omega) q1 q2 q3
theorem e_95n {h : am_H} {A a b M f N : Nat} {d : Int32} (hR : rkH h A) (ha : a < 6) (hb : b < 6) (hM : M < 13) (hf : 1 ≤ f)
    {r1 : Value → Int32 → Int32 → Int64 → Int32 → am_H → Option am_O} {r2 r3 : Value → Int32 → Int32 → Int32 → Int64 → Int32 → am_H → Option am_O} {rec7 : Value → Int32 → Int32 → Int32 → Int32 → Int64 → Int32 → am_H → Option am_O} :
    ∀ (m g p K : Nat), f + g + m = M → 1 ≤ g → m < K → ¬ p < sum3g a b M f m g → p < 2 ^ 50 →
      fg_95_18 N r1 r2 r3 rec7 K (.ref 76) (nI a) (nI b) (nI M) d (lN p) (nI f) (nI g) h = rec7 (.ref 76) (nI a) (nI b) (nI M) d (lN (p - sum3g a b M f m g)) (nI (f + 1)) h := by
  intro m
  induction m with
  | zero =>
    intro g p K hm hg hK hp hb2
    obtain ⟨K, rfl⟩ : ∃ k, K = k + 1 := ⟨K - 1, by omega⟩
    rw [fg_95_18, sum3g]
    refine ev_t (by rw [nI_sub (by omega : f ≤ M)]; exact nI_le (by omega) (by omega)) ?_
    rw [nI_1, Nat.sub_zero]
  | succ m ih =>
    intro g p K hm hg hK hp hb2
    obtain ⟨K, rfl⟩ : ∃ k, K = k + 1 := ⟨K - 1, by omega⟩
    rw [sum3g] at hp
    rw [fg_95_18, sum3g]
    refine ev_f (by rw [nI_sub (by omega : f ≤ M)]; exact nI_ge (by omega) (by omega)) ?_
    refine ev_i (rk_ok hR) ?_
    rw [nI_sub (by omega : f ≤ M), nI_sub (by omega : g ≤ M - f)]
    refine ev_cL (e_15u hR hb (by omega) (by omega)) ?_
    refine ev_i (rk_ok hR) ?_
    refine ev_cL (e_15u hR hb (by omega) (by omega)) ?_
    refine ev_i (rk_ok hR) ?_
    refine ev_cL (e_15u hR ha (by omega) (by omega)) ?_
    rw [lN_mul, lN_mul]
    refine ev_t ((lg_cmp_ge _ _).mpr ((lM_le (by omega) (by omega)).mpr (by omega))) ?_
    unfold fg_95_138
    rw [lN_sub (by omega), nI_1, ih (g + 1) (p - uT a f * (uT b g * uT b (M - f - g))) K (by omega) (by omega) (by omega) (by omega) (by omega)]
    rw [Nat.sub_sub]
theorem e_95 {h h1 h2 h3 : am_H} {A a b M N : Nat} {d : Int32} (hN : 20 < N) (hR : rkH h A) (hR1 : rkH h1 A) (hR2 : rkH h2 A) (ha : a < 6) (hb : b < 6) (hM : M < 13)
    {r1 : Value → Int32 → Int32 → Int64 → Int32 → am_H → Option am_O} {r2 r3 : Value → Int32 → Int32 → Int32 → Int64 → Int32 → am_H → Option am_O} :
    ∀ (m f p K : Nat), f + m + 1 = M → 1 ≤ f → m < K → p < sum3 a b M m f → sum3 a b M m f < 2 ^ 50 →
      r1 (.ref 76) (nI a) (nI (pk3 a b M m f p).1) (lN ((pk3 a b M m f p).2.2 / (uT b (pk3 a b M m f p).2.1 * uT b (M - (pk3 a b M m f p).1 - (pk3 a b M m f p).2.1)))) d h = some (.inl (none, h1)) →
      r1 (.ref 76) (nI b) (nI (pk3 a b M m f p).2.1) (lN ((pk3 a b M m f p).2.2 % (uT b (pk3 a b M m f p).2.1 * uT b (M - (pk3 a b M m f p).1 - (pk3 a b M m f p).2.1)) / uT b (M - (pk3 a b M m f p).1 - (pk3 a b M m f p).2.1))) d h1 = some (.inl (none, h2)) →
      r1 (.ref 76) (nI b) (nI (M - (pk3 a b M m f p).1 - (pk3 a b M m f p).2.1)) (lN ((pk3 a b M m f p).2.2 % uT b (M - (pk3 a b M m f p).1 - (pk3 a b M m f p).2.1))) d h2 = some (.inl (none, h3)) →
      fg_95_7 N r1 r2 r3 K (.ref 76) (nI a) (nI b) (nI M) d (lN p) (nI f) h = some (.inl (none, h3)) := by
  intro m
  induction m with
  | zero => intro f p K hm hf hK hp; rw [sum3] at hp; omega
  | succ m ih =>
    intro f p K hm hf hK hp hb2 q1 q2 q3
    obtain ⟨K, rfl⟩ : ∃ k, K = k + 1 := ⟨K - 1, by omega⟩
    rw [sum3] at hp hb2
    rw [pk3] at q1 q2 q3
    have k := pk3g_ok (a := a) (b := b) (M := M) (f := f) (M - f - 1) 1 p (by omega) (by omega)
    rw [fg_95_7]
    refine ev_f (by rw [show nI M - 1 = nI (M - 1) by rw [show (1 : Int32) = nI 1 from rfl, nI_sub (by omega)]]; exact nI_ge (by omega) (by omega)) ?_
    by_cases c1 : p < sum3g a b M f (M - f - 1) 1
    · rw [if_pos c1] at k
      rw [if_pos k.1] at q1 q2 q3
      exact e_95t hR hR1 hR2 ha hb hM hf (M - f - 1) 1 p N (by omega) (by omega) (by omega) c1 (by omega) q1 q2 q3
    · rw [if_neg c1] at k
      rw [if_neg (by rw [k.1]; decide), k.2] at q1 q2 q3
      refine (e_95n hR ha hb hM hf (M - f - 1) 1 p N (by omega) (by omega) (by omega) c1 (by omega)).trans ?_
      exact ih (f + 1) _ K (by omega) (by omega) (by omega) (by omega) (by omega) q1 q2 q3
theorem rk_hg {h : am_H} {A B m s : Nat} {fs : List Value} {f : Nat → Int32} (hR : rkH h A) (hA : A ≠ 76 ∧ A ≠ 77 ∧ A ≠ 78) (hB : B ≠ 76 ∧ B ≠ 77 ∧ B ≠ 78) : rkH (hg h A B m fs s f) A := by
  obtain ⟨f4, h6, f0, f1, f3, h7, h8⟩ := hR
  exact ⟨f4, by rw [hg_o (fun e => hA.1 e.symm) (fun e => hB.1 e.symm)]; exact h6, f0, f1, f3, by rw [hg_o (fun e => hA.2.1 e.symm) (fun e => hB.2.1 e.symm)]; exact h7, by rw [hg_o (fun e => hA.2.2 e.symm) (fun e => hB.2.2 e.symm)]; exact h8⟩
theorem div_lt2 {p x y : Nat} (h : p < x * y) : p / y < x := by
  have hy : 0 < y := Nat.pos_of_ne_zero (fun e => by rw [e, Nat.mul_zero] at h; omega)
  exact (Nat.div_lt_iff_lt_mul hy).mpr h
theorem pos_r {p x y : Nat} (h : p < x * y) : 0 < y := Nat.pos_of_ne_zero (fun e => by rw [e, Nat.mul_zero] at h; omega)
/-- Ranks.grow() lays the nodes of unr -/
theorem grw_ok {h : am_H} {A B m N : Nat} {fs : List Value} (hN : 30 < N) (hR : rkH h A) (hO : hgO h A B fs) (hA : A ≠ 76 ∧ A ≠ 77 ∧ A ≠ 78) (hB : B ≠ 76 ∧ B ≠ 77 ∧ B ≠ 78) (hm : m < 2 ^ 30) :
    ∀ n, n ≤ 12 → 1 ≤ n → ∀ (J K c p d s : Nat) (f : Nat → Int32), n ≤ J → 2 * n ≤ K → c < 6 → p < uT c n → d + n ≤ 13 → 2 * (s + n) ≤ m →
      gr_92 N K 92 [.ref 76, .int (nI c), .int (nI n), .long (lN p), .int (nI d)] (hg h A B m fs s f) = some (.inl (none, hg h A B m fs (s + n) (wrt f s (unr J c n p)))) ∧ (unr J c n p).length = n := by
  intro n
  induction n using Nat.strongRecOn with
  | _ n ih =>
    intro hn h1 J K c p d s f hJ hK hc hp hd hs
    obtain ⟨J, rfl⟩ : ∃ k, J = k + 1 := ⟨J - 1, by omega⟩
    obtain ⟨K, rfl⟩ : ∃ k, K = k + 2 := ⟨K - 2, by omega⟩
    obtain ⟨uc, ul⟩ := u_c h1 hn hc
    have hpk := pk_ok (c := c) (n := n) 20 0 p rfl (by rw [uc]; exact hp)
    have gR : ∀ {s f}, rkH (hg h A B m fs s f) A := fun {s f} => rk_hg hR hA hB
    have us := u_s h1 hn hc (s := (pk c n 20 0 p).1) (by omega) (by omega)
    have e92 := fun (r1 : Value → Int32 → Int32 → Int64 → Int32 → am_H → Option am_O) (r2 r3 : Value → Int32 → Int32 → Int32 → Int64 → Int32 → am_H → Option am_O) => e_92p (h := hg h A B m fs s f) (A := A) (c := c) (n := n) (N := N) (d := nI d) (r1 := r1) (r2 := r2) (r3 := r3) gR hc h1 (by omega) 20 0 p N rfl (by omega) (by rw [uc]; exact hp) (by rw [uc]; exact ul)
    rw [unr]
    generalize hr : pk c n 20 0 p = r at hpk us e92
    obtain ⟨S, P⟩ := r
    simp only at hpk us e92 ⊢
    obtain ⟨hS, hP⟩ := hpk
    obtain ⟨u0, u1, u2, u3, u4⟩ := us
    have hPs : Int64.toInt32 (lN P) = nI P := lN_i P
    show fo_92 N _ _ _ (.ref 76) (nI c) (nI n) (lN p) (nI d) (hg h A B m fs s f) = _ ∧ _
    unfold fo_92 fg_92_0
    rw [if_pos (show nI d ≤ 12 from nI_le (a := d) (b := 12) (by omega) (by decide)), show ∀ (r1 : Value → Int32 → Int32 → Int64 → Int32 → am_H → Option am_O) (r2 r3 : Value → Int32 → Int32 → Int32 → Int64 → Int32 → am_H → Option am_O), fg_92_14 N r1 r2 r3 N (.ref 76) (nI c) (nI n) (nI d) 0 (lN p) (hg h A B m fs s f) = fg_92_54 N r1 r2 r3 (.ref 76) (nI c) (nI n) (nI d) (nI S) (lN P) (hg h A B m fs s f) from e92]
    unfold fg_92_54
    have gT : am_vR (am_pG 1027 (.ref 76) (hg h A B m fs s f)) = some (.ref A) := by
      obtain ⟨f4, h6, f0, f1, f3, h7, h8⟩ := gR (s := s) (f := f)
      exact ev_gR h6 rfl f3 rfl
    have hok3 : am_pOk 3 (.ref A) (hg h A B m fs s f) = true := ev_ok (hg_A hO)
    have e41 := fun b => e_41 (f := f) (s := s) (N := N) hO hm (by omega) (by omega) (nI S) b
    -- the node itself
    have hnode : ∀ (r1 : Value → Int32 → Int32 → Int64 → Int32 → am_H → Option am_O) (r2 r3 : Value → Int32 → Int32 → Int32 → Int64 → Int32 → am_H → Option am_O) (o : Option am_O),
        (∀ f', f' = upd (upd f (2 * s) (nI S)) (2 * s + 1) (nI (if S = 0 then P else 0)) → 
          am_cI false (fm_12 (nI c) (nI S) 0 (hg h A B m fs (s + 1) f')) (fun v5 h6 => am_cI false (fm_14 (nI S) h6) (fun v8 h9 => (if ¬ v8 = 1 then am_cI false (fm_14 (nI S) h9) (fun v12 h13 => (if ¬ v12 = 2 then am_cI false (fm_14 (nI S) h13) (fun v16 h17 => (if ¬ v16 = 3 then (fg_92_177 N r1 r2 r3 h17) else am_cI false (fm_12 (nI c) (nI S) 1 h17) (fun v20 h21 => (if am_pOk 4 (.ref 76) h21 then am_cV true (r3 (.ref 76) v5 v20 (nI n - 1) (lN P) (nI d + 1) h21) (fun h25 => (fg_92_177 N r1 r2 r3 h25)) else none)))) else am_cI false (fm_12 (nI c) (nI S) 1 h13) (fun v27 h28 => (if am_pOk 4 (.ref 76) h28 then am_cV true (r2 (.ref 76) v5 v27 (nI n - 1) (lN P) (nI d + 1) h28) (fun h32 => (fg_92_177 N r1 r2 r3 h32)) else none)))) else (if am_pOk 4 (.ref 76) h9 then am_cV true (r1 (.ref 76) v5 (nI n - 1) (lN P) (nI d + 1) h9) (fun h36 => (fg_92_177 N r1 r2 r3 h36)) else none)))) = o) →
        ((am_vR (am_pG 1027 (.ref 76) (hg h A B m fs s f))).bind fun v1 => (if ¬ nI S = 0 then (fg_92_72 N r1 r2 r3 (.ref 76) (nI c) (nI n) (nI d) (nI S) (lN P) v1 (nI S) 0 (hg h A B m fs s f)) else (fg_92_72 N r1 r2 r3 (.ref 76) (nI c) (nI n) (nI d) (nI S) (lN P) v1 (nI S) ((Int64.toInt32 (lN P))) (hg h A B m fs s f)))) = o := by
      intro r1 r2 r3 o ho
      refine ev_b gT ?_
      by_cases c0 : S = 0
      · refine ev_f (fun e => e (by rw [c0]; rfl)) ?_
        unfold fg_92_72
        refine ev_i hok3 ?_
        rw [hPs]
        refine ev_cI (e41 (nI P)) ?_
        exact ho _ (by rw [if_pos c0])
      · refine ev_t (nI_ne0 (by omega) (by omega)) ?_
        unfold fg_92_72
        refine ev_i hok3 ?_
        refine ev_cI (e41 0) ?_
        exact ho _ (by rw [if_neg c0]; rfl)
    have hd1 : nI d + 1 = nI (d + 1) := nI_1 d
    have hn1 : nI n - 1 = nI (n - 1) := by rw [show (1 : Int32) = nI 1 from rfl, nI_sub h1]
    have ha0 := pc_eq c hc S (by omega) 0 (by omega)
    have ha1 := pc_eq c hc S (by omega) 1 (by omega)
    have har := pa_eq S (by omega)
    have hle := ar_le S
    rcases (by omega : arN S = 0 ∨ arN S = 1 ∨ arN S = 2 ∨ arN S = 3) with k | k | k | k
    · rw [if_pos k]
      obtain ⟨hn0, -⟩ := u1 k
      refine ⟨hnode _ _ _ _ (fun f' hf' => ?_), by rw [List.length_cons, List.length_nil]; omega⟩
      refine ev_cI (pe_12 _ _ _ _) ?_
      refine ev_cI (pe_14 _ _) ?_
      rw [har, k]
      refine ev_t (by decide) ?_
      refine ev_cI (pe_14 _ _) ?_
      rw [har, k]
      refine ev_t (by decide) ?_
      refine ev_cI (pe_14 _ _) ?_
      rw [har, k]
      refine ev_t (by decide) ?_
      subst hf'
      rw [hn0]
      rfl
    · rw [if_neg (show ¬ arN S = 0 by omega), if_pos k]
      obtain ⟨hn2, hu⟩ := u2 k
      obtain ⟨i1, i2⟩ := ih (n - 1) (by omega) (by omega) (by omega) J (K + 1) (pcN c S 0) P (d + 1) (s + 1) (upd (upd f (2 * s) (nI S)) (2 * s + 1) (nI (if S = 0 then P else 0))) (by omega) (by omega) (pc_lt hc) (by omega) (by omega) (by omega)
      refine ⟨hnode _ _ _ _ (fun f' hf' => ?_), by rw [List.length_cons, i2]; omega⟩
      subst hf'
      refine ev_cI (pe_12 _ _ _ _) ?_
      refine ev_cI (pe_14 _ _) ?_
      rw [har, k]
      refine ev_f (by decide) ?_
      refine ev_i (rk_ok gR) ?_
      rw [hd1, hn1, show pv_12 (nI c) (nI S) 0 = nI (pcN c S 0) from ha0]
      refine ev_cV i1 ?_
      rw [show s + 1 + (n - 1) = s + n by omega]
      rfl
    · rw [if_neg (show ¬ arN S = 0 by omega), if_neg (show ¬ arN S = 1 by omega), if_pos k]
      obtain ⟨hn3, hu⟩ := u3 k
      have q := pk2_ok (a := pcN c S 0) (b := pcN c S 1) (M := n - 1) (n - 2) 1 P (by omega) (by omega) (by omega)
      have e94 := fun (H1 H2 : am_H) (r1 : Value → Int32 → Int32 → Int64 → Int32 → am_H → Option am_O) (r2 r3 : Value → Int32 → Int32 → Int32 → Int64 → Int32 → am_H → Option am_O) (f' : Nat → Int32) (hR1 : rkH H1 A) => e_94 (h := hg h A B m fs (s + 1) f') (h1 := H1) (h2 := H2) (A := A) (N := N) (d := nI (d + 1)) (r1 := r1) (r2 := r2) (r3 := r3) (a := pcN c S 0) (b := pcN c S 1) (M := n - 1) gR hR1 (pc_lt hc) (pc_lt hc) (by omega) (n - 2) 1 P N (by omega) (by omega) (by omega) (by omega) (by omega)
      generalize hg2 : pk2 (pcN c S 0) (pcN c S 1) (n - 1) (n - 2) 1 P = r at q e94
      obtain ⟨F, Q⟩ := r
      simp only at q e94 ⊢
      obtain ⟨q1, q2, q3⟩ := q
      have hpos := pos_r q3
      obtain ⟨i1, i2⟩ := ih F (by omega) (by omega) q1 J K (pcN c S 0) (Q / uT (pcN c S 1) (n - 1 - F)) (d + 1) (s + 1) (upd (upd f (2 * s) (nI S)) (2 * s + 1) (nI (if S = 0 then P else 0))) (by omega) (by omega) (pc_lt hc) (div_lt2 q3) (by omega) (by omega)
      obtain ⟨j1, j2⟩ := ih (n - 1 - F) (by omega) (by omega) (by omega) J K (pcN c S 1) (Q % uT (pcN c S 1) (n - 1 - F)) (d + 1) (s + 1 + F) (wrt (upd (upd f (2 * s) (nI S)) (2 * s + 1) (nI (if S = 0 then P else 0))) (s + 1) (unr J (pcN c S 0) F (Q / uT (pcN c S 1) (n - 1 - F)))) (by omega) (by omega) (pc_lt hc) (Nat.mod_lt _ hpos) (by omega) (by omega)
      refine ⟨hnode _ _ _ _ (fun f' hf' => ?_), by rw [List.length_cons, List.length_append, i2, j2]; omega⟩
      subst hf'
      refine ev_cI (pe_12 _ _ _ _) ?_
      refine ev_cI (pe_14 _ _) ?_
      rw [har, k]
      refine ev_t (by decide) ?_
      refine ev_cI (pe_14 _ _) ?_
      rw [har, k]
      refine ev_f (by decide) ?_
      refine ev_cI (pe_12 _ _ _ _) ?_
      refine ev_i (rk_ok gR) ?_
      rw [hd1, hn1, show pv_12 (nI c) (nI S) 0 = nI (pcN c S 0) from ha0, show pv_12 (nI c) (nI S) 1 = nI (pcN c S 1) from ha1]
      refine ev_cV (e94 _ _ _ _ _ _ gR i1 j1) ?_
      rw [show s + 1 + F + (n - 1 - F) = s + n by omega]
      show some (Sum.inl (none, hg h A B m fs (s + n) _)) = some (Sum.inl (none, hg h A B m fs (s + n) (wrt _ (s + 1) (_ ++ _))))
      rw [wrt_app, i2]
    · rw [if_neg (show ¬ arN S = 0 by omega), if_neg (show ¬ arN S = 1 by omega), if_neg (show ¬ arN S = 2 by omega)]
      obtain ⟨hn4, hu⟩ := u4 k
      have q := pk3_ok (a := pcN c S 0) (b := pcN c S 1) (M := n - 1) (n - 3) 1 P (by omega) (by omega) (by omega)
      have e95 := fun (H1 H2 H3 : am_H) (r1 : Value → Int32 → Int32 → Int64 → Int32 → am_H → Option am_O) (r2 r3 : Value → Int32 → Int32 → Int32 → Int64 → Int32 → am_H → Option am_O) (f' : Nat → Int32) (hR1 : rkH H1 A) (hR2 : rkH H2 A) => e_95 (h := hg h A B m fs (s + 1) f') (h1 := H1) (h2 := H2) (h3 := H3) (A := A) (N := N) (d := nI (d + 1)) (r1 := r1) (r2 := r2) (r3 := r3) (a := pcN c S 0) (b := pcN c S 1) (M := n - 1) (by omega) gR hR1 hR2 (pc_lt hc) (pc_lt hc) (by omega) (n - 3) 1 P N (by omega) (by omega) (by omega) (by omega) (by omega)
      generalize hg3 : pk3 (pcN c S 0) (pcN c S 1) (n - 1) (n - 3) 1 P = r at q e95
      obtain ⟨F, G, Q⟩ := r
      simp only at q e95 ⊢
      obtain ⟨q1, q2, q3, q4⟩ := q
      have hpu := pos_r q4
      have hpt := pos_r (Nat.mod_lt Q hpu)
      obtain ⟨i1, i2⟩ := ih F (by omega) (by omega) q1 J K (pcN c S 0) (Q / (uT (pcN c S 1) G * uT (pcN c S 1) (n - 1 - F - G))) (d + 1) (s + 1) (upd (upd f (2 * s) (nI S)) (2 * s + 1) (nI (if S = 0 then P else 0))) (by omega) (by omega) (pc_lt hc) (div_lt2 q4) (by omega) (by omega)
      obtain ⟨j1, j2⟩ := ih G (by omega) (by omega) q2 J K (pcN c S 1) (Q % (uT (pcN c S 1) G * uT (pcN c S 1) (n - 1 - F - G)) / uT (pcN c S 1) (n - 1 - F - G)) (d + 1) (s + 1 + F) (wrt (upd (upd f (2 * s) (nI S)) (2 * s + 1) (nI (if S = 0 then P else 0))) (s + 1) (unr J (pcN c S 0) F (Q / (uT (pcN c S 1) G * uT (pcN c S 1) (n - 1 - F - G))))) (by omega) (by omega) (pc_lt hc) (div_lt2 (Nat.mod_lt Q hpu)) (by omega) (by omega)
      obtain ⟨l1, l2⟩ := ih (n - 1 - F - G) (by omega) (by omega) (by omega) J K (pcN c S 1) (Q % uT (pcN c S 1) (n - 1 - F - G)) (d + 1) (s + 1 + F + G) (wrt (wrt (upd (upd f (2 * s) (nI S)) (2 * s + 1) (nI (if S = 0 then P else 0))) (s + 1) (unr J (pcN c S 0) F (Q / (uT (pcN c S 1) G * uT (pcN c S 1) (n - 1 - F - G))))) (s + 1 + F) (unr J (pcN c S 1) G (Q % (uT (pcN c S 1) G * uT (pcN c S 1) (n - 1 - F - G)) / uT (pcN c S 1) (n - 1 - F - G)))) (by omega) (by omega) (pc_lt hc) (Nat.mod_lt _ hpt) (by omega) (by omega)
      refine ⟨hnode _ _ _ _ (fun f' hf' => ?_), by rw [List.length_cons, List.length_append, List.length_append, i2, j2, l2]; omega⟩
      subst hf'
      refine ev_cI (pe_12 _ _ _ _) ?_
      refine ev_cI (pe_14 _ _) ?_
      rw [har, k]
      refine ev_t (by decide) ?_
      refine ev_cI (pe_14 _ _) ?_
      rw [har, k]
      refine ev_t (by decide) ?_
      refine ev_cI (pe_14 _ _) ?_
      rw [har, k]
      refine ev_f (by decide) ?_
      refine ev_cI (pe_12 _ _ _ _) ?_
      refine ev_i (rk_ok gR) ?_
      rw [hd1, hn1, show pv_12 (nI c) (nI S) 0 = nI (pcN c S 0) from ha0, show pv_12 (nI c) (nI S) 1 = nI (pcN c S 1) from ha1]
      refine ev_cV (e95 _ _ _ _ _ _ _ gR gR i1 j1 l1) ?_
      rw [show s + 1 + F + G + (n - 1 - F - G) = s + n by omega]
      show some (Sum.inl (none, hg h A B m fs (s + n) _)) = some (Sum.inl (none, hg h A B m fs (s + n) (wrt _ (s + 1) (_ ++ (_ ++ _)))))
      rw [wrt_app, wrt_app, i2, j2]
