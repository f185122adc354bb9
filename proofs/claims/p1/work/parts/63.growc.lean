/-! ===== Ranks.grow(): the nodes of unr, one behind another ===== -/
theorem lM_i {n : Nat} (h : n < 2 ^ 62) : (lN n).toInt = (n : Int) := lg_ofNat_toInt (by omega)
theorem lM_le {a b : Nat} (ha : a < 2 ^ 62) (hb : b < 2 ^ 62) : lN a ≤ lN b ↔ a ≤ b := sorry
theorem lM_lt {a b : Nat} (ha : a < 2 ^ 62) (hb : b < 2 ^ 62) : lN a < lN b ↔ a < b := sorry
theorem lM_div {a b : Nat} (ha : a < 2 ^ 62) (hb : b < 2 ^ 62) : lN a / lN b = lN (a / b) := sorry
theorem lM_mod {a b : Nat} (ha : a < 2 ^ 62) (hb : b < 2 ^ 62) : lN a - lN a / lN b * lN b = lN (a % b) := sorry
theorem pc_eq : ∀ c, c < 6 → ∀ s, s < 21 → ∀ p, p < 2 → pv_12 (nI c) (nI s) (nI p) = nI (pcN c s p) := sorry
theorem pa_eq : ∀ s, s < 21 → pv_14 (nI s) = nI (arN s) := sorry
/-- Ranks in a heap, its tree at A -/
def rkH (h : am_H) (A : Nat) : Prop := ∃ fs : List Value, h[76]? = some (.inr (4, fs)) ∧ fs[0]? = some (.ref 77) ∧ fs[1]? = some (.ref 78) ∧ fs[3]? = some (.ref A) ∧ h[77]? = some (.inl (1, 1638, .inr (.inl tW))) ∧ h[78]? = some (.inl (1, 78, .inr (.inl tT)))
theorem tW_u {c s n : Nat} (hn : n < 13) : tW ((c * 21 + s) * 13 + n) = lN (uW c s n) := sorry
theorem tT_u {c n : Nat} (h1 : 1 ≤ n) (hn : n < 13) : tT (c * 13 + n) = lN (uT c n) := sorry
theorem e_93 {h : am_H} {A c s n : Nat} (hR : rkH h A) (hc : c < 6) (hs : s < 21) (h1 : 1 ≤ n) (hn : n < 13) : fm_93 (.ref 76) (nI c) (nI s) (nI n) h = some (.inl (some (.long (lN (uW c s n))), h)) := sorry
theorem e_15u {h : am_H} {A c n : Nat} (hR : rkH h A) (hc : c < 6) (h1 : 1 ≤ n) (hn : n < 13) : fm_15 (.ref 76) (nI c) (nI n) h = some (.inl (some (.long (lN (uT c n))), h)) := sorry
/-- a program of width 2 in a heap, of s items -/
def hg (h : am_H) (A B m : Nat) (fs : List Value) (s : Nat) (f : Nat → Int32) : am_H := (h.set A (.inr (3, fs.set 3 (.int (nI s))))).set B (.inl (0, m, .inl f))
def hgO (h : am_H) (A B : Nat) (fs : List Value) : Prop := A ≠ B ∧ A < h.length ∧ B < h.length ∧ fs.length = 11 ∧ fs[0]? = some (.ref B) ∧ fs[4]? = some (.int 2)
theorem hg_o {h : am_H} {A B m s a : Nat} {fs : List Value} {f : Nat → Int32} (h1 : a ≠ A) (h2 : a ≠ B) : (hg h A B m fs s f)[a]? = h[a]? := sorry
theorem hg_A {h : am_H} {A B m s : Nat} {fs : List Value} {f : Nat → Int32} (hO : hgO h A B fs) : (hg h A B m fs s f)[A]? = some (.inr (3, fs.set 3 (.int (nI s)))) := sorry
theorem hg_B {h : am_H} {A B m s : Nat} {fs : List Value} {f : Nat → Int32} (hO : hgO h A B fs) : (hg h A B m fs s f)[B]? = some (.inl (0, m, .inl f)) := sorry
theorem hg_sB {h : am_H} {A B m s : Nat} {fs : List Value} {f g : Nat → Int32} : (hg h A B m fs s f).set B (.inl (0, m, .inl g)) = hg h A B m fs s g := sorry
theorem hg_sA {h : am_H} {A B m s s1 : Nat} {fs : List Value} {f : Nat → Int32} (hO : hgO h A B fs) : (hg h A B m fs s f).set A (.inr (3, (fs.set 3 (.int (nI s))).set 3 (.int (nI s1)))) = hg h A B m fs s1 f := sorry
theorem fs_ne {fs : List Value} {v w : Value} {j : Nat} (hj : j ≠ 3) (h : fs[j]? = some w) : (fs.set 3 v)[j]? = some w := sorry
theorem fs_3 {fs : List Value} {v : Value} (h : fs.length = 11) : (fs.set 3 v)[3]? = some v := List.getElem?_set_self (by omega)
theorem e_41 {h : am_H} {A B m s N : Nat} {fs : List Value} {f : Nat → Int32} (hO : hgO h A B fs) (hm : m < 2 ^ 30) (hs : 2 * s + 2 ≤ m) (hN : 1 ≤ N) (a b : Int32) : fm_41 N (.ref A) a b (hg h A B m fs s f) = some (.inl (some (.int 1), hg h A B m fs (s + 1) (upd (upd f (2 * s) a) (2 * s + 1) b))) := sorry
/-- nodes are written one behind another -/
def wrt : (Nat → Int32) → Nat → List (Nat × Nat) → Nat → Int32
  | f, _, [] => f
  | f, s, x :: l => wrt (upd (upd f (2 * s) (nI x.1)) (2 * s + 1) (nI x.2)) (s + 1) l
theorem wrt_app : ∀ (l r : List (Nat × Nat)) (f : Nat → Int32) (s : Nat), wrt f s (l ++ r) = wrt (wrt f s l) (s + l.length) r := sorry
theorem rk_ok {h : am_H} {A : Nat} (hR : rkH h A) : am_pOk 4 (.ref 76) h = true := sorry
theorem uW_le {c n : Nat} : ∀ m s p, p < sumF c n m s → sumF c n m s < 2 ^ 50 → p < 2 ^ 50 := sorry
theorem e_92p {h : am_H} {A c n N : Nat} {d : Int32} (hR : rkH h A) (hc : c < 6) (h1 : 1 ≤ n) (hn : n < 13)
    {r1 : Value → Int32 → Int32 → Int64 → Int32 → am_H → Option am_O} {r2 r3 : Value → Int32 → Int32 → Int32 → Int64 → Int32 → am_H → Option am_O} :
    ∀ (m s p K : Nat), m + s = 20 → m < K → p < sumF c n (m + 1) s → sumF c n (m + 1) s < 2 ^ 50 → fg_92_14 N r1 r2 r3 K (.ref 76) (nI c) (nI n) d (nI s) (lN p) h = fg_92_54 N r1 r2 r3 (.ref 76) (nI c) (nI n) d (nI (pk c n m s p).1) (lN (pk c n m s p).2) h := sorry
theorem uT_lt {a f : Nat} (ha : a < 6) : uT a f < 2 ^ 50 := sorry
theorem e_94 {h h1 h2 : am_H} {A a b M N : Nat} {d : Int32} (hR : rkH h A) (hR1 : rkH h1 A) (ha : a < 6) (hb : b < 6) (hM : M < 13)
    {r1 : Value → Int32 → Int32 → Int64 → Int32 → am_H → Option am_O} {r2 r3 : Value → Int32 → Int32 → Int32 → Int64 → Int32 → am_H → Option am_O} :
    ∀ (m f p K : Nat), f + m = M → 1 ≤ f → m < K → p < sum2 a b M m f → sum2 a b M m f < 2 ^ 50 →
      r1 (.ref 76) (nI a) (nI (pk2 a b M m f p).1) (lN ((pk2 a b M m f p).2 / uT b (M - (pk2 a b M m f p).1))) d h = some (.inl (none, h1)) →
      r1 (.ref 76) (nI b) (nI (M - (pk2 a b M m f p).1)) (lN ((pk2 a b M m f p).2 % uT b (M - (pk2 a b M m f p).1))) d h1 = some (.inl (none, h2)) →
      fg_94_7 N r1 r2 r3 K (.ref 76) (nI a) (nI b) (nI M) d (lN p) (nI f) h = some (.inl (none, h2)) := sorry
theorem e_95t {h h1 h2 h3 : am_H} {A a b M f N : Nat} {d : Int32} (hR : rkH h A) (hR1 : rkH h1 A) (hR2 : rkH h2 A) (ha : a < 6) (hb : b < 6) (hM : M < 13) (hf : 1 ≤ f)
    {r1 : Value → Int32 → Int32 → Int64 → Int32 → am_H → Option am_O} {r2 r3 : Value → Int32 → Int32 → Int32 → Int64 → Int32 → am_H → Option am_O} {rec7 : Value → Int32 → Int32 → Int32 → Int32 → Int64 → Int32 → am_H → Option am_O} :
    ∀ (m g p K : Nat), f + g + m = M → 1 ≤ g → m < K → p < sum3g a b M f m g → sum3g a b M f m g < 2 ^ 50 →
      r1 (.ref 76) (nI a) (nI f) (lN ((pk3g a b M f m g p).2.1 / (uT b (pk3g a b M f m g p).1 * uT b (M - f - (pk3g a b M f m g p).1)))) d h = some (.inl (none, h1)) →
      r1 (.ref 76) (nI b) (nI (pk3g a b M f m g p).1) (lN ((pk3g a b M f m g p).2.1 % (uT b (pk3g a b M f m g p).1 * uT b (M - f - (pk3g a b M f m g p).1)) / uT b (M - f - (pk3g a b M f m g p).1))) d h1 = some (.inl (none, h2)) →
      r1 (.ref 76) (nI b) (nI (M - f - (pk3g a b M f m g p).1)) (lN ((pk3g a b M f m g p).2.1 % uT b (M - f - (pk3g a b M f m g p).1))) d h2 = some (.inl (none, h3)) →
      fg_95_18 N r1 r2 r3 rec7 K (.ref 76) (nI a) (nI b) (nI M) d (lN p) (nI f) (nI g) h = some (.inl (none, h3)) := sorry
theorem e_95n {h : am_H} {A a b M f N : Nat} {d : Int32} (hR : rkH h A) (ha : a < 6) (hb : b < 6) (hM : M < 13) (hf : 1 ≤ f)
    {r1 : Value → Int32 → Int32 → Int64 → Int32 → am_H → Option am_O} {r2 r3 : Value → Int32 → Int32 → Int32 → Int64 → Int32 → am_H → Option am_O} {rec7 : Value → Int32 → Int32 → Int32 → Int32 → Int64 → Int32 → am_H → Option am_O} :
    ∀ (m g p K : Nat), f + g + m = M → 1 ≤ g → m < K → ¬ p < sum3g a b M f m g → p < 2 ^ 50 →
      fg_95_18 N r1 r2 r3 rec7 K (.ref 76) (nI a) (nI b) (nI M) d (lN p) (nI f) (nI g) h = rec7 (.ref 76) (nI a) (nI b) (nI M) d (lN (p - sum3g a b M f m g)) (nI (f + 1)) h := sorry
theorem e_95 {h h1 h2 h3 : am_H} {A a b M N : Nat} {d : Int32} (hN : 20 < N) (hR : rkH h A) (hR1 : rkH h1 A) (hR2 : rkH h2 A) (ha : a < 6) (hb : b < 6) (hM : M < 13)
    {r1 : Value → Int32 → Int32 → Int64 → Int32 → am_H → Option am_O} {r2 r3 : Value → Int32 → Int32 → Int32 → Int64 → Int32 → am_H → Option am_O} :
    ∀ (m f p K : Nat), f + m + 1 = M → 1 ≤ f → m < K → p < sum3 a b M m f → sum3 a b M m f < 2 ^ 50 →
      r1 (.ref 76) (nI a) (nI (pk3 a b M m f p).1) (lN ((pk3 a b M m f p).2.2 / (uT b (pk3 a b M m f p).2.1 * uT b (M - (pk3 a b M m f p).1 - (pk3 a b M m f p).2.1)))) d h = some (.inl (none, h1)) →
      r1 (.ref 76) (nI b) (nI (pk3 a b M m f p).2.1) (lN ((pk3 a b M m f p).2.2 % (uT b (pk3 a b M m f p).2.1 * uT b (M - (pk3 a b M m f p).1 - (pk3 a b M m f p).2.1)) / uT b (M - (pk3 a b M m f p).1 - (pk3 a b M m f p).2.1))) d h1 = some (.inl (none, h2)) →
      r1 (.ref 76) (nI b) (nI (M - (pk3 a b M m f p).1 - (pk3 a b M m f p).2.1)) (lN ((pk3 a b M m f p).2.2 % uT b (M - (pk3 a b M m f p).1 - (pk3 a b M m f p).2.1))) d h2 = some (.inl (none, h3)) →
      fg_95_7 N r1 r2 r3 K (.ref 76) (nI a) (nI b) (nI M) d (lN p) (nI f) h = some (.inl (none, h3)) := sorry
theorem rk_hg {h : am_H} {A B m s : Nat} {fs : List Value} {f : Nat → Int32} (hR : rkH h A) (hA : A ≠ 76 ∧ A ≠ 77 ∧ A ≠ 78) (hB : B ≠ 76 ∧ B ≠ 77 ∧ B ≠ 78) : rkH (hg h A B m fs s f) A := sorry
theorem div_lt2 {p x y : Nat} (h : p < x * y) : p / y < x := sorry
theorem pos_r {p x y : Nat} (h : p < x * y) : 0 < y := Nat.pos_of_ne_zero (fun e => by rw [e, Nat.mul_zero] at h; omega)
/-- Ranks.grow() lays the nodes of unr -/
theorem grw_ok {h : am_H} {A B m N : Nat} {fs : List Value} (hN : 30 < N) (hR : rkH h A) (hO : hgO h A B fs) (hA : A ≠ 76 ∧ A ≠ 77 ∧ A ≠ 78) (hB : B ≠ 76 ∧ B ≠ 77 ∧ B ≠ 78) (hm : m < 2 ^ 30) :
    ∀ n, n ≤ 12 → 1 ≤ n → ∀ (J K c p d s : Nat) (f : Nat → Int32), n ≤ J → 2 * n ≤ K → c < 6 → p < uT c n → d + n ≤ 13 → 2 * (s + n) ≤ m →
      gr_92 N K 92 [.ref 76, .int (nI c), .int (nI n), .long (lN p), .int (nI d)] (hg h A B m fs s f) = some (.inl (none, hg h A B m fs (s + n) (wrt f s (unr J c n p)))) ∧ (unr J c n p).length = n := sorry