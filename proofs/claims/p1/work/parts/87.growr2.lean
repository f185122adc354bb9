/-! ===== the reference's growOne(): which parts ===== -/
def ssum (sp : Nat → Nat) : Nat → Nat → Nat
  | 0, _ => 0
  | m + 1, g => sp g + ssum sp m (g + 1)
def sfind (sp : Nat → Nat) : Nat → Nat → Nat → Nat × Nat
  | 0, g, P => (g, P)
  | m + 1, g, P => if P < sp g then (g, P) else sfind sp m (g + 1) (P - sp g)
theorem ssum_0 {sp : Nat → Nat} : ∀ m g, (∀ j, g ≤ j → sp j = 0) → ssum sp m g = 0 := by
  intro m
  induction m with
  | zero => intro g _; rfl
  | succ m ih => intro g h; rw [ssum, h g (Nat.le_refl _), ih (g + 1) (fun j hj => h j (by omega))]
theorem spike {sp : Nat → Nat} {G : Nat} (h : ∀ j, j ≠ G → sp j = 0) : ∀ m g P, g ≤ G → G < g + m → ssum sp m g = sp G ∧ (P < sp G → sfind sp m g P = (G, P)) := by
  intro m
  induction m with
  | zero => intro g P h1 h2; omega
  | succ m ih =>
    intro g P h1 h2
    rw [ssum, sfind]
    by_cases c : g = G
    · subst c
      refine ⟨?_, fun hp => by rw [if_pos hp]⟩
      rw [ssum_0 m (g + 1) (fun j hj => h j (by omega))]
      omega
    · obtain ⟨k1, k2⟩ := ih (g + 1) P (by omega) (by omega)
      rw [h g c]
      exact ⟨by rw [k1]; omega, fun hp => by rw [if_neg (by omega)]; exact k2 hp⟩
theorem row3 {c S n f : Nat} (hS : 3 ≤ arN S) : ∀ m g m' P, f + g + m = n - 1 → 1 ≤ n → ssum (spN c S n f) (m + m') g = sum3g (pcN c S 0) (pcN c S 1) (n - 1) f m g ∧ (P < sum3g (pcN c S 0) (pcN c S 1) (n - 1) f m g → sfind (spN c S n f) (m + m') g P = ((pk3g (pcN c S 0) (pcN c S 1) (n - 1) f m g P).1, (pk3g (pcN c S 0) (pcN c S 1) (n - 1) f m g P).2.1)) := by
  intro m
  induction m with
  | zero =>
    intro g m' P h hn
    rw [Nat.zero_add, sum3g]
    refine ⟨ssum_0 m' g (fun j hj => ?_), fun hp => absurd hp (by omega)⟩
    unfold spN
    rw [if_pos hS, if_neg (by omega)]
  | succ m ih =>
    intro g m' P h hn
    have e : spN c S n f g = uT (pcN c S 0) f * (uT (pcN c S 1) g * uT (pcN c S 1) (n - 1 - f - g)) := by
      unfold spN
      rw [if_pos hS, if_pos (by omega)]
    rw [show m + 1 + m' = (m + m') + 1 by omega, ssum, sfind, sum3g, pk3g, e]
    obtain ⟨k1, -⟩ := ih (g + 1) m' 0 (by omega) hn
    refine ⟨by rw [k1], fun hp => ?_⟩
    by_cases c1 : P < uT (pcN c S 0) f * (uT (pcN c S 1) g * uT (pcN c S 1) (n - 1 - f - g))
    · rw [if_pos c1, if_pos c1]
    · rw [if_neg c1, if_neg c1]
      exact (ih (g + 1) m' _ (by omega) hn).2 (by omega)
theorem le_sum2 {x y M : Nat} : ∀ m f0 f, f0 ≤ f → f < f0 + m → uT x f * uT y (M - f) ≤ sum2 x y M m f0 := by
  intro m
  induction m with
  | zero => intro f0 f h1 h2; omega
  | succ m ih =>
    intro f0 f h1 h2
    rw [sum2]
    by_cases c : f = f0
    · subst c; omega
    · have := ih (f0 + 1) f (by omega) (by omega); omega
theorem le_sum3g {x y M f : Nat} : ∀ m g0 g, g0 ≤ g → g < g0 + m → uT x f * (uT y g * uT y (M - f - g)) ≤ sum3g x y M f m g0 := by
  intro m
  induction m with
  | zero => intro f0 f h1 h2; omega
  | succ m ih =>
    intro g0 g h1 h2
    rw [sum3g]
    by_cases c : g = g0
    · subst c; omega
    · have := ih (g0 + 1) g (by omega) (by omega); omega
theorem le_sum3 {x y M : Nat} : ∀ m f0 f, f0 ≤ f → f < f0 + m → sum3g x y M f (M - f - 1) 1 ≤ sum3 x y M m f0 := by
  intro m
  induction m with
  | zero => intro f0 f h1 h2; omega
  | succ m ih =>
    intro f0 f h1 h2
    rw [sum3]
    by_cases c : f = f0
    · subst c; omega
    · have := ih (f0 + 1) f (by omega) (by omega); omega
/-- the loop over the second part's sizes -/
theorem g_388g {V : Nat → Nat → Value} {I : Nat → Nat → Int32} {L : Nat → Nat → Int64} {R : Nat → Nat → Option Nat} {tl : am_H} {s k : Nat} {a b c d e : Nat → Int32} {p : Nat → Int64} (h4 : L 224 = tC) (h5 : L 225 = tS) {N w t n S f : Nat} (hw : w < 3) (ht : t < 2) (hS : S < 21) (hn : n < 13) (hf : f < 13) (hb : ∀ g, g < 13 → spN (2 * w + t) S n f g < 2 ^ 50) {rec : Value → Int32 → Int32 → Int64 → Int32 → Int32 → Int32 → am_H → Option am_O} :
    ∀ (m g P K : Nat), g + m = (if arN S ≤ 1 then 1 else n) → m < K → P < 2 ^ 50 → fg_388_151 N rec K (.ref 174) (nI w) (nI n) (lN P) (nI S) (nI (arN S)) (nI f) (nI g) (gS V I L R tl s k a b c d e p) =
      if P < ssum (spN (2 * w + t) S n f) m g then am_cV true (fm_389 (.ref 174) (nI w) (nI S) (nI n) (nI f) (nI (sfind (spN (2 * w + t) S n f) m g P).1) (lN (sfind (spN (2 * w + t) S n f) m g P).2) (gS V I L R tl s k a b c d e p)) (fun h9 => some (.inl (none, h9))) else rec (.ref 174) (nI w) (nI n) (lN (P - ssum (spN (2 * w + t) S n f) m g)) (nI S) (nI (arN S)) (nI (f + 1)) (gS V I L R tl s k a b c d e p) := by
  have ha := ar_le S
  -- the test at the loop's head
  have hstep : ∀ (g P K : Nat) (o : Option am_O) (lim : Nat), lim = (if arN S ≤ 1 then 1 else n) → fg_388_164 N rec (fg_388_151 N rec K) (.ref 174) (nI w) (nI n) (lN P) (nI S) (nI (arN S)) (nI f) (nI g) (nI g) (nI lim) (gS V I L R tl s k a b c d e p) = o → fg_388_151 N rec (K + 1) (.ref 174) (nI w) (nI n) (lN P) (nI S) (nI (arN S)) (nI f) (nI g) (gS V I L R tl s k a b c d e p) = o := by
    intro g P K o lim hlim ho
    rw [fg_388_151]
    by_cases c : arN S ≤ 1
    · rw [if_pos c] at hlim
      subst hlim
      exact ev_t (nI_le c (by decide)) ho
    · rw [if_neg c] at hlim
      subst hlim
      exact ev_f (nI_ge (by omega : 1 < arN S) (by omega)) ho
  intro m
  induction m with
  | zero =>
    intro g P K hm hK hP
    obtain ⟨K, rfl⟩ : ∃ k, K = k + 1 := ⟨K - 1, by omega⟩
    rw [ssum, if_neg (by omega), Nat.sub_zero]
    refine hstep g P K _ g (by omega) ?_
    unfold fg_388_164
    refine ev_t (nI_le (Nat.le_refl _) (by split at hm <;> omega)) ?_
    rw [nI_1]
  | succ m ih =>
    intro g P K hm hK hP
    obtain ⟨K, rfl⟩ : ∃ k, K = k + 1 := ⟨K - 1, by omega⟩
    have hg : g < 13 := by split at hm <;> omega
    have hbg := hb g hg
    refine hstep g P K _ (g + (m + 1)) hm ?_
    unfold fg_388_164
    refine ev_f (nI_ge (by omega) (by split at hm <;> omega)) ?_
    refine ev_i g_ok ?_
    refine ev_cL (g_380 h4 h5 hw ht hS hn hf hg) ?_
    rw [ssum, sfind]
    by_cases c1 : P < spN (2 * w + t) S n f g
    · rw [if_pos c1, if_pos (show P < spN (2 * w + t) S n f g + ssum (spN (2 * w + t) S n f) m (g + 1) by omega)]
      refine ev_f (fun e9 => absurd ((lM_le (by omega) (by omega)).mp ((lg_cmp_ge _ _).mp e9)) (by omega)) ?_
      exact ev_i g_ok rfl
    · rw [if_neg c1]
      refine ev_t ((lg_cmp_ge _ _).mpr ((lM_le (by omega) (by omega)).mpr (by omega))) ?_
      rw [nI_1, lN_sub (by omega), ih (g + 1) (P - spN (2 * w + t) S n f g) K (by omega) (by omega) (by omega)]
      by_cases c2 : P < spN (2 * w + t) S n f g + ssum (spN (2 * w + t) S n f) m (g + 1)
      · rw [if_pos c2, if_pos (by omega)]
      · rw [if_neg c2, if_neg (by omega), Nat.sub_sub]
/-- a row of the loop over the first part's sizes -/
theorem g_388r {V : Nat → Nat → Value} {I : Nat → Nat → Int32} {L : Nat → Nat → Int64} {R : Nat → Nat → Option Nat} {tl : am_H} {s k : Nat} {a b c d e : Nat → Int32} {p : Nat → Int64} {N w n S f K P : Nat} {rec : Value → Int32 → Int32 → Int64 → Int32 → Int32 → Int32 → am_H → Option am_O} {o : Option am_O} (hf : f < n) (hn : n < 13) (hrec : fg_388_132 N K = rec)
    (ho : fg_388_151 N rec N (.ref 174) (nI w) (nI n) (lN P) (nI S) (nI (arN S)) (nI f) (nI (if arN S ≤ 1 then 0 else 1)) (gS V I L R tl s k a b c d e p) = o) : fg_388_132 N (K + 1) (.ref 174) (nI w) (nI n) (lN P) (nI S) (nI (arN S)) (nI f) (gS V I L R tl s k a b c d e p) = o := by
  have ha := ar_le S
  subst hrec
  rw [fg_388_132]
  refine ev_f (nI_ge hf (by omega)) ?_
  by_cases c1 : arN S ≤ 1
  · rw [if_pos c1] at ho
    refine ev_t (nI_le c1 (by decide)) ?_
    unfold fg_388_149
    exact ho
  · rw [if_neg c1] at ho
    refine ev_f (nI_ge (by omega : 1 < arN S) (by omega)) ?_
    unfold fg_388_149
    exact ho
theorem g_388a {V : Nat → Nat → Value} {I : Nat → Nat → Int32} {L : Nat → Nat → Int64} {R : Nat → Nat → Option Nat} {tl : am_H} {s k : Nat} {a b c d e : Nat → Int32} {p : Nat → Int64} (h4 : L 224 = tC) (h5 : L 225 = tS) {N w t n S : Nat} (hN : 20 < N) (hw : w < 3) (ht : t < 2) (hS : S < 21) (hn : n < 13) (ha : arN S = 1) :
    ∀ (m f P K : Nat), f + m + 1 = n → m + 1 < K → P < uT (pcN (2 * w + t) S 0) (n - 1) → fg_388_132 N K (.ref 174) (nI w) (nI n) (lN P) (nI S) (nI (arN S)) (nI f) (gS V I L R tl s k a b c d e p) = am_cV true (fm_389 (.ref 174) (nI w) (nI S) (nI n) (nI (n - 1)) (nI 0) (lN P) (gS V I L R tl s k a b c d e p)) (fun h9 => some (.inl (none, h9))) := by
  have hc6 : 2 * w + t < 6 := by omega
  have hsp : ∀ f g, spN (2 * w + t) S n f g = if n = 1 + f + g then uT (pcN (2 * w + t) S 0) f else 0 := by
    intro f g
    unfold spN
    rw [if_neg (by omega)]
    by_cases c1 : n = 1 + f + g
    · rw [if_pos c1, if_pos c1, if_pos (by omega)]
    · rw [if_neg c1, if_neg c1]
  have hb : ∀ f g, spN (2 * w + t) S n f g < 2 ^ 50 := by
    intro f g
    rw [hsp]
    split
    · exact uT_lt (pc_lt hc6)
    · decide
  intro m
  induction m with
  | zero =>
    intro f P K hm hK hP
    obtain ⟨K, rfl⟩ : ∃ k, K = k + 1 := ⟨K - 1, by omega⟩
    have hlt := uT_lt (f := n - 1) (pc_lt (s := S) (p := 0) hc6)
    refine g_388r (by omega) hn rfl ?_
    rw [if_pos (by omega), g_388g h4 h5 hw ht hS hn (by omega) (fun g _ => hb f g) 1 0 P N (by rw [if_pos (by omega)]) (by omega) (by omega)]
    obtain rfl : f = n - 1 := by omega
    have e : spN (2 * w + t) S n (n - 1) 0 = uT (pcN (2 * w + t) S 0) (n - 1) := by rw [hsp, if_pos (by omega)]
    rw [if_pos (by rw [ssum, ssum, e]; omega), sfind, if_pos (by rw [e]; exact hP)]
  | succ m ih =>
    intro f P K hm hK hP
    obtain ⟨K, rfl⟩ : ∃ k, K = k + 1 := ⟨K - 1, by omega⟩
    have hlt := uT_lt (f := n - 1) (pc_lt (s := S) (p := 0) hc6)
    refine g_388r (by omega) hn rfl ?_
    rw [if_pos (by omega), g_388g h4 h5 hw ht hS hn (by omega) (fun g _ => hb f g) 1 0 P N (by rw [if_pos (by omega)]) (by omega) (by omega)]
    have e : ssum (spN (2 * w + t) S n f) 1 0 = 0 := by rw [ssum, ssum, hsp, if_neg (by omega)]
    rw [e, if_neg (by omega), Nat.sub_zero]
    exact ih (f + 1) P K (by omega) (by omega) hP
theorem g_388b {V : Nat → Nat → Value} {I : Nat → Nat → Int32} {L : Nat → Nat → Int64} {R : Nat → Nat → Option Nat} {tl : am_H} {s k : Nat} {a b c d e : Nat → Int32} {p : Nat → Int64} (h4 : L 224 = tC) (h5 : L 225 = tS) {N w t n S : Nat} (hN : 20 < N) (hw : w < 3) (ht : t < 2) (hS : S < 21) (hn : n < 13) (hn3 : 3 ≤ n) (ha : arN S = 2) (hu : sum2 (pcN (2 * w + t) S 0) (pcN (2 * w + t) S 1) (n - 1) (n - 2) 1 < 2 ^ 50) :
    ∀ (m f P K : Nat), f + m = n - 1 → 1 ≤ f → m + 1 < K → P < sum2 (pcN (2 * w + t) S 0) (pcN (2 * w + t) S 1) (n - 1) m f → P < 2 ^ 50 → fg_388_132 N K (.ref 174) (nI w) (nI n) (lN P) (nI S) (nI (arN S)) (nI f) (gS V I L R tl s k a b c d e p) = am_cV true (fm_389 (.ref 174) (nI w) (nI S) (nI n) (nI (pk2 (pcN (2 * w + t) S 0) (pcN (2 * w + t) S 1) (n - 1) m f P).1) (nI (n - 1 - (pk2 (pcN (2 * w + t) S 0) (pcN (2 * w + t) S 1) (n - 1) m f P).1)) (lN (pk2 (pcN (2 * w + t) S 0) (pcN (2 * w + t) S 1) (n - 1) m f P).2) (gS V I L R tl s k a b c d e p)) (fun h9 => some (.inl (none, h9))) := by
  have hsp : ∀ f g, spN (2 * w + t) S n f g = if n = 1 + f + g then uT (pcN (2 * w + t) S 0) f * uT (pcN (2 * w + t) S 1) g else 0 := by
    intro f g
    unfold spN
    rw [if_neg (by omega)]
    by_cases c1 : n = 1 + f + g
    · rw [if_pos c1, if_pos c1, if_neg (by omega)]
    · rw [if_neg c1, if_neg c1]
  intro m
  induction m with
  | zero => intro f P K hm hf hK hP; rw [sum2] at hP; omega
  | succ m ih =>
    intro f P K hm hf hK hP hP2
    obtain ⟨K, rfl⟩ : ∃ k, K = k + 1 := ⟨K - 1, by omega⟩
    rw [sum2] at hP
    have hle := le_sum2 (x := pcN (2 * w + t) S 0) (y := pcN (2 * w + t) S 1) (M := n - 1) (n - 2) 1 f hf (by omega)
    have hb : ∀ g, g < 13 → spN (2 * w + t) S n f g < 2 ^ 50 := by
      intro g _
      rw [hsp]
      by_cases c1 : n = 1 + f + g
      · rw [if_pos c1, show g = n - 1 - f by omega]; omega
      · rw [if_neg c1]; decide
    obtain ⟨s1, s2⟩ := spike (sp := spN (2 * w + t) S n f) (G := n - 1 - f) (fun j hj => by rw [hsp, if_neg (by omega)]) (n - 1) 1 P (by omega) (by omega)
    have e : spN (2 * w + t) S n f (n - 1 - f) = uT (pcN (2 * w + t) S 0) f * uT (pcN (2 * w + t) S 1) (n - 1 - f) := by rw [hsp, if_pos (by omega)]
    rw [e] at s1 s2
    refine g_388r (by omega) hn rfl ?_
    rw [if_neg (by omega), g_388g h4 h5 hw ht hS hn (by omega) hb (n - 1) 1 P N (by rw [if_neg (by omega)]; omega) (by omega) hP2, s1, pk2]
    by_cases c1 : P < uT (pcN (2 * w + t) S 0) f * uT (pcN (2 * w + t) S 1) (n - 1 - f)
    · rw [if_pos c1, if_pos c1, s2 c1]
    · rw [if_neg c1, if_neg c1]
      exact ih (f + 1) _ K (by omega) (by omega) (by omega) (by omega) (by omega)
theorem g_388c {V : Nat → Nat → Value} {I : Nat → Nat → Int32} {L : Nat → Nat → Int64} {R : Nat → Nat → Option Nat} {tl : am_H} {s k : Nat} {a b c d e : Nat → Int32} {p : Nat → Int64} (h4 : L 224 = tC) (h5 : L 225 = tS) {N w t n S : Nat} (hN : 20 < N) (hw : w < 3) (ht : t < 2) (hS : S < 21) (hn : n < 13) (hn4 : 4 ≤ n) (ha : arN S = 3) (hu : sum3 (pcN (2 * w + t) S 0) (pcN (2 * w + t) S 1) (n - 1) (n - 3) 1 < 2 ^ 50) :
    ∀ (m f P K : Nat), f + m + 1 = n - 1 → 1 ≤ f → m + 1 < K → P < sum3 (pcN (2 * w + t) S 0) (pcN (2 * w + t) S 1) (n - 1) m f → P < 2 ^ 50 → fg_388_132 N K (.ref 174) (nI w) (nI n) (lN P) (nI S) (nI (arN S)) (nI f) (gS V I L R tl s k a b c d e p) = am_cV true (fm_389 (.ref 174) (nI w) (nI S) (nI n) (nI (pk3 (pcN (2 * w + t) S 0) (pcN (2 * w + t) S 1) (n - 1) m f P).1) (nI (pk3 (pcN (2 * w + t) S 0) (pcN (2 * w + t) S 1) (n - 1) m f P).2.1) (lN (pk3 (pcN (2 * w + t) S 0) (pcN (2 * w + t) S 1) (n - 1) m f P).2.2) (gS V I L R tl s k a b c d e p)) (fun h9 => some (.inl (none, h9))) := by
  intro m
  induction m with
  | zero => intro f P K hm hf hK hP; rw [sum3] at hP; omega
  | succ m ih =>
    intro f P K hm hf hK hP hP2
    obtain ⟨K, rfl⟩ : ∃ k, K = k + 1 := ⟨K - 1, by omega⟩
    rw [sum3] at hP
    have hle := le_sum3 (x := pcN (2 * w + t) S 0) (y := pcN (2 * w + t) S 1) (M := n - 1) (n - 3) 1 f hf (by omega)
    have hb : ∀ g, g < 13 → spN (2 * w + t) S n f g < 2 ^ 50 := by
      intro g _
      unfold spN
      rw [if_pos (by omega)]
      by_cases c1 : 2 + f + g ≤ n
      · rw [if_pos c1]
        by_cases c0 : g = 0
        · subst c0
          rw [show uT (pcN (2 * w + t) S 1) 0 = 0 from rfl, Nat.zero_mul, Nat.mul_zero]
          decide
        · have := le_sum3g (x := pcN (2 * w + t) S 0) (y := pcN (2 * w + t) S 1) (M := n - 1) (f := f) (n - 1 - f - 1) 1 g (by omega) (by omega)
          omega
      · rw [if_neg c1]; decide
    obtain ⟨s1, s2⟩ := row3 (c := 2 * w + t) (S := S) (n := n) (f := f) (by omega) (n - 1 - f - 1) 1 (f + 1) P (by omega) (by omega)
    rw [show n - 1 - f - 1 + (f + 1) = n - 1 by omega] at s1 s2
    have k3 := pk3g_ok (a := pcN (2 * w + t) S 0) (b := pcN (2 * w + t) S 1) (M := n - 1) (f := f) (n - 1 - f - 1) 1 P (by omega) (by omega)
    refine g_388r (by omega) hn rfl ?_
    rw [if_neg (by omega), g_388g h4 h5 hw ht hS hn (by omega) hb (n - 1) 1 P N (by rw [if_neg (by omega)]; omega) (by omega) hP2, s1, pk3]
    by_cases c1 : P < sum3g (pcN (2 * w + t) S 0) (pcN (2 * w + t) S 1) (n - 1) f (n - 1 - f - 1) 1
    · rw [if_pos c1] at k3
      rw [if_pos c1, s2 c1, if_pos k3.1]
    · rw [if_neg c1] at k3
      rw [if_neg c1, if_neg (by rw [k3.1]; decide), k3.2]
      exact ih (f + 1) _ K (by omega) (by omega) (by omega) (by omega) (by omega)
