/-! ===== the reference's grow(): tasks ===== -/
def srep (c d e : Nat → Int32) (p : Nat → Int64) : List (Nat × Nat × Nat) → Prop
  | [] => True
  | x :: r => (c r.length = nI (x.1 / 2) ∧ d r.length = nI (x.1 % 2) ∧ e r.length = nI x.2.1 ∧ p r.length = lN x.2.2) ∧ srep c d e p r
theorem srep_x {c d e c1 d1 e1 : Nat → Int32} {p p1 : Nat → Int64} : ∀ r, (∀ i, i < r.length → c1 i = c i ∧ d1 i = d i ∧ e1 i = e i ∧ p1 i = p i) → srep c d e p r → srep c1 d1 e1 p1 r := by
  intro r
  induction r with
  | nil => intro _ _; trivial
  | cons x r ih =>
    intro h hs
    obtain ⟨⟨q1, q2, q3, q4⟩, q5⟩ := hs
    obtain ⟨g1, g2, g3, g4⟩ := h r.length (by show r.length < r.length + 1; omega)
    exact ⟨⟨g1.trans q1, g2.trans q2, g3.trans q3, g4.trans q4⟩, ih (fun i hi => h i (by show i < r.length + 1; omega)) q5⟩
theorem upd_eq {f : Nat → Int32} {i : Nat} {v : Int32} : upd f i v i = v := if_pos rfl
theorem upd_ne {f : Nat → Int32} {i j : Nat} {v : Int32} (h : j ≠ i) : upd f i v j = f j := if_neg h
theorem srep_p {c d e : Nat → Int32} {p : Nat → Int64} {r : List (Nat × Nat × Nat)} {w t n : Int32} {y : Int64} {x : Nat × Nat × Nat} (hs : srep c d e p r) (h1 : w = nI (x.1 / 2)) (h2 : t = nI (x.1 % 2)) (h3 : n = nI x.2.1) (h4 : y = lN x.2.2) : srep (upd c r.length w) (upd d r.length t) (upd e r.length n) (vp_updL p r.length y) (x :: r) := by
  refine ⟨⟨upd_eq.trans h1, upd_eq.trans h2, upd_eq.trans h3, (updL_at.trans (if_pos rfl)).trans h4⟩, srep_x r (fun i hi => ?_) hs⟩
  exact ⟨upd_ne (by omega), upd_ne (by omega), upd_ne (by omega), updL_at.trans (if_neg (by omega))⟩
theorem pc_d {c S p : Nat} : pcN c S p / 2 = pwN (c / 2) S p := by
  have := tw_le S p
  unfold pcN
  omega
theorem pc_m {c S p : Nat} : pcN c S p % 2 = twN S p := by
  have := tw_le S p
  unfold pcN
  omega
/-- growParts(): the first part, last of all -/
theorem g_124 {V : Nat → Nat → Value} {I : Nat → Nat → Int32} {L : Nat → Nat → Int64} {R : Nat → Nat → Option Nat} {tl : am_H} {s k : Nat} {a b c d e : Nat → Int32} {p : Nat → Int64} {w t S F Q third second : Nat} (hw : w < 3) (ht : t < 2) (hS : S < 21) (hk : k < 40) (hQ : Q < 2 ^ 50) (ht0 : 0 < third) (ht1 : third < 2 ^ 50) (hs0 : 0 < second) (hs1 : second < 2 ^ 50) : fg_389_124 (.ref 174) (nI w) (nI S) (nI F) (lN Q) (lN third) (lN second) (gS V I L R tl s k a b c d e p) = some (.inl (none, gS V I L R tl s (k + 1) a b (upd c k (nI (pcN (2 * w + t) S 0 / 2))) (upd d k (nI (pcN (2 * w + t) S 0 % 2))) (upd e k (nI F)) (vp_updL p k (lN (Q / third / second))))) := by
  have hne : ∀ x, 0 < x → x < 2 ^ 50 → (lN x : Int64) ≠ 0 := fun x h0 h1 e9 => absurd ((lM_le (b := 0) (by omega) (by omega)).mp (Int64.le_of_eq e9)) (by omega)
  have hd : Q / third < 2 ^ 62 := Nat.lt_of_le_of_lt (Nat.div_le_self _ _) (by omega)
  unfold fg_389_124
  refine ev_cI (pe_381 _ _ _ _) ?_
  refine ev_cI (pe_382 _ _ _) ?_
  refine ev_i (hne third ht0 ht1) ?_
  refine ev_i (hne second hs0 hs1) ?_
  refine ev_i g_ok ?_
  rw [show pv_381 (nI w) (nI S) 0 = nI (pwN w S 0) from pw_eq w hw S hS 0 (by omega), show pv_382 (nI S) 0 = nI (twN S 0) from tw_eq S hS 0 (by omega), lM_div (by omega) (by omega), lM_div hd (by omega), pc_d, pc_m, show (2 * w + t) / 2 = w by omega]
  exact ev_cV (g_387 hk _ _ _ _) rfl
/-- growParts(): the second part ahead of it -/
theorem g_93 {V : Nat → Nat → Value} {I : Nat → Nat → Int32} {L : Nat → Nat → Int64} {R : Nat → Nat → Option Nat} {tl : am_H} {s k : Nat} {a b c d e : Nat → Int32} {p : Nat → Int64} {w t S F G Q third second : Nat} (hw : w < 3) (ht : t < 2) (hS : S < 21) (ha : 2 ≤ arN S) (hk : k + 1 < 40) (hQ : Q < 2 ^ 50) (ht0 : 0 < third) (ht1 : third < 2 ^ 50) (hs0 : 0 < second) (hs1 : second < 2 ^ 50) : fg_389_93 (.ref 174) (nI w) (nI S) (nI F) (nI G) (lN Q) (nI (arN S)) (lN third) (lN second) (gS V I L R tl s k a b c d e p) = some (.inl (none, gS V I L R tl s (k + 1 + 1) a b (upd (upd c k (nI (pcN (2 * w + t) S 1 / 2))) (k + 1) (nI (pcN (2 * w + t) S 0 / 2))) (upd (upd d k (nI (pcN (2 * w + t) S 1 % 2))) (k + 1) (nI (pcN (2 * w + t) S 0 % 2))) (upd (upd e k (nI G)) (k + 1) (nI F)) (vp_updL (vp_updL p k (lN (Q / third % second))) (k + 1) (lN (Q / third / second))))) := by
  have hal := ar_le S
  have hne : ∀ x, 0 < x → x < 2 ^ 50 → (lN x : Int64) ≠ 0 := fun x h0 h1 e9 => absurd ((lM_le (b := 0) (by omega) (by omega)).mp (Int64.le_of_eq e9)) (by omega)
  have hd : Q / third < 2 ^ 62 := Nat.lt_of_le_of_lt (Nat.div_le_self _ _) (by omega)
  unfold fg_389_93
  refine ev_f (nI_ge (by omega : 1 < arN S) (by omega)) ?_
  refine ev_cI (pe_381 _ _ _ _) ?_
  refine ev_cI (pe_382 _ _ _) ?_
  refine ev_i (hne third ht0 ht1) ?_
  refine ev_i (hne second hs0 hs1) ?_
  refine ev_i g_ok ?_
  rw [show pv_381 (nI w) (nI S) 1 = nI (pwN w S 1) from pw_eq w hw S hS 1 (by omega), show pv_382 (nI S) 1 = nI (twN S 1) from tw_eq S hS 1 (by omega), lM_div (by omega) (by omega), lM_mod hd (by omega)]
  refine ev_cV (g_387 (by omega) _ _ _ _) ?_
  rw [g_124 (t := t) hw ht hS hk hQ ht0 ht1 hs0 hs1, pc_d (p := 1), pc_m (p := 1), show (2 * w + t) / 2 = w by omega]
theorem g_389 {V : Nat → Nat → Value} {I : Nat → Nat → Int32} {L : Nat → Nat → Int64} {R : Nat → Nat → Option Nat} {tl : am_H} {s k : Nat} {a b c d e : Nat → Int32} {p : Nat → Int64} (h4 : L 224 = tC) (h5 : L 225 = tS) {w t S n P : Nat} {st : List (Nat × Nat × Nat)} (hw : w < 3) (ht : t < 2) (hS : S < 21) (hn : n < 13) (hk : st.length = k) (hk2 : k + 3 < 40) (hs : srep c d e p st) {F G Q : Nat} (hQ : Q < 2 ^ 50)
    (hprt : prt (2 * w + t) n S P = if arN S = 1 then [(pcN (2 * w + t) S 0, F, Q)] else if arN S = 2 then [(pcN (2 * w + t) S 0, F, Q / uT (pcN (2 * w + t) S 1) G), (pcN (2 * w + t) S 1, G, Q % uT (pcN (2 * w + t) S 1) G)] else [(pcN (2 * w + t) S 0, F, Q / (uT (pcN (2 * w + t) S 1) G * uT (pcN (2 * w + t) S 1) (n - 1 - F - G))), (pcN (2 * w + t) S 1, G, Q % (uT (pcN (2 * w + t) S 1) G * uT (pcN (2 * w + t) S 1) (n - 1 - F - G)) / uT (pcN (2 * w + t) S 1) (n - 1 - F - G)), (pcN (2 * w + t) S 1, n - 1 - F - G, Q % uT (pcN (2 * w + t) S 1) (n - 1 - F - G))])
    (ha : 1 ≤ arN S) (hG : 2 ≤ arN S → 0 < uT (pcN (2 * w + t) S 1) G) (hH : 3 ≤ arN S → 0 < uT (pcN (2 * w + t) S 1) (n - 1 - F - G)) (hFG : 1 + F + G ≤ n) :
    ∃ c' d' e' p', fm_389 (.ref 174) (nI w) (nI S) (nI n) (nI F) (nI G) (lN Q) (gS V I L R tl s k a b c d e p) = some (.inl (none, gS V I L R tl s (prt (2 * w + t) n S P ++ st).length a b c' d' e' p')) ∧ srep c' d' e' p' (prt (2 * w + t) n S P ++ st) := by
  have hal := ar_le S
  have hc6 : 2 * w + t < 6 := by omega
  subst hk
  unfold fm_389 fg_389_0
  have hh : ((nI n - 1) - nI F) - nI G = nI (n - 1 - F - G) := rc_x2 hFG
  have hlG := uT_lt (f := G) (pc_lt (s := S) (p := 1) hc6)
  have hlH := uT_lt (f := n - 1 - F - G) (pc_lt (s := S) (p := 1) hc6)
  rcases (by omega : arN S = 1 ∨ arN S = 2 ∨ arN S = 3) with k1 | k1 | k1
  · rw [if_pos k1] at hprt
    rw [hprt]
    have hs1 := srep_p (x := (pcN (2 * w + t) S 0, F, Q)) hs rfl rfl rfl rfl
    refine ⟨_, _, _, _, ?_, hs1⟩
    · refine ev_cI (pe_343 _ _) ?_
      rw [ar_eq S hS]
      refine ev_t (nI_le (by omega : arN S ≤ 2) (by decide)) ?_
      unfold fg_389_39
      refine ev_t (nI_le (by omega : arN S ≤ 1) (by decide)) ?_
      unfold fg_389_68
      refine ev_t (nI_le (by omega : arN S ≤ 2) (by decide)) ?_
      unfold fg_389_93
      refine ev_t (nI_le (by omega : arN S ≤ 1) (by decide)) ?_
      have q := g_124 (V := V) (I := I) (L := L) (R := R) (tl := tl) (s := s) (k := st.length) (a := a) (b := b) (c := c) (d := d) (e := e) (p := p) (w := w) (t := t) (S := S) (F := F) (Q := Q) (third := 1) (second := 1) hw ht hS (by omega) hQ (by omega) (by omega) (by omega) (by omega)
      rw [Nat.div_one, Nat.div_one] at q
      exact q
  · rw [if_neg (by omega), if_pos k1] at hprt
    rw [hprt]
    have hs2 := srep_p (x := (pcN (2 * w + t) S 1, G, Q / 1 % uT (pcN (2 * w + t) S 1) G)) hs rfl rfl rfl rfl
    have hs3 := srep_p (x := (pcN (2 * w + t) S 0, F, Q / 1 / uT (pcN (2 * w + t) S 1) G)) hs2 rfl rfl rfl rfl
    rw [Nat.div_one] at hs3
    refine ⟨_, _, _, _, ?_, hs3⟩
    refine ev_cI (pe_343 _ _) ?_
    rw [ar_eq S hS]
    refine ev_t (nI_le (by omega : arN S ≤ 2) (by decide)) ?_
    unfold fg_389_39
    refine ev_f (nI_ge (by omega : 1 < arN S) (by omega)) ?_
    refine ev_cI (pe_381 _ _ _ _) ?_
    refine ev_cI (pe_382 _ _ _) ?_
    refine ev_i g_ok ?_
    rw [show pv_381 (nI w) (nI S) 1 = nI (pwN w S 1) from pw_eq w hw S hS 1 (by omega), show pv_382 (nI S) 1 = nI (twN S 1) from tw_eq S hS 1 (by omega)]
    refine ev_cL (g_383 h4 h5 (pw_lt hw) (tw_le _ _) (by omega)) ?_
    rw [show 2 * pwN w S 1 + twN S 1 = pcN (2 * w + t) S 1 by unfold pcN; rw [show (2 * w + t) / 2 = w by omega]]
    unfold fg_389_68
    refine ev_t (nI_le (by omega : arN S ≤ 2) (by decide)) ?_
    have q := g_93 (V := V) (I := I) (L := L) (R := R) (tl := tl) (s := s) (k := st.length) (a := a) (b := b) (c := c) (d := d) (e := e) (p := p) (w := w) (t := t) (S := S) (F := F) (G := G) (Q := Q) (third := 1) (second := uT (pcN (2 * w + t) S 1) G) hw ht hS (by omega) (by omega) hQ (by omega) (by omega) (hG (by omega)) hlG
    rw [Nat.div_one] at q
    exact q
  · rw [if_neg (by omega), if_neg (by omega)] at hprt
    rw [hprt]
    have e1 : Q % (uT (pcN (2 * w + t) S 1) G * uT (pcN (2 * w + t) S 1) (n - 1 - F - G)) / uT (pcN (2 * w + t) S 1) (n - 1 - F - G) = Q / uT (pcN (2 * w + t) S 1) (n - 1 - F - G) % uT (pcN (2 * w + t) S 1) G := by
      rw [Nat.mul_comm, Nat.mod_mul_right_div_self]
    have e2 : Q / (uT (pcN (2 * w + t) S 1) G * uT (pcN (2 * w + t) S 1) (n - 1 - F - G)) = Q / uT (pcN (2 * w + t) S 1) (n - 1 - F - G) / uT (pcN (2 * w + t) S 1) G := by
      rw [Nat.mul_comm, Nat.div_div_eq_div_mul]
    rw [e1, e2]
    have hs1 := srep_p (x := (pcN (2 * w + t) S 1, n - 1 - F - G, Q % uT (pcN (2 * w + t) S 1) (n - 1 - F - G))) hs rfl rfl rfl rfl
    have hs2 := srep_p (x := (pcN (2 * w + t) S 1, G, Q / uT (pcN (2 * w + t) S 1) (n - 1 - F - G) % uT (pcN (2 * w + t) S 1) G)) hs1 rfl rfl rfl rfl
    have hs3 := srep_p (x := (pcN (2 * w + t) S 0, F, Q / uT (pcN (2 * w + t) S 1) (n - 1 - F - G) / uT (pcN (2 * w + t) S 1) G)) hs2 rfl rfl rfl rfl
    refine ⟨_, _, _, _, ?_, hs3⟩
    have h20 := ar_20 S hS (by omega)
    have hp2 : 2 * w + twN S 2 = pcN (2 * w + t) S 1 := by
      unfold pcN
      rw [show (2 * w + t) / 2 = w by omega, h20]
      rfl
    have hne : ∀ x, 0 < x → x < 2 ^ 50 → (lN x : Int64) ≠ 0 := fun x h0 h1 e9 => absurd ((lM_le (b := 0) (by omega) (by omega)).mp (Int64.le_of_eq e9)) (by omega)
    refine ev_cI (pe_343 _ _) ?_
    rw [ar_eq S hS]
    refine ev_f (nI_ge (by omega : 2 < arN S) (by omega)) ?_
    refine ev_cI (pe_382 _ _ _) ?_
    refine ev_i g_ok ?_
    rw [hh, show pv_382 (nI S) 2 = nI (twN S 2) from tw_eq S hS 2 (by omega)]
    refine ev_cL (g_383 h4 h5 hw (tw_le _ _) (by omega)) ?_
    rw [hp2]
    unfold fg_389_39
    refine ev_f (nI_ge (by omega : 1 < arN S) (by omega)) ?_
    refine ev_cI (pe_381 _ _ _ _) ?_
    refine ev_cI (pe_382 _ _ _) ?_
    refine ev_i g_ok ?_
    rw [show pv_381 (nI w) (nI S) 1 = nI (pwN w S 1) from pw_eq w hw S hS 1 (by omega), show pv_382 (nI S) 1 = nI (twN S 1) from tw_eq S hS 1 (by omega)]
    refine ev_cL (g_383 h4 h5 (pw_lt hw) (tw_le _ _) (by omega)) ?_
    rw [show 2 * pwN w S 1 + twN S 1 = pcN (2 * w + t) S 1 by unfold pcN; rw [show (2 * w + t) / 2 = w by omega]]
    unfold fg_389_68
    refine ev_f (nI_ge (by omega : 2 < arN S) (by omega)) ?_
    refine ev_cI (pe_382 _ _ _) ?_
    refine ev_i (hne _ (hH (by omega)) hlH) ?_
    refine ev_i g_ok ?_
    rw [show pv_382 (nI S) 2 = nI (twN S 2) from tw_eq S hS 2 (by omega), lM_mod (by omega) (by omega)]
    refine ev_cV (g_387 (by omega) _ _ _ _) ?_
    have q := g_93 (V := V) (I := I) (L := L) (R := R) (tl := tl) (s := s) (k := st.length + 1) (a := a) (b := b) (c := upd c st.length (nI (pcN (2 * w + t) S 1 / 2))) (d := upd d st.length (nI (pcN (2 * w + t) S 1 % 2))) (e := upd e st.length (nI (n - 1 - F - G))) (p := vp_updL p st.length (lN (Q % uT (pcN (2 * w + t) S 1) (n - 1 - F - G)))) (w := w) (t := t) (S := S) (F := F) (G := G) (Q := Q) (third := uT (pcN (2 * w + t) S 1) (n - 1 - F - G)) (second := uT (pcN (2 * w + t) S 1) G) hw ht hS (by omega) (by omega) hQ (hH (by omega)) hlH (hG (by omega)) hlG
    have hd2 : pcN (2 * w + t) S 1 / 2 = w := by rw [← hp2]; have := tw_le S 2; omega
    have hm2 : pcN (2 * w + t) S 1 % 2 = twN S 2 := by rw [← hp2]; have := tw_le S 2; omega
    rw [← hm2, show nI w = nI (pcN (2 * w + t) S 1 / 2) by rw [hd2]]
    rw [show nI w = nI (pcN (2 * w + t) S 1 / 2) by rw [hd2]] at q
    exact q
