/-! ===== measure(), ofCode(): they end ===== -/
theorem nI_m1 (n : Nat) : nI (n + 1) + (-1) = nI n := by
  rw [← Int32.sub_eq_add_neg]
  exact nI_pred n
set_option maxRecDepth 100000 in
set_option maxHeartbeats 4000000 in
theorem d_54_167 {V : Nat → Nat → Value} {I : Nat → Nat → Int32} {L : Nat → Nat → Int64} {R : Nat → Nat → Option Nat} {tl : am_H} {t : Nat} (o3 : V 167 3 = .int (nI t)) (o4 : V 167 4 = .int 2) (ht : t ≤ 60) (i j : Int32) : ∃ v, fm_54 (.ref 167) i j (fx V I L R ++ tl) = some (.inl (some (.int v), fx V I L R ++ tl)) := by
  have g3 : am_vI (am_pG 771 (.ref 167) (fx V I L R ++ tl)) = some (nI t) := by show am_vI (some (V 167 3)) = _; rw [o3]; rfl
  have g4 : am_vI (am_pG 772 (.ref 167) (fx V I L R ++ tl)) = some 2 := by show am_vI (some (V 167 4)) = _; rw [o4]; rfl
  unfold fm_54 fg_54_0
  by_cases c1 : i < 0
  · exact ⟨0, ev_t c1 rfl⟩
  · obtain ⟨a, ha, rfl⟩ := nI_of c1
    by_cases c2 : nI t ≤ nI a
    · exact ⟨0, ev_f c1 (ev_b g3 (ev_t c2 rfl))⟩
    · have hat : a < t := Nat.not_le.mp (fun h9 => c2 (nI_le h9 ha))
      by_cases c3 : j < 0
      · exact ⟨0, ev_f c1 (ev_b g3 (ev_f c2 (ev_t c3 rfl)))⟩
      · obtain ⟨b, hb, rfl⟩ := nI_of c3
        by_cases c4 : 2 ≤ nI b
        · exact ⟨0, ev_f c1 (ev_b g3 (ev_f c2 (ev_f c3 (ev_b g4 (ev_t c4 rfl)))))⟩
        · have hb2 : b < 2 := Nat.not_le.mp (fun h9 => c4 (nI_le (a := 2) h9 hb))
          refine ⟨I 168 (2 * a + b), ev_f c1 (ev_b g3 (ev_f c2 (ev_f c3 (ev_b g4 (ev_f c4 (ev_b (a := .ref 168) rfl (ev_b g4 ?_)))))))⟩
          rw [show nI a * 2 + nI b = nI (2 * a + b) by rw [← nI_add, Nat.mul_comm, nI_mul]; rfl]
          refine ev_b (ev_a (f := I 168) (n := 120) rfl (am_inb_n (by omega) (by omega))) ?_
          rw [nI_clamp (by omega)]
          rfl
set_option maxRecDepth 100000 in
set_option maxHeartbeats 4000000 in
theorem d_54_169 {V : Nat → Nat → Value} {I : Nat → Nat → Int32} {L : Nat → Nat → Int64} {R : Nat → Nat → Option Nat} {tl : am_H} {t : Nat} (o3 : V 169 3 = .int (nI t)) (o4 : V 169 4 = .int 2) (ht : t ≤ 60) (i j : Int32) : ∃ v, fm_54 (.ref 169) i j (fx V I L R ++ tl) = some (.inl (some (.int v), fx V I L R ++ tl)) := by
  have g3 : am_vI (am_pG 771 (.ref 169) (fx V I L R ++ tl)) = some (nI t) := by show am_vI (some (V 169 3)) = _; rw [o3]; rfl
  have g4 : am_vI (am_pG 772 (.ref 169) (fx V I L R ++ tl)) = some 2 := by show am_vI (some (V 169 4)) = _; rw [o4]; rfl
  unfold fm_54 fg_54_0
  by_cases c1 : i < 0
  · exact ⟨0, ev_t c1 rfl⟩
  · obtain ⟨a, ha, rfl⟩ := nI_of c1
    by_cases c2 : nI t ≤ nI a
    · exact ⟨0, ev_f c1 (ev_b g3 (ev_t c2 rfl))⟩
    · have hat : a < t := Nat.not_le.mp (fun h9 => c2 (nI_le h9 ha))
      by_cases c3 : j < 0
      · exact ⟨0, ev_f c1 (ev_b g3 (ev_f c2 (ev_t c3 rfl)))⟩
      · obtain ⟨b, hb, rfl⟩ := nI_of c3
        by_cases c4 : 2 ≤ nI b
        · exact ⟨0, ev_f c1 (ev_b g3 (ev_f c2 (ev_f c3 (ev_b g4 (ev_t c4 rfl)))))⟩
        · have hb2 : b < 2 := Nat.not_le.mp (fun h9 => c4 (nI_le (a := 2) h9 hb))
          refine ⟨I 170 (2 * a + b), ev_f c1 (ev_b g3 (ev_f c2 (ev_f c3 (ev_b g4 (ev_f c4 (ev_b (a := .ref 170) rfl (ev_b g4 ?_)))))))⟩
          rw [show nI a * 2 + nI b = nI (2 * a + b) by rw [← nI_add, Nat.mul_comm, nI_mul]; rfl]
          refine ev_b (ev_a (f := I 170) (n := 120) rfl (am_inb_n (by omega) (by omega))) ?_
          rw [nI_clamp (by omega)]
          rfl
theorem pv14_le (v : Int32) : ∃ k, k ≤ 3 ∧ pv_14 v = nI k := by
  unfold pv_14
  split
  · split
    · split
      · exact ⟨3, by omega, rfl⟩
      · exact ⟨2, by omega, rfl⟩
    · exact ⟨1, by omega, rfl⟩
  · exact ⟨0, by omega, rfl⟩
set_option maxRecDepth 100000 in
set_option maxHeartbeats 4000000 in
/-- the ends of a node's parts -/
theorem d_77i {V : Nat → Nat → Value} {I : Nat → Nat → Int32} {L : Nat → Nat → Int64} {R : Nat → Nat → Option Nat} {tl : am_H} {N z q : Nat} {g : Nat → Int32} {r : Value → Value → Int32 → am_H → Option am_O} (h7 : V 132 7 = .int (nI z)) (hz : z ≤ 60) (hq : q < z) (hg : ∀ j, q < j → j < z → ∃ e, j < e ∧ e ≤ z ∧ g j = nI e) : ∀ (m e K : Nat), m < K → m < 2 ^ 31 → q < e → e ≤ z → ∃ e', q < e' ∧ e' ≤ z ∧ fg_77_39 N r K (.ref 132) (.ref 169) (nI q) (nI e) (nI m) (fx V (iup I 133 g) L R ++ tl) = r (.ref 132) (.ref 169) (nI q + (-1)) (fx V (iup I 133 (upd g q (nI e'))) L R ++ tl) := by
  have g7 : am_vI (am_pG 1799 (.ref 132) (fx V (iup I 133 g) L R ++ tl)) = some (nI z) := by show am_vI (some (V 132 7)) = _; rw [h7]; rfl
  intro m
  induction m with
  | zero =>
    intro e K hK hm he hez
    obtain ⟨K, rfl⟩ : ∃ k, K = k + 1 := ⟨K - 1, by omega⟩
    refine ⟨e, he, hez, ?_⟩
    rw [fg_77_39]
    refine ev_t (by decide) ?_
    refine ev_b (a := .ref 133) rfl ?_
    exact ev_b (ev_s (f := g) (n := 60) (h1 := fx V (iup I 133 (upd g q (nI e))) L R ++ tl) rfl (am_inb_n (by omega) (by omega)) rfl (by rw [nI_clamp (by omega)]; rfl)) rfl
  | succ m ih =>
    intro e K hK hm he hez
    obtain ⟨K, rfl⟩ : ∃ k, K = k + 1 := ⟨K - 1, by omega⟩
    by_cases c : z ≤ e
    · obtain ⟨e', h1, h2, h3⟩ := ih z K (by omega) (by omega) hq (Nat.le_refl _)
      refine ⟨e', h1, h2, ?_⟩
      rw [fg_77_39]
      refine ev_f (nI_nle (by omega) hm) ?_
      refine ev_b g7 ?_
      refine ev_t (nI_le c (by omega)) ?_
      refine ev_b g7 ?_
      unfold fg_77_65
      rw [nI_m1]
      exact h3
    · obtain ⟨w, w1, w2, w3⟩ := hg e he (by omega)
      obtain ⟨e', h1, h2, h3⟩ := ih w K (by omega) (by omega) (by omega) w2
      refine ⟨e', h1, h2, ?_⟩
      rw [fg_77_39]
      refine ev_f (nI_nle (by omega) hm) ?_
      refine ev_b g7 ?_
      refine ev_f (nI_ge (by omega) (by omega)) ?_
      refine ev_b (a := .ref 133) rfl ?_
      refine ev_b (ev_a (f := g) (n := 60) rfl (am_inb_n (by omega) (by omega))) ?_
      rw [nI_clamp (by omega), w3]
      unfold fg_77_65
      rw [nI_m1]
      exact h3
set_option maxRecDepth 100000 in
set_option maxHeartbeats 4000000 in
theorem d_77o {V : Nat → Nat → Value} {I : Nat → Nat → Int32} {L : Nat → Nat → Int64} {R : Nat → Nat → Option Nat} {tl : am_H} {N z : Nat} (hN : 100 < N) (h7 : V 132 7 = .int (nI z)) (o3 : V 169 3 = .int (nI z)) (o4 : V 169 4 = .int 2) (hz : z ≤ 60) : ∀ (q K : Nat) (g : Nat → Int32), q ≤ z → q < K → (∀ j, q ≤ j → j < z → ∃ e, j < e ∧ e ≤ z ∧ g j = nI e) → ∃ g', fg_77_20 N K (.ref 132) (.ref 169) (nI q + (-1)) (fx V (iup I 133 g) L R ++ tl) = some (.inl (none, fx V (iup I 133 g') L R ++ tl)) := by
  intro q
  induction q with
  | zero =>
    intro K g hq hK hg
    obtain ⟨K, rfl⟩ : ∃ k, K = k + 1 := ⟨K - 1, by omega⟩
    refine ⟨g, ?_⟩
    rw [fg_77_20]
    exact ev_t (by decide) rfl
  | succ q ih =>
    intro K g hq hK hg
    obtain ⟨K, rfl⟩ : ∃ k, K = k + 1 := ⟨K - 1, by omega⟩
    obtain ⟨v, hv⟩ := d_54_169 (V := V) (I := iup I 133 g) (L := L) (R := R) (tl := tl) o3 o4 hz (nI q) 0
    obtain ⟨m, hm, pm⟩ := pv14_le v
    obtain ⟨e', e1, e2, e3⟩ := d_77i (V := V) (I := I) (L := L) (R := R) (tl := tl) (N := N) (g := g) (r := fg_77_20 N K) h7 hz (show q < z by omega) (fun j h1 h2 => hg j h1 h2) m (q + 1) N (by omega) (by omega) (by omega) (by omega)
    obtain ⟨g', hg'⟩ := ih K (upd g q (nI e')) (by omega) (by omega) (fun j h1 h2 => by
      by_cases c : j = q
      · exact ⟨e', by omega, e2, by unfold upd; rw [if_pos c]⟩
      · obtain ⟨e, a1, a2, a3⟩ := hg j (by omega) h2
        exact ⟨e, a1, a2, by unfold upd; rw [if_neg c]; exact a3⟩)
    refine ⟨g', ?_⟩
    rw [fg_77_20, nI_m1]
    refine ev_f (nI_pos (by omega)) ?_
    refine ev_i rfl ?_
    refine ev_cI hv ?_
    refine ev_cI (pe_14 v _) ?_
    rw [pm, nI_1, e3]
    exact hg'
theorem iup_self {I : Nat → Nat → Int32} {a : Nat} : iup I a (I a) = I := by
  funext x
  unfold iup
  split
  · rename_i c
    rw [c]
  · rfl
theorem iup_iup {I : Nat → Nat → Int32} {a : Nat} {f g : Nat → Int32} : iup (iup I a f) a g = iup I a g := by
  funext x
  unfold iup
  split
  · rfl
  · rfl
theorem d_77 {V : Nat → Nat → Value} {I : Nat → Nat → Int32} {L : Nat → Nat → Int64} {R : Nat → Nat → Option Nat} {tl : am_H} {N z : Nat} (hN : 100 < N) (o3 : V 169 3 = .int (nI z)) (o4 : V 169 4 = .int 2) (hz : z ≤ 60) : ∃ g', fm_77 N (.ref 132) (.ref 169) (fx V I L R ++ tl) = some (.inl (none, fx (vup V 132 7 (.int (nI z))) (iup I 133 g') L R ++ tl)) := by
  obtain ⟨g', hg'⟩ := d_77o (V := vup V 132 7 (.int (nI z))) (I := I) (L := L) (R := R) (tl := tl) hN vup_eq (by rw [vup_ne (by omega)]; exact o3) (by rw [vup_ne (by omega)]; exact o4) hz z N (I 133) (Nat.le_refl _) (by omega) (fun j h1 h2 => by omega)
  refine ⟨g', ?_⟩
  unfold fm_77 fg_77_0
  refine ev_b (a := nI z) (by show am_vI (some (V 169 3)) = _; rw [o3]; rfl) ?_
  refine ev_cI (pe_38 _ _ _) ?_
  rw [show pv_38 (nI z) 60 = nI z from if_neg (show ¬ (60 : Int32) < nI z from nI_nlt (a := 60) (b := z) hz (by decide))]
  refine ev_b (a := fx (vup V 132 7 (.int (nI z))) I L R ++ tl) (ev_p rfl rfl rfl rfl) ?_
  refine ev_b (a := nI z) rfl ?_
  rw [Int32.sub_eq_add_neg]
  rw [iup_self] at hg'
  exact hg'
set_option maxRecDepth 100000 in
set_option maxHeartbeats 4000000 in
theorem d_57 {V : Nat → Nat → Value} {I : Nat → Nat → Int32} {L : Nat → Nat → Int64} {R : Nat → Nat → Option Nat} {tl : am_H} {s : Nat} {g : Nat → Int32} (h7 : V 132 7 = .int (nI s)) (hs : s ≤ 60) (t l : Int32) : ∃ v g', fm_57 (.ref 132) t l (fx V (iup I 139 g) L R ++ tl) = some (.inl (some (.int v), fx V (iup I 139 g') L R ++ tl)) := by
  have g7 : am_vI (am_pG 1799 (.ref 132) (fx V (iup I 139 g) L R ++ tl)) = some (nI s) := by show am_vI (some (V 132 7)) = _; rw [h7]; rfl
  unfold fm_57 fg_57_0
  by_cases c1 : t < 0
  · exact ⟨0, g, ev_t c1 rfl⟩
  · obtain ⟨a, ha, rfl⟩ := nI_of c1
    by_cases c2 : nI s < nI a
    · exact ⟨0, g, ev_f c1 (ev_b g7 (ev_t c2 rfl))⟩
    · have hat : a ≤ s := Nat.not_lt.mp (fun h9 => c2 (nI_lt h9 ha))
      have hA : am_pA 0 (.ref 139) (nI a) (fx V (iup I 139 g) L R ++ tl) = some (g a) := by
        rw [ev_a (f := g) (n := 61) rfl (am_inb_n (by omega) (by omega)), nI_clamp ha]
      have hS : fg_57_46 (.ref 132) (nI a) l (fx V (iup I 139 g) L R ++ tl) = some (.inl (some (.int 1), fx V (iup I 139 (upd g a l)) L R ++ tl)) := by
        unfold fg_57_46
        refine ev_b (a := .ref 139) rfl ?_
        exact ev_b (ev_s (f := g) (n := 61) (h1 := fx V (iup I 139 (upd g a l)) L R ++ tl) rfl (am_inb_n (by omega) (by omega)) rfl (by rw [nI_clamp (by omega)]; rfl)) rfl
      have h25 : ∃ v g', fg_57_25 (.ref 132) (nI a) l (fx V (iup I 139 g) L R ++ tl) = some (.inl (some (.int v), fx V (iup I 139 g') L R ++ tl)) := by
        unfold fg_57_25
        by_cases c3 : g a < 0
        · exact ⟨_, _, ev_b (a := .ref 139) rfl (ev_b hA (ev_t c3 hS))⟩
        · by_cases c4 : g a = l
          · exact ⟨_, _, ev_b (a := .ref 139) rfl (ev_b hA (ev_f c3 (ev_b (a := .ref 139) rfl (ev_b hA (ev_t c4 hS)))))⟩
          · exact ⟨_, _, ev_b (a := .ref 139) rfl (ev_b hA (ev_f c3 (ev_b (a := .ref 139) rfl (ev_b hA (ev_f c4 rfl)))))⟩
      obtain ⟨v, g', hv⟩ := h25
      by_cases c3 : nI a = nI s
      · by_cases c4 : l = 1
        · exact ⟨v, g', ev_f c1 (ev_b g7 (ev_f c2 (ev_b g7 (ev_f (fun e => e c3) (ev_f (fun e => e c4) hv)))))⟩
        · exact ⟨0, g, ev_f c1 (ev_b g7 (ev_f c2 (ev_b g7 (ev_f (fun e => e c3) (ev_t c4 rfl)))))⟩
      · exact ⟨v, g', ev_f c1 (ev_b g7 (ev_f c2 (ev_b g7 (ev_t c3 hv))))⟩
def q52 (V : Nat → Nat → Value) (I : Nat → Nat → Int32) (L : Nat → Nat → Int64) (R : Nat → Nat → Option Nat) (tl : am_H) (v : Int32) (h' : am_H) : Prop := ∃ g', h' = fx V (iup I 139 g') L R ++ tl
set_option maxRecDepth 100000 in
set_option maxHeartbeats 4000000 in
theorem d_52l {V : Nat → Nat → Value} {I : Nat → Nat → Int32} {L : Nat → Nat → Int64} {R : Nat → Nat → Option Nat} {tl : am_H} {N s : Nat} (h7 : V 132 7 = .int (nI s)) (o3 : V 167 3 = .int (nI s)) (o4 : V 167 4 = .int 2) (hs : s ≤ 60) : ∀ (m i K : Nat) (g : Nat → Int32), i + m = s → m < K → wp (iP (q52 V I L R tl)) (fg_52_44 N K (.ref 132) (.ref 167) (nI i) (fx V (iup I 139 g) L R ++ tl)) := by
  have fin : ∀ (v : Int32) (g : Nat → Int32), wp (iP (q52 V I L R tl)) (some (.inl (some (.int v), fx V (iup I 139 g) L R ++ tl))) := fun v g => ⟨_, _, rfl, v, rfl, g, rfl⟩
  have w57 : ∀ (t l : Int32) (g : Nat → Int32), wp (iP (q52 V I L R tl)) (fm_57 (.ref 132) t l (fx V (iup I 139 g) L R ++ tl)) := fun t l g => by
    obtain ⟨v, g', hv⟩ := d_57 (V := V) (I := I) (L := L) (R := R) (tl := tl) (g := g) h7 hs t l
    rw [hv]
    exact fin v g'
  have g7 : ∀ g : Nat → Int32, am_vI (am_pG 1799 (.ref 132) (fx V (iup I 139 g) L R ++ tl)) = some (nI s) := fun g => by show am_vI (some (V 132 7)) = _; rw [h7]; rfl
  intro m
  induction m with
  | zero =>
    intro i K g hi hK
    obtain ⟨K, rfl⟩ : ∃ k, K = k + 1 := ⟨K - 1, by omega⟩
    rw [fg_52_44]
    refine wp_b (g7 g) (wp_if (fun _ => fin _ _) (fun c => absurd (nI_le (by omega) (by omega)) c))
  | succ m ih =>
    intro i K g hi hK
    obtain ⟨K, rfl⟩ : ∃ k, K = k + 1 := ⟨K - 1, by omega⟩
    have hA : ∀ g : Nat → Int32, am_pA 0 (.ref 139) (nI i) (fx V (iup I 139 g) L R ++ tl) = some (g i) := fun g => by
      rw [ev_a (f := g) (n := 61) rfl (am_inb_n (by omega) (by omega)), nI_clamp (by omega)]
    have hE : ∀ g : Nat → Int32, wp (iP (q52 V I L R tl)) (fg_52_137 N (fg_52_44 N K) (.ref 132) (.ref 167) (nI i) (fx V (iup I 139 g) L R ++ tl)) := fun g => by
      unfold fg_52_137
      rw [nI_1]
      exact ih (i + 1) K g (by omega) (by omega)
    have h110 : ∀ (a b : Int32) (g : Nat → Int32), wp (iP (q52 V I L R tl)) (fg_52_110 N (fg_52_44 N K) (.ref 132) (.ref 167) (nI i) a b (fx V (iup I 139 g) L R ++ tl)) := by
      intro a b g
      unfold fg_52_110 fg_52_135
      refine wp_if (fun _ => hE g) (fun _ => wp_i rfl ?_)
      obtain ⟨w, hw⟩ := d_54_167 (V := V) (I := iup I 139 g) (L := L) (R := R) (tl := tl) o3 o4 hs (nI i) 1
      refine wp_cE hw (wp_i rfl (wp_cI (w57 _ _ _) ?_))
      rintro u _ ⟨g1, rfl⟩
      exact wp_if (fun _ => hE g1) (fun _ => fin _ _)
    rw [fg_52_44]
    unfold fg_52_135
    obtain ⟨w, hw⟩ := d_54_167 (V := V) (I := iup I 139 g) (L := L) (R := R) (tl := tl) o3 o4 hs (nI i) 0
    refine wp_b (g7 g) (wp_if (fun _ => fin _ _) (fun _ => wp_i rfl (wp_cE hw (wp_b (a := .ref 139) rfl (wp_b (hA g) (wp_cE (pe_55 _ _) (wp_b (a := .ref 139) rfl (wp_b (hA g) (wp_cE (pe_56 _ _) ?_)))))))))
    refine wp_if (fun _ => fin _ _) (fun _ => wp_if (fun _ => fin _ _) (fun _ => wp_if (fun _ => h110 _ _ _) (fun _ => wp_i rfl (wp_cI (w57 _ _ _) ?_))))
    rintro u _ ⟨g1, rfl⟩
    exact wp_if (fun _ => fin _ _) (fun _ => h110 _ _ _)
set_option maxRecDepth 100000 in
set_option maxHeartbeats 4000000 in
theorem d_52 {V : Nat → Nat → Value} {I : Nat → Nat → Int32} {L : Nat → Nat → Int64} {R : Nat → Nat → Option Nat} {tl : am_H} {N s : Nat} (hN : 100 < N) (o3 : V 167 3 = .int (nI s)) (o4 : V 167 4 = .int 2) (hs : s ≤ 60) : ∃ v g, fm_52 N (.ref 132) (.ref 167) (fx V I L R ++ tl) = some (.inl (some (.int v), fx (vup V 132 7 (.int (nI s))) (iup I 139 g) L R ++ tl)) ∧ (v < 0 → 1 ≤ s) := by
  have p1 : am_pP 1799 (.ref 132) (.int (nI s)) (fx V I L R ++ tl) = some (fx (vup V 132 7 (.int (nI s))) I L R ++ tl) := ev_p rfl rfl rfl rfl
  have g3 : am_vI (am_pG 771 (.ref 167) (fx V I L R ++ tl)) = some (nI s) := by show am_vI (some (V 167 3)) = _; rw [o3]; rfl
  unfold fm_52 fg_52_0
  by_cases c : s = 0
  · refine ⟨0, I 139, ?_, fun e => absurd e (by decide)⟩
    rw [iup_self]
    refine ev_b g3 (ev_b p1 (ev_b (a := nI s) rfl (ev_t (by rw [c]; decide) rfl)))
  · obtain ⟨r, h', e1, v, rfl, g, rfl⟩ := d_52l (V := vup V 132 7 (.int (nI s))) (I := I) (L := L) (R := R) (tl := tl) (N := N) vup_eq (by rw [vup_ne (by omega)]; exact o3) (by rw [vup_ne (by omega)]; exact o4) hs s 0 N (upd (filf (I 139) (-1) 61) 0 0) (by omega) (by omega)
    refine ⟨v, g, ?_, fun _ => by omega⟩
    refine ev_b g3 (ev_b p1 (ev_b (a := nI s) rfl (ev_f (nI_nlt (b := 1) (by omega) (by omega)) (ev_b (a := nI s) rfl (ev_t (nI_le (b := 60) hs (by decide)) (ev_b (a := .ref 139) rfl ?_))))))
    refine ev_cV (h1 := fx (vup V 132 7 (.int (nI s))) (iup I 139 (filf (I 139) (-1) 61)) L R ++ tl) ((e_53 (n := 61) (f := I 139) rfl (by omega) (by omega)).trans rfl) ?_
    refine ev_b (a := .ref 139) rfl ?_
    refine ev_b (ev_s (f := filf (I 139) (-1) 61) (n := 61) (h1 := fx (vup V 132 7 (.int (nI s))) (iup I 139 (upd (filf (I 139) (-1) 61) 0 0)) L R ++ tl) rfl (am_inb_n (k := 0) (by omega) (by omega)) rfl rfl) ?_
    exact e1
