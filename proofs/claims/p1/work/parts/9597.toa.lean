/-! ===== the reference: toA, wrongAt ===== -/
set_option maxRecDepth 100000 in
set_option maxHeartbeats 4000000 in
theorem r_495l {V : Nat → Nat → Value} {I : Nat → Nat → Int32} {L : Nat → Nat → Int64} {R : Nat → Nat → Option Nat} {tl : am_H} {N : Nat} {l : List (Nat × Nat)} (hN : 100 < N) (hl : l.length ≤ 60) (hF : isF 1 l) (hS : rowS (I 186) l) (h14 : V 174 14 = .int (nI l.length)) (h18 : V 174 18 = .int (nI l.length)) (h20 : V 174 20 = .int 0) : ∀ (m k K : Nat) (a b : Nat → Int32), k + m = l.length → m < K → (∀ j, j < k → a j = I 186 j) → (∀ j, j < k → b j = I 187 j) → ∃ a' b' g, fg_495_26 N K (.ref 174) (nI k) (fx V (iup (iup I 188 a) 189 b) L R ++ tl) = some (.inl (none, fx V (iup (iup (iup I 188 a') 189 b') 192 g) L R ++ tl)) ∧ (∀ j, j < l.length → a' j = I 186 j) ∧ (∀ j, j < l.length → b' j = I 187 j) ∧ rowT g l 0 := by
  intro m
  induction m with
  | zero =>
    intro k K a b hk hK ha hb
    obtain ⟨K, rfl⟩ : ∃ k, K = k + 1 := ⟨K - 1, by omega⟩
    obtain ⟨g, g1, g2⟩ := r_392 (V := V) (I := iup (iup I 188 a) 189 b) (L := L) (R := R) (tl := tl) (N := N) (l := l) hN hl h18 (show rowS a l from fun j x r hd => by
      have := drop_len hd
      obtain ⟨s1, s2⟩ := hS j x r hd
      exact ⟨by rw [ha j (by omega)]; exact s1, s2⟩) hF
    refine ⟨a, b, g, ?_, fun j hj => ha j (by omega), fun j hj => hb j (by omega), g1⟩
    rw [fg_495_26]
    refine ev_b (a := nI l.length) (by show am_vI (some (V 174 14)) = _; rw [h14]; rfl) ?_
    refine ev_t (nI_le (by omega) (by omega)) (ev_b (a := (0 : Int32)) (by show am_vI (some (V 174 20)) = _; rw [h20]; rfl) ?_)
    exact ev_f (fun h => h rfl) (ev_i rfl (ev_cV g2 rfl))
  | succ m ih =>
    intro k K a b hk hK ha hb
    obtain ⟨K, rfl⟩ : ∃ k, K = k + 1 := ⟨K - 1, by omega⟩
    obtain ⟨a', b', g, h1, h2⟩ := ih (k + 1) K (upd a k (I 186 k)) (upd b k (I 187 k)) (by omega) (by omega) (fun j hj => by
      by_cases c : j = k
      · rw [c]; exact upd_eq
      · rw [upd_ne c]; exact ha j (by omega)) (fun j hj => by
      by_cases c : j = k
      · rw [c]; exact upd_eq
      · rw [upd_ne c]; exact hb j (by omega))
    refine ⟨a', b', g, ?_, h2⟩
    rw [fg_495_26]
    refine ev_b (a := nI l.length) (by show am_vI (some (V 174 14)) = _; rw [h14]; rfl) ?_
    refine ev_f (nI_ge (by omega) (by omega)) (ev_b (a := .ref 188) rfl (ev_b (a := .ref 186) rfl ?_))
    refine ev_b (a := I 186 k) (by rw [ev_a (f := I 186) (n := 400) rfl (am_inb_n (by omega) (by omega)), nI_clamp (by omega)]) ?_
    refine ev_b (ev_s (f := a) (n := 400) (h1 := fx V (iup (iup I 188 (upd a k (I 186 k))) 189 b) L R ++ tl) rfl (am_inb_n (by omega) (by omega)) rfl (by rw [nI_clamp (by omega)]; rfl)) ?_
    refine ev_b (a := .ref 189) rfl (ev_b (a := .ref 187) rfl ?_)
    refine ev_b (a := I 187 k) (by rw [ev_a (f := I 187) (n := 400) rfl (am_inb_n (by omega) (by omega)), nI_clamp (by omega)]) ?_
    refine ev_b (ev_s (f := b) (n := 400) (h1 := fx V (iup (iup I 188 (upd a k (I 186 k))) 189 (upd b k (I 187 k))) L R ++ tl) rfl (am_inb_n (by omega) (by omega)) rfl (by rw [nI_clamp (by omega)]; rfl)) ?_
    rw [nI_1]
    exact h1
set_option maxRecDepth 100000 in
set_option maxHeartbeats 4000000 in
theorem r_495 {V : Nat → Nat → Value} {I : Nat → Nat → Int32} {L : Nat → Nat → Int64} {R : Nat → Nat → Option Nat} {tl : am_H} {N : Nat} {l : List (Nat × Nat)} {nt : Int32} (hN : 100 < N) (hl : l.length ≤ 60) (hF : isF 1 l) (hS : rowS (I 186) l) (h13 : V 174 13 = .int 0) (h14 : V 174 14 = .int (nI l.length)) (h15 : V 174 15 = .int nt) : ∃ a' b' g, fm_495 N (.ref 174) (fx V I L R ++ tl) = some (.inl (none, fx (vup (vup (vup V 174 20 (.int 0)) 174 18 (.int (nI l.length))) 174 19 (.int nt)) (iup (iup (iup I 188 a') 189 b') 192 g) L R ++ tl)) ∧ (∀ j, j < l.length → a' j = I 186 j) ∧ (∀ j, j < l.length → b' j = I 187 j) ∧ rowT g l 0 := by
  obtain ⟨a', b', g, h1, h2⟩ := r_495l (V := vup (vup (vup V 174 20 (.int 0)) 174 18 (.int (nI l.length))) 174 19 (.int nt)) (I := I) (L := L) (R := R) (tl := tl) hN hl hF hS (by rw [vup_v (by omega), vup_v (by omega), vup_v (by omega)]; exact h14) rfl rfl l.length 0 N (I 188) (I 189) (by omega) (by omega) (fun j hj => by omega) (fun j hj => by omega)
  refine ⟨a', b', g, ?_, h2⟩
  unfold fm_495 fg_495_0
  refine ev_b (a := (0 : Int32)) (by show am_vI (some (V 174 13)) = _; rw [h13]; rfl) ?_
  refine ev_b (a := fx (vup V 174 20 (.int 0)) I L R ++ tl) (ev_p rfl rfl rfl rfl) ?_
  refine ev_b (a := nI l.length) (by show am_vI (some (V 174 14)) = _; rw [h14]; rfl) ?_
  refine ev_b (a := fx (vup (vup V 174 20 (.int 0)) 174 18 (.int (nI l.length))) I L R ++ tl) (ev_p rfl rfl rfl rfl) ?_
  refine ev_b (a := nt) (by show am_vI (some (V 174 15)) = _; rw [h15]; rfl) ?_
  refine ev_b (a := fx (vup (vup (vup V 174 20 (.int 0)) 174 18 (.int (nI l.length))) 174 19 (.int nt)) I L R ++ tl) (ev_p rfl rfl rfl rfl) ?_
  have e0 : iup (iup I 188 (I 188)) 189 (I 189) = I := by rw [iup_self, iup_self]
  rw [e0] at h1
  exact h1
def q211 (V : Nat → Nat → Value) (I : Nat → Nat → Int32) (L : Nat → Nat → Int64) (R : Nat → Nat → Option Nat) (tl : am_H) (_ : Int32) (h' : am_H) : Prop := ∃ g', h' = fx V (iup I 211 g') L R ++ tl
set_option maxRecDepth 100000 in
set_option maxHeartbeats 4000000 in
theorem r_350 {V : Nat → Nat → Value} {I : Nat → Nat → Int32} {L : Nat → Nat → Int64} {R : Nat → Nat → Option Nat} {tl : am_H} {s : Nat} (h14 : V 174 14 = .int (nI s)) (hs : s ≤ 60) (a : Nat) (ha : a < 2 ^ 31) (w : Int32) (g : Nat → Int32) : wp (iP (q211 V I L R tl)) (fm_350 (.ref 174) (nI a) w (fx V (iup I 211 g) L R ++ tl)) := by
  have fin : ∀ (v : Int32) (g : Nat → Int32), wp (iP (q211 V I L R tl)) (some (.inl (some (.int v), fx V (iup I 211 g) L R ++ tl))) := fun v g => ⟨_, _, rfl, v, rfl, g, rfl⟩
  have g14 : ∀ g : Nat → Int32, am_vI (am_pG 3086 (.ref 174) (fx V (iup I 211 g) L R ++ tl)) = some (nI s) := fun g => by show am_vI (some (V 174 14)) = _; rw [h14]; rfl
  by_cases c : nI s < nI a
  · unfold fm_350 fg_350_0
    exact wp_b (g14 g) (wp_if (fun _ => fin _ _) (fun e => absurd c e))
  · have has : a ≤ s := Nat.not_lt.mp (fun h9 => c (nI_lt h9 ha))
    have gA : ∀ g : Nat → Int32, am_pA 0 (.ref 211) (nI a) (fx V (iup I 211 g) L R ++ tl) = some (g a) := fun g => by
      rw [ev_a (f := g) (n := 130) rfl (am_inb_n (by omega) (by omega)), nI_clamp (by omega)]
    have k40 : ∀ g, wp (iP (q211 V I L R tl)) (fg_350_40 (.ref 174) (nI a) w (fx V (iup I 211 g) L R ++ tl)) := fun g => by
      unfold fg_350_40 fg_350_55
      exact wp_b (a := .ref 211) rfl (wp_b (gA g) (wp_if (fun _ => wp_i (by decide) (fin _ _)) (fun _ => wp_i (by decide) (fin _ _))))
    have k23 : wp (iP (q211 V I L R tl)) (fg_350_23 (.ref 174) (nI a) w (fx V (iup I 211 g) L R ++ tl)) := by
      unfold fg_350_23
      refine wp_b (a := .ref 211) rfl (wp_b (gA g) (wp_if (fun _ => k40 g) (fun _ => wp_b (a := .ref 211) rfl ?_)))
      exact wp_b (ev_s (f := g) (n := 130) (h1 := fx V (iup I 211 (upd g a w)) L R ++ tl) rfl (am_inb_n (by omega) (by omega)) rfl (by rw [nI_clamp (by omega)]; rfl)) (k40 _)
    unfold fm_350 fg_350_0
    exact wp_b (g14 g) (wp_if (fun e => absurd e c) (fun _ => wp_b (g14 g) (wp_if (fun _ => k23) (fun _ => wp_if (fun _ => k23) (fun _ => fin _ _)))))
set_option maxRecDepth 100000 in
set_option maxHeartbeats 4000000 in
theorem r_347l {V : Nat → Nat → Value} {I : Nat → Nat → Int32} {L : Nat → Nat → Int64} {R : Nat → Nat → Option Nat} {tl : am_H} {N s : Nat} (h14 : V 174 14 = .int (nI s)) (hs : s ≤ 60) (hb : sml (I 187)) : ∀ (m k K : Nat) (g : Nat → Int32), k + m = s → m < K → wp (iP (q211 V I L R tl)) (fg_347_32 N K (.ref 174) (nI k) (fx V (iup I 211 g) L R ++ tl)) := by
  have fin : ∀ (v : Int32) (g : Nat → Int32), wp (iP (q211 V I L R tl)) (some (.inl (some (.int v), fx V (iup I 211 g) L R ++ tl))) := fun v g => ⟨_, _, rfl, v, rfl, g, rfl⟩
  have g14 : ∀ g : Nat → Int32, am_vI (am_pG 3086 (.ref 174) (fx V (iup I 211 g) L R ++ tl)) = some (nI s) := fun g => by show am_vI (some (V 174 14)) = _; rw [h14]; rfl
  intro m
  induction m with
  | zero =>
    intro k K g hk hK
    obtain ⟨K, rfl⟩ : ∃ k, K = k + 1 := ⟨K - 1, by omega⟩
    rw [fg_347_32]
    exact wp_b (g14 g) (wp_if (fun _ => fin _ _) (fun c => absurd (nI_le (by omega) (by omega)) c))
  | succ m ih =>
    intro k K g hk hK
    obtain ⟨K, rfl⟩ : ∃ k, K = k + 1 := ⟨K - 1, by omega⟩
    have gA : ∀ g : Nat → Int32, am_pA 0 (.ref 211) (nI k) (fx V (iup I 211 g) L R ++ tl) = some (g k) := fun g => by
      rw [ev_a (f := g) (n := 130) rfl (am_inb_n (by omega) (by omega)), nI_clamp (by omega)]
    have gS : ∀ g : Nat → Int32, am_pA 0 (.ref 186) (nI k) (fx V (iup I 211 g) L R ++ tl) = some (I 186 k) := fun g => by
      rw [ev_a (f := I 186) (n := 400) rfl (am_inb_n (by omega) (by omega)), nI_clamp (by omega)]
    obtain ⟨w, w1, w2⟩ := hb k
    have gV : ∀ g : Nat → Int32, am_pA 0 (.ref 187) (nI k) (fx V (iup I 211 g) L R ++ tl) = some (nI w) := fun g => by
      rw [ev_a (f := I 187) (n := 400) rfl (am_inb_n (by omega) (by omega)), nI_clamp (by omega), w2]
    have k147 : ∀ g, wp (iP (q211 V I L R tl)) (fg_347_147 N (fg_347_32 N K) (.ref 174) (nI k) (fx V (iup I 211 g) L R ++ tl)) := fun g => by
      unfold fg_347_147
      rw [nI_1]
      exact ih (k + 1) K g (by omega) (by omega)
    have k116 : ∀ (c : Int32) g, wp (iP (q211 V I L R tl)) (fg_347_116 N (fg_347_32 N K) (.ref 174) (nI k) c (fx V (iup I 211 g) L R ++ tl)) := fun c g => by
      unfold fg_347_116
      refine wp_b (a := .ref 186) rfl (wp_b (gS g) (wp_if (fun _ => k147 g) (fun _ => wp_b (a := .ref 187) rfl (wp_b (gV g) (wp_i rfl ?_)))))
      rw [nI_1, nI_add]
      refine wp_cI (r_350 h14 hs (k + 1 + w) (by omega) c g) ?_
      rintro v _ ⟨g1, rfl⟩
      exact wp_if (fun _ => k147 g1) (fun _ => fin _ _)
    rw [fg_347_32]
    refine wp_b (g14 g) (wp_if (fun _ => fin _ _) (fun _ => wp_b (a := .ref 211) rfl (wp_b (gA g) (wp_b (a := .ref 186) rfl (wp_b (gS g) (wp_cE (pe_348 _ _) (wp_if (fun _ => wp_b (a := .ref 186) rfl (wp_b (gS g) (wp_cE (pe_348 _ _) (wp_b (a := .ref 186) rfl (wp_b (gS g) (wp_cE (pe_349 _ _) (wp_if (fun _ => wp_b (a := .ref 186) rfl (wp_b (gS g) (wp_if (fun _ => k116 _ g) (fun _ => wp_i rfl ?_)))) (fun _ => fin _ _)))))))) (fun _ => fin _ _))))))))
    rw [nI_1]
    refine wp_cI (r_350 h14 hs (k + 1) (by omega) _ g) ?_
    rintro v _ ⟨g1, rfl⟩
    exact wp_if (fun _ => k116 _ g1) (fun _ => fin _ _)
set_option maxRecDepth 100000 in
set_option maxHeartbeats 4000000 in
theorem r_347 {V : Nat → Nat → Value} {I : Nat → Nat → Int32} {L : Nat → Nat → Int64} {R : Nat → Nat → Option Nat} {tl : am_H} {N s : Nat} (hN : 100 < N) (h14 : V 174 14 = .int (nI s)) (hs : s ≤ 60) (hb : sml (I 187)) : wp (iP (q211 V I L R tl)) (fm_347 N (.ref 174) (fx V I L R ++ tl)) := by
  have g14 : ∀ g : Nat → Int32, am_vI (am_pG 3086 (.ref 174) (fx V (iup I 211 g) L R ++ tl)) = some (nI s) := fun g => by show am_vI (some (V 174 14)) = _; rw [h14]; rfl
  have k : ∀ (m k K : Nat) (g : Nat → Int32), k + m = s + 1 → m < K → wp (iP (q211 V I L R tl)) (fg_347_2 N K (.ref 174) (nI k) (fx V (iup I 211 g) L R ++ tl)) := by
    intro m
    induction m with
    | zero =>
      intro k K g hk hK
      obtain ⟨K, rfl⟩ : ∃ k, K = k + 1 := ⟨K - 1, by omega⟩
      rw [fg_347_2]
      refine wp_b (g14 g) (wp_if (fun _ => wp_b (a := .ref 211) rfl ?_) (fun c => absurd (nI_lt (by omega) (by omega)) c))
      exact wp_b (ev_s (f := g) (n := 130) (h1 := fx V (iup I 211 (upd g 0 0)) L R ++ tl) rfl (am_inb_n (k := 0) (by omega) (by omega)) rfl rfl) (r_347l h14 hs hb s 0 N _ (by omega) (by omega))
    | succ m ih =>
      intro k K g hk hK
      obtain ⟨K, rfl⟩ : ∃ k, K = k + 1 := ⟨K - 1, by omega⟩
      rw [fg_347_2]
      refine wp_b (g14 g) (wp_if (fun c => absurd c (nI_nlt (by omega) (by omega))) (fun _ => wp_b (a := .ref 211) rfl ?_))
      refine wp_b (ev_s (f := g) (n := 130) (h1 := fx V (iup I 211 (upd g k (-1))) L R ++ tl) rfl (am_inb_n (by omega) (by omega)) rfl (by rw [nI_clamp (by omega)]; rfl)) ?_
      rw [nI_1]
      exact ih (k + 1) K _ (by omega) (by omega)
  have k0 := k (s + 1) 0 N (I 211) (by omega) (by omega)
  rw [iup_self] at k0
  exact k0
theorem tk_lt {n q i : Nat} {r : List (Nat × Nat)} (h : isF n r) (h1 : q < i) (h2 : i ≤ n) : tk q r < tk i r := by
  have h3 := isF_add r q (n - q) (by rw [show q + (n - q) = n by omega]; exact h)
  have h4 := tk_pos (n := n - q - 1) (l := r.drop (tk q r)) (by rw [show n - q - 1 + 1 = n - q by omega]; exact h3) (i - q - 1)
  have h5 := tk_add r q (i - q)
  rw [show q + (i - q) = i by omega] at h5
  rw [show i - q - 1 + 1 = i - q by omega] at h4
  omega
/-- the nodes that are still to be laid know where they begin -/
def pend (l : List (Nat × Nat)) (k : Nat) (e : Nat → Int32) : Prop := ∃ n, isF n (l.drop k) ∧ ∀ i, i < n → ∃ p, e (k + tk i (l.drop k)) = nI p ∧ p + sw own 1 (l.drop (k + tk i (l.drop k))) ≤ 60
set_option maxRecDepth 100000 in
set_option maxHeartbeats 4000000 in
theorem r_494p {V : Nat → Nat → Value} {I : Nat → Nat → Int32} {L : Nat → Nat → Int64} {R : Nat → Nat → Option Nat} {tl : am_H} {N s : Nat} {l : List (Nat × Nat)} (hN : 100 < N) (hl : l.length ≤ 60) (h18 : V 174 18 = .int (nI l.length)) (h14 : V 174 14 = .int (nI s)) (hs : s ≤ 60) (hS : rowS (I 188) l) (hT : rowT (I 192) l 0) (hC : rowC (I 253) l 0) (hV : ∀ j, j < l.length → ∃ n, n < 1000 ∧ I 189 j = nI n) (hx : ∀ k x r, l.drop k = x :: r → x.1 ≠ 5 ∧ x.1 ≠ 6 ∧ x.1 ≠ 19) : ∀ (m k K : Nat) (a b e : Nat → Int32), k + m = l.length → m < K → sml b → pend l k e → ∃ v a' b' e' g', fg_494_102 N K (.ref 174) (nI k) (ctS V I L R tl a b e) = some (.inl (some (.int v), fx V (iup (iup (iup (iup I 186 a') 187 b') 219 e') 211 g') L R ++ tl)) ∧ sml b' := by
  have g18 : ∀ a b e : Nat → Int32, am_vI (am_pG 3090 (.ref 174) (ctS V I L R tl a b e)) = some (nI l.length) := fun a b e => by show am_vI (some (V 174 18)) = _; rw [h18]; rfl
  intro m
  induction m with
  | zero =>
    intro k K a b e hk hK hb hp
    obtain ⟨K, rfl⟩ : ∃ k, K = k + 1 := ⟨K - 1, by omega⟩
    obtain ⟨r, h', h1, v, rfl, g, rfl⟩ := r_347 (V := V) (I := iup (iup (iup I 186 a) 187 b) 219 e) (L := L) (R := R) (tl := tl) hN h14 hs hb
    rw [fg_494_102]
    by_cases c : v = -1
    · exact ⟨1, a, b, e, g, ev_b (g18 a b e) (ev_t (nI_le (by omega) (by omega)) (ev_i rfl (ev_cI h1 (ev_f (fun x => x c) rfl)))), hb⟩
    · exact ⟨0, a, b, e, g, ev_b (g18 a b e) (ev_t (nI_le (by omega) (by omega)) (ev_i rfl (ev_cI h1 (ev_t c rfl)))), hb⟩
  | succ m ih =>
    intro k K a b e hk hK hb hp
    obtain ⟨K, rfl⟩ : ∃ k, K = k + 1 := ⟨K - 1, by omega⟩
    obtain ⟨n, n1, n2⟩ := hp
    obtain ⟨n, rfl⟩ : ∃ j, n = j + 1 := by
      cases n with
      | zero =>
        have h9 : (l.drop k).length = l.length - k := List.length_drop
        cases hd : l.drop k with
        | nil => rw [hd] at h9; have t2 : 0 = l.length - k := h9; omega
        | cons x r => rw [hd] at n1; exact absurd n1 (fun e => e)
      | succ j => exact ⟨j, rfl⟩
    obtain ⟨x, r, hd, hF⟩ := isF_ne n1
    obtain ⟨p, p1, p2⟩ := n2 0 (by omega)
    rw [tk_0, Nat.add_zero] at p1 p2
    obtain ⟨a', b', e', f1, f2, f3, f4⟩ := r_497 (V := V) (I := I) (L := L) (R := R) (tl := tl) (N := N) (a := a) (b := b) (e := e) hN hl hS hT hC hV hd hF (hx k x r hd) p2 hb
    have hd1 : l.drop (k + 1) = r := by
      have := drop_s hd 0
      rw [List.drop_zero] at this
      exact this
    obtain ⟨v, a2, b2, e2, g2, q1, q2⟩ := ih (k + 1) K a' b' e' (by omega) (by omega) f2 ⟨n + arN x.1, by rw [hd1]; exact hF, fun i hi => by
      rw [hd1]
      by_cases c : i < arN x.1
      · obtain ⟨p', u1, u2⟩ := f3 i c
        exact ⟨p', u1, by rw [drop_s hd]; omega⟩
      · obtain ⟨p', u1, u2⟩ := n2 (i - arN x.1 + 1) (by omega)
        have t1 : tk (i - arN x.1 + 1) (l.drop k) = 1 + tk i r := by
          rw [hd, tk_c, show i - arN x.1 + arN x.1 = i by omega]
        rw [t1, show k + (1 + tk i r) = k + 1 + tk i r by omega] at u1 u2
        refine ⟨p', ?_, u2⟩
        rw [f4 _ (fun q hq e => by
          have := tk_lt hF (show q < i by omega) (by omega)
          omega)]
        exact u1⟩
    refine ⟨v, a2, b2, e2, g2, ?_, q2⟩
    have hlen := drop_len hd
    rw [fg_494_102]
    refine ev_b (g18 a b e) (ev_f (nI_ge (by omega) (by omega)) (ev_b (a := .ref 219) rfl ?_))
    refine ev_b (a := nI p) (by rw [ev_a (f := e) (n := 61) rfl (am_inb_n (by omega) (by omega)), nI_clamp (by omega), p1]) (ev_i rfl (ev_cV f1 ?_))
    rw [nI_1]
    exact q1
