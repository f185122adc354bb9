/-! ===== equal(a, b): two nets ===== -/
theorem xor_sh (x y s : Int32) : ((x ^^^ y) >>> s) &&& 1 = ((x >>> s) &&& 1) ^^^ ((y >>> s) &&& 1) := by
  refine Int32.toBitVec_inj.mp ?_
  simp only [Int32.toBitVec_and, Int32.toBitVec_xor, Int32.toBitVec_shiftRight, BitVec.sshiftRight_eq', BitVec.sshiftRight_xor_distrib]
  refine BitVec.eq_of_getLsbD_eq (fun i hi => ?_)
  simp only [BitVec.getLsbD_and, BitVec.getLsbD_xor]
  cases (1 : Int32).toBitVec.getLsbD i <;> simp
theorem xb {x y m : Nat} (hx : x < 256) (hy : y < 256) (hm : m < 8) : (((nI x ^^^ nI y) >>> (nI m &&& 31)) &&& 1 = 1) ↔ bt x m ≠ bt y m := by
  rw [xor_sh, bt_r x hx m hm, bt_r y hy m hm]
  have a := bt_lt x m
  have b := bt_lt y m
  rcases (by omega : bt x m = 0 ∨ bt x m = 1) with e | e
  · rcases (by omega : bt y m = 0 ∨ bt y m = 1) with f | f
    · rw [e, f]; decide
    · rw [e, f]; decide
  · rcases (by omega : bt y m = 0 ∨ bt y m = 1) with f | f
    · rw [e, f]; decide
    · rw [e, f]; decide
theorem mid_t : ∀ n, n < 9 → 1 ≤ n → (nI n - 1) / 2 = nI ((n - 1) / 2) := by decide
/-- the row that tells them apart -/
def wnR (ln x j : Nat) : Int32 := if j = 3 then nI ln else if 4 ≤ j ∧ j < 4 + ln then nI (bt x (j - 4)) else 0
def wnI (ln x q : Nat) (g : Nat → Int32) : Prop := ∀ j, j < 15 → g j = if j = 3 then nI ln else if 4 ≤ j ∧ j < 4 + q then nI (bt x (j - 4)) else 0
theorem wn_s {ln x q : Nat} {g : Nat → Int32} (h : wnI ln x q g) (hq : q < 8) : wnI ln x (q + 1) (upd g (4 + q) (nI (bt x q))) := by
  intro j hj
  by_cases e : j = 4 + q
  · rw [e, upd_eq, if_neg (by omega), if_pos ⟨by omega, by omega⟩, show 4 + q - 4 = q by omega]
  · rw [upd_ne e, h j hj]
    by_cases c : j = 3
    · rw [if_pos c, if_pos c]
    · rw [if_neg c, if_neg c]
      by_cases d : 4 ≤ j ∧ j < 4 + q
      · rw [if_pos d, if_pos ⟨d.1, by omega⟩]
      · rw [if_neg d, if_neg (fun d' => d ⟨d'.1, by omega⟩)]
def nDf (s v : Nat → Nat) (sz : Nat) (s' v' : Nat → Nat) (sz' ln x : Nat) : Bool := decide (bt (soB s v sz 0 x) ((ln - 1) / 2) ≠ bt (soB s' v' sz' 0 x) ((ln - 1) / 2))
/-- the first row from x on that tells them apart -/
def nFs (P : Nat → Bool) : Nat → Nat → Option Nat
  | 0, _ => none
  | m + 1, x => if P x = true then some x else nFs P m (x + 1)
set_option maxRecDepth 100000 in
set_option maxHeartbeats 1600000 in
theorem c_290w {V : Nat → Nat → Value} {I : Nat → Nat → Int32} {L : Nat → Nat → Int64} {R : Nat → Nat → Option Nat} {tl : am_H} {N a it ln sz x : Nat} {f : Nat → Int32} {s v : Nat → Nat} (ho : ntO ln sz s v) (hp : ntC V I tl a it ln sz f s v) (hx : x < 256) : ∀ (m q K : Nat) (g : Nat → Int32), q + m = ln → m < K → wnI ln x q g → ∃ g', wnI ln x ln g' ∧ fg_290_61 N K (.ref (269 + a)) (.ref 166) (nI x) (nI q) (fx V (iup I 166 g) L R ++ tl) = some (.inl (some (.int 1), fx V (iup I 166 g') L R ++ tl)) := by
  have o3 := ho.2.1
  intro m
  induction m with
  | zero =>
    intro q K g hq hK hg
    obtain ⟨K, rfl⟩ : ∃ k, K = k + 1 := ⟨K - 1, by omega⟩
    obtain ⟨⟨x1, x2, x3, x4, x5, x6, p1⟩, -⟩ := nt_get ho hp V (iup I 166 g) L R (fun _ => rfl) (iup_na (by omega))
    obtain rfl : q = ln := by omega
    refine ⟨g, hg, ?_⟩
    rw [fg_290_61]
    exact ev_b (ev_gI p1 rfl rfl) (ev_t (nI_le (Nat.le_refl _) (by omega)) rfl)
  | succ m ih =>
    intro q K g hq hK hg
    obtain ⟨K, rfl⟩ : ∃ k, K = k + 1 := ⟨K - 1, by omega⟩
    obtain ⟨⟨x1, x2, x3, x4, x5, x6, p1⟩, -⟩ := nt_get ho hp V (iup I 166 g) L R (fun _ => rfl) (iup_na (by omega))
    obtain ⟨g', h1, h2⟩ := ih (q + 1) K (upd g (4 + q) (nI (bt x q))) (by omega) (by omega) (wn_s hg (by omega))
    refine ⟨g', h1, ?_⟩
    rw [fg_290_61]
    dsimp only
    rw [show (4 : Int32) + nI q = nI (4 + q) from nI_add 4 q, bt_r x hx q (by omega), nI_1]
    exact ev_b (ev_gI p1 rfl rfl) (ev_f (nI_ge (by omega) (by omega)) (ev_b (a := fx V (iup I 166 (upd g (4 + q) (nI (bt x q)))) L R ++ tl) ((qs_166 (by omega)).trans (by rw [iup_eq, iup_iup])) h2))
theorem wn_0 {ln x : Nat} {g : Nat → Int32} (h : ∀ j, j < 15 → g j = 0) : wnI ln x 0 (upd g 3 (nI ln)) := by
  intro j hj
  by_cases e : j = 3
  · rw [e, upd_eq, if_pos rfl]
  · rw [upd_ne e, if_neg e, if_neg (fun d => by omega)]
    exact h j hj
set_option maxRecDepth 100000 in
set_option maxHeartbeats 1600000 in
theorem c_290l {V : Nat → Nat → Value} {I : Nat → Nat → Int32} {L : Nat → Nat → Int64} {R : Nat → Nat → Option Nat} {tl : am_H} {N a it a' it' ln sz sz' : Nat} {f f' : Nat → Int32} {s v s' v' : Nat → Nat} (hN : 5000 < N) (ho : ntO ln sz s v) (hp : ntC V I tl a it ln sz f s v) (ho' : ntO ln sz' s' v') (hp' : ntC V I tl a' it' ln sz' f' s' v') : ∀ (m x K : Nat), x + m = 2 ^ ln → m < K → match nFs (nDf s v sz s' v' sz' ln) m x with
    | none => fg_290_13 N K (.ref (269 + a)) (.ref (269 + a')) (.ref 166) (nI ((ln - 1) / 2)) (nI x) (fx V I L R ++ tl) = some (.inl (some (.int 0), fx V I L R ++ tl))
    | some y => y < 256 ∧ ∃ g, wnI ln y ln g ∧ fg_290_13 N K (.ref (269 + a)) (.ref (269 + a')) (.ref 166) (nI ((ln - 1) / 2)) (nI x) (fx V I L R ++ tl) = some (.inl (some (.int 1), fx V (iup I 166 g) L R ++ tl)) := by
  have h40 := ho.2.2.1
  have h40' := ho'.2.2.1
  have o3 := ho.2.1
  have l8 := p8l o3
  obtain ⟨⟨x1, x2, x3, x4, x5, x6, p1⟩, -⟩ := nt_get ho hp V I L R (fun _ => rfl) rfl
  intro m
  induction m with
  | zero =>
    intro x K hx hK
    obtain ⟨K, rfl⟩ : ∃ k, K = k + 1 := ⟨K - 1, by omega⟩
    show fg_290_13 N (K + 1) (.ref (269 + a)) (.ref (269 + a')) (.ref 166) (nI ((ln - 1) / 2)) (nI x) (fx V I L R ++ tl) = _
    rw [fg_290_13]
    refine ev_b (ev_gI p1 rfl rfl) ?_
    rw [sh_n ln (by omega)]
    exact ev_t (nI_le (by omega) (by omega)) rfl
  | succ m ih =>
    intro x K hx hK
    obtain ⟨K, rfl⟩ : ∃ k, K = k + 1 := ⟨K - 1, by omega⟩
    have xl : x < 2 ^ ln := by omega
    have e := c_291l (V := V) (I := I) (L := L) (R := R) (tl := tl) (N := N) ho hp sz 0 N x (by omega) (by omega) xl
    have e' := c_291l (V := V) (I := I) (L := L) (R := R) (tl := tl) (N := N) ho' hp' sz' 0 N x (by omega) (by omega) xl
    have z := p8 o3 (soB_lt ho sz 0 x (by omega) xl)
    have z' := p8 o3 (soB_lt ho' sz' 0 x (by omega) xl)
    have head : ∀ o, (if ¬ (((nI (soB s v sz 0 x) ^^^ nI (soB s' v' sz' 0 x)) >>> (nI ((ln - 1) / 2) &&& 31)) &&& 1) = 1 then (fg_290_13 N K (.ref (269 + a)) (.ref (269 + a')) (.ref 166) (nI ((ln - 1) / 2)) (nI (x + 1)) (fx V I L R ++ tl)) else am_cV false (fm_53 N (.ref 166) 0 (fx V I L R ++ tl)) (fun h12 => ((am_vI (am_pG 770 (.ref (269 + a)) h12)).bind fun v14 => ((am_pS 0 (.ref 166) 3 v14 h12).bind fun h16 => (fg_290_61 N N (.ref (269 + a)) (.ref 166) (nI x) 0 h16))))) = o → fg_290_13 N (K + 1) (.ref (269 + a)) (.ref (269 + a')) (.ref 166) (nI ((ln - 1) / 2)) (nI x) (fx V I L R ++ tl) = o := fun o hO => by
      rw [fg_290_13]
      refine ev_b (ev_gI p1 rfl rfl) ?_
      rw [sh_n ln (by omega), nI_1]
      exact ev_f (nI_ge (by omega) (by omega)) (ev_cI e (ev_cI e' hO))
    have xq := xb z z' (m := (ln - 1) / 2) (by omega)
    by_cases c : nDf s v sz s' v' sz' ln x = true
    · have cn := of_decide_eq_true c
      rw [nFs, if_pos c]
      refine ⟨by omega, ?_⟩
      obtain ⟨g, h1, h2⟩ := c_290w (V := V) (I := I) (L := L) (R := R) (tl := tl) (N := N) (x := x) ho hp (by omega) ln 0 N (upd (filf (I 166) 0 15) 3 (nI ln)) (by omega) (by omega) (wn_0 (fun j hj => by unfold filf; rw [if_pos hj]))
      refine ⟨g, h1, head _ (ev_f (fun e => e (xq.mpr cn)) (ev_cV (h1 := fx V (iup I 166 (filf (I 166) 0 15)) L R ++ tl) (e_53 (a := 166) (n := 15) (f := I 166) rfl (by omega) (by omega)) ?_))⟩
      obtain ⟨⟨y1, y2, y3, y4, y5, y6, p2⟩, -⟩ := nt_get ho hp V (iup I 166 (filf (I 166) 0 15)) L R (fun _ => rfl) (iup_na (by omega))
      exact ev_b (ev_gI p2 rfl rfl) (ev_b (a := fx V (iup I 166 (upd (filf (I 166) 0 15) 3 (nI ln))) L R ++ tl) ((qs_166 (k := 3) (by omega)).trans (by rw [iup_eq, iup_iup])) h2)
    · have cn : ¬ bt (soB s v sz 0 x) ((ln - 1) / 2) ≠ bt (soB s' v' sz' 0 x) ((ln - 1) / 2) := fun h => c (decide_eq_true h)
      rw [nFs, if_neg c]
      have q := ih (x + 1) K (by omega) (by omega)
      have tr : fg_290_13 N (K + 1) (.ref (269 + a)) (.ref (269 + a')) (.ref 166) (nI ((ln - 1) / 2)) (nI x) (fx V I L R ++ tl) = fg_290_13 N K (.ref (269 + a)) (.ref (269 + a')) (.ref 166) (nI ((ln - 1) / 2)) (nI (x + 1)) (fx V I L R ++ tl) := head _ (ev_t (fun e => cn (xq.mp e)) rfl)
      rw [tr]
      exact q
set_option maxRecDepth 100000 in
set_option maxHeartbeats 1600000 in
theorem c_290 {V : Nat → Nat → Value} {I : Nat → Nat → Int32} {L : Nat → Nat → Int64} {R : Nat → Nat → Option Nat} {tl : am_H} {N a it a' it' ln sz sz' : Nat} {f f' : Nat → Int32} {s v s' v' : Nat → Nat} (hN : 5000 < N) (ho : ntO ln sz s v) (hp : ntC V I tl a it ln sz f s v) (ho' : ntO ln sz' s' v') (hp' : ntC V I tl a' it' ln sz' f' s' v') : match nFs (nDf s v sz s' v' sz' ln) (2 ^ ln) 0 with
    | none => fm_290 N (.ref 131) (.ref (269 + a)) (.ref (269 + a')) (.ref 166) (fx V I L R ++ tl) = some (.inl (some (.int 0), fx V I L R ++ tl))
    | some y => y < 256 ∧ ∃ g, wnI ln y ln g ∧ fm_290 N (.ref 131) (.ref (269 + a)) (.ref (269 + a')) (.ref 166) (fx V I L R ++ tl) = some (.inl (some (.int 1), fx V (iup I 166 g) L R ++ tl)) := by
  have o3 := ho.2.1
  have o1 := ho.1
  have l8 := p8l o3
  have q := c_290l (V := V) (I := I) (L := L) (R := R) (tl := tl) (N := N) hN ho hp ho' hp' (2 ^ ln) 0 N (by omega) (by omega)
  obtain ⟨⟨x1, x2, x3, x4, x5, x6, p1⟩, -⟩ := nt_get ho hp V I L R (fun _ => rfl) rfl
  have tr : fm_290 N (.ref 131) (.ref (269 + a)) (.ref (269 + a')) (.ref 166) (fx V I L R ++ tl) = fg_290_13 N N (.ref (269 + a)) (.ref (269 + a')) (.ref 166) (nI ((ln - 1) / 2)) (nI 0) (fx V I L R ++ tl) := by
    unfold fm_290 fg_290_0
    refine ev_b (ev_gI p1 rfl rfl) ?_
    rw [mid_t ln (by omega) (by omega)]
    rfl
  rw [tr]
  exact q
set_option maxRecDepth 100000 in
set_option maxHeartbeats 1600000 in
theorem r_569l {V : Nat → Nat → Value} {I : Nat → Nat → Int32} {L : Nat → Nat → Int64} {R : Nat → Nat → Option Nat} {tl : am_H} {N : Nat} : ∀ (m k K : Nat) (g : Nat → Int32), k + m = 15 → m < K → (∀ j, j < k → g j = 0) → ∃ g', (∀ j, j < 15 → g' j = 0) ∧ fg_569_2 N K (.ref 174) (nI k) (fx V (iup I 254 g) L R ++ tl) = some (.inl (none, fx V (iup I 254 g') L R ++ tl)) := by
  intro m
  induction m with
  | zero =>
    intro k K g hk hK hg
    obtain ⟨K, rfl⟩ : ∃ k, K = k + 1 := ⟨K - 1, by omega⟩
    refine ⟨g, fun j hj => hg j (by omega), ?_⟩
    rw [fg_569_2]
    exact ev_t (nI_le (a := 15) (by omega) (by omega)) rfl
  | succ m ih =>
    intro k K g hk hK hg
    obtain ⟨K, rfl⟩ : ∃ k, K = k + 1 := ⟨K - 1, by omega⟩
    obtain ⟨g', h1, h2⟩ := ih (k + 1) K (upd g k 0) (by omega) (by omega) (fun j hj => by
      by_cases e : j = k
      · rw [e, upd_eq]
      · rw [upd_ne e]; exact hg j (by omega))
    refine ⟨g', h1, ?_⟩
    rw [fg_569_2]
    refine ev_f (nI_ge (b := 15) (by omega) (by omega)) (ev_b (a := Value.ref 254) rfl (ev_b (a := fx V (iup I 254 (upd g k 0)) L R ++ tl) ((qs_254 (by omega)).trans (by rw [iup_eq, iup_iup])) ?_))
    rw [nI_1]
    exact h2
theorem r_569 {V : Nat → Nat → Value} {I : Nat → Nat → Int32} {L : Nat → Nat → Int64} {R : Nat → Nat → Option Nat} {tl : am_H} {N : Nat} (hN : 100 < N) : ∃ g, (∀ j, j < 15 → g j = 0) ∧ fm_569 N (.ref 174) (fx V I L R ++ tl) = some (.inl (none, fx V (iup I 254 g) L R ++ tl)) := by
  obtain ⟨g, h1, h2⟩ := r_569l (V := V) (I := I) (L := L) (R := R) (tl := tl) (N := N) 15 0 N (I 254) (by omega) (by omega) (fun j hj => by omega)
  rw [iup_self] at h2
  exact ⟨g, h1, h2⟩
set_option maxRecDepth 100000 in
set_option maxHeartbeats 1600000 in
theorem r_570w {V : Nat → Nat → Value} {I : Nat → Nat → Int32} {L : Nat → Nat → Int64} {R : Nat → Nat → Option Nat} {tl : am_H} {N ln x : Nat} (h15 : V 174 15 = .int (nI ln)) (o3 : ln ≤ 8) (hx : x < 256) : ∀ (m q K : Nat) (g : Nat → Int32), q + m = ln → m < K → wnI ln x q g → ∃ g', wnI ln x ln g' ∧ fg_570_87 N K (.ref 174) (nI x) (nI q) (fx V (iup I 254 g) L R ++ tl) = some (.inl (some (.int 0), fx V (iup I 254 g') L R ++ tl)) := by
  intro m
  induction m with
  | zero =>
    intro q K g hq hK hg
    obtain ⟨K, rfl⟩ : ∃ k, K = k + 1 := ⟨K - 1, by omega⟩
    obtain rfl : q = ln := by omega
    refine ⟨g, hg, ?_⟩
    rw [fg_570_87]
    exact ev_b (rdI h15) (ev_t (nI_le (Nat.le_refl _) (by omega)) rfl)
  | succ m ih =>
    intro q K g hq hK hg
    obtain ⟨K, rfl⟩ : ∃ k, K = k + 1 := ⟨K - 1, by omega⟩
    obtain ⟨g', h1, h2⟩ := ih (q + 1) K (upd g (4 + q) (nI (bt x q))) (by omega) (by omega) (wn_s hg (by omega))
    refine ⟨g', h1, ?_⟩
    rw [fg_570_87]
    dsimp only
    rw [show (4 : Int32) + nI q = nI (4 + q) from nI_add 4 q, bt_r x hx q (by omega), nI_1]
    exact ev_b (rdI h15) (ev_f (nI_ge (by omega) (by omega)) (ev_b (a := Value.ref 254) rfl (ev_b (a := fx V (iup I 254 (upd g (4 + q) (nI (bt x q)))) L R ++ tl) ((qs_254 (by omega)).trans (by rw [iup_eq, iup_iup])) h2)))
