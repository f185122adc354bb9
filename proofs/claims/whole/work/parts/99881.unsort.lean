/-! ===== nets on rows of bits: unsorted(b) ===== -/
def bt (x q : Nat) : Nat := x / 2 ^ q % 2
/-- an exchange on bits -/
def xch (x i j : Nat) : Nat := if bt x j < bt x i then x - 2 ^ i + 2 ^ j else x
def soB (s v : Nat → Nat) : Nat → Nat → Nat → Nat
  | 0, _, x => x
  | m + 1, c, x => soB s v m (c + 1) (xch x (s c) (v c))
def popN (x : Nat) : Nat := bt x 0 + bt x 1 + bt x 2 + bt x 3 + bt x 4 + bt x 5 + bt x 6 + bt x 7
def mo (x : Nat) : Nat → Bool
  | 0 => true
  | q + 1 => mo x q && decide (bt x q ≤ bt x (q + 1))
theorem xc_t : ∀ x, x < 256 → ∀ i, i < 8 → ∀ j, j < 8 → i < j → pv_292 (nI x) (nI i) (nI j) = nI (xch x i j) := by decide +kernel
theorem xc_lt : ∀ n, n < 9 → ∀ x, x < 2 ^ n → ∀ i, i < n → ∀ j, j < n → i < j → xch x i j < 2 ^ n := by decide +kernel
theorem xc_b : ∀ x, x < 256 → ∀ i, i < 8 → ∀ j, j < 8 → i < j → ∀ q, q < 8 → bt (xch x i j) q = if bt x j < bt x i then (if q = j then bt x i else if q = i then bt x j else bt x q) else bt x q := by decide +kernel
theorem bt_r : ∀ x, x < 256 → ∀ q, q < 8 → (nI x >>> (nI q &&& 31)) &&& 1 = nI (bt x q) := by decide +kernel
theorem bt_as : ∀ x, x < 256 → ∀ q, q < 8 → nI (x % 2 ^ q) ||| (nI (bt x q) <<< (nI q &&& 31)) = nI (x % 2 ^ (q + 1)) := by decide +kernel
theorem sh_n : ∀ n, n < 9 → (1 : Int32) <<< (nI n &&& 31) = nI (2 ^ n) := by decide +kernel
theorem pop_t : ∀ x, x < 256 → pv_242 (nI x) = nI (popN x) := by decide +kernel
theorem srt_t : ∀ n, n < 9 → ∀ x, x < 2 ^ n → decide (nI x = (1 <<< (nI n &&& 31)) - (1 <<< ((nI n - nI (popN x)) &&& 31))) = mo x (n - 1) := by decide +kernel
theorem bt_lt (x q : Nat) : bt x q < 2 := Nat.mod_lt _ (by decide)
theorem p8 {n x : Nat} (hn : n ≤ 8) (h : x < 2 ^ n) : x < 256 := Nat.lt_of_lt_of_le h (Nat.pow_le_pow_right (n := 2) (by decide) hn)
theorem p8l {n : Nat} (hn : n ≤ 8) : 2 ^ n ≤ 256 := Nat.pow_le_pow_right (n := 2) (by decide) hn
theorem soB_lt {s v : Nat → Nat} {ln sz : Nat} (ho : ntO ln sz s v) : ∀ (m c x : Nat), c + m = sz → x < 2 ^ ln → soB s v m c x < 2 ^ ln := by
  intro m
  induction m with
  | zero => intro c x _ h; exact h
  | succ m ih =>
    intro c x hc hx
    obtain ⟨o1, o2⟩ := ho.2.2.2 c (by omega)
    have o3 := ho.2.1
    exact ih (c + 1) _ (by omega) (xc_lt ln (by omega) x hx _ (by omega) _ o2 o1)
theorem nx_b {g : Nat → Int32} {x i j ln : Nat} (hl : ln ≤ 8) (hx : x < 2 ^ ln) (hij : i < j) (hj : j < ln) (hg : ∀ y, y < ln → g y = nI (bt x y)) : ∀ y, y < ln → nx g i j y = nI (bt (xch x i j) y) := by
  intro y hy
  have b1 := bt_lt x i
  have b2 := bt_lt x j
  rw [xc_b x (p8 hl hx) i (by omega) j (by omega) hij y (by omega)]
  unfold nx
  rw [hg i (by omega), hg j hj]
  by_cases c : bt x j < bt x i
  · rw [if_pos (nI_lt c (by omega)), if_pos c]
    by_cases c1 : y = j
    · rw [if_pos c1, c1, upd_eq]
    · rw [if_neg c1, upd_ne c1]
      by_cases c2 : y = i
      · rw [if_pos c2, c2, upd_eq]
      · rw [if_neg c2, upd_ne c2]; exact hg y hy
  · rw [if_neg (nI_nlt (by omega) (by omega)), if_neg c]; exact hg y hy
set_option maxRecDepth 100000 in
set_option maxHeartbeats 1600000 in
theorem c_291l {V : Nat → Nat → Value} {I : Nat → Nat → Int32} {L : Nat → Nat → Int64} {R : Nat → Nat → Option Nat} {tl : am_H} {N a it ln sz : Nat} {f : Nat → Int32} {s v : Nat → Nat} (ho : ntO ln sz s v) (hp : ntC V I tl a it ln sz f s v) : ∀ (m c K x : Nat), c + m = sz → m < K → x < 2 ^ ln → fg_291_4 N K (.ref (269 + a)) (nI x) (nI c) (fx V I L R ++ tl) = some (.inl (some (.int (nI (soB s v m c x))), fx V I L R ++ tl)) := by
  have h40 := ho.2.2.1
  have o3 := ho.2.1
  obtain ⟨⟨x1, x2, x3, x4, x5, x6, p1⟩, hG⟩ := nt_get ho hp V I L R (fun _ => rfl) rfl
  intro m
  induction m with
  | zero =>
    intro c K x hc hK hx
    obtain ⟨K, rfl⟩ : ∃ k, K = k + 1 := ⟨K - 1, by omega⟩
    rw [fg_291_4, show c = sz by omega]
    exact ev_b (ev_gI p1 rfl rfl) (ev_t (nI_le (Nat.le_refl _) (by omega)) rfl)
  | succ m ih =>
    intro c K x hc hK hx
    obtain ⟨K, rfl⟩ : ∃ k, K = k + 1 := ⟨K - 1, by omega⟩
    obtain ⟨g0, g1⟩ := hG c (by omega)
    obtain ⟨o1, o2⟩ := ho.2.2.2 c (by omega)
    rw [fg_291_4]
    refine ev_b (ev_gI p1 rfl rfl) (ev_f (nI_ge (by omega) (by omega)) (ev_i (ev_ok p1) (ev_cI g0 (ev_i (ev_ok p1) (ev_cI g1 (ev_cI (pe_292 _ _ _ _) ?_))))))
    rw [xc_t x (p8 o3 hx) (s c) (by omega) (v c) (by omega) o1, nI_1]
    exact ih (c + 1) K _ (by omega) (by omega) (xc_lt ln (by omega) x hx _ (by omega) _ o2 o1)
set_option maxRecDepth 100000 in
set_option maxHeartbeats 1600000 in
theorem r_571a {V : Nat → Nat → Value} {I : Nat → Nat → Int32} {L : Nat → Nat → Int64} {R : Nat → Nat → Option Nat} {tl : am_H} {N ln x : Nat} (h15 : V 174 15 = .int (nI ln)) (hl : ln ≤ 8) (hx : x < 256) : ∀ (m q K : Nat) (g : Nat → Int32), q + m = ln → m < K → ∃ G, (∀ y, y < ln → q ≤ y → G y = nI (bt x y)) ∧ (∀ y, y < q → G y = g y) ∧ fg_571_2 N K (.ref 174) (nI x) (nI q) (fx V (iup I 194 g) L R ++ tl) = fg_571_29 N N (.ref 174) 0 (fx V (iup I 194 G) L R ++ tl) := by
  intro m
  induction m with
  | zero =>
    intro q K g hq hK
    obtain ⟨K, rfl⟩ : ∃ k, K = k + 1 := ⟨K - 1, by omega⟩
    refine ⟨g, fun y h1 h2 => by omega, fun _ _ => rfl, ?_⟩
    rw [fg_571_2]
    exact ev_b (rdI h15) (ev_t (nI_le (by omega) (by omega)) rfl)
  | succ m ih =>
    intro q K g hq hK
    obtain ⟨K, rfl⟩ : ∃ k, K = k + 1 := ⟨K - 1, by omega⟩
    obtain ⟨G, h1, h2, h3⟩ := ih (q + 1) K (upd g q (nI (bt x q))) (by omega) (by omega)
    refine ⟨G, fun y y1 y2 => ?_, fun y y1 => ?_, ?_⟩
    · by_cases c : y = q
      · rw [h2 y (by omega), c, upd_eq]
      · exact h1 y y1 (by omega)
    · rw [h2 y (by omega), upd_ne (by omega)]
    · rw [fg_571_2]
      refine ev_b (rdI h15) (ev_f (nI_ge (by omega) (by omega)) (ev_b (a := Value.ref 194) rfl ?_))
      rw [bt_r x hx q (by omega), nI_1]
      exact ev_b (a := fx V (iup I 194 (upd g q (nI (bt x q)))) L R ++ tl) ((qs_194 (by omega)).trans (by rw [iup_eq, iup_iup])) h3
set_option maxRecDepth 100000 in
set_option maxHeartbeats 1600000 in
theorem r_571b {V : Nat → Nat → Value} {I : Nat → Nat → Int32} {L : Nat → Nat → Int64} {R : Nat → Nat → Option Nat} {tl : am_H} {N ln sz : Nat} {s v : Nat → Nat} (ho : ntO ln sz s v) (h14 : V 174 14 = .int (nI sz)) (hd : ∀ k, k < sz → I 186 k = nI (s k) ∧ I 187 k = nI (v k)) : ∀ (m c K x : Nat) (g : Nat → Int32), c + m = sz → m < K → x < 2 ^ ln → (∀ y, y < ln → g y = nI (bt x y)) → ∃ G, (∀ y, y < ln → G y = nI (bt (soB s v m c x) y)) ∧ fg_571_29 N K (.ref 174) (nI c) (fx V (iup I 194 g) L R ++ tl) = fg_571_53 N N (.ref 174) 0 0 (fx V (iup I 194 G) L R ++ tl) := by
  have h40 := ho.2.2.1
  have o3 := ho.2.1
  intro m
  induction m with
  | zero =>
    intro c K x g hc hK hx hg
    obtain ⟨K, rfl⟩ : ∃ k, K = k + 1 := ⟨K - 1, by omega⟩
    refine ⟨g, hg, ?_⟩
    rw [fg_571_29]
    exact ev_b (rdI h14) (ev_t (nI_le (by omega) (by omega)) rfl)
  | succ m ih =>
    intro c K x g hc hK hx hg
    obtain ⟨K, rfl⟩ : ∃ k, K = k + 1 := ⟨K - 1, by omega⟩
    obtain ⟨o1, o2⟩ := ho.2.2.2 c (by omega)
    obtain ⟨r, e⟩ := r_418 (V := V) (I := iup I 194 g) (L := L) (R := R) (tl := tl) (k := c) (by omega) (hd c (by omega)).1 (hd c (by omega)).2 o1 (by omega)
    rw [iup_eq, iup_iup] at e
    obtain ⟨G, h1, h2⟩ := ih (c + 1) K _ _ (by omega) (by omega) (xc_lt ln (by omega) x hx _ (by omega) _ o2 o1) (nx_b o3 hx o1 o2 hg)
    refine ⟨G, h1, ?_⟩
    rw [fg_571_29]
    refine ev_b (rdI h14) (ev_f (nI_ge (by omega) (by omega)) (ev_i rfl (ev_cI e ?_)))
    rw [nI_1]
    exact h2
set_option maxRecDepth 100000 in
set_option maxHeartbeats 1600000 in
theorem r_571c {V : Nat → Nat → Value} {I : Nat → Nat → Int32} {L : Nat → Nat → Int64} {R : Nat → Nat → Option Nat} {tl : am_H} {N ln x : Nat} (h15 : V 174 15 = .int (nI ln)) (hl : ln ≤ 8) (hx : x < 2 ^ ln) (hg : ∀ y, y < ln → I 194 y = nI (bt x y)) : ∀ (m q K : Nat), q + m = ln → m < K → fg_571_53 N K (.ref 174) (nI (x % 2 ^ q)) (nI q) (fx V I L R ++ tl) = some (.inl (some (.int (nI x)), fx V I L R ++ tl)) := by
  intro m
  induction m with
  | zero =>
    intro q K hq hK
    obtain ⟨K, rfl⟩ : ∃ k, K = k + 1 := ⟨K - 1, by omega⟩
    rw [fg_571_53, show q = ln by omega, Nat.mod_eq_of_lt hx]
    exact ev_b (rdI h15) (ev_t (nI_le (by omega) (by omega)) rfl)
  | succ m ih =>
    intro q K hq hK
    obtain ⟨K, rfl⟩ : ∃ k, K = k + 1 := ⟨K - 1, by omega⟩
    rw [fg_571_53]
    refine ev_b (rdI h15) (ev_f (nI_ge (by omega) (by omega)) (ev_b (a := Value.ref 194) rfl (ev_b (a := nI (bt x q)) ((qa_194 (by omega)).trans (congrArg some (hg q (by omega)))) ?_)))
    rw [bt_as x (p8 hl hx) q (by omega), nI_1]
    exact ih (q + 1) K (by omega) (by omega)
theorem r_571 {V : Nat → Nat → Value} {I : Nat → Nat → Int32} {L : Nat → Nat → Int64} {R : Nat → Nat → Option Nat} {tl : am_H} {N ln sz x : Nat} {s v : Nat → Nat} (hN : 5000 < N) (ho : ntO ln sz s v) (h14 : V 174 14 = .int (nI sz)) (h15 : V 174 15 = .int (nI ln)) (hd : ∀ k, k < sz → I 186 k = nI (s k) ∧ I 187 k = nI (v k)) (hx : x < 2 ^ ln) (g : Nat → Int32) : ∃ G, fm_571 N (.ref 174) (nI x) (fx V (iup I 194 g) L R ++ tl) = some (.inl (some (.int (nI (soB s v sz 0 x))), fx V (iup I 194 G) L R ++ tl)) := by
  have h40 := ho.2.2.1
  have o3 := ho.2.1
  obtain ⟨G1, a1, -, a3⟩ := r_571a (V := V) (I := I) (L := L) (R := R) (tl := tl) (N := N) (x := x) h15 o3 (p8 o3 hx) ln 0 N g (by omega) (by omega)
  obtain ⟨G2, b1, b2⟩ := r_571b (V := V) (I := I) (L := L) (R := R) (tl := tl) (N := N) ho h14 hd sz 0 N x G1 (by omega) (by omega) hx (fun y hy => a1 y hy (by omega))
  have c := r_571c (V := V) (I := iup I 194 G2) (L := L) (R := R) (tl := tl) (N := N) (x := soB s v sz 0 x) h15 o3 (soB_lt ho sz 0 x (by omega) hx) b1 ln 0 N (by omega) (by omega)
  rw [show soB s v sz 0 x % 2 ^ 0 = 0 from Nat.mod_one _] at c
  exact ⟨G2, a3.trans (b2.trans c)⟩
set_option maxRecDepth 100000 in
set_option maxHeartbeats 1600000 in
theorem r_587m {V : Nat → Nat → Value} {I : Nat → Nat → Int32} {L : Nat → Nat → Int64} {R : Nat → Nat → Option Nat} {tl : am_H} {N ln x y : Nat} {rc : Value → Int32 → am_H → Option am_O} (h15 : V 174 15 = .int (nI ln)) (hl : ln ≤ 8) (hx : x < 256) : ∀ (m q K : Nat), q + 1 + m = ln → m < K → fg_587_47 N rc K (.ref 174) (nI y) (nI x) (nI (mo x q).toNat) (nI (q + 1)) (fx V I L R ++ tl) = if mo x (ln - 1) = true then rc (.ref 174) (nI (y + 1)) (fx V I L R ++ tl) else some (.inl (some (.int (nI y)), fx V I L R ++ tl)) := by
  intro m
  induction m with
  | zero =>
    intro q K hq hK
    obtain ⟨K, rfl⟩ : ∃ k, K = k + 1 := ⟨K - 1, by omega⟩
    rw [fg_587_47, show ln - 1 = q by omega]
    refine ev_b (rdI h15) (ev_t (nI_le (by omega) (by omega)) ?_)
    cases hb : mo x q with
    | true =>
      rw [if_pos (show true = true from rfl), nI_1]
      exact ev_t (by decide) rfl
    | false =>
      rw [if_neg (show ¬ (false = true) by decide)]
      exact ev_f (fun e => e rfl) rfl
  | succ m ih =>
    intro q K hq hK
    obtain ⟨K, rfl⟩ : ∃ k, K = k + 1 := ⟨K - 1, by omega⟩
    have e := ih (q + 1) K (by omega) (by omega)
    have b1 := bt_lt x q
    have b2 := bt_lt x (q + 1)
    have em : mo x (q + 1) = (mo x q && decide (bt x q ≤ bt x (q + 1))) := rfl
    rw [fg_587_47]
    refine ev_b (rdI h15) (ev_f (nI_ge (by omega) (by omega)) ?_)
    cases hb : mo x q with
    | false =>
      rw [hb, Bool.false_and] at em
      rw [em] at e
      refine ev_t rfl ?_
      unfold fg_587_82 fg_587_83
      rw [nI_1]
      exact e
    | true =>
      rw [hb, Bool.true_and] at em
      refine ev_f (by decide) ?_
      rw [bt_r x hx (q + 1) (by omega), show nI (q + 1) - 1 = nI q from nI_sub (b := 1) (by omega), bt_r x hx q (by omega)]
      by_cases c : bt x q ≤ bt x (q + 1)
      · rw [em, decide_eq_true c] at e
        refine ev_f (nI_nlt c (by omega)) ?_
        unfold fg_587_83
        rw [nI_1]
        exact e
      · rw [em, decide_eq_false c] at e
        refine ev_t (nI_lt (by omega) (by omega)) ?_
        unfold fg_587_82 fg_587_83
        rw [nI_1]
        exact e
/-- the first row from x on that hasn't it -/
def fsU (P : Nat → Bool) : Nat → Nat → Int32
  | 0, _ => -1
  | m + 1, x => if P x = true then fsU P m (x + 1) else nI x
set_option maxRecDepth 100000 in
set_option maxHeartbeats 1600000 in
theorem c_319l {V : Nat → Nat → Value} {I : Nat → Nat → Int32} {L : Nat → Nat → Int64} {R : Nat → Nat → Option Nat} {tl : am_H} {N a it ln sz : Nat} {f : Nat → Int32} {s v : Nat → Nat} (hN : 5000 < N) (ho : ntO ln sz s v) (hp : ntC V I tl a it ln sz f s v) : ∀ (m x K : Nat), x + m = 2 ^ ln → m < K → fg_319_2 N K (.ref (269 + a)) (nI x) (fx V I L R ++ tl) = some (.inl (some (.int (fsU (fun y => mo (soB s v sz 0 y) (ln - 1)) m x)), fx V I L R ++ tl)) := by
  have h40 := ho.2.2.1
  have o3 := ho.2.1
  have l8 := p8l o3
  obtain ⟨⟨x1, x2, x3, x4, x5, x6, p1⟩, hG⟩ := nt_get ho hp V I L R (fun _ => rfl) rfl
  intro m
  induction m with
  | zero =>
    intro x K hx hK
    obtain ⟨K, rfl⟩ : ∃ k, K = k + 1 := ⟨K - 1, by omega⟩
    rw [fg_319_2]
    refine ev_b (ev_gI p1 rfl rfl) ?_
    rw [sh_n ln (by omega)]
    exact ev_t (nI_le (by omega) (by omega)) rfl
  | succ m ih =>
    intro x K hx hK
    obtain ⟨K, rfl⟩ : ∃ k, K = k + 1 := ⟨K - 1, by omega⟩
    have e := c_291l (V := V) (I := I) (L := L) (R := R) (tl := tl) (N := N) ho hp sz 0 N x (by omega) (by omega) (by omega)
    have z := soB_lt ho sz 0 x (by omega) (by omega : x < 2 ^ ln)
    have st := srt_t ln (by omega) _ z
    rw [fg_319_2]
    refine ev_b (ev_gI p1 rfl rfl) ?_
    rw [sh_n ln (by omega)]
    refine ev_f (nI_ge (by omega) (by omega)) (ev_cI e (ev_cI (pe_242 _ _) ?_))
    rw [pop_t _ (p8 o3 z)]
    refine ev_b (ev_gI p1 rfl rfl) (ev_b (ev_gI p1 rfl rfl) ?_)
    have hf : fsU (fun y => mo (soB s v sz 0 y) (ln - 1)) (m + 1) x = if mo (soB s v sz 0 x) (ln - 1) = true then fsU (fun y => mo (soB s v sz 0 y) (ln - 1)) m (x + 1) else nI x := rfl
    rw [hf]
    by_cases c : nI (soB s v sz 0 x) = (1 <<< (nI ln &&& 31)) - (1 <<< ((nI ln - nI (popN (soB s v sz 0 x))) &&& 31))
    · rw [decide_eq_true c] at st
      rw [if_pos st.symm, nI_1]
      exact ev_t c (ih (x + 1) K (by omega) (by omega))
    · rw [decide_eq_false c] at st
      rw [if_neg (show ¬ mo (soB s v sz 0 x) (ln - 1) = true by rw [← st]; decide)]
      exact ev_f c rfl
set_option maxRecDepth 100000 in
set_option maxHeartbeats 1600000 in
theorem r_587l {V : Nat → Nat → Value} {I : Nat → Nat → Int32} {L : Nat → Nat → Int64} {R : Nat → Nat → Option Nat} {tl : am_H} {N ln sz : Nat} {s v : Nat → Nat} (hN : 5000 < N) (ho : ntO ln sz s v) (h14 : V 174 14 = .int (nI sz)) (h15 : V 174 15 = .int (nI ln)) (hd : ∀ k, k < sz → I 186 k = nI (s k) ∧ I 187 k = nI (v k)) : ∀ (m x K : Nat) (g : Nat → Int32), x + m = 2 ^ ln → m < K → ∃ G, fg_587_25 N K (.ref 174) (nI x) (fx V (iup I 194 g) L R ++ tl) = some (.inl (some (.int (fsU (fun y => mo (soB s v sz 0 y) (ln - 1)) m x)), fx V (iup I 194 G) L R ++ tl)) := by
  have h40 := ho.2.2.1
  have o3 := ho.2.1
  have l8 := p8l o3
  intro m
  induction m with
  | zero =>
    intro x K g hx hK
    obtain ⟨K, rfl⟩ : ∃ k, K = k + 1 := ⟨K - 1, by omega⟩
    refine ⟨g, ?_⟩
    rw [fg_587_25]
    refine ev_b (rdI h15) ?_
    rw [sh_n ln (by omega)]
    exact ev_t (nI_le (by omega) (by omega)) rfl
  | succ m ih =>
    intro x K g hx hK
    obtain ⟨K, rfl⟩ : ∃ k, K = k + 1 := ⟨K - 1, by omega⟩
    obtain ⟨G1, e1⟩ := r_571 (V := V) (I := I) (L := L) (R := R) (tl := tl) hN ho h14 h15 hd (by omega : x < 2 ^ ln) g
    have z := soB_lt ho sz 0 x (by omega) (by omega : x < 2 ^ ln)
    have e2 := r_587m (V := V) (I := iup I 194 G1) (L := L) (R := R) (tl := tl) (N := N) (y := x) (rc := fg_587_25 N K) h15 o3 (p8 o3 z) (ln - 1) 0 N (by have := ho.1; omega) (by omega)
    have hf : fsU (fun y => mo (soB s v sz 0 y) (ln - 1)) (m + 1) x = if mo (soB s v sz 0 x) (ln - 1) = true then fsU (fun y => mo (soB s v sz 0 y) (ln - 1)) m (x + 1) else nI x := rfl
    rw [hf]
    by_cases c : mo (soB s v sz 0 x) (ln - 1) = true
    · obtain ⟨G, e3⟩ := ih (x + 1) K G1 (by omega) (by omega)
      rw [if_pos c] at e2
      refine ⟨G, ?_⟩
      rw [if_pos c, fg_587_25]
      refine ev_b (rdI h15) ?_
      rw [sh_n ln (by omega)]
      exact ev_f (nI_ge (by omega) (by omega)) (ev_i rfl (ev_cI e1 (e2.trans e3)))
    · rw [if_neg c] at e2
      refine ⟨G1, ?_⟩
      rw [if_neg c, fg_587_25]
      refine ev_b (rdI h15) ?_
      rw [sh_n ln (by omega)]
      exact ev_f (nI_ge (by omega) (by omega)) (ev_i rfl (ev_cI e1 e2))
set_option maxRecDepth 100000 in
set_option maxHeartbeats 1600000 in
theorem u_58 {V : Nat → Nat → Value} {I : Nat → Nat → Int32} {L : Nat → Nat → Int64} {R : Nat → Nat → Option Nat} {tl : am_H} {n p j : Nat} (hr : rel V I L R tl n p) (hm : room tl n p j) {N : Nat} (hN : 5000 < N) (a1 : Int32) : ∃ h', opBI (fm_317 N (.ref 0) a1 (.ref 268) (fx V I L R ++ tl)) (fun h1 => fm_587 N (.ref 174) a1 h1) vfI h' ∧ invW (j + 1) h' := by
  obtain ⟨b1, b2, b3⟩ := hr.1
  rcases dich a1 (n := n) (by omega) with hn | ⟨b, hb, rfl⟩
  · refine ⟨_, opBI_err (c := 1) (b := 0) (by decide) (tl := tl ++ [am_dummy]) ?_ ?_, inv_mk (rel_thr 1 (rel_dum hr)) (room_dum hm)⟩
    · have e : fm_318 N (.ref 0) a1 (fx V I L R ++ tl) = some (.inr (2, (fx V I L R ++ (tl ++ [am_dummy])))) := by
        unfold fm_318 fg_318_0
        refine ev_b (a := Value.ref 131) rfl (ev_i rfl ?_)
        rw [c_315e b2 hn]
        rfl
      unfold fm_317 fg_317_0
      refine ev_i rfl ?_
      rw [e]
      rfl
    · show fm_587 N (.ref 174) a1 (fx V I L R ++ (tl ++ [am_dummy])) = _
      unfold fm_587 fg_587_0
      exact ev_i rfl (ev_cI (r_586e b3 b1 hn) (ev_b qp_174_0 (ev_b (a := 1) rfl (ev_f (by decide) rfl))))
  · obtain ⟨kd, ln, sz, a, it, f, q1, q2, q3, k3, s60, q4, q5, q6⟩ := nt_of hr hb
    by_cases hk : kd = 3
    · subst hk
      obtain ⟨s, v, ho, hc, hd⟩ := q6 rfl
      have l8 := p8l ho.2.1
      have e1 := c_319l (V := V) (I := I) (L := L) (R := R) (tl := tl) (N := N) hN ho hc (2 ^ ln) 0 N (by omega) (by omega)
      obtain ⟨w, hw⟩ : ∃ w, w = fsU (fun y => mo (soB s v sz 0 y) (ln - 1)) (2 ^ ln) 0 := ⟨_, rfl⟩
      rw [← hw] at e1
      obtain ⟨G2, e2⟩ := r_587l (V := dkV (vup V 174 0 (.int 0)) 3 ln sz) (I := dkI I b sz) (L := outL L w.toInt64) (R := R) (tl := tl) (N := N) hN ho (by show vup _ 174 15 _ 174 14 = _; rw [vup_v (by omega), vup_eq]) vup_eq (fun k hk => ⟨(ldr_at hk).trans (hd k hk).1, (ldr_at hk).trans (hd k hk).2⟩) (2 ^ ln) 0 N (dkI I b sz 194) (by omega) (by omega)
      rw [iup_self, ← hw] at e2
      refine ⟨_, opBI_g (v := w) (W := V) (J := I) (M := outL L w.toInt64) (R1 := R) (t1 := tl) (W' := dkV (vup V 174 0 (.int 0)) 3 ln sz) (J' := iup (dkI I b sz) 194 G2) (M' := outL L w.toInt64) (R2 := R) (t2 := tl) ?_ ?_ ?_ outL_at, inv_mk (rel_k (keep_i (by decide)) (rel_dk (rel_thr 0 (rel_ol _ hr)))) (room_up hm)⟩
      · have e : fm_318 N (.ref 0) (nI b) (fx V I L R ++ tl) = some (.inl (some (.int w), fx V I L R ++ tl)) := by
          unfold fm_318 fg_318_0
          refine ev_b (a := Value.ref 131) rfl (ev_i rfl (ev_cR (c_315o b2 b1 hb q4 (q5 V I L R)) rfl (ev_i rfl (ev_cI (v := w) (h1 := fx V I L R ++ tl) ?_ rfl))))
          unfold fm_319 fg_319_0
          exact e1
        unfold fm_317 fg_317_0
        refine ev_i rfl ?_
        rw [e]
        exact ev_b out_s rfl
      · show fm_587 N (.ref 174) (nI b) (fx V I (outL L w.toInt64) R ++ tl) = _
        unfold fm_587 fg_587_0
        exact ev_i rfl (ev_cI (r_586k (kd := 3) b3 b1 hb q1 (by omega)) (ev_b qp_174_0 (ev_b (a := 0) rfl (ev_t (by decide) (ev_i rfl (ev_cV (r_359 (by omega) (by omega) s60 q1 q2 q3) e2))))))
      · show vup (vup (vup (vup V 174 0 (.int 0)) 174 13 _) 174 14 _) 174 15 _ 174 0 = _
        rw [vup_v (by omega), vup_v (by omega), vup_v (by omega), vup_eq]
    · refine ⟨_, opBI_err (c := 2) (b := 0) (by decide) (tl := tl ++ [am_dummy]) ?_ ?_, inv_mk (rel_thr 2 (rel_dum hr)) (room_dum hm)⟩
      · have e : fm_318 N (.ref 0) (nI b) (fx V I L R ++ tl) = some (.inr (0, (fx V I L R ++ (tl ++ [am_dummy])))) := by
          unfold fm_318 fg_318_0
          refine ev_b (a := Value.ref 131) rfl (ev_i rfl ?_)
          rw [c_315k b2 b1 hb q4 (q5 V I L R) hk k3]
          rfl
        unfold fm_317 fg_317_0
        refine ev_i rfl ?_
        rw [e]
        rfl
      · show fm_587 N (.ref 174) (nI b) (fx V I L R ++ (tl ++ [am_dummy])) = _
        have e := r_586k (V := V) (I := I) (L := L) (R := R) (tl := tl ++ [am_dummy]) b3 b1 hb q1 k3
        rw [if_neg hk] at e
        unfold fm_587 fg_587_0
        exact ev_i rfl (ev_cI e (ev_b qp_174_0 (ev_b (a := 2) rfl (ev_f (by decide) rfl))))
