/-! ===== least(b): what the class tells apart ===== -/
def mcO (sz : Nat) (nxt : Nat → Nat → Nat) : Prop := 1 ≤ sz ∧ sz ≤ 6 ∧ ∀ i c, i < sz → c < 4 → nxt i c < sz
def mcC (V : Nat → Nat → Value) (I : Nat → Nat → Int32) (tl : am_H) (a it ln sz : Nat) (f : Nat → Int32) (val : Nat → Int32) (nxt : Nat → Nat → Nat) : Prop := prA V I tl (269 + a) (269 + it) 2 ln sz (sz * wdN 2) f ∧ ∀ i, i < sz → f (i * 5) = val i ∧ ∀ c, c < 4 → f (i * 5 + (1 + c)) = nI (nxt i c)
set_option maxRecDepth 100000 in
set_option maxHeartbeats 1600000 in
theorem mc_get {V : Nat → Nat → Value} {I : Nat → Nat → Int32} {tl : am_H} {a it ln sz : Nat} {f : Nat → Int32} {val : Nat → Int32} {nxt : Nat → Nat → Nat} (ho : mcO sz nxt) (hp : mcC V I tl a it ln sz f val nxt) (W : Nat → Nat → Value) (J : Nat → Nat → Int32) (M : Nat → Nat → Int64) (Q : Nat → Nat → Option Nat) (hW : ∀ j, W (269 + a) j = V (269 + a) j) (hJ : J (269 + it) = I (269 + it)) : (∃ x1 x2 x3 x4 x5 x6, (fx W J M Q ++ tl)[269 + a]? = some (.inr (3, [.ref (269 + it), .int (nI 2), .int (nI ln), .int (nI sz), .int (nI (wdN 2)), .int x1, .int x2, .int x3, .int x4, .int x5, .long x6]))) ∧ (∀ i, i < sz → fm_54 (.ref (269 + a)) (nI i) 0 (fx W J M Q ++ tl) = some (.inl (some (.int (val i)), fx W J M Q ++ tl)) ∧ ∀ c, c < 4 → fm_54 (.ref (269 + a)) (nI i) (nI (1 + c)) (fx W J M Q ++ tl) = some (.inl (some (.int (nI (nxt i c))), fx W J M Q ++ tl))) ∧ ∀ (i : Nat) (w : Int32), sz ≤ i → i < 100 → fm_54 (.ref (269 + a)) (nI i) w (fx W J M Q ++ tl) = some (.inl (some (.int 0), fx W J M Q ++ tl)) := by
  have hpg := hp.1 W J M Q hW hJ
  have s6 := ho.2.1
  refine ⟨?_, fun i hi => ⟨?_, fun c hc => ?_⟩, fun i w h1 h2 => ?_⟩
  · obtain ⟨x1, x2, x3, x4, x5, x6, p1, p2⟩ := hpg
    exact ⟨x1, x2, x3, x4, x5, x6, p1⟩
  · have g0 := c_54 (k := i) (w := 0) hpg (Nat.le_refl _) (by show sz * 5 ≤ 1000; omega) (by omega) hi (by decide)
    rw [show wdN 2 = 5 from rfl, Nat.add_zero, (hp.2 i hi).1] at g0
    exact g0
  · have g0 := c_54 (k := i) (w := 1 + c) hpg (Nat.le_refl _) (by show sz * 5 ≤ 1000; omega) (by omega) hi (by show 1 + c < 5; omega)
    rw [show wdN 2 = 5 from rfl, (hp.2 i hi).2 c hc] at g0
    exact g0
  · obtain ⟨x1, x2, x3, x4, x5, x6, p1, p2⟩ := hpg
    unfold fm_54 fg_54_0
    exact ev_f (nI_pos (by omega)) (ev_b (ev_gI p1 rfl rfl) (ev_t (nI_le h1 (by omega)) rfl))
theorem dm6 : ∀ k, k < 36 → nI k / 6 = nI (k / 6) ∧ nI k - nI k / 6 * 6 = nI (k % 6) := by decide +kernel
theorem dm4 : ∀ k, k < 144 → nI k / 4 = nI (k / 4) ∧ nI k - nI k / 4 * 4 = nI (k % 4) := by decide +kernel
def bU (B : Nat → Bool) (q : Nat) (b : Bool) : Nat → Bool := fun y => if y = q then b else B y
theorem bU_p {B : Nat → Bool} {q y : Nat} {b : Bool} (h : y = q) : bU B q b y = b := if_pos h
theorem bU_n {B : Nat → Bool} {q y : Nat} {b : Bool} (h : ¬ y = q) : bU B q b y = B y := if_neg h
def uR (sz : Nat) (u : Nat → Int32) (B : Nat → Bool) : Prop := ∀ q, q < 6 * sz → u q = nI (B q).toNat
set_option maxRecDepth 100000 in
set_option maxHeartbeats 1600000 in
theorem c_311a {V : Nat → Nat → Value} {I : Nat → Nat → Int32} {L : Nat → Nat → Int64} {R : Nat → Nat → Option Nat} {tl : am_H} {N a it ln sz : Nat} {f val : Nat → Int32} {nxt : Nat → Nat → Nat} (ho : mcO sz nxt) (hp : mcC V I tl a it ln sz f val nxt) : ∀ (m k K : Nat) (u : Nat → Int32) (B : Nat → Bool), k + m = 6 * sz → m < K → (∀ q, q < k → u q = nI (B q).toNat ∧ (q % 6 < sz → B q = !(eqv val nxt 0 (q / 6) (q % 6)))) → ∃ (u' : Nat → Int32) (B' : Nat → Bool), (∀ q, q < 6 * sz → u' q = nI (B' q).toNat ∧ (q % 6 < sz → B' q = !(eqv val nxt 0 (q / 6) (q % 6)))) ∧ fg_311_10 N K (.ref 131) (.ref (269 + a)) (nI (6 * sz)) (nI k) (fx V (iup I 143 u) L R ++ tl) = fg_311_55 N N (.ref 131) (.ref (269 + a)) (nI (6 * sz)) 0 (fx V (iup I 143 u') L R ++ tl) := by
  have s6 := ho.2.1
  intro m
  induction m with
  | zero =>
    intro k K u B hk hK hu
    obtain ⟨K, rfl⟩ : ∃ k, K = k + 1 := ⟨K - 1, by omega⟩
    refine ⟨u, B, fun q hq => hu q (by omega), ?_⟩
    rw [fg_311_10]
    exact ev_t (nI_le (by omega) (by omega)) rfl
  | succ m ih =>
    intro k K u B hk hK hu
    obtain ⟨K, rfl⟩ : ∃ k, K = k + 1 := ⟨K - 1, by omega⟩
    obtain ⟨⟨x1, x2, x3, x4, x5, x6, p1⟩, hG, hO⟩ := mc_get ho hp V (iup I 143 u) L R (fun _ => rfl) (iup_na (by omega))
    have i6 : k / 6 < sz := by omega
    obtain ⟨w, hw, hw2⟩ : ∃ w, fm_54 (.ref (269 + a)) (nI (k % 6)) 0 (fx V (iup I 143 u) L R ++ tl) = some (.inl (some (.int w), fx V (iup I 143 u) L R ++ tl)) ∧ (k % 6 < sz → w = val (k % 6)) := by
      by_cases c : k % 6 < sz
      · exact ⟨val (k % 6), (hG _ c).1, fun _ => rfl⟩
      · exact ⟨0, hO _ 0 (by omega) (by omega), fun h => absurd h c⟩
    obtain ⟨b, hb⟩ : ∃ b, b = !(decide (val (k / 6) = w)) := ⟨_, rfl⟩
    obtain ⟨u', B', h1, h2⟩ := ih (k + 1) K (upd u k (nI b.toNat)) (fun q => if q = k then b else B q) (by omega) (by omega) (fun q hq => by
      by_cases c : q = k
      · rw [c, upd_eq, if_pos rfl]
        refine ⟨rfl, fun h => ?_⟩
        rw [hb, hw2 h]
        rfl
      · rw [upd_ne c, if_neg c]
        exact hu q (by omega))
    refine ⟨u', B', h1, ?_⟩
    obtain ⟨d1, d2⟩ := dm6 k (by omega)
    have fin : fg_311_46 N (fg_311_10 N K) (.ref 131) (.ref (269 + a)) (nI (6 * sz)) (nI k) (.ref 143) (nI k) (nI b.toNat) (fx V (iup I 143 u) L R ++ tl) = fg_311_55 N N (.ref 131) (.ref (269 + a)) (nI (6 * sz)) 0 (fx V (iup I 143 u') L R ++ tl) := by
      unfold fg_311_46
      rw [nI_1]
      exact ev_b (a := fx V (iup I 143 (upd u k (nI b.toNat))) L R ++ tl) ((qs_143 (by omega) (afB b)).trans (by rw [iup_eq, iup_iup])) h2
    rw [fg_311_10]
    dsimp only
    rw [d2, d1]
    refine ev_f (nI_ge (by omega) (by omega)) (ev_b (a := Value.ref 143) rfl (ev_i (ev_ok p1) (ev_cI (hG _ i6).1 (ev_i (ev_ok p1) (ev_cI hw ?_)))))
    by_cases e : val (k / 6) = w
    · rw [hb, decide_eq_true e] at fin
      exact ev_t e fin
    · rw [hb, decide_eq_false e] at fin
      exact ev_f e fin
/-- what is marked is unlike; what is unlike within r steps is marked -/
def mUS (val : Nat → Int32) (nxt : Nat → Nat → Nat) (sz : Nat) (B : Nat → Bool) : Prop := ∀ q, q < 6 * sz → q % 6 < sz → B q = true → ∃ t, eqv val nxt t (q / 6) (q % 6) = false
def mUP (val : Nat → Int32) (nxt : Nat → Nat → Nat) (sz r : Nat) (B : Nat → Bool) : Prop := ∀ q, q < 6 * sz → q % 6 < sz → eqv val nxt r (q / 6) (q % 6) = false → B q = true
def mUQ (val : Nat → Int32) (nxt : Nat → Nat → Nat) (sz r k : Nat) (B : Nat → Bool) : Prop := ∀ q c, 4 * q + c < k → c < 4 → q < 6 * sz → q % 6 < sz → eqv val nxt r (nxt (q / 6) c) (nxt (q % 6) c) = false → B q = true
theorem eqv_f {val : Nat → Int32} {nxt : Nat → Nat → Nat} {t i j c : Nat} (hc : c < 4) (h : eqv val nxt t (nxt i c) (nxt j c) = false) : eqv val nxt (t + 1) i j = false := by
  cases e : eqv val nxt (t + 1) i j with
  | false => rfl
  | true => have := (eqv_s.mp e).2 c hc; rw [h] at this; cases this
set_option maxRecDepth 100000 in
set_option maxHeartbeats 1600000 in
theorem c_311r {V : Nat → Nat → Value} {I : Nat → Nat → Int32} {L : Nat → Nat → Int64} {R : Nat → Nat → Option Nat} {tl : am_H} {N a it ln sz r : Nat} {f val : Nat → Int32} {nxt : Nat → Nat → Nat} {rc : Value → Value → Int32 → Int32 → am_H → Option am_O} (ho : mcO sz nxt) (hp : mcC V I tl a it ln sz f val nxt) (x3 : Nat) : ∀ (m k K : Nat) (u : Nat → Int32) (B : Nat → Bool), k + m = 24 * sz → m < K → uR sz u B → mUS val nxt sz B → mUP val nxt sz r B → mUQ val nxt sz r k B → ∃ u' B', uR sz u' B' ∧ mUS val nxt sz B' ∧ mUP val nxt sz (r + 1) B' ∧ fg_311_64 N rc K (.ref 131) (.ref (269 + a)) (nI (6 * sz)) (nI x3) (nI k) (fx V (iup I 143 u) L R ++ tl) = rc (.ref 131) (.ref (269 + a)) (nI (6 * sz)) (nI (x3 + 1)) (fx V (iup I 143 u') L R ++ tl) := by
  have s6 := ho.2.1
  have e4 : nI (6 * sz) * 4 = nI (24 * sz) := by
    rw [show (4 : Int32) = nI 4 from rfl, ← nI_mul, show 6 * sz * 4 = 24 * sz by omega]
  intro m
  induction m with
  | zero =>
    intro k K u B hk hK hu hS hP hQ
    obtain ⟨K, rfl⟩ : ∃ k, K = k + 1 := ⟨K - 1, by omega⟩
    refine ⟨u, B, hu, hS, fun q h1 h2 h3 => ?_, ?_⟩
    · by_cases c : eqv val nxt r (q / 6) (q % 6) = false
      · exact hP q h1 h2 c
      · have ct : eqv val nxt r (q / 6) (q % 6) = true := by
          cases e : eqv val nxt r (q / 6) (q % 6) with
          | true => rfl
          | false => exact absurd e c
        have : ∃ c, c < 4 ∧ eqv val nxt r (nxt (q / 6) c) (nxt (q % 6) c) = false := by
          refine Classical.byContradiction (fun h => ?_)
          have : eqv val nxt (r + 1) (q / 6) (q % 6) = true := eqv_s.mpr ⟨ct, fun c hc => by
            cases e : eqv val nxt r (nxt (q / 6) c) (nxt (q % 6) c) with
            | true => rfl
            | false => exact absurd ⟨c, hc, e⟩ h⟩
          rw [h3] at this; cases this
        obtain ⟨c, hc, e⟩ := this
        exact hQ q c (by omega) hc h1 h2 e
    · rw [fg_311_64]
      dsimp only
      rw [e4, nI_1]
      exact ev_t (nI_le (by omega) (by omega)) rfl
  | succ m ih =>
    intro k K u B hk hK hu hS hP hQ
    obtain ⟨K, rfl⟩ : ∃ k, K = k + 1 := ⟨K - 1, by omega⟩
    obtain ⟨⟨x1, x2, x3', x4, x5, x6, p1⟩, hG, hO⟩ := mc_get ho hp V (iup I 143 u) L R (fun _ => rfl) (iup_na (by omega))
    obtain ⟨q, hq⟩ : ∃ q, q = k / 4 := ⟨_, rfl⟩
    obtain ⟨c, hc⟩ : ∃ c, c = k % 4 := ⟨_, rfl⟩
    have c4 : c < 4 := by omega
    have q6 : q < 6 * sz := by omega
    have i6 : q / 6 < sz := by omega
    obtain ⟨w, hw, wl, hw2⟩ : ∃ w : Nat, fm_54 (.ref (269 + a)) (nI (q % 6)) (nI (1 + c)) (fx V (iup I 143 u) L R ++ tl) = some (.inl (some (.int (nI w)), fx V (iup I 143 u) L R ++ tl)) ∧ w < sz ∧ (q % 6 < sz → w = nxt (q % 6) c) := by
      by_cases e : q % 6 < sz
      · exact ⟨nxt (q % 6) c, (hG _ e).2 c c4, ho.2.2 _ _ e c4, fun _ => rfl⟩
      · exact ⟨0, hO _ _ (by omega) (by omega), by omega, fun h => absurd h e⟩
    have nl := ho.2.2 (q / 6) c i6 c4
    obtain ⟨z, hz⟩ : ∃ z, z = 6 * nxt (q / 6) c + w := ⟨_, rfl⟩
    have z6 : z < 6 * sz := by omega
    have zd : z / 6 = nxt (q / 6) c ∧ z % 6 = w := by omega
    obtain ⟨b, hb⟩ : ∃ b, b = (B q || B z) := ⟨_, rfl⟩
    obtain ⟨u', B', h1, h2, h3, h4⟩ := ih (k + 1) K (upd u q (nI b.toNat)) (bU B q b) (by omega) (by omega) (fun y hy => by
      by_cases e : y = q
      · rw [e, upd_eq, bU_p rfl]
      · rw [upd_ne e, bU_n e]; exact hu y hy) (fun y y1 y2 y3 => by
      by_cases e : y = q
      · rw [e] at y2 ⊢
        rw [bU_p e, hb] at y3
        cases eb : B q with
        | true => exact hS q q6 y2 eb
        | false =>
          rw [eb, Bool.false_or] at y3
          obtain ⟨t, ht⟩ := hS z z6 (by omega) y3
          rw [zd.1, zd.2, hw2 y2] at ht
          exact ⟨t + 1, eqv_f c4 ht⟩
      · rw [bU_n e] at y3; exact hS y y1 y2 y3) (fun y y1 y2 y3 => by
      have := hP y y1 y2 y3
      by_cases e : y = q
      · rw [bU_p e, hb, ← e, this]; rfl
      · rw [bU_n e]; exact this) (fun y d y1 y2 y3 y4 y5 => by
      by_cases e : y = q
      · rw [bU_p e, hb]
        by_cases e2 : d = c
        · rw [e, e2] at y5
          rw [e] at y4
          have := hP z z6 (by rw [zd.2]; exact wl) (by rw [zd.1, zd.2, hw2 y4]; exact y5)
          rw [this, Bool.or_true]
        · have := hQ y d (by omega) y2 y3 y4 y5
          rw [← e, this]; rfl
      · rw [bU_n e]; exact hQ y d (by omega) y2 y3 y4 y5)
    refine ⟨u', B', h1, h2, h3, ?_⟩
    obtain ⟨d1, d2⟩ := dm4 k (by omega)
    obtain ⟨d3, d4⟩ := dm6 q (by omega)
    have fin : ∀ b', b' = b → fg_311_155 N rc (fg_311_64 N rc K) (.ref 131) (.ref (269 + a)) (nI (6 * sz)) (nI x3) (nI k) (.ref 143) (nI q) (nI b'.toNat) (fx V (iup I 143 u) L R ++ tl) = rc (.ref 131) (.ref (269 + a)) (nI (6 * sz)) (nI (x3 + 1)) (fx V (iup I 143 u') L R ++ tl) := fun b' hb' => by
      unfold fg_311_155
      rw [nI_1, hb']
      exact ev_b (a := fx V (iup I 143 (upd u q (nI b.toNat))) L R ++ tl) ((qs_143 (by omega) (afB b)).trans (by rw [iup_eq, iup_iup])) h4
    have rq : am_pA 2 (.ref 143) (nI q) (fx V (iup I 143 u) L R ++ tl) = some (nI (B q).toNat) := (qa_143 (by omega)).trans (congrArg some (hu q q6))
    have rz : am_pA 2 (.ref 143) (nI z) (fx V (iup I 143 u) L R ++ tl) = some (nI (B z).toNat) := (qa_143 (by omega)).trans (congrArg some (hu z z6))
    rw [fg_311_64]
    dsimp only
    rw [e4, d2, d1, ← hq, ← hc, d4, d3, show (1 : Int32) + nI c = nI (1 + c) from nI_add 1 c]
    refine ev_f (nI_ge (by omega) (by omega)) (ev_i (ev_ok p1) (ev_cI ((hG _ i6).2 c c4) (ev_i (ev_ok p1) (ev_cI hw (ev_b (a := Value.ref 143) rfl (ev_b (a := Value.ref 143) rfl (ev_b rq ?_)))))))
    cases eb : B q with
    | true =>
      refine ev_t (by decide) ?_
      unfold fg_311_150
      exact fin true (by rw [hb, eb]; rfl)
    | false =>
      refine ev_f (fun e => e rfl) (ev_b (a := Value.ref 143) rfl ?_)
      rw [show (6 : Int32) * nI (nxt (q / 6) c) + nI w = nI z by rw [hz]; exact nI_add' _ 6 w]
      refine ev_b rz ?_
      cases ez : B z with
      | true =>
        refine ev_f (by decide) ?_
        unfold fg_311_150
        exact fin true (by rw [hb, eb, ez]; rfl)
      | false => exact ev_t rfl (fin false (by rw [hb, eb, ez]; rfl))
set_option maxRecDepth 100000 in
set_option maxHeartbeats 1600000 in
theorem c_311o {V : Nat → Nat → Value} {I : Nat → Nat → Int32} {L : Nat → Nat → Int64} {R : Nat → Nat → Option Nat} {tl : am_H} {N a it ln sz : Nat} {f val : Nat → Int32} {nxt : Nat → Nat → Nat} (hN : 5000 < N) (ho : mcO sz nxt) (hp : mcC V I tl a it ln sz f val nxt) : ∀ (m r K : Nat) (u : Nat → Int32) (B : Nat → Bool), r + m = 6 → m < K → uR sz u B → mUS val nxt sz B → mUP val nxt sz r B → ∃ u' B', uR sz u' B' ∧ mUS val nxt sz B' ∧ mUP val nxt sz 6 B' ∧ fg_311_55 N K (.ref 131) (.ref (269 + a)) (nI (6 * sz)) (nI r) (fx V (iup I 143 u) L R ++ tl) = some (.inl (none, fx V (iup I 143 u') L R ++ tl)) := by
  have s6 := ho.2.1
  intro m
  induction m with
  | zero =>
    intro r K u B hr hK hu hS hP
    obtain ⟨K, rfl⟩ : ∃ k, K = k + 1 := ⟨K - 1, by omega⟩
    obtain rfl : r = 6 := by omega
    refine ⟨u, B, hu, hS, hP, ?_⟩
    rw [fg_311_55]
    exact ev_t (by decide) rfl
  | succ m ih =>
    intro r K u B hr hK hu hS hP
    obtain ⟨K, rfl⟩ : ∃ k, K = k + 1 := ⟨K - 1, by omega⟩
    obtain ⟨u1, B1, a1, a2, a3, a4⟩ := c_311r (V := V) (I := I) (L := L) (R := R) (tl := tl) (N := N) (r := r) (rc := fg_311_55 N K) ho hp r (24 * sz) 0 N u B (by omega) (by omega) hu hS hP (fun q c h => by omega)
    obtain ⟨u', B', b1, b2, b3, b4⟩ := ih (r + 1) K u1 B1 (by omega) (by omega) a1 a2 a3
    refine ⟨u', B', b1, b2, b3, ?_⟩
    rw [fg_311_55]
    exact ev_f (nI_ge (b := 6) (by omega) (by omega)) (a4.trans b4)
theorem c_311 {V : Nat → Nat → Value} {I : Nat → Nat → Int32} {L : Nat → Nat → Int64} {R : Nat → Nat → Option Nat} {tl : am_H} {N a it ln sz : Nat} {f val : Nat → Int32} {nxt : Nat → Nat → Nat} (hN : 5000 < N) (ho : mcO sz nxt) (hp : mcC V I tl a it ln sz f val nxt) : ∃ u, (∀ i j, i < sz → j < sz → u (6 * i + j) = nI (!(eqv val nxt 6 i j)).toNat) ∧ fm_311 N (.ref 131) (.ref (269 + a)) (fx V I L R ++ tl) = some (.inl (none, fx V (iup I 143 u) L R ++ tl)) := by
  have s6 := ho.2.1
  obtain ⟨u1, B1, a1, a2⟩ := c_311a (V := V) (I := I) (L := L) (R := R) (tl := tl) (N := N) ho hp (6 * sz) 0 N (I 143) (fun _ => false) (by omega) (by omega) (fun q hq => by omega)
  rw [iup_self] at a2
  obtain ⟨u, B, b1, b2, b3, b4⟩ := c_311o (V := V) (I := I) (L := L) (R := R) (tl := tl) (N := N) hN ho hp 6 0 N u1 B1 (by omega) (by omega) (fun q hq => (a1 q hq).1) (fun q h1 h2 h3 => ⟨0, by have := (a1 q h1).2 h2; rw [h3] at this; cases e : eqv val nxt 0 (q / 6) (q % 6) with
    | false => rfl
    | true => rw [e] at this; cases this⟩) (fun q h1 h2 h3 => by rw [(a1 q h1).2 h2, h3]; rfl)
  refine ⟨u, fun i j hi hj => ?_, ?_⟩
  · have q6 : 6 * i + j < 6 * sz := by omega
    have qd : (6 * i + j) / 6 = i := by omega
    have qm : (6 * i + j) % 6 = j := by omega
    rw [b1 _ q6]
    cases e : eqv val nxt 6 i j with
    | false =>
      rw [b3 _ q6 (by omega) (by rw [qd, qm]; exact e)]
      rfl
    | true =>
      cases eb : B (6 * i + j) with
      | false => rfl
      | true =>
        obtain ⟨t, ht⟩ := b2 _ q6 (by omega) eb
        rw [qd, qm] at ht
        have m1 := moore (val := val) s6 ho.2.2 t i j hi hj e
        have m2 := eqv_dn (r := t) 6 (by rw [Nat.add_comm]; exact m1)
        rw [ht] at m2; cases m2
  · obtain ⟨⟨x1, x2, x3, x4, x5, x6, p1⟩, -, -⟩ := mc_get ho hp V I L R (fun _ => rfl) rfl
    unfold fm_311 fg_311_0
    refine ev_b (ev_gI p1 rfl rfl) ?_
    rw [show (6 : Int32) * nI sz = nI (6 * sz) from (nI_mul 6 sz).symm]
    exact a2.trans b4
set_option maxRecDepth 100000 in
set_option maxHeartbeats 1600000 in
theorem c_312l {V : Nat → Nat → Value} {I : Nat → Nat → Int32} {L : Nat → Nat → Int64} {R : Nat → Nat → Option Nat} {tl : am_H} {N a it ln sz s : Nat} {f val : Nat → Int32} {nxt : Nat → Nat → Nat} (ho : mcO sz nxt) (hp : mcC V I tl a it ln sz f val nxt) (hs : s < sz) (hu : ∀ i j, i < sz → j < sz → I 143 (6 * i + j) = nI (!(eqv val nxt 6 i j)).toNat) : ∀ (m k K : Nat), k + m = s → m < K → fg_312_2 N K (.ref 131) (.ref (269 + a)) (nI s) (nI k) (fx V I L R ++ tl) = some (.inl (some (.int (nI (lsU (fun y => eqv val nxt 6 y s) m k))), fx V I L R ++ tl)) := by
  have s6 := ho.2.1
  obtain ⟨⟨x1, x2, x3, x4, x5, x6, p1⟩, -, -⟩ := mc_get ho hp V I L R (fun _ => rfl) rfl
  intro m
  induction m with
  | zero =>
    intro k K hk hK
    obtain ⟨K, rfl⟩ : ∃ k, K = k + 1 := ⟨K - 1, by omega⟩
    obtain rfl : k = s := by omega
    rw [fg_312_2]
    dsimp only
    rw [show (6 : Int32) * nI k + nI k = nI (6 * k + k) from nI_add' k 6 k]
    exact ev_b (ev_gI p1 rfl rfl) (ev_f (nI_ge hs (by omega)) (ev_b (a := Value.ref 143) rfl (ev_b (a := 0) ((qa_143 (by omega)).trans (by rw [hu k k hs hs, eqv_refl]; rfl)) (ev_f (fun e => e rfl) rfl))))
  | succ m ih =>
    intro k K hk hK
    obtain ⟨K, rfl⟩ : ∃ k, K = k + 1 := ⟨K - 1, by omega⟩
    have r := (qa_143 (V := V) (I := I) (L := L) (R := R) (tl := tl) (k := 6 * k + s) (by omega)).trans (congrArg some (hu k s (by omega) hs))
    rw [fg_312_2]
    dsimp only
    rw [show (6 : Int32) * nI k + nI s = nI (6 * k + s) from nI_add' k 6 s, nI_1]
    refine ev_b (ev_gI p1 rfl rfl) (ev_f (nI_ge (by omega) (by omega)) (ev_b (a := Value.ref 143) rfl (ev_b r ?_)))
    cases e : eqv val nxt 6 k s with
    | true =>
      have e' : lsU (fun y => eqv val nxt 6 y s) (m + 1) k = k := by rw [lsU, if_pos e]
      rw [e']
      exact ev_f (fun e => e rfl) rfl
    | false =>
      have e' : lsU (fun y => eqv val nxt 6 y s) (m + 1) k = lsU (fun y => eqv val nxt 6 y s) m (k + 1) := by rw [lsU, if_neg (by rw [e]; decide)]
      rw [e']
      exact ev_t (by decide) (ih (k + 1) K (by omega) (by omega))
theorem c_312 {V : Nat → Nat → Value} {I : Nat → Nat → Int32} {L : Nat → Nat → Int64} {R : Nat → Nat → Option Nat} {tl : am_H} {N a it ln sz s : Nat} {f val : Nat → Int32} {nxt : Nat → Nat → Nat} (hN : 5000 < N) (ho : mcO sz nxt) (hp : mcC V I tl a it ln sz f val nxt) (hs : s < sz) (hu : ∀ i j, i < sz → j < sz → I 143 (6 * i + j) = nI (!(eqv val nxt 6 i j)).toNat) : fm_312 N (.ref 131) (.ref (269 + a)) (nI s) (fx V I L R ++ tl) = some (.inl (some (.int (nI (clR val nxt 6 s))), fx V I L R ++ tl)) := c_312l ho hp hs hu s 0 N (by omega) (by have := ho.2.1; omega)
