/-! ===== ranks ===== -/
/-- a strict order of all the places -/
def sto (bt : Nat → Nat → Bool) : Prop := (∀ p, bt p p = false) ∧ (∀ p q r, bt p q = true → bt q r = true → bt p r = true) ∧ ∀ p q, p ≠ q → bt p q = true ∨ bt q p = true
theorem btr_sto {cm zm bm : Nat → Nat} : sto (btr cm zm bm) := by
  have t : ∀ p q, btr cm zm bm p q = true ↔ (cm p < cm q ∨ (cm p = cm q ∧ (zm p < zm q ∨ (zm p = zm q ∧ (bm p < bm q ∨ (bm p = bm q ∧ p < q)))))) := fun p q => by
    unfold btr
    by_cases a : cm p = cm q
    · rw [if_pos a]
      by_cases b : zm p = zm q
      · rw [if_pos b]
        by_cases d : bm p = bm q
        · rw [if_pos d, decide_eq_true_iff]; omega
        · rw [if_neg d, decide_eq_true_iff]; omega
      · rw [if_neg b, decide_eq_true_iff]; omega
    · rw [if_neg a, decide_eq_true_iff]; omega
  refine ⟨fun p => Bool.eq_false_iff.mpr (fun h => ?_), fun p q r h1 h2 => ?_, fun p q h => ?_⟩
  · have := (t p p).mp h; omega
  · have a := (t p q).mp h1
    have b := (t q r).mp h2
    exact (t p r).mpr (by omega)
  · by_cases a : btr cm zm bm p q = true
    · exact .inl a
    · refine .inr ((t q p).mpr ?_)
      have nn := mt (t p q).mpr a
      omega
/-- how many are ahead of a place -/
def ahN (bt : Nat → Nat → Bool) (c p : Nat) : Nat := cnB (fun q => bt q p) c
theorem cnB_mono {A B : Nat → Bool} (h : ∀ x, A x = true → B x = true) : ∀ c, cnB A c ≤ cnB B c := by
  intro c
  induction c with
  | zero => exact Nat.le_refl _
  | succ c ih =>
    rw [cnB, cnB]
    cases a : A c with
    | true => rw [h c a]; omega
    | false => have : false.toNat = 0 := rfl; omega
theorem cnB_slt {A B : Nat → Bool} {p : Nat} (h : ∀ x, A x = true → B x = true) (ha : A p = false) (hb : B p = true) : ∀ c, p < c → cnB A c < cnB B c := by
  intro c
  induction c with
  | zero => intro hp; exact absurd hp (by omega)
  | succ c ih =>
    intro hp
    rw [cnB, cnB]
    by_cases e : p = c
    · subst e
      have := cnB_mono h p
      rw [ha, hb]
      have t1 : false.toNat = 0 := rfl
      have t2 : true.toNat = 1 := rfl
      omega
    · have i := ih (by omega)
      cases a : A c with
      | true => rw [h c a]; omega
      | false => have : false.toNat = 0 := rfl; omega
theorem ah_lt {bt : Nat → Nat → Bool} {c p q : Nat} (hs : sto bt) (hp : p < c) (h : bt p q = true) : ahN bt c p < ahN bt c q := cnB_slt (p := p) (fun x hx => hs.2.1 x p q hx h) (hs.1 p) h c hp
theorem ah_inj {bt : Nat → Nat → Bool} {c p q : Nat} (hs : sto bt) (hp : p < c) (hq : q < c) (h : ahN bt c p = ahN bt c q) : p = q := by
  by_cases e : p = q
  · exact e
  · rcases hs.2.2 p q e with u | u
    · have := ah_lt hs hp u; omega
    · have := ah_lt hs hq u; omega
theorem ah_b {bt : Nat → Nat → Bool} {c p : Nat} (hs : sto bt) (hp : p < c) : ahN bt c p < c := by
  have h := cnB_slt (A := fun q => bt q p) (B := fun _ => true) (p := p) (fun x _ => rfl) (hs.1 p) rfl c hp
  have key : ∀ m, cnB (fun _ => true) m = m := by
    intro m
    induction m with
    | zero => rfl
    | succ m ih => rw [cnB, ih]; rfl
  rw [key] at h
  exact h
set_option maxRecDepth 100000 in
set_option maxHeartbeats 4000000 in
theorem c_220i {V : Nat → Nat → Value} {I : Nat → Nat → Int32} {L : Nat → Nat → Int64} {R : Nat → Nat → Option Nat} {tl : am_H} {N i c p : Nat} {bt : Nat → Nat → Bool} {rc : Value → Int32 → am_H → Option am_O} (hi : i < 4) (hc : c ≤ 16) (hp : p < c) (hb : ahN bt c p < 16) (h0 : V (40 + 9 * i) 0 = .int (nI c)) (h221 : ∀ q, q < c → fm_221 (.ref (40 + 9 * i)) (nI q) (nI p) (fx V I L R ++ tl) = some (.inl (some (.int (nI (bt q p).toNat)), fx V I L R ++ tl))) : ∀ (m q K : Nat), q + m = c → m < K → fg_220_14 N rc K (.ref (40 + 9 * i)) (nI p) (nI (cnB (fun q => bt q p) q)) (nI q) (fx V I L R ++ tl) = rc (.ref (40 + 9 * i)) (nI (p + 1)) (fx V (iup I (43 + 9 * i) (upd (I (43 + 9 * i)) (ahN bt c p) (nI p))) L R ++ tl) := by
  intro m
  induction m with
  | zero =>
    intro q K hq hK
    obtain ⟨K, rfl⟩ : ∃ k, K = k + 1 := ⟨K - 1, by omega⟩
    obtain rfl : q = c := by omega
    rw [fg_220_14]
    refine ev_b (iv_0 hi h0) (ev_t (nI_le (Nat.le_refl _) (by omega)) (ev_b (ir_4 hi) (ev_b (ij_43 hi hb) ?_)))
    rw [nI_1]
    rfl
  | succ m ih =>
    intro q K hq hK
    obtain ⟨K, rfl⟩ : ∃ k, K = k + 1 := ⟨K - 1, by omega⟩
    have e := ih (q + 1) K (by omega) (by omega)
    rw [fg_220_14]
    refine ev_b (iv_0 hi h0) (ev_f (nI_ge (by omega) (by omega)) (ev_i (io_1 hi) (ev_cI (h221 q (by omega)) ?_)))
    have st : cnB (fun q => bt q p) (q + 1) = cnB (fun q => bt q p) q + (bt q p).toNat := rfl
    rw [st] at e
    cases b : bt q p with
    | true =>
      rw [b] at e
      refine ev_f (by decide) ?_
      unfold fg_220_37
      rw [nI_1, nI_1]
      exact e
    | false =>
      rw [b] at e
      refine ev_t rfl ?_
      unfold fg_220_37
      rw [nI_1, Int32.add_zero]
      exact e
set_option maxRecDepth 100000 in
set_option maxHeartbeats 4000000 in
theorem c_220l {V : Nat → Nat → Value} {L : Nat → Nat → Int64} {R : Nat → Nat → Option Nat} {tl : am_H} {I0 : Nat → Nat → Int32} {N i c : Nat} {bt : Nat → Nat → Bool} (hN : 100 < N) (hs : sto bt) (hi : i < 4) (hc : c ≤ 16) (h0 : V (40 + 9 * i) 0 = .int (nI c)) (h221 : ∀ (F : Nat → Int32) p q, p < c → q < c → fm_221 (.ref (40 + 9 * i)) (nI p) (nI q) (fx V (iup I0 (43 + 9 * i) F) L R ++ tl) = some (.inl (some (.int (nI (bt p q).toNat)), fx V (iup I0 (43 + 9 * i) F) L R ++ tl))) : ∀ (m p K : Nat) (F : Nat → Int32), p + m = c → m < K → (∀ x, x < p → F (ahN bt c x) = nI x) → ∃ G, fg_220_2 N K (.ref (40 + 9 * i)) (nI p) (fx V (iup I0 (43 + 9 * i) F) L R ++ tl) = some (.inl (none, fx V (iup I0 (43 + 9 * i) G) L R ++ tl)) ∧ ∀ x, x < c → G (ahN bt c x) = nI x := by
  intro m
  induction m with
  | zero =>
    intro p K F hp hK h
    obtain ⟨K, rfl⟩ : ∃ k, K = k + 1 := ⟨K - 1, by omega⟩
    obtain rfl : p = c := by omega
    refine ⟨F, ?_, h⟩
    rw [fg_220_2]
    exact ev_b (iv_0 hi h0) (ev_t (nI_le (Nat.le_refl _) (by omega)) rfl)
  | succ m ih =>
    intro p K F hp hK h
    obtain ⟨K, rfl⟩ : ∃ k, K = k + 1 := ⟨K - 1, by omega⟩
    have hb := ah_b (c := c) hs (show p < c by omega)
    have e1 := c_220i (V := V) (I := iup I0 (43 + 9 * i) F) (L := L) (R := R) (tl := tl) (N := N) (p := p) (bt := bt) (rc := fg_220_2 N K) hi hc (by omega) (by omega) h0 (fun q hq => h221 F q p hq (by omega)) c 0 N (by omega) (by omega)
    rw [iup_2, iup_eq] at e1
    obtain ⟨G, e2, hG⟩ := ih (p + 1) K (upd F (ahN bt c p) (nI p)) (by omega) (by omega) (fun x hx => by
      by_cases z : x = p
      · subst z; exact upd_eq
      · rw [upd_ne (fun u => z (ah_inj hs (by omega) (by omega) u))]; exact h x (by omega))
    refine ⟨G, ?_, hG⟩
    rw [fg_220_2]
    refine ev_b (iv_0 hi h0) (ev_f (nI_ge (by omega) (by omega)) ?_)
    exact e1.trans e2
