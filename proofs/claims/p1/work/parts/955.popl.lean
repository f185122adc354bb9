theorem rOk_0 {N z : Nat} (hN : 40 < N) (hz : 1 ≤ z) (hz9 : z ≤ 9) : rOk N 0 z (fun _ => True) := by
  intro V I L R tl st hs hi hk _
  obtain ⟨V', I', L', P, st', ⟨hP, f13, f14, f15, f88, f96, fi, f0, f1, fl, fI, _, _, _⟩, q⟩ := r_491t (V := V) (I := I) (L := L) (R := R) (tl := tl) (kd := nI 0) hN hz hz9 hs hi hk (by decide) (by decide)
  refine ⟨V', I', L', z, 0, 0, st', ?_, f13, f14, by omega, f15, f96, fi, ⟨0, f88⟩, f0, f1, fl, fI 234 (by omega) (by omega) (by omega) (by omega) (by omega), trivial⟩
  rw [q, if_pos (by decide)]
  rfl
set_option maxRecDepth 100000 in
set_option maxHeartbeats 4000000 in
theorem r_488l {N i kd z n : Nat} {Q : (Nat → Nat → Int32) → Prop} (hN : 100 < N) (hi4 : i < 4) (hn : n ≤ 16) (hD : rOk N kd z Q) (hQ : ∀ I I' : Nat → Nat → Int32, (∀ y, 186 ≤ y → y ≠ 234 → I' y = I y) → Q I → Q I') {R : Nat → Nat → Option Nat} {tl : am_H} : ∀ (m k K : Nat) (V : Nat → Nat → Value) (I : Nat → Nat → Int32) (L : Nat → Nat → Int64) (st : Int64), k + m = n → 1 ≤ n → m < K → V 174 96 = .long st → rInv V L → (∃ k0, V 174 88 = .int (nI k0)) → V 174 1 = .int (nI k) → Q I → (1 ≤ k → I 234 (16 * i) = nI 0) → ∃ V' I' L', fg_488_95 N K (.ref 174) (nI i) (nI kd) (nI n) (nI z) (nI k) (fx V I L R ++ tl) = some (.inl (some (.int (nI 0)), fx V' I' L' R ++ tl)) ∧ V' 174 0 = V 174 0 ∧ L' 268 = L 268 := by
  intro m
  induction m with
  | zero =>
    intro k K V I L st hm hn1 hK hs hi hk h1 hq hz
    obtain ⟨K, rfl⟩ : ∃ k, K = k + 1 := ⟨K - 1, by omega⟩
    refine ⟨V, I, lup L 235 (vp_updL (L 235) i st), ?_, rfl, rfl⟩
    rw [fg_488_95]
    refine ev_t (nI_le (by omega) (by omega)) ?_
    refine ev_b (a := .ref 235) rfl ?_
    refine ev_b (a := st) (by show am_vL (some (V 174 96)) = _; rw [hs]; rfl) ?_
    refine ev_b (ev_sL (f := L 235) (n := 4) (h1 := fx V I (lup L 235 (vp_updL (L 235) i st)) R ++ tl) rfl (am_inb_n hi4 (by omega)) (by rw [nI_clamp (by omega)]; rfl)) ?_
    refine ev_b (a := .ref 234) rfl ?_
    rw [show (16 : Int32) * nI i = nI (16 * i) from (nI_mul 16 i).symm]
    refine ev_b (ev_a (f := I 234) (n := 64) rfl (am_inb_n (by omega) (by omega))) ?_
    rw [nI_clamp (by omega), hz (by omega)]
  | succ m ih =>
    intro k K V I L st hm hn1 hK hs hi hk h1 hq hz
    obtain ⟨K, rfl⟩ : ∃ k, K = k + 1 := ⟨K - 1, by omega⟩
    obtain ⟨V1, I1, L1, s, kd', nt, st1, d1, d13, d14, ds, d15, d96, di, dk, d0, dm, dl, d234, dq⟩ := hD V I L R tl st hs hi hk hq
    have b := x_356 (V := V1) (I := I1) (L := L1) (R := R) (tl := tl) (N := N) (s := s) (m := k) (kd := kd') (nt := nt) (by rw [dm]; exact h1) d13 d14 d15 (by omega) ds (by omega) 2 (-1) (-1) (-1) (-1) 0
    obtain ⟨I2, L2, hb, e224, e225, e268, eI⟩ : ∃ I2 L2, fm_356 N (.ref 174) 2 (-1) (-1) (-1) (-1) 0 (fx V1 I1 L1 R ++ tl) = some (.inl (some (.int (nI k)), fx (vup V1 174 1 (.int (nI (k + 1)))) I2 L2 R ++ tl)) ∧ L2 224 = L1 224 ∧ L2 225 = L1 225 ∧ L2 268 = L1 268 ∧ (∀ y, 186 ≤ y → I2 y = I1 y) := by
      refine ⟨_, _, b, rfl, rfl, rfl, fun y hy => ?_⟩
      unfold iup
      rw [if_neg (by omega), if_neg (by omega), if_neg (by omega), if_neg (by omega), if_neg (by omega), if_neg (by omega), if_neg (by omega), if_neg (by omega), if_neg (by omega), if_neg (by omega)]
    have hinv : rInv (vup V1 174 1 (.int (nI (k + 1)))) L2 := by
      unfold rInv at di ⊢
      rw [vup_v (by omega), e224, e225]
      exact di
    obtain ⟨V', I', L', r1, r2, r3⟩ := ih (k + 1) K (vup V1 174 1 (.int (nI (k + 1)))) (iup I2 234 (upd (I2 234) (16 * i + k) (nI k))) L2 st1 (by omega) hn1 (by omega) (by rw [vup_v (by omega)]; exact d96) hinv (by rw [vup_v (by omega)]; exact dk) vup_eq (hQ I1 _ (fun y y1 y2 => (if_neg y2).trans (eI y y1)) dq) (fun _ => by
        show upd (I2 234) (16 * i + k) (nI k) (16 * i) = nI 0
        by_cases c : k = 0
        · subst c
          exact upd_eq
        · rw [upd_ne (by omega), eI 234 (by omega), d234]
          exact hz (by omega))
    refine ⟨V', I', L', ?_, by rw [r2, vup_v (by omega)]; exact d0, by rw [r3, e268]; exact dl⟩
    rw [fg_488_95]
    refine ev_f (nI_ge (by omega) (by omega)) ?_
    refine ev_i rfl ?_
    refine ev_cV d1 ?_
    refine ev_b (a := .ref 234) rfl ?_
    refine ev_i rfl ?_
    refine ev_cI hb ?_
    rw [show (16 : Int32) * nI i + nI k = nI (16 * i + k) by rw [← nI_add, nI_mul]; rfl]
    refine ev_b (ev_s (f := I2 234) (n := 64) (h1 := fx (vup V1 174 1 (.int (nI (k + 1)))) (iup I2 234 (upd (I2 234) (16 * i + k) (nI k))) L2 R ++ tl) rfl (am_inb_n (by omega) (by omega)) rfl (by rw [nI_clamp (by omega)]; rfl)) ?_
    rw [nI_1]
    exact r1
