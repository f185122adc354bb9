/-! ===== least(b): the reference ===== -/
/-- the second desk holds the machine -/
def mcR (V : Nat → Nat → Value) (I : Nat → Nat → Int32) (sz : Nat) (val : Nat → Int32) (nxt : Nat → Nat → Nat) : Prop := V 174 18 = .int (nI sz) ∧ ∀ i, i < sz → I 188 i = val i ∧ ∀ c, c < 4 → pv_367 (I 189 i) (nI c) = nI (nxt i c)
theorem lsU_s {E : Nat → Bool} {m y : Nat} : lsU E (m + 1) y = if E y = true then y else lsU E m (y + 1) := by rw [lsU]
set_option maxRecDepth 100000 in
set_option maxHeartbeats 1600000 in
theorem r_583i {V : Nat → Nat → Value} {I : Nat → Nat → Int32} {L : Nat → Nat → Int64} {R : Nat → Nat → Option Nat} {tl : am_H} {N sz x1 : Nat} {val : Nat → Int32} {nxt : Nat → Nat → Nat} {rc : Value → Int32 → am_H → Option am_O} (hm : mcR V I sz val nxt) (hs : sz ≤ 6) (hx : x1 < sz) : ∀ (y K : Nat) (g : Nat → Int32), y ≤ x1 → y < K → g x1 = nI (lsU (fun z => eqv val nxt 0 z x1) (x1 - y) y) → ∃ g', g' x1 = nI (clR val nxt 0 x1) ∧ (∀ j, j ≠ x1 → g' j = g j) ∧ fg_583_21 N rc K (.ref 174) (nI x1) (nI y + (-1)) (fx V (iup I 262 g) L R ++ tl) = rc (.ref 174) (nI (x1 + 1)) (fx V (iup I 262 g') L R ++ tl) := by
  intro y
  induction y with
  | zero =>
    intro K g hy hK hg
    obtain ⟨K, rfl⟩ : ∃ k, K = k + 1 := ⟨K - 1, by omega⟩
    refine ⟨g, hg, fun _ _ => rfl, ?_⟩
    rw [fg_583_21]
    dsimp only
    rw [nI_1]
    exact ev_t (by decide) rfl
  | succ y ih =>
    intro K g hy hK hg
    obtain ⟨K, rfl⟩ : ∃ k, K = k + 1 := ⟨K - 1, by omega⟩
    have a1 : am_pA 0 (.ref 188) (nI y) (fx V (iup I 262 g) L R ++ tl) = some (val y) := (qa_188 (by omega)).trans (congrArg some (hm.2 y (by omega)).1)
    have a2 : am_pA 0 (.ref 188) (nI x1) (fx V (iup I 262 g) L R ++ tl) = some (val x1) := (qa_188 (by omega)).trans (congrArg some (hm.2 x1 hx).1)
    have fin : ∀ w, w = lsU (fun z => eqv val nxt 0 z x1) (x1 - y) y → ∃ g', g' x1 = nI (clR val nxt 0 x1) ∧ (∀ j, j ≠ x1 → g' j = g j) ∧ fg_583_55 N rc (fg_583_21 N rc K) (.ref 174) (nI x1) (nI y) (.ref 262) (nI x1) (nI w) (fx V (iup I 262 g) L R ++ tl) = rc (.ref 174) (nI (x1 + 1)) (fx V (iup I 262 g') L R ++ tl) := fun w hw => by
      obtain ⟨g', h1, h2, h3⟩ := ih K (upd g x1 (nI w)) (by omega) (by omega) (by rw [upd_eq, hw])
      refine ⟨g', h1, fun j hj => by rw [h2 j hj, upd_ne hj], ?_⟩
      unfold fg_583_55
      exact ev_b (a := fx V (iup I 262 (upd g x1 (nI w))) L R ++ tl) ((qs_262 (by omega)).trans (by rw [iup_eq, iup_iup])) h3
    have es : x1 - y = (x1 - (y + 1)) + 1 := by omega
    by_cases c : val y = val x1
    · obtain ⟨g', h1, h2, h3⟩ := fin y (by rw [es, lsU_s, if_pos (show eqv val nxt 0 y x1 = true from decide_eq_true c)])
      refine ⟨g', h1, h2, ?_⟩
      rw [fg_583_21, nI_m1]
      exact ev_f (nI_pos (by omega)) (ev_b (a := Value.ref 262) rfl (ev_b (a := Value.ref 188) rfl (ev_b a1 (ev_b (a := Value.ref 188) rfl (ev_b a2 (ev_f (fun e => e c) h3))))))
    · obtain ⟨g', h1, h2, h3⟩ := fin _ (by rw [es, lsU_s, if_neg (show ¬ eqv val nxt 0 y x1 = true from fun e => c (of_decide_eq_true e))])
      refine ⟨g', h1, h2, ?_⟩
      rw [fg_583_21, nI_m1]
      exact ev_f (nI_pos (by omega)) (ev_b (a := Value.ref 262) rfl (ev_b (a := Value.ref 188) rfl (ev_b a1 (ev_b (a := Value.ref 188) rfl (ev_b a2 (ev_t c (ev_b (a := Value.ref 262) rfl (ev_b ((qa_262 (by omega)).trans (congrArg some hg)) h3))))))))
set_option maxRecDepth 100000 in
set_option maxHeartbeats 1600000 in
theorem r_583a {V : Nat → Nat → Value} {I : Nat → Nat → Int32} {L : Nat → Nat → Int64} {R : Nat → Nat → Option Nat} {tl : am_H} {N sz : Nat} {val : Nat → Int32} {nxt : Nat → Nat → Nat} (hN : 100 < N) (hm : mcR V I sz val nxt) (hs : sz ≤ 6) : ∀ (m x K : Nat) (g : Nat → Int32), x + m = sz → m < K → (∀ j, j < x → g j = nI (clR val nxt 0 j)) → ∃ g', (∀ j, j < sz → g' j = nI (clR val nxt 0 j)) ∧ fg_583_2 N K (.ref 174) (nI x) (fx V (iup I 262 g) L R ++ tl) = fg_583_70 N N (.ref 174) 0 (fx V (iup I 262 g') L R ++ tl) := by
  intro m
  induction m with
  | zero =>
    intro x K g hx hK hg
    obtain ⟨K, rfl⟩ : ∃ k, K = k + 1 := ⟨K - 1, by omega⟩
    refine ⟨g, fun j hj => hg j (by omega), ?_⟩
    rw [fg_583_2]
    exact ev_b (rdI hm.1) (ev_t (nI_le (by omega) (by omega)) rfl)
  | succ m ih =>
    intro x K g hx hK hg
    obtain ⟨K, rfl⟩ : ∃ k, K = k + 1 := ⟨K - 1, by omega⟩
    obtain ⟨g1, a1, a2, a3⟩ := r_583i (V := V) (I := I) (L := L) (R := R) (tl := tl) (N := N) (rc := fg_583_2 N K) hm hs (show x < sz by omega) x N (upd g x (nI x)) (Nat.le_refl _) (by omega) (by rw [upd_eq, Nat.sub_self]; rfl)
    obtain ⟨g', b1, b2⟩ := ih (x + 1) K g1 (by omega) (by omega) (fun j hj => by
      by_cases e : j = x
      · rw [e]; exact a1
      · rw [a2 j e, upd_ne e]; exact hg j (by omega))
    refine ⟨g', b1, ?_⟩
    rw [fg_583_2]
    refine ev_b (rdI hm.1) (ev_f (nI_ge (by omega) (by omega)) (ev_b (a := Value.ref 262) rfl (ev_b (a := fx V (iup I 262 (upd g x (nI x))) L R ++ tl) ((qs_262 (by omega)).trans (by rw [iup_eq, iup_iup])) ?_)))
    rw [Int32.sub_eq_add_neg]
    exact a3.trans b2
/-- two states by their classes -/
def sam (cl : Nat → Nat) (nxt : Nat → Nat → Nat) (i j : Nat) : Nat → Bool
  | 0 => decide (cl i = cl j)
  | c + 1 => sam cl nxt i j c && decide (cl (nxt i c) = cl (nxt j c))
set_option maxRecDepth 100000 in
set_option maxHeartbeats 1600000 in
theorem r_584l {V : Nat → Nat → Value} {I : Nat → Nat → Int32} {L : Nat → Nat → Int64} {R : Nat → Nat → Option Nat} {tl : am_H} {N sz i j : Nat} {val : Nat → Int32} {nxt : Nat → Nat → Nat} {cl : Nat → Nat} (hm : mcR V I sz val nxt) (hs : sz ≤ 6) (hn : ∀ i c, i < sz → c < 4 → nxt i c < sz) (hi : i < sz) (hj : j < sz) (hg : ∀ x, x < sz → I 262 x = nI (cl x)) (hcl : ∀ x, x < sz → cl x < 6) : ∀ (m c K : Nat), c + m = 4 → m < K → fg_584_24 N K (.ref 174) (nI i) (nI j) (nI (sam cl nxt i j c).toNat) (nI c) (fx V I L R ++ tl) = some (.inl (some (.int (nI (sam cl nxt i j 4).toNat)), fx V I L R ++ tl)) := by
  intro m
  induction m with
  | zero =>
    intro c K hc hK
    obtain ⟨K, rfl⟩ : ∃ k, K = k + 1 := ⟨K - 1, by omega⟩
    obtain rfl : c = 4 := by omega
    rw [fg_584_24]
    refine ev_t (by decide) ?_
    cases sam cl nxt i j 4 <;> rfl
  | succ m ih =>
    intro c K hc hK
    obtain ⟨K, rfl⟩ : ∃ k, K = k + 1 := ⟨K - 1, by omega⟩
    have c4 : c < 4 := by omega
    have e := ih (c + 1) K (by omega) (by omega)
    have n1 := hn i c hi c4
    have n2 := hn j c hj c4
    have r1 : am_pA 0 (.ref 189) (nI i) (fx V I L R ++ tl) = some (I 189 i) := qa_189 (by omega)
    have r2 : am_pA 0 (.ref 189) (nI j) (fx V I L R ++ tl) = some (I 189 j) := qa_189 (by omega)
    have r3 : am_pA 0 (.ref 262) (nI (nxt i c)) (fx V I L R ++ tl) = some (nI (cl (nxt i c))) := (qa_262 (by omega)).trans (congrArg some (hg _ n1))
    have r4 : am_pA 0 (.ref 262) (nI (nxt j c)) (fx V I L R ++ tl) = some (nI (cl (nxt j c))) := (qa_262 (by omega)).trans (congrArg some (hg _ n2))
    have es : sam cl nxt i j (c + 1) = (sam cl nxt i j c && decide (cl (nxt i c) = cl (nxt j c))) := rfl
    have k1 := hcl _ n1
    have k2 := hcl _ n2
    rw [fg_584_24]
    refine ev_f (nI_ge (b := 4) c4 (by decide)) ?_
    cases hb : sam cl nxt i j c with
    | false =>
      rw [hb, Bool.false_and] at es
      rw [es] at e
      refine ev_t rfl ?_
      unfold fg_584_73 fg_584_74
      rw [nI_1]
      exact e
    | true =>
      rw [hb, Bool.true_and] at es
      refine ev_f (by decide) (ev_b (a := Value.ref 262) rfl (ev_b (a := Value.ref 189) rfl (ev_b r1 (ev_cI (pe_367 _ _ _) ?_))))
      rw [(hm.2 i hi).2 c c4]
      refine ev_b r3 (ev_b (a := Value.ref 262) rfl (ev_b (a := Value.ref 189) rfl (ev_b r2 (ev_cI (pe_367 _ _ _) ?_))))
      rw [(hm.2 j hj).2 c c4]
      refine ev_b r4 ?_
      by_cases d : cl (nxt i c) = cl (nxt j c)
      · rw [decide_eq_true d] at es
        rw [es] at e
        refine ev_f (fun e' => e' (by rw [d])) ?_
        unfold fg_584_74
        rw [nI_1]
        exact e
      · rw [decide_eq_false d] at es
        rw [es] at e
        refine ev_t (fun e' => d ((nI_eq (by omega) (by omega)).mp e')) ?_
        unfold fg_584_73 fg_584_74
        rw [nI_1]
        exact e
set_option maxRecDepth 100000 in
set_option maxHeartbeats 1600000 in
theorem r_584 {V : Nat → Nat → Value} {I : Nat → Nat → Int32} {L : Nat → Nat → Int64} {R : Nat → Nat → Option Nat} {tl : am_H} {N sz i j : Nat} {val : Nat → Int32} {nxt : Nat → Nat → Nat} {cl : Nat → Nat} (hN : 100 < N) (hm : mcR V I sz val nxt) (hs : sz ≤ 6) (hn : ∀ i c, i < sz → c < 4 → nxt i c < sz) (hi : i < sz) (hj : j < sz) (hg : ∀ x, x < sz → I 262 x = nI (cl x)) (hcl : ∀ x, x < sz → cl x < 6) : fm_584 N (.ref 174) (nI i) (nI j) (fx V I L R ++ tl) = some (.inl (some (.int (nI (sam cl nxt i j 4).toNat)), fx V I L R ++ tl)) := by
  have r3 : am_pA 0 (.ref 262) (nI i) (fx V I L R ++ tl) = some (nI (cl i)) := (qa_262 (by omega)).trans (congrArg some (hg _ hi))
  have r4 : am_pA 0 (.ref 262) (nI j) (fx V I L R ++ tl) = some (nI (cl j)) := (qa_262 (by omega)).trans (congrArg some (hg _ hj))
  have k1 := hcl _ hi
  have k2 := hcl _ hj
  have e := r_584l (V := V) (I := I) (L := L) (R := R) (tl := tl) (N := N) hm hs hn hi hj hg hcl 4 0 N (by omega) (by omega)
  have e0 : sam cl nxt i j 0 = decide (cl i = cl j) := rfl
  unfold fm_584 fg_584_0
  refine ev_b (a := Value.ref 262) rfl (ev_b r3 (ev_b (a := Value.ref 262) rfl (ev_b r4 ?_)))
  by_cases d : cl i = cl j
  · rw [e0, decide_eq_true d] at e
    refine ev_f (fun e' => e' (by rw [d])) ?_
    unfold fg_584_20
    exact e
  · rw [e0, decide_eq_false d] at e
    refine ev_t (fun e' => d ((nI_eq (by omega) (by omega)).mp e')) ?_
    unfold fg_584_20
    exact e
theorem sam_eqv {val : Nat → Int32} {nxt : Nat → Nat → Nat} {r i j : Nat} : sam (clR val nxt r) nxt i j 4 = eqv val nxt (r + 1) i j := by
  have q : ∀ x y, decide (clR val nxt r x = clR val nxt r y) = eqv val nxt r x y := fun x y => by
    cases e : eqv val nxt r x y with
    | true => exact decide_eq_true (clR_iff.mpr e)
    | false => exact decide_eq_false (fun h => by rw [clR_iff.mp h] at e; cases e)
  show ((((decide _ && decide _) && decide _) && decide _) && decide _) = (eqv val nxt r i j && (((eqv val nxt r (nxt i 0) (nxt j 0) && eqv val nxt r (nxt i 1) (nxt j 1)) && eqv val nxt r (nxt i 2) (nxt j 2)) && eqv val nxt r (nxt i 3) (nxt j 3)))
  rw [q, q, q, q, q, Bool.and_assoc, Bool.and_assoc, Bool.and_assoc, Bool.and_assoc, Bool.and_assoc]
set_option maxRecDepth 100000 in
set_option maxHeartbeats 1600000 in
theorem r_583j {V : Nat → Nat → Value} {I : Nat → Nat → Int32} {L : Nat → Nat → Int64} {R : Nat → Nat → Option Nat} {tl : am_H} {N sz x2 r : Nat} {x1 : Int32} {val : Nat → Int32} {nxt : Nat → Nat → Nat} {rc : Value → Int32 → am_H → Option am_O} {rc2 : Value → Int32 → Int32 → am_H → Option am_O} (hN : 100 < N) (hm : mcR V I sz val nxt) (hs : sz ≤ 6) (hn : ∀ i c, i < sz → c < 4 → nxt i c < sz) (hx : x2 < sz) (hcl : ∀ x, x < sz → I 262 x = nI (clR val nxt r x)) : ∀ (y K : Nat) (g : Nat → Int32), y ≤ x2 → y < K → g x2 = nI (lsU (fun z => eqv val nxt (r + 1) z x2) (x2 - y) y) → ∃ g', g' x2 = nI (clR val nxt (r + 1) x2) ∧ (∀ j, j ≠ x2 → g' j = g j) ∧ fg_583_97 N rc rc2 K (.ref 174) x1 (nI x2) (nI y + (-1)) (fx V (iup I 263 g) L R ++ tl) = rc2 (.ref 174) x1 (nI (x2 + 1)) (fx V (iup I 263 g') L R ++ tl) := by
  intro y
  induction y with
  | zero =>
    intro K g hy hK hg
    obtain ⟨K, rfl⟩ : ∃ k, K = k + 1 := ⟨K - 1, by omega⟩
    refine ⟨g, hg, fun _ _ => rfl, ?_⟩
    rw [fg_583_97]
    dsimp only
    rw [nI_1]
    exact ev_t (by decide) rfl
  | succ y ih =>
    intro K g hy hK hg
    obtain ⟨K, rfl⟩ : ∃ k, K = k + 1 := ⟨K - 1, by omega⟩
    have q := r_584 (V := V) (I := iup I 263 g) (L := L) (R := R) (tl := tl) (N := N) (i := y) (j := x2) (cl := clR val nxt r) hN ⟨hm.1, hm.2⟩ hs hn (by omega) hx (fun x hx => by rw [iup_na (by decide)]; exact hcl x hx) (fun x hx => by have := clR_le (val := val) (nxt := nxt) (r := r) (x := x); omega)
    rw [sam_eqv] at q
    have fin : ∀ w, w = lsU (fun z => eqv val nxt (r + 1) z x2) (x2 - y) y → ∃ g', g' x2 = nI (clR val nxt (r + 1) x2) ∧ (∀ j, j ≠ x2 → g' j = g j) ∧ fg_583_125 N rc rc2 (fg_583_97 N rc rc2 K) (.ref 174) x1 (nI x2) (nI y) (.ref 263) (nI x2) (nI w) (fx V (iup I 263 g) L R ++ tl) = rc2 (.ref 174) x1 (nI (x2 + 1)) (fx V (iup I 263 g') L R ++ tl) := fun w hw => by
      obtain ⟨g', h1, h2, h3⟩ := ih K (upd g x2 (nI w)) (by omega) (by omega) (by rw [upd_eq, hw])
      refine ⟨g', h1, fun j hj => by rw [h2 j hj, upd_ne hj], ?_⟩
      unfold fg_583_125
      exact ev_b (a := fx V (iup I 263 (upd g x2 (nI w))) L R ++ tl) ((qs_263 (by omega)).trans (by rw [iup_eq, iup_iup])) h3
    have es : x2 - y = (x2 - (y + 1)) + 1 := by omega
    cases c : eqv val nxt (r + 1) y x2 with
    | true =>
      rw [c] at q
      obtain ⟨g', h1, h2, h3⟩ := fin y (by rw [es, lsU_s, if_pos c])
      refine ⟨g', h1, h2, ?_⟩
      rw [fg_583_97, nI_m1]
      exact ev_f (nI_pos (by omega)) (ev_b (a := Value.ref 263) rfl (ev_i rfl (ev_cI q (ev_f (by decide) h3))))
    | false =>
      rw [c] at q
      obtain ⟨g', h1, h2, h3⟩ := fin _ (by rw [es, lsU_s, if_neg (show ¬ eqv val nxt (r + 1) y x2 = true by rw [c]; decide)])
      refine ⟨g', h1, h2, ?_⟩
      rw [fg_583_97, nI_m1]
      exact ev_f (nI_pos (by omega)) (ev_b (a := Value.ref 263) rfl (ev_i rfl (ev_cI q (ev_t rfl (ev_b (a := Value.ref 263) rfl (ev_b ((qa_263 (by omega)).trans (congrArg some hg)) h3))))))
set_option maxRecDepth 100000 in
set_option maxHeartbeats 1600000 in
theorem r_583b {V : Nat → Nat → Value} {I : Nat → Nat → Int32} {L : Nat → Nat → Int64} {R : Nat → Nat → Option Nat} {tl : am_H} {N sz r : Nat} {val : Nat → Int32} {nxt : Nat → Nat → Nat} {rc : Value → Int32 → am_H → Option am_O} (hN : 100 < N) (hm : mcR V I sz val nxt) (hs : sz ≤ 6) (hn : ∀ i c, i < sz → c < 4 → nxt i c < sz) (hcl : ∀ x, x < sz → I 262 x = nI (clR val nxt r x)) : ∀ (m x K : Nat) (g : Nat → Int32), x + m = sz → m < K → (∀ j, j < x → g j = nI (clR val nxt (r + 1) j)) → ∃ g', (∀ j, j < sz → g' j = nI (clR val nxt (r + 1) j)) ∧ fg_583_78 N rc K (.ref 174) (nI r) (nI x) (fx V (iup I 263 g) L R ++ tl) = fg_583_140 N rc N (.ref 174) (nI r) 0 (fx V (iup I 263 g') L R ++ tl) := by
  intro m
  induction m with
  | zero =>
    intro x K g hx hK hg
    obtain ⟨K, rfl⟩ : ∃ k, K = k + 1 := ⟨K - 1, by omega⟩
    refine ⟨g, fun j hj => hg j (by omega), ?_⟩
    rw [fg_583_78]
    exact ev_b (rdI hm.1) (ev_t (nI_le (by omega) (by omega)) rfl)
  | succ m ih =>
    intro x K g hx hK hg
    obtain ⟨K, rfl⟩ : ∃ k, K = k + 1 := ⟨K - 1, by omega⟩
    obtain ⟨g1, a1, a2, a3⟩ := r_583j (V := V) (I := I) (L := L) (R := R) (tl := tl) (N := N) (r := r) (x1 := nI r) (rc := rc) (rc2 := fg_583_78 N rc K) hN hm hs hn (show x < sz by omega) hcl x N (upd g x (nI x)) (Nat.le_refl _) (by omega) (by rw [upd_eq, Nat.sub_self]; rfl)
    obtain ⟨g', b1, b2⟩ := ih (x + 1) K g1 (by omega) (by omega) (fun j hj => by
      by_cases e : j = x
      · rw [e]; exact a1
      · rw [a2 j e, upd_ne e]; exact hg j (by omega))
    refine ⟨g', b1, ?_⟩
    rw [fg_583_78]
    refine ev_b (rdI hm.1) (ev_f (nI_ge (by omega) (by omega)) (ev_b (a := Value.ref 263) rfl (ev_b (a := fx V (iup I 263 (upd g x (nI x))) L R ++ tl) ((qs_263 (by omega)).trans (by rw [iup_eq, iup_iup])) ?_)))
    rw [Int32.sub_eq_add_neg]
    exact a3.trans b2
set_option maxRecDepth 100000 in
set_option maxHeartbeats 1600000 in
theorem r_583c {V : Nat → Nat → Value} {I : Nat → Nat → Int32} {L : Nat → Nat → Int64} {R : Nat → Nat → Option Nat} {tl : am_H} {N sz : Nat} {x1 : Int32} {rc : Value → Int32 → am_H → Option am_O} (h18 : V 174 18 = .int (nI sz)) (hs : sz ≤ 6) : ∀ (m x K : Nat) (g : Nat → Int32), x + m = sz → m < K → (∀ j, j < x → g j = I 263 j) → ∃ g', (∀ j, j < sz → g' j = I 263 j) ∧ fg_583_140 N rc K (.ref 174) x1 (nI x) (fx V (iup I 262 g) L R ++ tl) = rc (.ref 174) (x1 + 1) (fx V (iup I 262 g') L R ++ tl) := by
  intro m
  induction m with
  | zero =>
    intro x K g hx hK hg
    obtain ⟨K, rfl⟩ : ∃ k, K = k + 1 := ⟨K - 1, by omega⟩
    refine ⟨g, fun j hj => hg j (by omega), ?_⟩
    rw [fg_583_140]
    exact ev_b (rdI h18) (ev_t (nI_le (by omega) (by omega)) rfl)
  | succ m ih =>
    intro x K g hx hK hg
    obtain ⟨K, rfl⟩ : ∃ k, K = k + 1 := ⟨K - 1, by omega⟩
    obtain ⟨g', b1, b2⟩ := ih (x + 1) K (upd g x (I 263 x)) (by omega) (by omega) (fun j hj => by
      by_cases e : j = x
      · rw [e, upd_eq]
      · rw [upd_ne e]; exact hg j (by omega))
    refine ⟨g', b1, ?_⟩
    rw [fg_583_140]
    refine ev_b (rdI h18) (ev_f (nI_ge (by omega) (by omega)) (ev_b (a := Value.ref 262) rfl (ev_b (a := Value.ref 263) rfl (ev_b (qa_263 (by omega)) (ev_b (a := fx V (iup I 262 (upd g x (I 263 x))) L R ++ tl) ((qs_262 (by omega)).trans (by rw [iup_eq, iup_iup, iup_na (by decide)])) ?_)))))
    rw [nI_1]
    exact b2
set_option maxRecDepth 100000 in
set_option maxHeartbeats 1600000 in
theorem r_583d {V : Nat → Nat → Value} {I : Nat → Nat → Int32} {L : Nat → Nat → Int64} {R : Nat → Nat → Option Nat} {tl : am_H} {N sz : Nat} {val : Nat → Int32} {nxt : Nat → Nat → Nat} (hN : 100 < N) (hm : mcR V I sz val nxt) (hs : sz ≤ 6) (hn : ∀ i c, i < sz → c < 4 → nxt i c < sz) : ∀ (m r K : Nat) (g w : Nat → Int32), r + m = 6 → m < K → (∀ x, x < sz → g x = nI (clR val nxt r x)) → ∃ g' w', (∀ x, x < sz → g' x = nI (clR val nxt 6 x)) ∧ fg_583_70 N K (.ref 174) (nI r) (fx V (iup (iup I 263 w) 262 g) L R ++ tl) = some (.inl (none, fx V (iup (iup I 263 w') 262 g') L R ++ tl)) := by
  intro m
  induction m with
  | zero =>
    intro r K g w hr hK hg
    obtain ⟨K, rfl⟩ : ∃ k, K = k + 1 := ⟨K - 1, by omega⟩
    obtain rfl : r = 6 := by omega
    refine ⟨g, w, hg, ?_⟩
    rw [fg_583_70]
    exact ev_t (by decide) rfl
  | succ m ih =>
    intro r K g w hr hK hg
    obtain ⟨K, rfl⟩ : ∃ k, K = k + 1 := ⟨K - 1, by omega⟩
    have sw : ∀ w g : Nat → Int32, iup (iup I 263 w) 262 g = iup (iup I 262 g) 263 w := fun w g => by
      funext y
      by_cases c : y = 262
      · rw [c, iup_eq, iup_na (by decide), iup_eq]
      · rw [iup_na c]
        by_cases d : y = 263
        · rw [d, iup_eq, iup_eq]
        · rw [iup_na d, iup_na d, iup_na c]
    obtain ⟨w1, a1, a2⟩ := r_583b (V := V) (I := iup I 262 g) (L := L) (R := R) (tl := tl) (N := N) (r := r) (rc := fg_583_70 N K) hN ⟨hm.1, hm.2⟩ hs hn (fun x hx => by rw [iup_eq]; exact hg x hx) sz 0 N w (by omega) (by omega) (fun j hj => by omega)
    obtain ⟨g1, b1, b2⟩ := r_583c (V := V) (I := iup I 263 w1) (L := L) (R := R) (tl := tl) (N := N) (x1 := nI r) (rc := fg_583_70 N K) hm.1 hs sz 0 N g (by omega) (by omega) (fun j hj => by omega)
    rw [nI_1] at b2
    obtain ⟨g', w', c1, c2⟩ := ih (r + 1) K g1 w1 (by omega) (by omega) (fun x hx => by rw [b1 x hx, iup_eq]; exact a1 x hx)
    refine ⟨g', w', c1, ?_⟩
    rw [fg_583_70]
    refine ev_f (nI_ge (b := 6) (by omega) (by decide)) ?_
    rw [sw]
    refine a2.trans ?_
    rw [← sw]
    exact b2.trans c2
theorem r_583 {V : Nat → Nat → Value} {I : Nat → Nat → Int32} {L : Nat → Nat → Int64} {R : Nat → Nat → Option Nat} {tl : am_H} {N sz : Nat} {val : Nat → Int32} {nxt : Nat → Nat → Nat} (hN : 100 < N) (hm : mcR V I sz val nxt) (hs : sz ≤ 6) (hn : ∀ i c, i < sz → c < 4 → nxt i c < sz) : ∃ g w, (∀ x, x < sz → g x = nI (clR val nxt 6 x)) ∧ fm_583 N (.ref 174) (fx V I L R ++ tl) = some (.inl (none, fx V (iup (iup I 263 w) 262 g) L R ++ tl)) := by
  obtain ⟨g1, a1, a2⟩ := r_583a (V := V) (I := I) (L := L) (R := R) (tl := tl) (N := N) hN hm hs sz 0 N (I 262) (by omega) (by omega) (fun j hj => by omega)
  rw [iup_self] at a2
  obtain ⟨g, w, b1, b2⟩ := r_583d (V := V) (I := I) (L := L) (R := R) (tl := tl) (N := N) hN hm hs hn 6 0 N g1 (I 263) (by omega) (by omega) a1
  rw [iup_self] at b2
  exact ⟨g, w, b1, a2.trans b2⟩
