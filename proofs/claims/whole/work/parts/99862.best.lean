/-! ===== an island looks at its members: all of them ===== -/
/-- what an island knows of member x -/
def mbK (i : Nat) (I0 : Nat → Nat → Int32) (m : Nat) (F : Nat → Int32) (Ob : Nat → Nat → Int32 × Nat × Int32) (bm : Nat → Nat) (I : Nat → Nat → Int32) (L : Nat → Nat → Int64) (x : Nat) : Prop := L (44 + 9 * i) x = lN (ctN I0 0 (Ob (bm x)) m) ∧ I (45 + 9 * i) x = nI (szB I0 (bm x)) ∧ ∀ r, r < snN I0 m → I (46 + 9 * i) (24 * x + r) = nI (enR I0 F (Ob (bm x)) r)
def frO (i : Nat) (V W : Nat → Nat → Value) (I J : Nat → Nat → Int32) (L M : Nat → Nat → Int64) : Prop := (∀ a j, a ≠ 16 → ¬ (a = 17 ∧ j = 7) → W a j = V a j) ∧ W 16 0 = V 16 0 ∧ (∀ y, y ≠ 18 → y ≠ 25 → y ≠ 26 → y ≠ 45 + 9 * i → y ≠ 46 + 9 * i → J y = I y) ∧ (∀ y, y ≠ 44 + 9 * i → M y = L y) ∧ (wt V → wt W)
set_option maxRecDepth 100000 in
set_option maxHeartbeats 1600000 in
theorem c_218o {R : Nat → Nat → Option Nat} {tl : am_H} {I0 : Nat → Nat → Int32} {N i c m n lm : Nat} {F : Nat → Int32} {Ob : Nat → Nat → Int32 × Nat × Int32} {bm : Nat → Nat} (hN : 100 < N) (hi : i < 4) (hc16 : c ≤ 16) (hn : n ≤ 600) (hlo : 10 ≤ lm) (hhi : lm ≤ 2000) (hB : ∀ b, b < n → bK R tl I0 b) (hO : oB I0 lm n m Ob) (hF : scK I0 m F) (hm : ∀ x, x < c → bm x < n) : ∀ (t p K : Nat) (V : Nat → Nat → Value) (I : Nat → Nat → Int32) (L : Nat → Nat → Int64), p + t = c → t < K → wt V → csK V I I0 m → V (40 + 9 * i) 0 = .int (nI c) → V (40 + 9 * i) 3 = .int (nI (snN I0 m)) → V 16 0 = .int (nI lm) → I (47 + 9 * i) = F → (∀ x, x < c → I (41 + 9 * i) x = nI (bm x)) → (∀ x, x < p → mbK i I0 m F Ob bm I L x) → ∃ W J M, fg_218_14 N K (.ref (40 + 9 * i)) (.ref 1) (.ref 14) (nI p) (fx V I L R ++ tl) = some (.inl (none, fx W J M R ++ tl)) ∧ (∀ x, x < c → mbK i I0 m F Ob bm J M x) ∧ frO i V W I J L M := by
  intro t
  induction t with
  | zero =>
    intro p K V I L hp hK hw hc h0 h3 hl h47 h41 hx
    obtain ⟨K, rfl⟩ : ∃ k, K = k + 1 := ⟨K - 1, by omega⟩
    obtain rfl : p = c := by omega
    refine ⟨V, I, L, ?_, hx, fun _ _ _ _ => rfl, rfl, fun _ _ _ _ _ _ => rfl, fun _ _ => rfl, id⟩
    rw [fg_218_14]
    exact ev_b (iv_0 hi h0) (ev_t (nI_le (Nat.le_refl _) (by omega)) rfl)
  | succ t ih =>
    intro p K V I L hp hK hw hc h0 h3 hl h47 h41 hx
    obtain ⟨K, rfl⟩ : ∃ k, K = k + 1 := ⟨K - 1, by omega⟩
    have hbn := hm p (by omega)
    obtain ⟨b1, b2, b3, b4, a, it, f, b5, b6, b7⟩ := hB (bm p) hbn
    have hsz := b4.2.1
    obtain ⟨W1, J1, e1, g1, f1⟩ := c_115 (V := V) (I := I) (L := L) (R := R) (tl := tl) hN (b6 V I) (tl_ne a it) b7 b4 (Nat.le_refl _) (sz_1000 hsz) hl hlo hhi
    have k1 := frL_k f1
    obtain ⟨_, _, _, _, _, _, p1, _⟩ := b6 W1 J1 W1 J1 L R (fun _ => rfl) rfl
    have jn : ∀ y, y ≠ 18 → J1 y = I y := f1.2.1
    have vn : ∀ a j, a ≠ 16 → a ≠ 17 → W1 a j = V a j := fun a j h1 h2 => f1.1 a j (fun e => h1 e.1) (fun e => h2 e.1)
    obtain ⟨W2, J2, M2, e2, r1, r2, r3, r4, d1, d2, d3, d4, d5, d6⟩ := c_218i (L := fun _ _ => 0) (R := R) (rc := fg_218_14 N K) hN hi (show p < 16 by omega) (hO (bm p) hbn) hF (snN I0 m) 0 N W1 (iup J1 (45 + 9 * i) (upd (J1 (45 + 9 * i)) p (nI (szB I0 (bm p))))) (lup L (44 + 9 * i) (vp_updL (L (44 + 9 * i)) p 0)) (by omega) (by have := snN_le (I0 := I0) m; have := hc.2.2.1; omega) (k1.2.2 hw) (ldC_i (by omega) (by omega) g1) (csK_i (by omega) (by omega) (csK_c k1 hc)) ((vn _ _ (by omega) (by omega)).trans h3) (by rw [iup_na (by omega), jn _ (by omega)]; exact h47) (by rw [lup_eq, updL_eq]; rfl) (fun r hr => absurd hr (by omega))
    have m24 := hc.2.2.1
    rw [pc_end m24 hF] at r1
    have kk : keep W1 W2 (iup J1 (45 + 9 * i) (upd (J1 (45 + 9 * i)) p (nI (szB I0 (bm p))))) J2 := ⟨fun b j hj => by
      by_cases cc : b = 16
      · subst cc
        have e : j = 0 := vr16 j hj
        subst e
        exact d2
      · exact d1 b j cc, fun y hy => d4 y (fun e => by subst e; revert hy; decide) (fun e => by subst e; revert hy; decide) (fun e => by
        rcases (by omega : i = 0 ∨ i = 1 ∨ i = 2 ∨ i = 3) with rfl | rfl | rfl | rfl <;> (subst e; revert hy; decide)), d6⟩
    obtain ⟨W, J, M, e3, x1, x2, x3, x4, x5, x6⟩ := ih (p + 1) K W2 J2 M2 (by omega) (by omega) (d6 (k1.2.2 hw)) (csK_c kk (csK_i (by omega) (by omega) (csK_c k1 hc))) ((d1 _ _ (by omega)).trans ((vn _ _ (by omega) (by omega)).trans h0)) ((d1 _ _ (by omega)).trans ((vn _ _ (by omega) (by omega)).trans h3)) (d2.trans ((f1.1 16 0 (by decide) (by decide)).trans hl)) (by rw [d4 _ (by omega) (by omega) (by omega), iup_na (by omega), jn _ (by omega)]; exact h47) (fun x hx => by rw [d4 _ (by omega) (by omega) (by omega), iup_na (by omega), jn _ (by omega)]; exact h41 x hx) (fun x hx' => by
      by_cases cx : x = p
      · subst cx
        refine ⟨r1, ?_, r2⟩
        rw [d4 _ (by omega) (by omega) (by omega), iup_eq, upd_eq]
      · obtain ⟨y1, y2, y3⟩ := hx x (by omega)
        refine ⟨?_, ?_, fun r hr => ?_⟩
        · rw [r3 x cx, lup_eq, updL_ne cx]; exact y1
        · rw [d4 _ (by omega) (by omega) (by omega), iup_eq, upd_ne cx, jn _ (by omega)]; exact y2
        · have := snN_le (I0 := I0) m
          rw [r4 _ (by omega), iup_na (by omega), jn _ (by omega)]; exact y3 r hr)
    refine ⟨W, J, M, ?_, x1, fun b j h1 h2 => ?_, x3.trans (d2.trans (f1.1 16 0 (by decide) (by decide))), fun y y1 y2 y3 y4 y5 => ?_, fun y hy => ?_, fun hw => x6 (d6 (k1.2.2 hw))⟩
    · rw [fg_218_14]
      refine ev_b (iv_0 hi h0) (ev_f (nI_ge (by omega) (by omega)) (ev_b (ir_1 hi) (ev_b (a := nI (bm p)) ((ia_41 hi (by omega)).trans (by rw [h41 p (by omega)])) (ev_f (nI_pos (by omega)) (ev_b (a := nI 600) rfl (ev_f (nI_ge (by omega) (by omega)) (ev_b (a := Value.ref (269 + a)) ((ev_A (f := R 1) (t := 4) (n := 600) rfl rfl (am_inb_n (by omega) (by omega))).trans (by rw [nI_clamp (by omega), b5]; rfl)) ?_)))))))
      unfold fg_218_50
      refine ev_b (a := false) rfl (ev_f (by decide) (ev_b (a := Value.ref 16) rfl (ev_i rfl (ev_cV e1 (ev_b (ir_6 hi) (ev_b (ev_gI p1 rfl rfl) (ev_b (ij_45 hi (by omega)) (ev_b (ir_5 hi) (ev_b (ij_44 hi (by omega)) ?_)))))))))
      unfold fg_218_84
      exact e2.trans e3
    · rw [x2 b j h1 h2, d1 b j h1]
      exact f1.1 b j (fun e => h1 e.1) h2
    · rw [x4 y y1 y2 y3 y4 y5, d4 y y2 y3 y5, iup_na y4]
      exact jn y y1
    · rw [x5 y hy, d5 y hy, lup_na hy]
/-- what looking may change -/
def frK (i : Nat) (V W : Nat → Nat → Value) (I J : Nat → Nat → Int32) (L M : Nat → Nat → Int64) : Prop := (∀ a j, a ≠ 16 → ¬ (a = 17 ∧ j = 7) → ¬ (a = 40 + 9 * i ∧ j = 3) → W a j = V a j) ∧ W 16 0 = V 16 0 ∧ (∀ y, y ≠ 18 → y ≠ 25 → y ≠ 26 → y ≠ 45 + 9 * i → y ≠ 46 + 9 * i → y ≠ 47 + 9 * i → J y = I y) ∧ (∀ y, y ≠ 44 + 9 * i → M y = L y) ∧ (wt V → wt W)
/-- nothing that counts has changed, of the longs neither -/
def keepL (V W : Nat → Nat → Value) (I J : Nat → Nat → Int32) (L M : Nat → Nat → Int64) : Prop := keep V W I J ∧ ∀ y, y ∈ lRel → M y = L y
theorem keepL_k {V W : Nat → Nat → Value} {I J : Nat → Nat → Int32} {L : Nat → Nat → Int64} (h : keep V W I J) : keepL V W I J L L := ⟨h, fun _ _ => rfl⟩
theorem keepL_t {V W X : Nat → Nat → Value} {I J K : Nat → Nat → Int32} {L M N : Nat → Nat → Int64} (h1 : keepL V W I J L M) (h2 : keepL W X J K M N) : keepL V X I K L N := ⟨keep_t h1.1 h2.1, fun y hy => (h2.2 y hy).trans (h1.2 y hy)⟩
theorem rel_kl {V : Nat → Nat → Value} {I : Nat → Nat → Int32} {L : Nat → Nat → Int64} {R : Nat → Nat → Option Nat} {tl : am_H} {W : Nat → Nat → Value} {J : Nat → Nat → Int32} {M : Nat → Nat → Int64} {n p : Nat} (k : keepL V W I J L M) (h : rel V I L R tl n p) : rel W J M R tl n p := rel_c k.1.1 k.1.2.1 k.2 (k.1.2.2 (rel_w h)) h
theorem frK_k {i : Nat} {V W : Nat → Nat → Value} {I J : Nat → Nat → Int32} {L M : Nat → Nat → Int64} (hi : i < 4) (h : frK i V W I J L M) : keepL V W I J L M := by
  refine ⟨⟨fun a j hj => ?_, fun y hy => h.2.2.1 y ?_ ?_ ?_ ?_ ?_ ?_, h.2.2.2.2⟩, fun y hy => h.2.2.2.1 y ?_⟩
  · by_cases c : a = 16
    · subst c
      have e : j = 0 := vr16 j hj
      subst e
      exact h.2.1
    · refine h.1 a j c (fun e => ?_) (fun e => ?_)
      · obtain ⟨e1, e2⟩ := e
        subst e1
        exact vr17 j hj
      · obtain ⟨e1, e2⟩ := e
        subst e2
        rcases (by omega : i = 0 ∨ i = 1 ∨ i = 2 ∨ i = 3) with rfl | rfl | rfl | rfl <;> (subst e1; revert hj; decide)
  · intro e; subst e; revert hy; decide
  · intro e; subst e; revert hy; decide
  · intro e; subst e; revert hy; decide
  · intro e
    rcases (by omega : i = 0 ∨ i = 1 ∨ i = 2 ∨ i = 3) with rfl | rfl | rfl | rfl <;> (subst e; revert hy; decide)
  · intro e
    rcases (by omega : i = 0 ∨ i = 1 ∨ i = 2 ∨ i = 3) with rfl | rfl | rfl | rfl <;> (subst e; revert hy; decide)
  · intro e
    rcases (by omega : i = 0 ∨ i = 1 ∨ i = 2 ∨ i = 3) with rfl | rfl | rfl | rfl <;> (subst e; revert hy; decide)
  · intro e
    rcases (by omega : i = 0 ∨ i = 1 ∨ i = 2 ∨ i = 3) with rfl | rfl | rfl | rfl <;> (subst e; revert hy; decide)
set_option maxRecDepth 100000 in
set_option maxHeartbeats 1600000 in
theorem c_218 {V : Nat → Nat → Value} {I : Nat → Nat → Int32} {L : Nat → Nat → Int64} {R : Nat → Nat → Option Nat} {tl : am_H} {I0 : Nat → Nat → Int32} {N i c m n lm : Nat} {Ob : Nat → Nat → Int32 × Nat × Int32} {bm : Nat → Nat} (hN : 100 < N) (hi : i < 4) (hc16 : c ≤ 16) (hn : n ≤ 600) (hlo : 10 ≤ lm) (hhi : lm ≤ 2000) (hB : ∀ b, b < n → bK R tl I0 b) (hO : oB I0 lm n m Ob) (hm : ∀ x, x < c → bm x < n) (hw : wt V) (hc : csK V I I0 m) (h0 : V (40 + 9 * i) 0 = .int (nI c)) (hl : V 16 0 = .int (nI lm)) (h41 : ∀ x, x < c → I (41 + 9 * i) x = nI (bm x)) : ∃ W J M F, fm_218 N (.ref (40 + 9 * i)) (.ref 1) (.ref 14) (fx V I L R ++ tl) = some (.inl (none, fx W J M R ++ tl)) ∧ scK I0 m F ∧ (∀ x, x < c → mbK i I0 m F Ob bm J M x) ∧ J (47 + 9 * i) = F ∧ W (40 + 9 * i) 3 = .int (nI (snN I0 m)) ∧ frK i V W I J L M := by
  obtain ⟨F, e1, hF⟩ := c_219 (V := V) (I := I) (L := L) (R := R) (tl := tl) (N := N) (i := i) hN hi hc
  obtain ⟨W, J, M, e2, x1, x2, x3, x4, x5, x6⟩ := c_218o (R := R) (tl := tl) hN hi hc16 hn hlo hhi hB hO hF hm c 0 N (vup V (40 + 9 * i) 3 (.int (nI (snN I0 m)))) (iup I (47 + 9 * i) F) L (by omega) (by omega) (wt_is hi hw) ⟨(vup_na (by omega)).trans hc.1, (vup_na (by omega)).trans hc.2.1, hc.2.2.1, (iup_na (by omega)).trans hc.2.2.2.1, fun z h1 h2 => (iup_na (by omega)).trans (hc.2.2.2.2.1 z h1 h2), hc.2.2.2.2.2⟩ ((vup_nj (by omega)).trans h0) vup_eq ((vup_na (by omega)).trans hl) iup_eq (fun x hx => by rw [iup_na (by omega)]; exact h41 x hx) (fun x hx => absurd hx (by omega))
  refine ⟨W, J, M, F, ?_, hF, x1, ?_, ?_, fun a j h1 h2 h3 => ?_, x3.trans (vup_na (by omega)), fun y y1 y2 y3 y4 y5 y6 => ?_, x5, fun hw => x6 (wt_is hi hw)⟩
  · unfold fm_218 fg_218_0
    exact ev_b (ir_8 hi) (ev_i rfl (ev_cI e1 (ev_b (ip_3 hi) e2)))
  · rw [x4 _ (by omega) (by omega) (by omega) (by omega) (by omega), iup_eq]
  · rw [x2 _ _ (by omega) (fun e => by omega), vup_eq]
  · rw [x2 a j h1 h2]
    by_cases ca : a = 40 + 9 * i
    · subst ca
      exact vup_nj (fun e => h3 ⟨rfl, e⟩)
    · exact vup_na ca
  · rw [x4 y y1 y2 y3 y4 y5, iup_na y6]
/-! ===== which member is better ===== -/
def btr (cm zm bm : Nat → Nat) (p q : Nat) : Bool := if cm p = cm q then (if zm p = zm q then (if bm p = bm q then decide (p < q) else decide (bm p < bm q)) else decide (zm p < zm q)) else decide (cm p < cm q)
theorem lt01 {a b : Nat} (ha : a < 2 ^ 31) (hb : b < 2 ^ 31) : (if nI b ≤ nI a then (0 : Int32) else 1) = nI (decide (a < b)).toNat := by
  by_cases c : b ≤ a
  · rw [if_pos (nI_le c ha), decide_eq_false (by omega)]; rfl
  · rw [if_neg (nI_ge (by omega) hb), decide_eq_true (by omega)]; rfl
set_option maxRecDepth 100000 in
set_option maxHeartbeats 1600000 in
theorem c_221 {V : Nat → Nat → Value} {I : Nat → Nat → Int32} {L : Nat → Nat → Int64} {R : Nat → Nat → Option Nat} {tl : am_H} {i c p q : Nat} {cm zm bm : Nat → Nat} (hi : i < 4) (hc : c ≤ 16) (hp : p < c) (hq : q < c) (h44 : ∀ x, x < c → L (44 + 9 * i) x = lN (cm x)) (h45 : ∀ x, x < c → I (45 + 9 * i) x = nI (zm x)) (h41 : ∀ x, x < c → I (41 + 9 * i) x = nI (bm x)) (hb : ∀ x, x < c → cm x < 2 ^ 60 ∧ zm x < 2 ^ 31 ∧ bm x < 2 ^ 31) : fm_221 (.ref (40 + 9 * i)) (nI p) (nI q) (fx V I L R ++ tl) = some (.inl (some (.int (nI (btr cm zm bm p q).toNat)), (fx V I L R ++ tl))) := by
  obtain ⟨p1, p2, p3⟩ := hb p hp
  obtain ⟨q1, q2, q3⟩ := hb q hq
  have cp : am_pAL (.ref (44 + 9 * i)) (nI p) (fx V I L R ++ tl) = some (lN (cm p)) := (ia_44 hi (by omega)).trans (by rw [h44 p hp])
  have cq : am_pAL (.ref (44 + 9 * i)) (nI q) (fx V I L R ++ tl) = some (lN (cm q)) := (ia_44 hi (by omega)).trans (by rw [h44 q hq])
  have zp : am_pA 0 (.ref (45 + 9 * i)) (nI p) (fx V I L R ++ tl) = some (nI (zm p)) := (ia_45 hi (by omega)).trans (by rw [h45 p hp])
  have zq : am_pA 0 (.ref (45 + 9 * i)) (nI q) (fx V I L R ++ tl) = some (nI (zm q)) := (ia_45 hi (by omega)).trans (by rw [h45 q hq])
  have bp : am_pA 0 (.ref (41 + 9 * i)) (nI p) (fx V I L R ++ tl) = some (nI (bm p)) := (ia_41 hi (by omega)).trans (by rw [h41 p hp])
  have bq : am_pA 0 (.ref (41 + 9 * i)) (nI q) (fx V I L R ++ tl) = some (nI (bm q)) := (ia_41 hi (by omega)).trans (by rw [h41 q hq])
  obtain ⟨z1, z2⟩ := cmpL2 p1 q1
  have fin : ∀ b : Bool, (if am_rfit (some FieldType.boolean) (nI b.toNat) then (some (.inl (some (.int (nI b.toNat)), (fx V I L R ++ tl))) : Option am_O) else none) = some (.inl (some (.int (nI b.toNat)), (fx V I L R ++ tl))) := fun b => by cases b <;> rfl
  unfold fm_221 fg_221_0
  refine ev_b (ir_5 hi) (ev_b cp (ev_b (ir_5 hi) (ev_b cq ?_)))
  unfold btr
  by_cases c1 : cm p = cm q
  · rw [if_pos c1]
    refine ev_t (z1.mpr c1.symm) (ev_b (ir_6 hi) (ev_b zp (ev_b (ir_6 hi) (ev_b zq ?_))))
    by_cases c2 : zm p = zm q
    · rw [if_pos c2]
      refine ev_t (by rw [c2]) (ev_b (ir_1 hi) (ev_b bp (ev_b (ir_1 hi) (ev_b bq ?_))))
      by_cases c3 : bm p = bm q
      · rw [if_pos c3]
        refine ev_t (by rw [c3]) ?_
        have l := lt01 (a := p) (b := q) (by omega) (by omega)
        by_cases c4 : nI q ≤ nI p
        · rw [if_pos c4] at l
          refine ev_t c4 ?_
          unfold fg_221_122
          rw [l]
          exact fin _
        · rw [if_neg c4] at l
          refine ev_f c4 ?_
          unfold fg_221_122
          rw [l]
          exact fin _
      · rw [if_neg c3]
        refine ev_f (fun e => c3 ((nI_eq p3 q3).mp e)) (ev_b (ir_1 hi) (ev_b bp (ev_b (ir_1 hi) (ev_b bq ?_))))
        have l := lt01 p3 q3
        by_cases c4 : nI (bm q) ≤ nI (bm p)
        · rw [if_pos c4] at l
          refine ev_t c4 ?_
          unfold fg_221_122
          rw [l]
          exact fin _
        · rw [if_neg c4] at l
          refine ev_f c4 ?_
          unfold fg_221_122
          rw [l]
          exact fin _
    · rw [if_neg c2]
      refine ev_f (fun e => c2 ((nI_eq p2 q2).mp e)) (ev_b (ir_6 hi) (ev_b zp (ev_b (ir_6 hi) (ev_b zq ?_))))
      have l := lt01 p2 q2
      by_cases c4 : nI (zm q) ≤ nI (zm p)
      · rw [if_pos c4] at l
        refine ev_t c4 ?_
        unfold fg_221_73
        rw [l]
        exact fin _
      · rw [if_neg c4] at l
        refine ev_f c4 ?_
        unfold fg_221_73
        rw [l]
        exact fin _
  · rw [if_neg c1]
    refine ev_f (fun e => c1 (z1.mp e).symm) (ev_b (ir_5 hi) (ev_b cp (ev_b (ir_5 hi) (ev_b cq ?_))))
    by_cases c4 : cm q ≤ cm p
    · refine ev_t (z2.mpr c4) ?_
      unfold fg_221_37
      rw [decide_eq_false (by omega)]
      exact fin false
    · refine ev_f (fun e => c4 (z2.mp e)) ?_
      unfold fg_221_37
      rw [decide_eq_true (by omega)]
      exact fin true
/-- the best from p on -/
def bsF (bt : Nat → Nat → Bool) : Nat → Nat → Nat → Nat
  | 0, _, b => b
  | m + 1, p, b => bsF bt m (p + 1) (if bt p b = true then p else b)
theorem bsF_lt {bt : Nat → Nat → Bool} {c : Nat} : ∀ (m p b : Nat), p + m = c → b < c → bsF bt m p b < c := by
  intro m
  induction m with
  | zero => intro p b _ hb; exact hb
  | succ m ih =>
    intro p b hp hb
    rw [bsF]
    by_cases c1 : bt p b = true
    · rw [if_pos c1]; exact ih _ _ (by omega) (by omega)
    · rw [if_neg c1]; exact ih _ _ (by omega) hb
set_option maxRecDepth 100000 in
set_option maxHeartbeats 1600000 in
theorem c_230l {V : Nat → Nat → Value} {I : Nat → Nat → Int32} {L : Nat → Nat → Int64} {R : Nat → Nat → Option Nat} {tl : am_H} {N i c : Nat} {bt : Nat → Nat → Bool} (hi : i < 4) (hc : c ≤ 16) (h0 : V (40 + 9 * i) 0 = .int (nI c)) (h221 : ∀ p q, p < c → q < c → fm_221 (.ref (40 + 9 * i)) (nI p) (nI q) (fx V I L R ++ tl) = some (.inl (some (.int (nI (bt p q).toNat)), (fx V I L R ++ tl)))) : ∀ (m p b K : Nat), p + m = c → b < c → m < K → fg_230_4 N K (.ref (40 + 9 * i)) (nI b) (nI p) (fx V I L R ++ tl) = some (.inl (some (.int (nI (bsF bt m p b))), (fx V I L R ++ tl))) := by
  intro m
  induction m with
  | zero =>
    intro p b K hp hb hK
    obtain ⟨K, rfl⟩ : ∃ k, K = k + 1 := ⟨K - 1, by omega⟩
    rw [fg_230_4]
    exact ev_b (iv_0 hi h0) (ev_t (nI_le (by omega) (by omega)) rfl)
  | succ m ih =>
    intro p b K hp hb hK
    obtain ⟨K, rfl⟩ : ∃ k, K = k + 1 := ⟨K - 1, by omega⟩
    rw [fg_230_4, bsF]
    have e := h221 p b (by omega) hb
    cases c1 : bt p b with
    | true =>
      rw [c1] at e
      refine ev_b (iv_0 hi h0) (ev_f (nI_ge (by omega) (by omega)) (ev_i (io_1 hi) (ev_cI e (ev_f (by decide) ?_))))
      unfold fg_230_26
      rw [nI_1, if_pos rfl]
      exact ih (p + 1) p K (by omega) (by omega) (by omega)
    | false =>
      rw [c1] at e
      refine ev_b (iv_0 hi h0) (ev_f (nI_ge (by omega) (by omega)) (ev_i (io_1 hi) (ev_cI e (ev_t rfl ?_))))
      unfold fg_230_26
      rw [nI_1, if_neg (by decide)]
      exact ih (p + 1) b K (by omega) hb (by omega)
set_option maxRecDepth 100000 in
set_option maxHeartbeats 1600000 in
theorem r_517l {V : Nat → Nat → Value} {I : Nat → Nat → Int32} {L : Nat → Nat → Int64} {R : Nat → Nat → Option Nat} {tl : am_H} {N c : Nat} {bt : Nat → Nat → Bool} (hc : c ≤ 16) (h0 : V 174 105 = .int (nI c)) (h508 : ∀ p q, p < c → q < c → fm_508 (.ref 174) (nI p) (nI q) (fx V I L R ++ tl) = some (.inl (some (.int (nI (bt p q).toNat)), (fx V I L R ++ tl)))) : ∀ (m p b K : Nat), p + m = c → b < c → m < K → fg_517_4 N K (.ref 174) (nI b) (nI p) (fx V I L R ++ tl) = some (.inl (some (.int (nI (bsF bt m p b))), (fx V I L R ++ tl))) := by
  intro m
  induction m with
  | zero =>
    intro p b K hp hb hK
    obtain ⟨K, rfl⟩ : ∃ k, K = k + 1 := ⟨K - 1, by omega⟩
    rw [fg_517_4]
    exact ev_b (rdI h0) (ev_t (nI_le (by omega) (by omega)) rfl)
  | succ m ih =>
    intro p b K hp hb hK
    obtain ⟨K, rfl⟩ : ∃ k, K = k + 1 := ⟨K - 1, by omega⟩
    rw [fg_517_4, bsF]
    have e := h508 p b (by omega) hb
    cases c1 : bt p b with
    | true =>
      rw [c1] at e
      refine ev_b (rdI h0) (ev_f (nI_ge (by omega) (by omega)) (ev_i rfl (ev_cI e (ev_f (by decide) ?_))))
      unfold fg_517_26
      rw [nI_1, if_pos rfl]
      exact ih (p + 1) p K (by omega) (by omega) (by omega)
    | false =>
      rw [c1] at e
      refine ev_b (rdI h0) (ev_f (nI_ge (by omega) (by omega)) (ev_i rfl (ev_cI e (ev_t rfl ?_))))
      unfold fg_517_26
      rw [nI_1, if_neg (by decide)]
      exact ih (p + 1) b K (by omega) hb (by omega)
