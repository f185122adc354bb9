/-! ===== births by their numbers ===== -/
def kdB (I0 : Nat → Nat → Int32) (b : Nat) : Nat := clN (I0 175) b
def lnB (I0 : Nat → Nat → Int32) (b : Nat) : Nat := clN (I0 177) b
def szB (I0 : Nat → Nat → Int32) (b : Nat) : Nat := clN (I0 176) b
def sB (I0 : Nat → Nat → Int32) (b : Nat) : Nat → Int32 := fun k => I0 184 (60 * b + k)
def vB (I0 : Nat → Nat → Int32) (b : Nat) : Nat → Int32 := fun k => I0 185 (60 * b + k)
/-- a birth that both sides have -/
def bK (R : Nat → Nat → Option Nat) (tl : am_H) (I0 : Nat → Nat → Int32) (b : Nat) : Prop := I0 175 b = nI (kdB I0 b) ∧ I0 176 b = nI (szB I0 b) ∧ I0 177 b = nI (lnB I0 b) ∧ sound (kdB I0 b) (lnB I0 b) (szB I0 b) (sB I0 b) (vB I0 b) ∧ ∃ (a it : Nat) (f : Nat → Int32), R 1 b = some (269 + a) ∧ (∀ V I, prA V I tl (269 + a) (269 + it) (kdB I0 b) (lnB I0 b) (szB I0 b) (szB I0 b * wdN (kdB I0 b)) f) ∧ itm (kdB I0 b) (sB I0 b) (vB I0 b) (szB I0 b) f
theorem bK_r {V : Nat → Nat → Value} {I : Nat → Nat → Int32} {L : Nat → Nat → Int64} {R : Nat → Nat → Option Nat} {tl : am_H} {n p b : Nat} (hr : rel V I L R tl n p) (hb : b < n) : bK R tl I b := by
  obtain ⟨kd, ln, sz, a, it, f, q1, q2, q3, q4, q5, q6, q7⟩ := bOk_pg (V := V) (I := I) (L := L) (R := R) (tl := tl) (hr.2.1 b hb)
  have k1 := q7.1
  have k2 := q7.2.1
  have k3 : ln ≤ 8 := by
    by_cases c : kd = 3
    · exact (q7.2.2.2.2.2.2 c).2.1
    · rw [(q7.2.2.1 c).2]; omega
  have e1 : kdB I b = kd := clN_at q1 (by omega)
  have e2 : szB I b = sz := clN_at q2 (by omega)
  have e3 : lnB I b = ln := clN_at q3 (by omega)
  unfold bK
  rw [e1, e2, e3]
  exact ⟨q1, q2, q3, q7, a, it, f, q4, fun V' I' => fun W J L' R' _ _ => by
    obtain ⟨x1, x2, x3, x4, x5, x6, p1, p2⟩ := q5
    rw [tl_at] at p1 p2
    exact ⟨x1, x2, x3, x4, x5, x6, tl_at.trans p1, tl_at.trans p2⟩, q6⟩
/-- what all births come to on all cases -/
def oB (I0 : Nat → Nat → Int32) (lm n m : Nat) (Ob : Nat → Nat → Int32 × Nat × Int32) : Prop := ∀ b, b < n → ∀ k, k < m → cO (kdB I0 b) (lnB I0 b) (szB I0 b) (sB I0 b) (vB I0 b) lm I0 k (Ob b k)
theorem oB_ex {R : Nat → Nat → Option Nat} {tl : am_H} {I0 : Nat → Nat → Int32} {n m : Nat} (hb : ∀ b, b < n → bK R tl I0 b) (hc : ∀ k, k < m → cOk I0 k) (lm : Nat) : ∃ Ob, oB I0 lm n m Ob := by
  have h : ∀ b, ∃ Oc : Nat → Int32 × Nat × Int32, b < n → ∀ k, k < m → cO (kdB I0 b) (lnB I0 b) (szB I0 b) (sB I0 b) (vB I0 b) lm I0 k (Oc k) := fun b => by
    by_cases c : b < n
    · obtain ⟨Oc, hO⟩ := cO_all (hb b c).2.2.2.1 hc lm
      exact ⟨Oc, fun _ => hO⟩
    · exact ⟨fun _ => (0, 0, 0), fun h => absurd h c⟩
  exact ⟨fun b => Classical.choose (h b), fun b hb => Classical.choose_spec (h b) hb⟩
theorem ldC_i {V : Nat → Nat → Value} {I : Nat → Nat → Int32} {tl : am_H} {a it kd ln sz m0 lm y : Nat} {fi s v F : Nat → Int32} (h18 : y ≠ 18) (hit : y ≠ it) (h : ldC V I tl a it kd ln sz m0 fi s v lm) : ldC V (iup I y F) tl a it kd ln sz m0 fi s v lm := by
  obtain ⟨hp, ne, hi, hs, hm0, hm1, h4, h0, hlo, hhi, hT⟩ := h
  refine ⟨prA_c (fun _ => rfl) (iup_na (fun e => hit e.symm)) hp, ne, hi, hs, hm0, hm1, h4, h0, hlo, hhi, fun e => ?_⟩
  rw [iup_na (fun e => h18 e.symm)]
  exact hT e
theorem csK_i {V : Nat → Nat → Value} {I I0 : Nat → Nat → Int32} {m y : Nat} {F : Nat → Int32} (h15 : y ≠ 15) (h : y < 197 ∨ 204 < y) (hc : csK V I I0 m) : csK V (iup I y F) I0 m := ⟨hc.1, hc.2.1, hc.2.2.1, (iup_na (fun e => h15 e.symm)).trans hc.2.2.2.1, fun z h1 h2 => (iup_na (by omega)).trans (hc.2.2.2.2.1 z h1 h2), hc.2.2.2.2.2⟩
/-! ===== an island looks at its members ===== -/
def enR (I0 : Nat → Nat → Int32) (F : Nat → Int32) (Oc : Nat → Int32 × Nat × Int32) (q : Nat) : Nat := erN (Oc (clN F q)) (I0 200 (clN F q))
def ptC (I0 : Nat → Nat → Int32) (F : Nat → Int32) (Oc : Nat → Int32 × Nat × Int32) (q : Nat) : Nat := suN (fun r => wgN I0 (clN F r) * erN (Oc (clN F r)) (I0 200 (clN F r))) q
theorem pc_end {I0 : Nat → Nat → Int32} {F : Nat → Int32} {Oc : Nat → Int32 × Nat × Int32} {m : Nat} (hm : m ≤ 24) (h : scK I0 m F) : ptC I0 F Oc (snN I0 m) = ctN I0 0 Oc m := sum_seen (g := fun j => wgN I0 j * erN (Oc j) (I0 200 j)) m hm h
def frI (i : Nat) (V W : Nat → Nat → Value) (I J : Nat → Nat → Int32) (L M : Nat → Nat → Int64) : Prop := (∀ a j, a ≠ 16 → W a j = V a j) ∧ W 16 0 = V 16 0 ∧ W 16 4 = V 16 4 ∧ (∀ y, y ≠ 25 → y ≠ 26 → y ≠ 46 + 9 * i → J y = I y) ∧ (∀ y, y ≠ 44 + 9 * i → M y = L y) ∧ (wt V → wt W)
set_option maxRecDepth 100000 in
set_option maxHeartbeats 1600000 in
theorem c_218i {L : Nat → Nat → Int64} {R : Nat → Nat → Option Nat} {tl : am_H} {I0 : Nat → Nat → Int32} {N i p m a it kd ln sz m0 lm : Nat} {fi s v F : Nat → Int32} {Oc : Nat → Int32 × Nat × Int32} {rc : Value → Value → Value → Int32 → am_H → Option am_O} (hN : 100 < N) (hi : i < 4) (hp : p < 16) (hO : ∀ k, k < m → cO kd ln sz s v lm I0 k (Oc k)) (hF : scK I0 m F) : ∀ (t q K : Nat) (V : Nat → Nat → Value) (I : Nat → Nat → Int32) (L : Nat → Nat → Int64), q + t = snN I0 m → t < K → wt V → ldC V I tl (269 + a) (269 + it) kd ln sz m0 fi s v lm → csK V I I0 m → V (40 + 9 * i) 3 = .int (nI (snN I0 m)) → I (47 + 9 * i) = F → L (44 + 9 * i) p = lN (ptC I0 F Oc q) → (∀ r, r < q → I (46 + 9 * i) (24 * p + r) = nI (enR I0 F Oc r)) → ∃ W J M, fg_218_87 N rc K (.ref (40 + 9 * i)) (.ref 1) (.ref 14) (nI p) (.ref (269 + a)) (nI q) (fx V I L R ++ tl) = rc (.ref (40 + 9 * i)) (.ref 1) (.ref 14) (nI (p + 1)) (fx W J M R ++ tl) ∧ M (44 + 9 * i) p = lN (ptC I0 F Oc (snN I0 m)) ∧ (∀ r, r < snN I0 m → J (46 + 9 * i) (24 * p + r) = nI (enR I0 F Oc r)) ∧ (∀ x, x ≠ p → M (44 + 9 * i) x = L (44 + 9 * i) x) ∧ (∀ x, x < 24 * p ∨ 24 * p + 24 ≤ x → J (46 + 9 * i) x = I (46 + 9 * i) x) ∧ frI i V W I J L M := by
  intro t
  induction t with
  | zero =>
    intro q K V I L hq hK hw hl hc h3 h47 h44 h46
    obtain ⟨K, rfl⟩ : ∃ k, K = k + 1 := ⟨K - 1, by omega⟩
    obtain rfl : q = snN I0 m := by omega
    have sl := snN_le (I0 := I0) m
    refine ⟨V, I, L, ?_, h44, h46, fun _ _ => rfl, fun _ _ => rfl, fun _ _ _ => rfl, rfl, rfl, fun _ _ _ _ => rfl, fun _ _ => rfl, id⟩
    rw [fg_218_87]
    refine ev_b (a := false) rfl (ev_f (by decide) (ev_b (iv_3 hi h3) (ev_t (nI_le (Nat.le_refl _) (by have := hc.2.2.1; omega)) ?_)))
    unfold fg_218_160
    rw [nI_1]
  | succ t ih =>
    intro q K V I L hq hK hw hl hc h3 h47 h44 h46
    obtain ⟨K, rfl⟩ : ∃ k, K = k + 1 := ⟨K - 1, by omega⟩
    have hc' := hc
    obtain ⟨v1, v2, m24, i15, i197, cok⟩ := hc
    have sl := snN_le (I0 := I0) m
    obtain ⟨sc1, sc2, sc3, sc4⟩ := sc_at hF m24 (show q < snN I0 m by omega)
    obtain ⟨j, hj⟩ : ∃ j, j = clN F q := ⟨_, rfl⟩
    rw [← hj] at sc1 sc2 sc3 sc4
    have ck := cOk_c i15 i197 (cok j sc1)
    obtain ⟨W1, J1, e3, f3⟩ := c_133 (L := L) (R := R) hN hw hl (show j < 24 by omega) ck (cO_c i197 (hO j sc1))
    rw [i197 200 (by omega) (by omega)] at e3
    have k3 := frP_k f3
    have ew := wg_at (cok j sc1)
    have el := erN_le (Oc j) (I0 200 j)
    have eR : enR I0 F Oc q = erN (Oc j) (I0 200 j) := by unfold enR; rw [← hj]
    have eP : ptC I0 F Oc (q + 1) = ptC I0 F Oc q + wgN I0 j * erN (Oc j) (I0 200 j) := by
      show ptC I0 F Oc q + wgN I0 (clN F q) * erN (Oc (clN F q)) (I0 200 (clN F q)) = _
      rw [← hj]
    have j46 : J1 (46 + 9 * i) = I (46 + 9 * i) := f3.2.2.2.1 _ (by omega) (by omega)
    obtain ⟨W, J, M, e, r1, r2, r3, r4, g1, g2, g3, g4, g5, g6⟩ := ih (q + 1) K W1 (iup J1 (46 + 9 * i) (upd (J1 (46 + 9 * i)) (24 * p + q) (nI (erN (Oc j) (I0 200 j))))) (lup L (44 + 9 * i) (vp_updL (L (44 + 9 * i)) p (lN (ptC I0 F Oc (q + 1))))) (by omega) (by omega) (k3.2.2 hw) (ldC_i (by omega) (by omega) (ldC_c f3 hl)) (csK_i (by omega) (by omega) (csK_c k3 hc')) ((f3.1 _ _ (by omega)).trans h3) (by rw [iup_na (by omega), f3.2.2.2.1 _ (by omega) (by omega)]; exact h47) (by rw [lup_eq, updL_eq]) (fun r hr => by
      rw [iup_eq]
      by_cases c : r = q
      · subst c; rw [upd_eq, eR]
      · rw [upd_ne (by omega), j46]; exact h46 r (by omega))
    refine ⟨W, J, M, ?_, r1, r2, fun x hx => ?_, fun x hx => ?_, fun a j ha => (g1 a j ha).trans (f3.1 a j ha), g2.trans f3.2.1, g3.trans f3.2.2.1, fun y y1 y2 y3 => ?_, fun y hy => ?_, fun hw => g6 (k3.2.2 hw)⟩
    · rw [fg_218_87]
      refine ev_b (a := false) rfl (ev_f (by decide) (ev_b (iv_3 hi h3) (ev_f (nI_ge (by omega) (by omega)) (ev_b (ir_8 hi) (ev_b (a := nI j) ((ia_47 hi (by omega)).trans (by rw [h47, sc3])) (ev_i rfl (ev_cI e3 (ev_b (ir_7 hi) ?_))))))))
      rw [show nI p * 24 + nI q = nI (24 * p + q) by rw [show nI p * 24 = nI (p * 24) from (nI_mul p 24).symm, nI_add, Nat.mul_comm]]
      refine ev_b (ij_46 hi (by omega)) (ev_b (ir_5 hi) (ev_b (a := lN (ptC I0 F Oc q)) ((ia_44 hi hp).trans (by rw [h44])) (ev_b (ir_8 hi) (ev_b (a := nI j) ((ia_47 hi (by omega)).trans (by rw [iup_na (by omega), f3.2.2.2.1 _ (by omega) (by omega), h47, sc3])) (ev_i rfl (ev_cI (c_112 (w := 4) (by omega) (by omega)) ?_))))))
      rw [show iup J1 (46 + 9 * i) (upd (J1 (46 + 9 * i)) (24 * p + q) (nI (erN (Oc j) (I0 200 j)))) 15 (15 * j + 4) = nI (wgN I0 j) by rw [iup_na (by omega), f3.2.2.2.1 15 (by decide) (by decide), i15]; exact ew.2.2.2, nI_l (by omega), nI_l (by omega), lN_mul, lN_add, ← eP, nI_1]
      exact ev_b (ij_44 hi hp) e
    · rw [r3 x hx, lup_eq, updL_ne hx]
    · rw [r4 x hx, iup_eq, upd_ne (by omega), j46]
    · rw [g4 y y1 y2 y3, iup_na y3]
      exact f3.2.2.2.1 y y1 y2
    · rw [g5 y hy, lup_na hy]
