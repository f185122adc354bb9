/-! ===== births one by one, while the other side waits ===== -/
/-- an island and nothing else has changed -/
theorem rel_isl {V : Nat → Nat → Value} {I : Nat → Nat → Int32} {L : Nat → Nat → Int64} {R : Nat → Nat → Option Nat} {tl : am_H} {W : Nat → Nat → Value} {J : Nat → Nat → Int32} {M : Nat → Nat → Int64} {n p i : Nat} (hi : i < 4) (v : ∀ a j, j ∈ vRel a → a ≠ 40 + 9 * i → a ≠ 42 + 9 * i → W a j = V a j) (e : ∀ y, y ∈ iRel → y ≠ 41 + 9 * i → y ≠ 233 → y ≠ 234 → J y = I y) (e3 : ∀ k, k < 4 → k ≠ i → J 233 k = I 233 k) (e4 : ∀ k, k < 64 → (k < 16 * i ∨ 16 * i + 16 ≤ k) → J 234 k = I 234 k) (l : ∀ y, y ∈ lRel → y ≠ 235 → M y = L y) (l5 : ∀ k, k < 4 → k ≠ i → M 235 k = L 235 k) (w : wt W) (hs : sOk W J M n i) (h : rel V I L R tl n p) : rel W J M R tl n p := by
  obtain ⟨z1, z2, z3, z4, z5, z6, z7, z8, z9, z10, z11, z12, -⟩ := h
  have e175 : ∀ y, 175 ≤ y → y ≤ 185 → y ≠ 183 → J y = I y := fun y a b c => by
    rcases (by omega : y = 175 ∨ y = 176 ∨ y = 177 ∨ y = 178 ∨ y = 179 ∨ y = 180 ∨ y = 181 ∨ y = 182 ∨ y = 184 ∨ y = 185) with rfl | rfl | rfl | rfl | rfl | rfl | rfl | rfl | rfl | rfl <;> exact e _ (by decide) (by omega) (by omega) (by omega)
  have e197 : ∀ y, 197 ≤ y → y ≤ 204 → J y = I y := fun y a b => by
    rcases (by omega : y = 197 ∨ y = 198 ∨ y = 199 ∨ y = 200 ∨ y = 201 ∨ y = 202 ∨ y = 203 ∨ y = 204) with rfl | rfl | rfl | rfl | rfl | rfl | rfl | rfl <;> exact e _ (by decide) (by omega) (by omega) (by omega)
  have key : ∀ i', i' < 4 → sOk W J M n i' := fun i' hi' => by
    by_cases q : i' = i
    · subst q
      exact hs
    · obtain ⟨c', kd', t1, t2, t3, t4, t5⟩ := rIs_at z7 hi'
      have m0 : 0 ∈ vRel (40 + 9 * i') := by rcases (by omega : i' = 0 ∨ i' = 1 ∨ i' = 2 ∨ i' = 3) with rfl | rfl | rfl | rfl <;> decide
      have m2 : 0 ∈ vRel (42 + 9 * i') := by rcases (by omega : i' = 0 ∨ i' = 1 ∨ i' = 2 ∨ i' = 3) with rfl | rfl | rfl | rfl <;> decide
      refine ⟨c', kd', t1, (v _ _ m0 (by omega) (by omega)).trans t2, (e3 i' hi' q).trans t3, ?_, fun k hk => ?_⟩
      · rw [v _ _ m2 (by omega) (by omega), l5 i' hi' q]
        exact t4
      · obtain ⟨b, d1, d2, d3, d4⟩ := t5 k hk
        exact ⟨b, d1, by rw [e _ (is_in hi') (by omega) (by omega) (by omega)]; exact d2, by rw [e4 _ (by omega) (by omega)]; exact d3, by rw [e175 175 (by omega) (by omega) (by omega)]; exact d4⟩
  refine ⟨rBn_c (v 0 1 (by decide) (by omega) (by omega)) (v 174 1 (by decide) (by omega) (by omega)) z1, ?_, rTx_c (e 3 (by decide) (by omega) (by omega) (by omega)) (e 218 (by decide) (by omega) (by omega) (by omega)) (v 2 1 (by decide) (by omega) (by omega)) (v 174 68 (by decide) (by omega) (by omega)) z3, rCs_c (e 15 (by decide) (by omega) (by omega) (by omega)) e197 (v 14 1 (by decide) (by omega) (by omega)) (v 174 31 (by decide) (by omega) (by omega)) z4, rDr_c (e 164 (by decide) (by omega) (by omega) (by omega)) (e 205 (by decide) (by omega) (by omega) (by omega)) (v 174 40 (by decide) (by omega) (by omega)) z5, rSe_c (e 38 (by decide) (by omega) (by omega) (by omega)) (e 206 (by decide) (by omega) (by omega) (by omega)) (v 16 0 (by decide) (by omega) (by omega)) (v 27 0 (by decide) (by omega) (by omega)) z6, ⟨key 0 (by decide), key 1 (by decide), key 2 (by decide), key 3 (by decide)⟩, rTo_c (v 0 12 (by decide) (by omega) (by omega)) (v 0 13 (by decide) (by omega) (by omega)) (v 174 56 (by decide) (by omega) (by omega)) (v 174 57 (by decide) (by omega) (by omega)) z8, rUn_c (e 166 (by decide) (by omega) (by omega) (by omega)) (e 254 (by decide) (by omega) (by omega) (by omega)) (e 165 (by decide) (by omega) (by omega) (by omega)) e175 (e 203 (by decide) (by omega) (by omega) (by omega)) (e 204 (by decide) (by omega) (by omega) (by omega)) z9, rRu_c (e 119 (by decide) (by omega) (by omega) (by omega)) (e 120 (by decide) (by omega) (by omega) (by omega)) (e 248 (by decide) (by omega) (by omega) (by omega)) (e 249 (by decide) (by omega) (by omega) (by omega)) (v 118 2 (by decide) (by omega) (by omega)) (v 174 115 (by decide) (by omega) (by omega)) z10, rRk_c (v 174 80 (by decide) (by omega) (by omega)) (l 77 (by decide) (by omega)) (l 78 (by decide) (by omega)) (l 224 (by decide) (by omega)) (l 225 (by decide) (by omega)) z11, z12, w⟩
  unfold rBp bOk
  rw [l 183 (by decide) (by omega), e175 175 (by omega) (by omega) (by omega), e175 176 (by omega) (by omega) (by omega), e175 177 (by omega) (by omega) (by omega), e175 178 (by omega) (by omega) (by omega), e175 179 (by omega) (by omega) (by omega), e175 180 (by omega) (by omega) (by omega), e175 181 (by omega) (by omega) (by omega), e175 182 (by omega) (by omega) (by omega), e175 184 (by omega) (by omega) (by omega), e175 185 (by omega) (by omega) (by omega)]
  exact z2
/-- the heap has grown -/
def grw (n : Nat) (R : Nat → Nat → Option Nat) (tl : am_H) (R' : Nat → Nat → Option Nat) (tl' : am_H) : Prop := (∀ a, a ≠ 1 → R' a = R a) ∧ (∀ b, b < n → R' 1 b = R 1 b) ∧ ∃ t, tl' = tl ++ t
theorem grw_r {n : Nat} {R : Nat → Nat → Option Nat} {tl : am_H} : grw n R tl R tl := ⟨fun _ _ => rfl, fun _ _ => rfl, [], (List.append_nil tl).symm⟩
theorem grw_t {n n' : Nat} {R R' R2 : Nat → Nat → Option Nat} {tl tl' t2 : am_H} (hn : n ≤ n') (h : grw n R tl R' tl') (h' : grw n' R' tl' R2 t2) : grw n R tl R2 t2 := by
  obtain ⟨a1, a2, t, a3⟩ := h
  obtain ⟨b1, b2, s, b3⟩ := h'
  exact ⟨fun a h => (b1 a h).trans (a1 a h), fun b h => (b2 b (by omega)).trans (a2 b h), t ++ s, by rw [b3, a3, List.append_assoc]⟩
theorem grw_b {n x : Nat} {R : Nat → Nat → Option Nat} {tl t : am_H} : grw n R tl (rup R 1 (va_up (R 1) n (some x))) (tl ++ t) := ⟨fun a h => if_neg h, fun b h => by
  show va_up (R 1) n (some x) b = R 1 b
  exact if_neg (by omega), t, rfl⟩
theorem rel_grw {V : Nat → Nat → Value} {I : Nat → Nat → Int32} {L : Nat → Nat → Int64} {R : Nat → Nat → Option Nat} {tl : am_H} {n p : Nat} {R' : Nat → Nat → Option Nat} {tl' : am_H} (hg : grw n R tl R' tl') (h : rel V I L R tl n p) : rel V I L R' tl' n p := by
  obtain ⟨g1, g2, t, rfl⟩ := hg
  obtain ⟨a1, a2, a3, a4, a5, a6, a7, a8, a9, a10, a11, a12, w⟩ := h
  refine ⟨a1, fun b hb => ?_, a3, a4, a5, a6, a7, a8, a9, a10, a11, ⟨a12.1, fun k hk => ?_, ?_, ?_⟩, w⟩
  · obtain ⟨kd, ln, sz, a, it, f, q1, q2, q3, q4, q5, q6, q7⟩ := a2 b hb
    exact ⟨kd, ln, sz, a, it, f, q1, q2, q3, (g2 b hb).trans q4, get_app q5, get_app q6, q7⟩
  · obtain ⟨a, f, q1, q2⟩ := a12.2.1 k hk
    exact ⟨a, f, by rw [g1 87 (by decide)]; exact q1, get_app q2⟩
  · rw [g1 87 (by decide)]
    exact a12.2.2.1
  · unfold rPl
    rw [g1 140 (by decide)]
    exact a12.2.2.2
/-! a birth on paper -/
def gbI (I : Nat → Nat → Int32) (n kd ln : Nat) (X : xI) (x1 x2 x3 x4 x5 : Int32) : Nat → Nat → Int32 := bJ (iup (iup I 186 (srt X)) 187 (vlu X)) n (nI kd) X.length (nI ln) x1 x2 x3 x4 x5
def gbV (V : Nat → Nat → Value) (n : Nat) : Nat → Nat → Value := vup (vup V 0 1 (.int (nI (n + 1)))) 174 1 (.int (nI (n + 1)))
def gbL (L : Nat → Nat → Int64) (n : Nat) (x6 : Int64) : Nat → Nat → Int64 := lup L 183 (vp_updL (L 183) n x6)
theorem gbI_o {I : Nat → Nat → Int32} {n kd ln y : Nat} {X : xI} {x1 x2 x3 x4 x5 : Int32} (h : y < 175 ∨ 187 < y) : gbI I n kd ln X x1 x2 x3 x4 x5 y = I y := by
  unfold gbI
  rw [bJ_o (by omega), iup_na (by omega), iup_na (by omega)]
theorem gbV_o {V : Nat → Nat → Value} {n a j : Nat} (h1 : ¬ (a = 0 ∧ j = 1)) (h2 : ¬ (a = 174 ∧ j = 1)) : gbV V n a j = V a j := by
  unfold gbV
  rw [vup_o h2, vup_o h1]
theorem gbV_1 {V : Nat → Nat → Value} {n : Nat} : gbV V n 174 1 = .int (nI (n + 1)) := vup_eq
theorem gbV_0 {V : Nat → Nat → Value} {n : Nat} : gbV V n 0 1 = .int (nI (n + 1)) := (vup_o (by decide)).trans vup_eq
theorem gbL_o {L : Nat → Nat → Int64} {n y : Nat} {x6 : Int64} (h : y ≠ 183) : gbL L n x6 y = L y := lup_na h
theorem gb_rel {V : Nat → Nat → Value} {I : Nat → Nat → Int32} {L : Nat → Nat → Int64} {R : Nat → Nat → Option Nat} {tl : am_H} {n p kd ln : Nat} {X : xI} {x1 x2 x3 x4 x5 : Int32} {x6 : Int64} {f : Nat → Int32} (hr : rel V I L R tl n p) (hn : n < 600) (gX : gdP kd ln X) (hf : itm kd (srt X) (vlu X) X.length f) (hp : ped n x1 x2 x3 x4 x5) (hg : gen1 I n x1 x2 x3 x4 x5) : rel (gbV V n) (gbI I n kd ln X x1 x2 x3 x4 x5) (gbL L n x6) (rup R 1 (va_up (R 1) n (some (269 + tl.length)))) (tl ++ brt tl.length kd ln X.length x1 x2 x3 x4 x5 x6 f) (n + 1) p := by
  have e6 : iup (iup I 186 (srt X)) 187 (vlu X) 186 = srt X := by rw [iup_na (by decide), iup_eq]
  have e7 : iup (iup I 186 (srt X)) 187 (vlu X) 187 = vlu X := iup_eq
  refine bear_rel (W := V) (J := I) (W' := vup V 0 1 (.int (nI (n + 1)))) (J' := iup (iup I 186 (srt X)) 187 (vlu X)) (M' := L) hr hn keep_r ⟨fun _ _ _ => rfl, fun y hy => ?_, id⟩ (fun _ _ => rfl) (by rw [e6, e7]; exact hf) (by rw [e6, e7]; exact gd_snd gX (lay2_x X)) hp hg
  have key : ∀ y, y ∈ iRel → y ≠ 186 ∧ y ≠ 187 := by decide
  rw [iup_na (key y hy).2, iup_na (key y hy).1]
theorem csq_c {D S S' : Nat → Int32} {x : Nat} : ∀ n, (∀ k, k < n → S k = S' k) → csq D S x n = csq D S' x n := by
  intro n
  induction n with
  | zero => intro _; rfl
  | succ n ih =>
    intro h
    show upd (csq D S x n) (x + n) (S n) = upd (csq D S' x n) (x + n) (S' n)
    rw [ih (fun k hk => h k (by omega)), h n (by omega)]
/-- the reference's birth is the one on paper -/
theorem bJ_g {I J : Nat → Nat → Int32} {n kd ln : Nat} {X : xI} {x1 x2 x3 x4 x5 : Int32} (h : ∀ y, 175 ≤ y → y ≤ 185 → y ≠ 183 → J y = I y) (hl : lay2 (J 186) (J 187) X) : ∀ y, 175 ≤ y → y ≤ 185 → y ≠ 183 → bJ J n (nI kd) X.length (nI ln) x1 x2 x3 x4 x5 y = gbI I n kd ln X x1 x2 x3 x4 x5 y := by
  have c1 : ∀ k, k < X.length → J 186 k = srt X k := fun k hk => ((hl k X[k] (List.getElem?_eq_getElem hk)).1).trans ((lay2_x X k X[k] (List.getElem?_eq_getElem hk)).1).symm
  have c2 : ∀ k, k < X.length → J 187 k = vlu X k := fun k hk => ((hl k X[k] (List.getElem?_eq_getElem hk)).2).trans ((lay2_x X k X[k] (List.getElem?_eq_getElem hk)).2).symm
  intro y a b c
  rcases (by omega : y = 175 ∨ y = 176 ∨ y = 177 ∨ y = 178 ∨ y = 179 ∨ y = 180 ∨ y = 181 ∨ y = 182 ∨ y = 184 ∨ y = 185) with rfl | rfl | rfl | rfl | rfl | rfl | rfl | rfl | rfl | rfl
  · show upd (J 175) n _ = upd (I 175) n _
    rw [h 175 a b c]
  · show upd (J 176) n _ = upd (I 176) n _
    rw [h 176 a b c]
  · show upd (J 177) n _ = upd (I 177) n _
    rw [h 177 a b c]
  · show upd (J 178) n _ = upd (I 178) n _
    rw [h 178 a b c]
  · show upd (J 179) n _ = upd (I 179) n _
    rw [h 179 a b c]
  · show upd (J 180) n _ = upd (I 180) n _
    rw [h 180 a b c]
  · show upd (J 181) n _ = upd (I 181) n _
    rw [h 181 a b c]
  · show upd (J 182) n _ = upd (I 182) n _
    rw [h 182 a b c]
  · show csq (J 184) (J 186) _ _ = csq (I 184) (srt X) _ _
    rw [h 184 a b c, csq_c _ c1]
  · show csq (J 185) (J 187) _ _ = csq (I 185) (vlu X) _ _
    rw [h 185 a b c, csq_c _ c2]
/-- a program of both sides -/
theorem bth_F {V : Nat → Nat → Value} {I : Nat → Nat → Int32} {L : Nat → Nat → Int64} {R : Nat → Nat → Option Nat} {tl : am_H} {n p b kd : Nat} (hr : rel V I L R tl n p) (hb : b < n) (hk : I 175 b = nI kd) (k3 : kd < 1000) : ∃ (ln : Nat) (P : xI) (a it : Nat), gdP kd ln P ∧ rPr I b kd ln P ∧ R 1 b = some (269 + a) ∧ (∀ W J, srcE W J tl (269 + a) (269 + it) kd ln P) ∧ P = prgI I b P.length := by
  obtain ⟨kd', ln, P, a, it, hg, q1, q2, q3, q4, q5, q6, q7⟩ := bth_E hr hb
  have := hg.1
  have ek : kd' = kd := (nI_eq (by omega) (by omega)).mp (q1.symm.trans hk)
  subst ek
  exact ⟨ln, P, a, it, hg, ⟨q1, q2, q3, q6⟩, q4, q5, q7⟩
