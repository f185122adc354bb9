/-! ===== what is kept, where other cells change ===== -/
theorem rBp_c {I J : Nat → Nat → Int32} {L M : Nat → Nat → Int64} {R : Nat → Nat → Option Nat} {tl : am_H} {n : Nat} (e : ∀ y, 175 ≤ y → y ≤ 185 → J y = I y) (el : M 183 = L 183) (h : rBp I L R tl n) : rBp J M R tl n := by
  unfold rBp bOk
  rw [el, e 175 (by omega) (by omega), e 176 (by omega) (by omega), e 177 (by omega) (by omega), e 178 (by omega) (by omega), e 179 (by omega) (by omega), e 180 (by omega) (by omega), e 181 (by omega) (by omega), e 182 (by omega) (by omega), e 184 (by omega) (by omega), e 185 (by omega) (by omega)]
  exact h
theorem rTx_c {V W : Nat → Nat → Value} {I J : Nat → Nat → Int32} (e1 : J 3 = I 3) (e2 : J 218 = I 218) (v1 : W 2 1 = V 2 1) (v2 : W 174 68 = V 174 68) (h : rTx V I) : rTx W J := by
  unfold rTx
  rw [e1, e2, v1, v2]
  exact h
theorem rCs_c {V W : Nat → Nat → Value} {I J : Nat → Nat → Int32} (e1 : J 15 = I 15) (e : ∀ y, 197 ≤ y → y ≤ 204 → J y = I y) (v1 : W 14 1 = V 14 1) (v2 : W 174 31 = V 174 31) (h : rCs V I) : rCs W J := by
  unfold rCs cOk
  rw [e1, v1, v2, e 197 (by omega) (by omega), e 198 (by omega) (by omega), e 199 (by omega) (by omega), e 200 (by omega) (by omega), e 201 (by omega) (by omega), e 202 (by omega) (by omega), e 203 (by omega) (by omega), e 204 (by omega) (by omega)]
  exact h
theorem rDr_c {V W : Nat → Nat → Value} {I J : Nat → Nat → Int32} (e1 : J 164 = I 164) (e2 : J 205 = I 205) (v1 : W 174 40 = V 174 40) (h : rDr V I) : rDr W J := by
  unfold rDr
  rw [e1, e2, v1]
  exact h
theorem rSe_c {V W : Nat → Nat → Value} {I J : Nat → Nat → Int32} (e1 : J 38 = I 38) (e2 : J 206 = I 206) (v1 : W 16 0 = V 16 0) (v2 : W 27 0 = V 27 0) (h : rSe V I) : rSe W J := by
  unfold rSe
  rw [e1, e2, v1, v2]
  exact h
theorem sOk_c {V W : Nat → Nat → Value} {I J : Nat → Nat → Int32} {L M : Nat → Nat → Int64} {n i : Nat} (e1 : J (41 + 9 * i) = I (41 + 9 * i)) (e2 : J 175 = I 175) (e3 : J 233 = I 233) (e4 : J 234 = I 234) (v1 : W (40 + 9 * i) 0 = V (40 + 9 * i) 0) (v2 : W (42 + 9 * i) 0 = V (42 + 9 * i) 0) (el : M 235 = L 235) (h : sOk V I L n i) : sOk W J M n i := by
  unfold sOk
  rw [e1, e2, e3, e4, v1, v2, el]
  exact h
/-- the scalars that count -/
def vRel : Nat → List Nat
  | 0 => [1, 12, 13]
  | 2 => [1]
  | 14 => [1]
  | 16 => [0]
  | 27 => [0]
  | 40 => [0]
  | 42 => [0]
  | 49 => [0]
  | 51 => [0]
  | 58 => [0]
  | 60 => [0]
  | 67 => [0]
  | 69 => [0]
  | 118 => [2]
  | 174 => [1, 31, 40, 56, 57, 68, 80, 115]
  | _ => []
/-- the rows that count -/
def iRel : List Nat := [3, 15, 38, 41, 50, 59, 68, 119, 120, 164, 165, 166, 175, 176, 177, 178, 179, 180, 181, 182, 184, 185, 197, 198, 199, 200, 201, 202, 203, 204, 205, 206, 218, 233, 234, 248, 249, 254]
def lRel : List Nat := [77, 78, 183, 224, 225, 235]
theorem rIs_c {V W : Nat → Nat → Value} {I J : Nat → Nat → Int32} {L M : Nat → Nat → Int64} {n : Nat} (e : ∀ y, y = 41 ∨ y = 50 ∨ y = 59 ∨ y = 68 ∨ y = 175 ∨ y = 233 ∨ y = 234 → J y = I y) (v : ∀ a, a = 40 ∨ a = 42 ∨ a = 49 ∨ a = 51 ∨ a = 58 ∨ a = 60 ∨ a = 67 ∨ a = 69 → W a 0 = V a 0) (el : M 235 = L 235) (h : rIs V I L n) : rIs W J M n := by
  obtain ⟨h0, h1, h2, h3⟩ := h
  exact ⟨sOk_c (e _ (by omega)) (e _ (by omega)) (e _ (by omega)) (e _ (by omega)) (v _ (by omega)) (v _ (by omega)) el h0, sOk_c (e _ (by omega)) (e _ (by omega)) (e _ (by omega)) (e _ (by omega)) (v _ (by omega)) (v _ (by omega)) el h1, sOk_c (e _ (by omega)) (e _ (by omega)) (e _ (by omega)) (e _ (by omega)) (v _ (by omega)) (v _ (by omega)) el h2, sOk_c (e _ (by omega)) (e _ (by omega)) (e _ (by omega)) (e _ (by omega)) (v _ (by omega)) (v _ (by omega)) el h3⟩
theorem rRu_c {V W : Nat → Nat → Value} {I J : Nat → Nat → Int32} (e1 : J 119 = I 119) (e2 : J 120 = I 120) (e3 : J 248 = I 248) (e4 : J 249 = I 249) (v1 : W 118 2 = V 118 2) (v2 : W 174 115 = V 174 115) (h : rRu V I) : rRu W J := by
  unfold rRu
  rw [e1, e2, e3, e4, v1, v2]
  exact h
/-- births below b are the same in both -/
def eqB (I J : Nat → Nat → Int32) (b : Nat) : Prop := ∀ q, q < b → J 175 q = I 175 q ∧ J 176 q = I 176 q ∧ J 177 q = I 177 q ∧ ∀ k, k < 60 → J 184 (60 * q + k) = I 184 (60 * q + k) ∧ J 185 (60 * q + k) = I 185 (60 * q + k)
theorem gen1_m {I J : Nat → Nat → Int32} {b : Nat} {x1 x2 x3 x4 x5 : Int32} (h : eqB I J b) (hg : gen1 I b x1 x2 x3 x4 x5) : gen1 J b x1 x2 x3 x4 x5 := by
  have pe : ∀ q sz, q < b → sz ≤ 60 → prgI J q sz = prgI I q sz := fun q sz hq hz => by
    unfold prgI
    refine List.map_congr_left (fun k hk => ?_)
    have := (h q hq).2.2.2 k (by have := List.mem_range.mp hk; omega)
    rw [this.1, this.2]
  refine ⟨fun a c => ?_, fun a => ?_, fun a w j w4 hj e4 e5 => ?_, fun a j hj e5 => ?_⟩
  · obtain ⟨q, q1, q2, q3⟩ := hg.1 a c
    exact ⟨q, q1, q2, (h q q1).1.trans q3⟩
  · obtain ⟨q, r, q1, r1, q2, r2, q3⟩ := hg.2.1 a
    exact ⟨q, r, q1, r1, q2, r2, by rw [(h q q1).1, (h r r1).1]; exact q3⟩
  · obtain ⟨q, kd, ln, sz, q1, q2, q3, q4, l8, q5, q6, q7, q8⟩ := hg.2.2.1 a w j w4 hj e4 e5
    exact ⟨q, kd, ln, sz, q1, q2, q3, q4, l8, (h q q1).1.trans q5, (h q q1).2.1.trans q6, (h q q1).2.2.1.trans q7, by rw [pe q sz q1 q4]; exact q8⟩
  · obtain ⟨q, r, kd, ln, ln2, sz, sz2, q1, r1, q2, r2, q3, q4, r4, l8, l9, q5, r5, q6, q7, r6, r7, q8⟩ := hg.2.2.2 a j hj e5
    exact ⟨q, r, kd, ln, ln2, sz, sz2, q1, r1, q2, r2, q3, q4, r4, l8, l9, (h q q1).1.trans q5, (h r r1).1.trans r5, (h q q1).2.1.trans q6, (h q q1).2.2.1.trans q7, (h r r1).2.1.trans r6, (h r r1).2.2.1.trans r7, by rw [pe q sz q1 q4, pe r sz2 r1 r4]; exact q8⟩
theorem gen_o {I : Nat → Nat → Int32} {b : Nat} {x1 x2 x3 x4 x5 : Int32} (h3 : x1 ≠ nI 3) (h4 : x1 ≠ nI 4) : gen1 I b x1 x2 x3 x4 x5 := ⟨fun e => absurd e h3, fun e => absurd e h4, fun e => absurd e h3, fun e => absurd e h4⟩
theorem rUn_m {I J : Nat → Nat → Int32} {n : Nat} (e1 : J 166 = I 166) (e2 : J 254 = I 254) (e3 : J 165 = I 165) (e : ∀ y, 175 ≤ y → y ≤ 185 → y ≠ 183 → J y = I y) (hz : ∀ k, k < 24 → zr J k) (h : rUn I n) : rUn J n := by
  obtain ⟨h1, h2, -, h4⟩ := h
  refine ⟨fun j hj => by rw [e1, e2]; exact h1 j hj, fun j a b => by rw [e3]; exact h2 j a b, hz, fun b hb => ?_⟩
  rw [e 178 (by omega) (by omega) (by omega), e 179 (by omega) (by omega) (by omega), e 180 (by omega) (by omega) (by omega), e 181 (by omega) (by omega) (by omega), e 182 (by omega) (by omega) (by omega)]
  refine gen1_m (fun q _ => ?_) (h4 b hb)
  rw [e 175 (by omega) (by omega) (by omega), e 176 (by omega) (by omega) (by omega), e 177 (by omega) (by omega) (by omega), e 184 (by omega) (by omega) (by omega), e 185 (by omega) (by omega) (by omega)]
  exact ⟨rfl, rfl, rfl, fun _ _ => ⟨rfl, rfl⟩⟩
theorem zr_c {I J : Nat → Nat → Int32} {k : Nat} (e1 : J 203 = I 203) (e2 : J 204 = I 204) (h : zr I k) : zr J k := by
  unfold zr
  rw [e1, e2]
  exact h
theorem rUn_c {I J : Nat → Nat → Int32} {n : Nat} (e1 : J 166 = I 166) (e2 : J 254 = I 254) (e3 : J 165 = I 165) (e : ∀ y, 175 ≤ y → y ≤ 185 → y ≠ 183 → J y = I y) (e4 : J 203 = I 203) (e5 : J 204 = I 204) (h : rUn I n) : rUn J n := rUn_m e1 e2 e3 e (fun k hk => zr_c e4 e5 (h.2.2.1 k hk)) h
theorem rTo_c {V W : Nat → Nat → Value} (v1 : W 0 12 = V 0 12) (v2 : W 0 13 = V 0 13) (v3 : W 174 56 = V 174 56) (v4 : W 174 57 = V 174 57) (h : rTo V) : rTo W := by
  unfold rTo
  rw [v1, v2, v3, v4]
  exact h
theorem rRk_c {V W : Nat → Nat → Value} {L M : Nat → Nat → Int64} (v : W 174 80 = V 174 80) (l1 : M 77 = L 77) (l2 : M 78 = L 78) (l3 : M 224 = L 224) (l4 : M 225 = L 225) (h : rRk V L) : rRk W M := by
  unfold rRk rInv
  rw [v, l1, l2, l3, l4]
  exact h
theorem rBn_c {V W : Nat → Nat → Value} {n : Nat} (v1 : W 0 1 = V 0 1) (v2 : W 174 1 = V 174 1) (h : rBn V n) : rBn W n := by
  unfold rBn
  rw [v1, v2]
  exact h
/-- nothing that counts has changed -/
theorem rel_c {V W : Nat → Nat → Value} {I J : Nat → Nat → Int32} {L M : Nat → Nat → Int64} {R : Nat → Nat → Option Nat} {tl : am_H} {n p : Nat} (v : ∀ a j, j ∈ vRel a → W a j = V a j) (e : ∀ y, y ∈ iRel → J y = I y) (l : ∀ y, y ∈ lRel → M y = L y) (w : wt W) (h : rel V I L R tl n p) : rel W J M R tl n p := by
  obtain ⟨z1, z2, z3, z4, z5, z6, z7, z8, z9, z10, z11, z12, -⟩ := h
  have e175 : ∀ y, 175 ≤ y → y ≤ 185 → y ≠ 183 → J y = I y := fun y a b c => by
    rcases (by omega : y = 175 ∨ y = 176 ∨ y = 177 ∨ y = 178 ∨ y = 179 ∨ y = 180 ∨ y = 181 ∨ y = 182 ∨ y = 184 ∨ y = 185) with rfl | rfl | rfl | rfl | rfl | rfl | rfl | rfl | rfl | rfl <;> exact e _ (by decide)
  have e197 : ∀ y, 197 ≤ y → y ≤ 204 → J y = I y := fun y a b => by
    rcases (by omega : y = 197 ∨ y = 198 ∨ y = 199 ∨ y = 200 ∨ y = 201 ∨ y = 202 ∨ y = 203 ∨ y = 204) with rfl | rfl | rfl | rfl | rfl | rfl | rfl | rfl <;> exact e _ (by decide)
  refine ⟨rBn_c (v 0 1 (by decide)) (v 174 1 (by decide)) z1, ?_, rTx_c (e 3 (by decide)) (e 218 (by decide)) (v 2 1 (by decide)) (v 174 68 (by decide)) z3, rCs_c (e 15 (by decide)) e197 (v 14 1 (by decide)) (v 174 31 (by decide)) z4, rDr_c (e 164 (by decide)) (e 205 (by decide)) (v 174 40 (by decide)) z5, rSe_c (e 38 (by decide)) (e 206 (by decide)) (v 16 0 (by decide)) (v 27 0 (by decide)) z6, rIs_c (fun y hy => ?_) (fun a ha => ?_) (l 235 (by decide)) z7, rTo_c (v 0 12 (by decide)) (v 0 13 (by decide)) (v 174 56 (by decide)) (v 174 57 (by decide)) z8, rUn_c (e 166 (by decide)) (e 254 (by decide)) (e 165 (by decide)) e175 (e 203 (by decide)) (e 204 (by decide)) z9, rRu_c (e 119 (by decide)) (e 120 (by decide)) (e 248 (by decide)) (e 249 (by decide)) (v 118 2 (by decide)) (v 174 115 (by decide)) z10, rRk_c (v 174 80 (by decide)) (l 77 (by decide)) (l 78 (by decide)) (l 224 (by decide)) (l 225 (by decide)) z11, z12, w⟩
  · unfold rBp bOk
    rw [l 183 (by decide), e175 175 (by omega) (by omega) (by omega), e175 176 (by omega) (by omega) (by omega), e175 177 (by omega) (by omega) (by omega), e175 178 (by omega) (by omega) (by omega), e175 179 (by omega) (by omega) (by omega), e175 180 (by omega) (by omega) (by omega), e175 181 (by omega) (by omega) (by omega), e175 182 (by omega) (by omega) (by omega), e175 184 (by omega) (by omega) (by omega), e175 185 (by omega) (by omega) (by omega)]
    exact z2
  · rcases hy with rfl | rfl | rfl | rfl | rfl | rfl | rfl <;> exact e _ (by decide)
  · rcases ha with rfl | rfl | rfl | rfl | rfl | rfl | rfl | rfl <;> exact v _ _ (by decide)
