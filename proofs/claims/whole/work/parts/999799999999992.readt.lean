/-! ===== read(kind) ===== -/
theorem hd_30_16 {N : Nat} {h : am_H} {r_ : Option am_O} (k_ : some (.inl (some (.int 2), h)) = r_) : fg_30_16 N h = r_ := k_
theorem hd_30_13 {N : Nat} {h : am_H} {r_ : Option am_O} (k_ : some (.inl (some (.int 1), h)) = r_) : fg_30_13 N h = r_ := k_
theorem hd_30_0 {N : Nat} {x0 : Value} {x1 : Int32} {x2 : Value} {h : am_H} {r_ : Option am_O} (k_ : (if am_pOk 11 x0 h then (match fm_31 N x0 x1 h with | some (.inl (some (.int v2), h3)) => ((am_pSL x2 0 (Int32.toInt64 v2) h3).bind fun h5 => some (.inl (some (.int 0), h5))) | some (.inr (0, h7)) => (fg_30_13 N h7) | some (.inr (1, h9)) => (fg_30_16 N h9) | _ => none) else none) = r_) : fg_30_0 N x0 x1 x2 h = r_ := k_
theorem hm_30 {N : Nat} {y0 : Value} {y1 : Int32} {y2 : Value} {h : am_H} {r_ : Option am_O} (k_ : fg_30_0 N y0 y1 y2 h = r_) : fm_30 N y0 y1 y2 h = r_ := k_
theorem hd_31_61 {N : Nat} {s0 : Int32} {h : am_H} {r_ : Option am_O} (k_ : some (.inl (some (.int s0), h)) = r_) : fg_31_61 N s0 h = r_ := k_
theorem hd_31_9 {N : Nat} {h : am_H} {r_ : Option am_O} (k_ : some (.inr (0, h ++ [am_dummy])) = r_) : fg_31_9 N h = r_ := k_
theorem hd_31_0 {N : Nat} {x0 : Value} {x1 : Int32} {h : am_H} {r_ : Option am_O} (k_ : (if x1 < 0 then (fg_31_9 N h) else (if x1 ≤ 3 then (if am_pOk 11 x0 h then am_cV true (fm_32 x0 1 h) (fun h5 => ((am_vR (am_pG 2818 x0 h5)).bind fun v7 => ((am_vR (am_pG 2831 x0 h5)).bind fun v9 => (if am_pOk 9 v7 h5 then am_cI true (fm_33 N v7 x1 v9 h5) (fun v12 h13 => (if v12 < 0 then ((am_vR (am_pG 2831 x0 h13)).bind fun v16 => (if am_pOk 11 x0 h13 then am_cI true (fm_59 x0 v16 0 ((-1)) ((-1)) ((-1)) ((-1)) 0 h13) (fun v19 h20 => (fg_31_61 N v19 h20)) else none)) else (fg_31_61 N (((-1) - v12)) h13))) else none)))) else none) else (fg_31_9 N h))) = r_) : fg_31_0 N x0 x1 h = r_ := k_
theorem hm_31 {N : Nat} {y0 : Value} {y1 : Int32} {h : am_H} {r_ : Option am_O} (k_ : fg_31_0 N y0 y1 h = r_) : fm_31 N y0 y1 h = r_ := k_
theorem rel_cx {V W : Nat → Nat → Value} {I J : Nat → Nat → Int32} {L M : Nat → Nat → Int64} {R : Nat → Nat → Option Nat} {tl : am_H} {n p : Nat} (v : ∀ a j, j ∈ vRel a → ¬ (a = 2 ∧ j = 1) → ¬ (a = 174 ∧ j = 68) → W a j = V a j) (hx : rTx W J) (e : ∀ y, y ∈ iRel → J y = I y) (l : ∀ y, y ∈ lRel → M y = L y) (w : wt W) (h : rel V I L R tl n p) : rel W J M R tl n p := by
  obtain ⟨z1, z2, z3, z4, z5, z6, z7, z8, z9, z10, z11, z12, -⟩ := h
  have e175 : ∀ y, 175 ≤ y → y ≤ 185 → y ≠ 183 → J y = I y := fun y a b c => by
    rcases (by omega : y = 175 ∨ y = 176 ∨ y = 177 ∨ y = 178 ∨ y = 179 ∨ y = 180 ∨ y = 181 ∨ y = 182 ∨ y = 184 ∨ y = 185) with rfl | rfl | rfl | rfl | rfl | rfl | rfl | rfl | rfl | rfl <;> exact e _ (by decide)
  have e197 : ∀ y, 197 ≤ y → y ≤ 204 → J y = I y := fun y a b => by
    rcases (by omega : y = 197 ∨ y = 198 ∨ y = 199 ∨ y = 200 ∨ y = 201 ∨ y = 202 ∨ y = 203 ∨ y = 204) with rfl | rfl | rfl | rfl | rfl | rfl | rfl | rfl <;> exact e _ (by decide)
  refine ⟨rBn_c (v 0 1 (by decide) (by decide) (by decide)) (v 174 1 (by decide) (by decide) (by decide)) z1, ?_, hx, rCs_c (e 15 (by decide)) e197 (v 14 1 (by decide) (by decide) (by decide)) (v 174 31 (by decide) (by decide) (by decide)) z4, rDr_c (e 164 (by decide)) (e 205 (by decide)) (v 174 40 (by decide) (by decide) (by decide)) z5, rSe_c (e 38 (by decide)) (e 206 (by decide)) (v 16 0 (by decide) (by decide) (by decide)) (v 27 0 (by decide) (by decide) (by decide)) z6, rIs_c (fun y hy => ?_) (fun a ha => ?_) (l 235 (by decide)) z7, rTo_c (v 0 12 (by decide) (by decide) (by decide)) (v 0 13 (by decide) (by decide) (by decide)) (v 174 56 (by decide) (by decide) (by decide)) (v 174 57 (by decide) (by decide) (by decide)) z8, rUn_c (e 166 (by decide)) (e 254 (by decide)) (e 165 (by decide)) e175 (e 203 (by decide)) (e 204 (by decide)) z9, rRu_c (e 119 (by decide)) (e 120 (by decide)) (e 248 (by decide)) (e 249 (by decide)) (v 118 2 (by decide) (by decide) (by decide)) (v 174 115 (by decide) (by decide) (by decide)) z10, rRk_c (v 174 80 (by decide) (by decide) (by decide)) (l 77 (by decide)) (l 78 (by decide)) (l 224 (by decide)) (l 225 (by decide)) z11, z12, w⟩
  · unfold rBp bOk
    rw [l 183 (by decide), e175 175 (by omega) (by omega) (by omega), e175 176 (by omega) (by omega) (by omega), e175 177 (by omega) (by omega) (by omega), e175 178 (by omega) (by omega) (by omega), e175 179 (by omega) (by omega) (by omega), e175 180 (by omega) (by omega) (by omega), e175 181 (by omega) (by omega) (by omega), e175 182 (by omega) (by omega) (by omega), e175 184 (by omega) (by omega) (by omega), e175 185 (by omega) (by omega) (by omega)]
    exact z2
  · rcases hy with rfl | rfl | rfl | rfl | rfl | rfl | rfl <;> exact e _ (by decide)
  · rcases ha with rfl | rfl | rfl | rfl | rfl | rfl | rfl | rfl <;> exact v _ _ (by decide) (by decide) (by decide)

def frRq (V W : Nat → Nat → Value) (I J : Nat → Nat → Int32) : Prop := (∀ a j, ¬ (a = 174 ∧ (j = 0 ∨ (13 ≤ j ∧ j ≤ 15) ∨ (69 ≤ j ∧ j ≤ 77))) → W a j = V a j) ∧ (∀ y, ¬ (y = 186 ∨ y = 187 ∨ y = 194 ∨ y = 211 ∨ (219 ≤ y ∧ y ≤ 222)) → J y = I y) ∧ (wt V → wt W)
set_option maxRecDepth 100000 in
set_option maxHeartbeats 4000000 in
theorem r_326 {V : Nat → Nat → Value} {I : Nat → Nat → Int32} {L : Nat → Nat → Int64} {R : Nat → Nat → Option Nat} {tl : am_H} {T : Nat → Nat} {m N kd : Nat} (hN : 5000 < N) (hw : wt V) (h68 : V 174 68 = .int (nI m)) (ht : tqT T m (I 218)) (k3 : kd ≤ 3) : ∃ W J, (∀ o, fg_326_113 N (.ref 174) (fx W J L R ++ tl) = o → fg_326_32 N (.ref 174) (nI kd) (.ref 174) 0 (fx V I L R ++ tl) = o) ∧ frRq V W I J ∧ W 174 0 = .int 0 ∧ W 174 13 = .int (nI kd) ∧ resQ (rdP kd T m) W J m := by
  have hT : ∀ p, T p < 256 := tq_256 ht
  obtain ⟨V0, eV0⟩ : ∃ X, X = vup V 174 0 (.int 0) := ⟨_, rfl⟩
  obtain ⟨V1, eV1⟩ : ∃ X, X = vup V0 174 13 (.int (nI kd)) := ⟨_, rfl⟩
  obtain ⟨V2, eV2⟩ : ∃ X, X = vup V1 174 14 (.int 0) := ⟨_, rfl⟩
  obtain ⟨V3, eV3⟩ : ∃ X, X = vup V2 174 15 (.int 0) := ⟨_, rfl⟩
  obtain ⟨V4, eV4⟩ : ∃ X, X = vup V3 174 69 (.int 0) := ⟨_, rfl⟩
  obtain ⟨V5, eV5⟩ : ∃ X, X = vup V4 174 70 (.int (-1)) := ⟨_, rfl⟩
  obtain ⟨V6, eV6⟩ : ∃ X, X = vup V5 174 77 (.int 0) := ⟨_, rfl⟩
  have s6 : stR V6 I T m 0 (-1) := by
    refine ⟨?_, ?_, ?_, ht⟩
    · rw [eV6, vup_o (by decide), eV5, vup_o (by decide), eV4, vup_o (by decide), eV3, vup_o (by decide), eV2, vup_o (by decide), eV1, vup_o (by decide), eV0, vup_o (by decide)]
      exact h68
    · rw [eV6, vup_o (by decide), eV5, vup_o (by decide), eV4]
      exact vup_eq
    · rw [eV6, vup_o (by decide), eV5]
      exact vup_eq
  have d6 : dkL V6 I [] := by
    refine ⟨?_, fun k x hx => absurd hx (by simp)⟩
    rw [eV6, vup_o (by decide), eV5, vup_o (by decide), eV4, vup_o (by decide), eV3, vup_o (by decide), eV2]
    exact vup_eq
  have n6 : V6 174 15 = .int 0 := by
    rw [eV6, vup_o (by decide), eV5, vup_o (by decide), eV4, vup_o (by decide), eV3]
    exact vup_eq
  have g6 : V6 174 77 = .int 0 := by rw [eV6]; exact vup_eq
  have q0 : V6 174 0 = .int 0 := by
    rw [eV6, vup_o (by decide), eV5, vup_o (by decide), eV4, vup_o (by decide), eV3, vup_o (by decide), eV2, vup_o (by decide), eV1, vup_o (by decide), eV0]
    exact vup_eq
  have q13 : V6 174 13 = .int (nI kd) := by
    rw [eV6, vup_o (by decide), eV5, vup_o (by decide), eV4, vup_o (by decide), eV3, vup_o (by decide), eV2, vup_o (by decide), eV1]
    exact vup_eq
  have w6 : wt V6 := by
    rw [eV6, eV5, eV4, eV3, eV2, eV1, eV0]
    exact wt_i (wt_i (wt_i (wt_i (wt_i (wt_i (wt_i hw (by decide)) (by decide)) (by decide)) (by decide)) (by decide)) (by decide)) (by decide)
  have f6 : ∀ a j, ¬ (a = 174 ∧ (j = 0 ∨ (13 ≤ j ∧ j ≤ 15) ∨ (69 ≤ j ∧ j ≤ 77))) → V6 a j = V a j := fun a j h => by
    rw [eV6, vup_o (fun q => h ⟨q.1, by omega⟩), eV5, vup_o (fun q => h ⟨q.1, by omega⟩), eV4, vup_o (fun q => h ⟨q.1, by omega⟩), eV3, vup_o (fun q => h ⟨q.1, by omega⟩), eV2, vup_o (fun q => h ⟨q.1, by omega⟩), eV1, vup_o (fun q => h ⟨q.1, by omega⟩), eV0, vup_o (fun q => h ⟨q.1, by omega⟩)]
  have pre : ∀ o, (if ¬ nI kd = 0 then (if ¬ nI kd = 1 then (if ¬ nI kd = 2 then (if am_pOk 12 (.ref 174) (fx V6 I L R ++ tl) then am_cV true (fm_354 N (.ref 174) (fx V6 I L R ++ tl)) (fun h23 => (fg_326_113 N (.ref 174) h23)) else none) else (if am_pOk 12 (.ref 174) (fx V6 I L R ++ tl) then am_cV true (fm_351 N (.ref 174) (fx V6 I L R ++ tl)) (fun h27 => (fg_326_113 N (.ref 174) h27)) else none)) else (if am_pOk 12 (.ref 174) (fx V6 I L R ++ tl) then am_cV true (fm_344 N (.ref 174) (fx V6 I L R ++ tl)) (fun h31 => (fg_326_113 N (.ref 174) h31)) else none)) else (if am_pOk 12 (.ref 174) (fx V6 I L R ++ tl) then am_cV true (fm_328 N (.ref 174) (fx V6 I L R ++ tl)) (fun h35 => (fg_326_113 N (.ref 174) h35)) else none)) = o → fg_326_32 N (.ref 174) (nI kd) (.ref 174) 0 (fx V I L R ++ tl) = o := fun o k_ => by
    apply hd_326_32
    exact ev_b (a := fx V0 I L R ++ tl) (by rw [eV0]; exact qp_174_0) (ev_b (a := (0 : Int32)) (by rw [eV0]; rfl) (ev_t (by decide) (ev_b (a := fx V1 I L R ++ tl) (by rw [eV1]; exact qp_174_13) (ev_b (a := fx V2 I L R ++ tl) (by rw [eV2]; exact qp_174_14) (ev_b (a := fx V3 I L R ++ tl) (by rw [eV3]; exact qp_174_15) (ev_b (a := fx V4 I L R ++ tl) (by rw [eV4]; exact qp_174_69) (ev_b (a := fx V5 I L R ++ tl) (by rw [eV5]; exact qp_174_70) (ev_b (a := fx V6 I L R ++ tl) (by rw [eV6]; exact qp_174_77 rfl) k_))))))))
  have fin : ∀ {W : Nat → Nat → Value} {J : Nat → Nat → Int32}, frRn V6 W I J → frRq V W I J ∧ W 174 0 = .int 0 ∧ W 174 13 = .int (nI kd) := fun f => ⟨⟨fun a j h => (f.1 a j (fun q => h ⟨q.1, by omega⟩)).trans (f6 a j h), f.2.1, fun _ => f.2.2 w6⟩, (f.1 174 0 (by omega)).trans q0, (f.1 174 13 (by omega)).trans q13⟩
  unfold rdP
  rcases (by omega : kd = 0 ∨ kd = 1 ∨ kd = 2 ∨ kd = 3) with rfl | rfl | rfl | rfl
  · rw [if_pos rfl]
    obtain ⟨W, J, e, f, r⟩ := r_328 (V := V6) (I := I) (L := L) (R := R) (tl := tl) (N := N) (by omega) s6 d6 g6
    obtain ⟨a1, a2, a3⟩ := fin (frRn_d f)
    refine ⟨W, J, fun o k_ => pre _ (ev_f (fun q => q rfl) (ev_i rfl (ev_cV e k_))), a1, a2, a3, ?_⟩
    cases q : treeP T m with
    | inl e => rw [q] at r; exact r
    | inr Q => rw [q] at r; exact ⟨r.1, r.2.1, (f.1 174 15 (by omega)).trans n6⟩
  · rw [if_neg (by decide), if_pos rfl]
    obtain ⟨W, J, e, f, r⟩ := r_344 (V := V6) (I := I) (L := L) (R := R) (tl := tl) (N := N) hN s6 d6 n6 hT
    obtain ⟨a1, a2, a3⟩ := fin (frRn_d f)
    exact ⟨W, J, fun o k_ => pre _ (ev_t (by decide) (ev_f (fun q => q rfl) (ev_i rfl (ev_cV e k_)))), a1, a2, a3, r⟩
  · rw [if_neg (by decide), if_neg (by decide), if_pos rfl]
    obtain ⟨W, J, e, f, r⟩ := r_351 (V := V6) (I := I) (L := L) (R := R) (tl := tl) (N := N) hN w6 s6 d6 n6 hT
    obtain ⟨a1, a2, a3⟩ := fin (frRn_d f)
    exact ⟨W, J, fun o k_ => pre _ (ev_t (by decide) (ev_t (by decide) (ev_f (fun q => q rfl) (ev_i rfl (ev_cV e k_))))), a1, a2, a3, r⟩
  · rw [if_neg (by decide), if_neg (by decide), if_neg (by decide)]
    obtain ⟨W, J, e, f, r, n4⟩ := r_354 (V := V6) (I := I) (L := L) (R := R) (tl := tl) (N := N) (by omega) s6 d6 n6
    obtain ⟨a1, a2, a3⟩ := fin f
    refine ⟨W, J, fun o k_ => pre _ (ev_t (by decide) (ev_t (by decide) (ev_t (by decide) (ev_i rfl (ev_cV e k_))))), a1, a2, a3, ?_⟩
    cases q : netP T m with
    | inl e => rw [q] at r; exact r
    | inr Q => rw [q] at r; exact ⟨r.1, r.2.1, n4 Q q⟩
theorem pK_len {T : Nat → Nat} {F : Nat → Nat → Nat → xT → Nat ⊕ (Nat × xT)} {s inn : Nat} (hF : ∀ tr inn p Q a, F tr inn p Q = .inr a → a.2.length ≤ 60) : ∀ (mm k p : Nat) (Q : xT) (a : Nat × xT), Q.length ≤ 60 → pK T F s inn mm k p Q = .inr a → a.2.length ≤ 60 := by
  intro mm
  induction mm with
  | zero =>
    intro k p Q a hQ h
    rw [pK] at h
    by_cases c : T p = 41
    · rw [if_pos c] at h
      rw [← Sum.inr.inj h]
      exact hQ
    · rw [if_neg c] at h
      cases h
  | succ mm ih =>
    intro k p Q a hQ h
    rw [pK_s] at h
    by_cases c : T p = 32
    · rw [if_pos c] at h
      cases q : F (twN s k) (if s = 19 ∧ k = 1 then 1 else inn) (p + 1) Q with
      | inl e => rw [q] at h; cases h
      | inr b =>
        rw [q] at h
        exact ih (k + 1) b.1 b.2 a (hF _ _ _ _ _ q) h
    · rw [if_neg c] at h
      cases h
theorem pN_len {T : Nat → Nat} : ∀ (d tr inn p : Nat) (Q : xT) (a : Nat × xT), pN T d tr inn p Q = .inr a → a.2.length ≤ 60 := by
  intro d
  induction d with
  | zero => intro tr inn p Q a h; cases h
  | succ d ih =>
    intro tr inn p Q a h
    rw [pN] at h
    by_cases c : 60 ≤ Q.length
    · rw [if_pos c] at h
      cases h
    rw [if_neg c] at h
    have l1 : ∀ x : Nat × Int32, (Q ++ [x]).length ≤ 60 := fun x => by rw [List.length_append]; show Q.length + 1 ≤ 60; omega
    by_cases c4 : T p = 40
    · rw [if_pos c4] at h
      by_cases ok : sgT (T (p + 1)) < 21 ∧ truN (sgT (T (p + 1))) = tr ∧ ¬ (sgT (T (p + 1)) = 19 ∧ inn ≠ 0)
      · rw [if_pos ok] at h
        exact pK_len (fun tr inn p Q a q => ih tr inn p Q a q) _ _ _ _ a (l1 _) h
      · rw [if_neg ok] at h
        cases h
    · rw [if_neg c4] at h
      by_cases cx : tr ≠ 0 ∨ (5 ≤ lfT (T p) ∧ inn = 0)
      · rw [if_pos cx] at h
        cases h
      rw [if_neg cx] at h
      by_cases c1 : 1 ≤ lfT (T p)
      · rw [if_pos c1] at h
        rw [← Sum.inr.inj h]
        exact l1 _
      · rw [if_neg c1] at h
        cases q : csT T p with
        | inl e => rw [q] at h; cases h
        | inr b =>
          rw [q] at h
          rw [← Sum.inr.inj h]
          exact l1 _
theorem mcSq_len {T : Nat → Nat} {m : Nat} : ∀ (f p : Nat) (Q P : xM), Q.length + f ≤ 6 → mcSq T m f p Q = .inr P → 1 ≤ P.length ∧ P.length ≤ 6 := by
  intro f
  induction f with
  | zero => intro p Q P _ h; cases h
  | succ f ih =>
    intro p Q P hf h
    rw [mcSq] at h
    obtain ⟨b, e1, e2⟩ := sMt_r h
    have l2 : (Q ++ [b.2]).length = Q.length + 1 := by rw [List.length_append]; rfl
    by_cases c : b.1 < m
    · rw [if_pos c] at e2
      by_cases d : T b.1 = 59
      · rw [if_pos d] at e2
        exact ih (b.1 + 1) _ P (by omega) e2
      · rw [if_neg d] at e2
        cases e2
    · rw [if_neg c] at e2
      rw [← Sum.inr.inj e2]
      exact ⟨by omega, by omega⟩
theorem rMp_r {α : Type} {r : Nat ⊕ α} {g : α → Nat × xI} {a : Nat × xI} (h : rMp r g = .inr a) : ∃ b, r = .inr b ∧ a = g b := by
  cases r with
  | inl e => cases h
  | inr b => exact ⟨b, rfl, (Sum.inr.inj h).symm⟩
theorem rdP_gd {T : Nat → Nat} {m kd : Nat} {a : Nat × xI} (hT : ∀ p, T p < 256) (k3 : kd ≤ 3) (h : rdP kd T m = .inr a) : gdP kd a.1 a.2 ∧ (kd ≠ 3 → a.1 = 0) := by
  unfold rdP at h
  rcases (by omega : kd = 0 ∨ kd = 1 ∨ kd = 2 ∨ kd = 3) with rfl | rfl | rfl | rfl
  · rw [if_pos rfl] at h
    obtain ⟨Q, e, rfl⟩ := rMp_r h
    refine ⟨tree_gd hT e ?_, fun _ => rfl⟩
    unfold treeP at e
    cases q : pN T 12 0 0 0 [] with
    | inl w => rw [q] at e; cases e
    | inr b =>
      rw [q] at e
      have e' : (if b.1 < m then (.inl b.1 : Nat ⊕ xT) else .inr b.2) = .inr Q := e
      by_cases c : b.1 < m
      · rw [if_pos c] at e'; cases e'
      · rw [if_neg c] at e'
        rw [← Sum.inr.inj e']
        exact pN_len _ _ _ _ _ _ q
  · rw [if_neg (by decide), if_pos rfl] at h
    obtain ⟨Q, e, rfl⟩ := rMp_r h
    refine ⟨?_, fun _ => rfl⟩
    unfold codeP at e
    cases q : cdSq T m 60 0 [] [] with
    | inl w => rw [q] at e; cases e
    | inr b =>
      rw [q] at e
      obtain ⟨i4, l1, l60, -⟩ := cdSq_ok hT 60 0 [] [] b (fun x hx => by cases hx) (by show 0 + 60 ≤ 60; omega) rfl q
      cases qx : cdX (tI b.1) b.1.length 0 g00 with
      | inl k =>
        have e' : (match cdX (tI b.1) b.1.length 0 g00 with | .inl k => (.inl (b.2.getD k 0) : Nat ⊕ xT) | .inr _ => .inr b.1) = .inr Q := e
        rw [qx] at e'
        cases e'
      | inr g =>
        have e' : (match cdX (tI b.1) b.1.length 0 g00 with | .inl k => (.inl (b.2.getD k 0) : Nat ⊕ xT) | .inr _ => .inr b.1) = .inr Q := e
        rw [qx] at e'
        rw [← Sum.inr.inj e']
        exact code_gd i4 l1 l60 qx
  · rw [if_neg (by decide), if_neg (by decide), if_pos rfl] at h
    obtain ⟨Q, e, rfl⟩ := rMp_r h
    refine ⟨?_, fun _ => rfl⟩
    unfold machP at e
    cases q : mcSq T m 6 0 [] with
    | inl w => rw [q] at e; cases e
    | inr P =>
      rw [q] at e
      obtain ⟨l1, l6⟩ := mcSq_len 6 0 [] P (by show 0 + 6 ≤ 6; omega) q
      have iM := mcSq_ok 6 0 [] P (fun x hx => by cases hx) q
      have e' : (match lstE T P.length P (4 * P.length) 0 with | some e => (.inl e : Nat ⊕ xM) | none => .inr P) = .inr Q := e
      cases ql : lstE T P.length P (4 * P.length) 0 with
      | some w => rw [ql] at e'; cases e'
      | none =>
        rw [ql] at e'
        rw [← Sum.inr.inj e']
        exact mach_gd iM l1 l6 ql
  · rw [if_neg (by decide), if_neg (by decide), if_neg (by decide)] at h
    obtain ⟨Q, e, rfl⟩ := rMp_r h
    exact ⟨net_gd e, fun z => absurd rfl z⟩
