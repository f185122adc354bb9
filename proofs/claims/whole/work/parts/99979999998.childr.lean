/-! ===== a generation: the children in the reference ===== -/
theorem hd_504_66 {N : Nat} {K : Nat} {x0 : Value} {x1 : Int32} {x3 : Int32} {h : am_H} {r_ : Option am_O} (k_ : ((am_vI (am_pG 3177 x0 h)).bind fun v1 => (if v1 ≤ x3 then some (.inl (none, h)) else ((am_vR (am_pG 3171 x0 h)).bind fun v4 => ((am_vR (am_pG 3183 x0 h)).bind fun v6 => ((am_pA 0 v6 x3 h).bind fun v8 => ((am_pS 0 v4 ((16 * x1) + x3) v8 h).bind fun h10 => (fg_504_66 N K x0 x1 ((x3 + 1)) h10))))))) = r_) : fg_504_66 N (K + 1) x0 x1 x3 h = r_ := by rw [fg_504_66]; exact k_
theorem hd_504_57 {N : Nat} {rec_21 : Value → Int32 → Int32 → Int32 → am_H → Option am_O} {x0 : Value} {x1 : Int32} {x2 : Int32} {x3 : Int32} {s0 : Value} {s1 : Int32} {s2 : Int32} {h : am_H} {r_ : Option am_O} (k_ : ((am_pS 0 s0 s1 s2 h).bind fun h1 => (rec_21 x0 x1 x2 ((x3 + 1)) h1)) = r_) : fg_504_57 N rec_21 x0 x1 x2 x3 s0 s1 s2 h = r_ := k_
theorem hd_504_21 {N : Nat} {K : Nat} {x0 : Value} {x1 : Int32} {x2 : Int32} {x3 : Int32} {h : am_H} {r_ : Option am_O} (k_ : ((am_vI (am_pG 3177 x0 h)).bind fun v1 => (if v1 ≤ x3 then (fg_504_66 N N x0 x1 0 h) else ((am_vR (am_pG 3183 x0 h)).bind fun v4 => (if x2 ≤ x3 then (if am_pOk 12 x0 h then am_cI true (fm_510 N x0 h) (fun v8 h9 => (fg_504_57 N (fg_504_21 N K) x0 x1 x2 x3 v4 x3 v8 h9)) else none) else ((am_vR (am_pG 3176 x0 h)).bind fun v11 => ((am_vR (am_pG 3182 x0 h)).bind fun v13 => ((am_pA 0 v13 x3 h).bind fun v15 => ((am_pA 0 v11 v15 h).bind fun v17 => (fg_504_57 N (fg_504_21 N K) x0 x1 x2 x3 v4 x3 v17 h))))))))) = r_) : fg_504_21 N (K + 1) x0 x1 x2 x3 h = r_ := by rw [fg_504_21]; exact k_
theorem hd_504_0 {N : Nat} {x0 : Value} {x1 : Int32} {h : am_H} {r_ : Option am_O} (k_ : (if am_pOk 12 x0 h then am_cV true (fm_505 N x0 x1 h) (fun h3 => (if am_pOk 12 x0 h3 then am_cV true (fm_506 N x0 h3) (fun h7 => (if am_pOk 12 x0 h7 then am_cV true (fm_507 N x0 h7) (fun h11 => (if am_pOk 12 x0 h11 then am_cI true (fm_503 x0 x1 h11) (fun v14 h15 => (fg_504_21 N N x0 x1 v14 0 h15)) else none)) else none)) else none)) else none) = r_) : fg_504_0 N x0 x1 h = r_ := k_
theorem hm_504 {N : Nat} {y0 : Value} {y1 : Int32} {h : am_H} {r_ : Option am_O} (k_ : fg_504_0 N y0 y1 h = r_) : fm_504 N y0 y1 h = r_ := k_
theorem hd_510_86 {N : Nat} {x0 : Value} {x1 : Int32} {s0 : Value} {s1 : Int32} {h : am_H} {r_ : Option am_O} (k_ : (if am_pOk 12 s0 h then am_cI true (fm_474 s0 s1 h) (fun v2 h3 => (if am_pOk 12 x0 h3 then am_cL true (fm_477 x0 4611686018427387904 h3) (fun v6 h7 => ((am_vL (am_pG 3168 x0 h7)).bind fun v9 => (if am_pOk 12 x0 h7 then am_cV true (fm_391 N x0 x1 h7) (fun h13 => (if am_pOk 12 x0 h13 then am_cV true (fm_472 N x0 v2 v6 h13) (fun h17 => ((am_pP 3168 x0 (.long v9) h17).bind fun h19 => ((am_vI (am_pG 3169 x0 h19)).bind fun v21 => (if am_pOk 12 x0 h19 then am_cI true (fm_356 N x0 3 x1 ((-1)) v2 v21 v6 h19) (fun v24 h25 => some (.inl (some (.int v24), h25))) else none)))) else none)) else none))) else none)) else none) = r_) : fg_510_86 N x0 x1 s0 s1 h = r_ := k_
theorem hd_510_0 {N : Nat} {x0 : Value} {h : am_H} {r_ : Option am_O} (k_ : (if am_pOk 12 x0 h then am_cI true (fm_474 x0 100 h) (fun v2 h3 => ((am_vR (am_pG 3114 x0 h3)).bind fun v5 => ((am_pA 0 v5 3 h3).bind fun v7 => (if v7 ≤ v2 then (if am_pOk 12 x0 h3 then am_cI true (fm_511 N x0 h3) (fun v11 h12 => ((am_vR (am_pG 3074 x0 h12)).bind fun v14 => ((am_pA 0 v14 v11 h12).bind fun v16 => (if ¬ v16 = 0 then (fg_510_86 N x0 v11 x0 4 h12) else (fg_510_86 N x0 v11 x0 5 h12))))) else none) else (if am_pOk 12 x0 h3 then am_cI true (fm_511 N x0 h3) (fun v20 h21 => (if am_pOk 12 x0 h21 then am_cI true (fm_511 N x0 h21) (fun v24 h25 => (if am_pOk 12 x0 h25 then am_cL true (fm_477 x0 4611686018427387904 h25) (fun v28 h29 => ((am_vL (am_pG 3168 x0 h29)).bind fun v31 => (if am_pOk 12 x0 h29 then am_cV true (fm_487 N x0 v20 v24 v28 h29) (fun h35 => ((am_pP 3168 x0 (.long v31) h35).bind fun h37 => ((am_vI (am_pG 3169 x0 h37)).bind fun v39 => (if am_pOk 12 x0 h37 then am_cI true (fm_356 N x0 4 v20 v24 ((-1)) v39 v28 h37) (fun v42 h43 => some (.inl (some (.int v42), h43))) else none)))) else none))) else none)) else none)) else none))))) else none) = r_) : fg_510_0 N x0 h = r_ := k_
theorem hm_510 {N : Nat} {y0 : Value} {h : am_H} {r_ : Option am_O} (k_ : fg_510_0 N y0 h = r_) : fm_510 N y0 h = r_ := k_

/-- what a child's making leaves in the reference -/
def frXr (q : Nat) (V W : Nat → Nat → Value) (I J : Nat → Nat → Int32) (L M : Nat → Nat → Int64) : Prop := (∀ a j, ¬ (a = 174 ∧ (j = 1 ∨ j = 80 ∨ (13 ≤ j ∧ j ≤ 15) ∨ (18 ≤ j ∧ j ≤ 23) ∨ j = 88 ∨ (93 ≤ j ∧ j ≤ 97))) → W a j = V a j) ∧ (∀ y, ¬ ((175 ≤ y ∧ y ≤ 196) ∨ y = 211 ∨ (226 ≤ y ∧ y ≤ 230) ∨ y = 241 ∨ y = 242 ∨ y = q) → J y = I y) ∧ (∀ y, ¬ (y = 183 ∨ (224 ≤ y ∧ y ≤ 230)) → M y = L y) ∧ (wt V → wt W) ∧ (rInv V L → rInv W M)
theorem frXr_t {q : Nat} {U V W : Nat → Nat → Value} {G I J : Nat → Nat → Int32} {K L M : Nat → Nat → Int64} (f : frXr q U V G I K L) (g : frXr q V W I J L M) : frXr q U W G J K M := ⟨fun a j h => (g.1 a j h).trans (f.1 a j h), fun y h => (g.2.1 y h).trans (f.2.1 y h), fun y h => (g.2.2.1 y h).trans (f.2.2.1 y h), fun h => g.2.2.2.1 (f.2.2.2.1 h), fun h => g.2.2.2.2 (f.2.2.2.2 h)⟩
theorem frXr_R {q : Nat} {V W : Nat → Nat → Value} {I J : Nat → Nat → Int32} {L M : Nat → Nat → Int64} (f : frRr V W I J L M) : frXr q V W I J L M := ⟨fun a j h => f.1 a j (by omega), fun y h => f.2.1 y (by omega), fun y h => f.2.2.1 y (by omega), f.2.2.2.1, f.2.2.2.2⟩
theorem frXr_r {q : Nat} {V : Nat → Nat → Value} {I : Nat → Nat → Int32} {L : Nat → Nat → Int64} : frXr q V V I I L L := frXr_R frRr_r
theorem frXr_96 {q : Nat} {V : Nat → Nat → Value} {I : Nat → Nat → Int32} {L : Nat → Nat → Int64} {x : Int64} : frXr q V (vup V 174 96 (.long x)) I I L L := frXr_R frRr_l
theorem frXr_i {q : Nat} {V : Nat → Nat → Value} {I J : Nat → Nat → Int32} {L : Nat → Nat → Int64} (h : ∀ y, y ≠ 241 → y ≠ 242 → y ≠ q → J y = I y) : frXr q V V I J L L := ⟨fun _ _ _ => rfl, fun y hy => h y (by omega) (by omega) (by omega), fun _ _ => rfl, id, id⟩
theorem frXr_b {q : Nat} {V : Nat → Nat → Value} {I : Nat → Nat → Int32} {L : Nat → Nat → Int64} {n sz : Nat} {x kd lx x1 x2 x3 x4 x5 : Int32} {x6 : Int64} : frXr q V (vup V 174 1 (.int x)) I (bJ I n kd sz lx x1 x2 x3 x4 x5) L (lup L 183 (vp_updL (L 183) n x6)) := ⟨fun a j h => vup_o (by omega), fun y h => bJ_o (by omega), fun y h => lup_na (by omega), fun w => wt_i w (by decide), fun h => by
  have e : lup L 183 (vp_updL (L 183) n x6) 224 = L 224 := lup_na (by decide)
  have e2 : lup L 183 (vp_updL (L 183) n x6) 225 = L 225 := lup_na (by decide)
  unfold rInv
  rw [e, e2, vup_o (by decide)]
  exact h⟩
theorem frXr_q {q : Nat} {V W : Nat → Nat → Value} {I J : Nat → Nat → Int32} {L M : Nat → Nat → Int64} (f : frXr 241 V W I J L M) : frXr q V W I J L M := ⟨f.1, fun y h => f.2.1 y (by omega), f.2.2⟩
/-- what the reference has looked up -/
def isR (c s m : Nat) (I0 : Nat → Nat → Int32) (Ob : Nat → Nat → Int32 × Nat × Int32) (bm : Nat → Nat) (E : Nat → Nat → Nat) (V : Nat → Nat → Value) (I : Nat → Nat → Int32) (L : Nat → Nat → Int64) : Prop := V 174 105 = .int (nI c) ∧ V 174 108 = .int (nI s) ∧ (∀ x, x < c → gaK I0 m Ob bm I L x) ∧ ∀ x, x < c → ∀ r, r < s → L 240 (24 * x + r) = lN (E x r)
theorem isR_X {q : Nat} {c s m : Nat} {I0 : Nat → Nat → Int32} {Ob : Nat → Nat → Int32 × Nat × Int32} {bm : Nat → Nat} {E : Nat → Nat → Nat} {V W : Nat → Nat → Value} {I J : Nat → Nat → Int32} {L M : Nat → Nat → Int64} (hq : 240 < q) (h : isR c s m I0 Ob bm E V I L) (f : frXr q V W I J L M) : isR c s m I0 Ob bm E W J M := by
  obtain ⟨h1, h2, h3, h4⟩ := h
  refine ⟨(f.1 174 105 (by omega)).trans h1, (f.1 174 108 (by omega)).trans h2, fun x hx => ?_, by rw [f.2.2.1 240 (by omega)]; exact h4⟩
  unfold gaK
  rw [f.2.2.1 236 (by omega), f.2.2.1 237 (by omega), f.2.1 238 (by omega), f.2.1 239 (by omega)]
  exact h3 x hx
set_option maxRecDepth 100000 in
set_option maxHeartbeats 4000000 in
theorem r_chs {V : Nat → Nat → Value} {I : Nat → Nat → Int32} {L : Nat → Nat → Int64} {R : Nat → Nat → Option Nat} {tl : am_H} {N c s T ch m : Nat} {I0 : Nat → Nat → Int32} {Ob : Nat → Nat → Int32 × Nat × Int32} {st : Int64} {bm : Nat → Nat} {E : Nat → Nat → Nat} {bt : Nat → Nat → Bool} {fr : Nat → Bool} (ebt : bt = btr (fun x => ctN I0 0 (Ob (bm x)) m) (fun x => szB I0 (bm x)) bm) (efr : fr = frB (fun x => ctN I0 0 (Ob (bm x)) m) (fun x => szB I0 (bm x)) c) (hN : 200 < N) (hc : c ≤ 16) (c1 : 1 ≤ c) (hs : s ≤ 24) (hT : T ≤ 100) (T1 : 1 ≤ T) (hch : ch < 3) (m24 : m ≤ 24) (cok : ∀ k, k < m → cOk I0 k) (hb : ∀ x, x < c → szB I0 (bm x) < 2 ^ 31 ∧ bm x < 2 ^ 31) (hK : isR c s m I0 Ob bm E V I L) (h6 : I 206 2 = nI T) (h4 : I 206 4 = nI ch) (h96 : V 174 96 = .long st) (hE : ∀ x r, E x r ≤ 2000000) : ∃ J, fm_511 N (.ref 174) (fx V I L R ++ tl) = some (.inl (some (.int (nI (bm (chF ch T c s E bt fr st).1))), fx (vup V 174 96 (.long (chF ch T c s E bt fr st).2)) J L R ++ tl)) ∧ ∀ y, y ≠ 241 → y ≠ 242 → J y = I y := by
  obtain ⟨h5, h8, hg, h40⟩ := hK
  obtain ⟨F, G, e⟩ := r_511 (V := V) (I := I) (L := L) (R := R) (tl := tl) (bt := bt) (fr := fr) hN hc c1 hs hT T1 hch h6 h4 h5 h8 h96 (fun x hx => (hg x hx).2.2.2) h40 hE (by rw [efr]; exact frB_ex c1) (fun V p q hp hq => by rw [ebt]; exact r_508 hc hp hq hg m24 cok hb) (fun V p hv hp => by
    rw [efr]
    unfold fm_514 fg_514_0
    exact r_514l hc hp hv hg m24 cok (fun x hx => (hb x hx).1) c 0 N true (by omega) (by omega))
  exact ⟨_, e, fun y h1 h2 => by rw [iup_na h2, iup_na h1]⟩
/-- the reference holds the births on paper -/
def agB (n : Nat) (V : Nat → Nat → Value) (I : Nat → Nat → Int32) (L : Nat → Nat → Int64) (Ig : Nat → Nat → Int32) (Lg : Nat → Nat → Int64) : Prop := V 174 1 = .int (nI n) ∧ (∀ y, 175 ≤ y → y ≤ 185 → y ≠ 183 → I y = Ig y) ∧ L 183 = Lg 183
set_option maxRecDepth 100000 in
set_option maxHeartbeats 4000000 in
theorem r_bear {V : Nat → Nat → Value} {I : Nat → Nat → Int32} {L : Nat → Nat → Int64} {R : Nat → Nat → Option Nat} {tl : am_H} {N n kd ln : Nat} {X : xI} {Ig : Nat → Nat → Int32} {Lg : Nat → Nat → Int64} (hN : 5000 < N) (hn : n < 600) (gX : gdP kd ln X) (hd : dkL V I X) (h13 : V 174 13 = .int (nI kd)) (h15 : V 174 15 = .int (nI ln)) (ha : agB n V I L Ig Lg) (x1 x2 x3 x4 x5 : Int32) (x6 : Int64) : ∃ W J M, fm_356 N (.ref 174) x1 x2 x3 x4 x5 x6 (fx V I L R ++ tl) = some (.inl (some (.int (nI n)), fx W J M R ++ tl)) ∧ agB (n + 1) W J M (gbI Ig n kd ln X x1 x2 x3 x4 x5) (gbL Lg n x6) ∧ W 174 96 = V 174 96 ∧ frXr 241 V W I J L M := by
  refine ⟨_, _, _, bear_r (V := V) (I := I) (L := L) (R := R) (tl := tl) (N := N) (n := n) (kd := kd) (ln := ln) (sz := X.length) ha.1 h13 hd.1 ⟨nI ln, h15, gd_nt gX⟩ hn gX.2.1 (by omega) x1 x2 x3 x4 x5 x6, ⟨vup_eq, bJ_g ha.2.1 hd.2, ?_⟩, vup_o (by decide), frXr_b⟩
  unfold gbL
  rw [lup_eq, lup_eq, ha.2.2]
set_option maxRecDepth 100000 in
set_option maxHeartbeats 4000000 in
theorem r_child {V : Nat → Nat → Value} {I : Nat → Nat → Int32} {L : Nat → Nat → Int64} {R : Nat → Nat → Option Nat} {tl : am_H} {N n c s T ch r3 kd m ln : Nat} {I0 Ig : Nat → Nat → Int32} {Lg : Nat → Nat → Int64} {Ob : Nat → Nat → Int32 × Nat × Int32} {st st' x6 : Int64} {x1 x2 x3 x4 x5 : Int32} {X : xI} {bm : Nat → Nat} {E : Nat → Nat → Nat} {bt : Nat → Nat → Bool} {fr : Nat → Bool} (ebt : bt = btr (fun x => ctN I0 0 (Ob (bm x)) m) (fun x => szB I0 (bm x)) bm) (efr : fr = frB (fun x => ctN I0 0 (Ob (bm x)) m) (fun x => szB I0 (bm x)) c) (hN : 5000 < N) (hc : c ≤ 16) (c1 : 1 ≤ c) (hs : s ≤ 24) (hT : T ≤ 100) (T1 : 1 ≤ T) (hch : ch < 3) (m24 : m ≤ 24) (cok : ∀ k, k < m → cOk I0 k) (hb : ∀ x, x < c → szB I0 (bm x) < 2 ^ 31 ∧ bm x < 2 ^ 31) (hE : ∀ x r, E x r ≤ 2000000) (hn : n < 600) (r100 : r3 ≤ 100) (k3 : kd ≤ 3) (hK : isR c s m I0 Ob bm E V I L) (t2 : I 206 2 = nI T) (t3 : I 206 3 = nI r3) (t4 : I 206 4 = nI ch) (h96 : V 174 96 = .long st) (hw : wt V) (iv : rInv V L) (ha : agB n V I L Ig Lg) (hC : chS ch T c s r3 kd E bt fr bm n Ig st ln X x1 x2 x3 x4 x5 x6 st') (gX : gdP kd ln X) : ∃ W J M, fm_510 N (.ref 174) (fx V I L R ++ tl) = some (.inl (some (.int (nI n)), fx W J M R ++ tl)) ∧ agB (n + 1) W J M (gbI Ig n kd ln X x1 x2 x3 x4 x5) (gbL Lg n x6) ∧ W 174 96 = .long st' ∧ frXr 241 V W I J L M := by
  obtain ⟨d, ed⟩ : ∃ d, d = drw st 100 := ⟨_, rfl⟩
  have d100 : d < 100 := by rw [ed]; exact drw_lt (by decide)
  have e0 := x_474 (V := V) (I := I) (L := L) (R := R) (tl := tl) (k := 100) h96 (by omega) (by omega)
  rw [show hlf (nxt st) % 100 = drw st 100 from rfl, ← ed] at e0
  obtain ⟨S, eS⟩ : ∃ S : Int64 → Nat → Nat → Value, S = fun x => vup V 174 96 (.long x) := ⟨_, rfl⟩
  have S96 : ∀ x, S x 174 96 = .long x := fun x => by rw [eS]; exact vup_eq
  have S2 : ∀ x y, vup (S x) 174 96 (.long y) = S y := fun x y => by rw [eS]; exact vup_2
  have Sf : ∀ (x : Int64) (J : Nat → Nat → Int32) (M : Nat → Nat → Int64), frXr 241 V (S x) J J M M := fun x J M => by rw [eS]; exact frXr_96
  rw [show vup V 174 96 (.long (nxt st)) = S (nxt st) by rw [eS]] at e0
  obtain ⟨I1, e1, i1⟩ := r_chs (V := S (nxt st)) (I := I) (L := L) (R := R) (tl := tl) (N := N) (T := T) (ch := ch) ebt efr (by omega) hc c1 hs hT T1 hch m24 cok hb (isR_X (q := 241) (by decide) hK (Sf (nxt st) I L)) t2 t4 (S96 _) hE
  rw [S2] at e1
  have f1 : ∀ x, frXr 241 V (S x) I I1 L L := fun x => frXr_t (Sf x I L) (frXr_i (fun y h1 h2 _ => i1 y h1 h2))
  have g3 : am_pA 0 (.ref 206) 3 (fx (S (nxt st)) I L R ++ tl) = some (nI r3) := (qa_206 (k := 3) (by omega)).trans (congrArg some t3)
  have agf : ∀ (W : Nat → Nat → Value) (J : Nat → Nat → Int32) (M : Nat → Nat → Int64), (∀ y, 175 ≤ y → y ≤ 185 → y ≠ 183 → J y = I y) → W 174 1 = V 174 1 → M 183 = L 183 → agB n W J M Ig Lg := fun W J M h1 h2 h3 => ⟨h2.trans ha.1, fun y a b q => (h1 y a b q).trans (ha.2.1 y a b q), h3.trans ha.2.2⟩
  -- a birth, once it lies on the desk
  have fin : ∀ (W0 : Nat → Nat → Value) (J0 J1 : Nat → Nat → Int32) (M0 : Nat → Nat → Int64) (sx : Int64), frXr 241 V (S sx) I J1 L L → (∀ y, 175 ≤ y → y ≤ 185 → J1 y = I y) → frRr (S sx) W0 J1 J0 L M0 → dkL W0 J0 X → W0 174 13 = .int (nI kd) → W0 174 15 = .int (nI ln) → W0 174 97 = .int x5 → ∃ W J M, fm_356 N (.ref 174) x1 x2 x3 x4 x5 x6 (fx (vup W0 174 96 (.long st')) J0 M0 R ++ tl) = some (.inl (some (.int (nI n)), fx W J M R ++ tl)) ∧ agB (n + 1) W J M (gbI Ig n kd ln X x1 x2 x3 x4 x5) (gbL Lg n x6) ∧ W 174 96 = .long st' ∧ frXr 241 V W I J L M ∧ am_vI (am_pG 3169 (.ref 174) (fx (vup W0 174 96 (.long st')) J0 M0 R ++ tl)) = some x5 := fun W0 J0 J1 M0 sx f1 j1 f0 hd h13 h15 h97 => by
    obtain ⟨W, J, M, e, a1, a2, a3⟩ := r_bear (V := vup W0 174 96 (.long st')) (I := J0) (L := M0) (R := R) (tl := tl) (N := N) (Ig := Ig) (Lg := Lg) hN hn gX ⟨(vup_o (by decide)).trans hd.1, hd.2⟩ ((vup_o (by decide)).trans h13) ((vup_o (by decide)).trans h15) (agf _ _ _ (fun y a b q => (f0.2.1 y (by omega)).trans (j1 y a b)) ((vup_o (by decide)).trans ((f0.1 174 1 (by omega)).trans (by rw [eS]; exact vup_o (by decide)))) (f0.2.2.1 183 (by omega))) x1 x2 x3 x4 x5 x6
    exact ⟨W, J, M, e, a1, a2.trans vup_eq, frXr_t f1 (frXr_t (frXr_R f0) (frXr_t frXr_96 a3)), rdI ((vup_o (by decide)).trans h97)⟩
  rcases hC with ⟨z, b, w, P, st2, eb, es2, hbn, hp, hg, ew, esd, es', hC, rfl, rfl, rfl, rfl⟩ | ⟨z, b, b', ln', P, Q, st2, st3, eb, es2, eb', es3, hbn, hbn', hp, hg, hq, hgq, esd, es', hC, rfl, rfl, rfl, rfl⟩
  · rw [← ed] at z
    rw [← eb, ← es2] at e1
    obtain ⟨m', em⟩ : ∃ m, m = (if kd = 0 then 5 else 4) := ⟨_, rfl⟩
    have m5 : 4 ≤ m' ∧ m' ≤ 5 := by rw [em]; split <;> omega
    rw [← em] at ew
    have wm : w < m' := by rw [ew]; exact drw_lt (by omega)
    have e2 := x_474 (V := S st2) (I := I1) (L := L) (R := R) (tl := tl) (k := m') (S96 _) (by omega) (by omega)
    rw [show hlf (nxt st2) % m' = drw st2 m' from rfl, ← ew, S2] at e2
    have e3 := x_477w (V := S (nxt st2)) (I := I1) (L := L) (R := R) (tl := tl) (S96 _)
    rw [S2, ← esd, ← es'] at e3
    have hp1 : rPr I1 b kd ln P := rPr_c hp (fun y h => (i1 y (by omega) (by omega)).trans (ha.2.1 y (by omega) (by omega) (by omega)))
    obtain ⟨x1', x2', x3', x4'⟩ := hp1
    obtain ⟨Wa, Ja, t1, f3, g20, g19, gds, gsp⟩ := ld_E (V := S st') (I := I1) (L := L) (R := R) (tl := tl) (N := N) (by omega) (by omega) hg x1' x2' x3' x4'
    have fa : frRr (S st') Wa I1 Ja L L := frRr_39 f3
    have ws : wt (S st') := (f1 st').2.2.2.1 hw
    have ivs : rInv (S st') L := (f1 st').2.2.2.2 iv
    obtain ⟨W0, J0, M0, e4, d4, d13, d15, d97, f4⟩ := r472 (V := Wa) (I := Ja) (L := L) (R := R) (tl := tl) (N := N) hN hg ⟨g20, g19, gds, gsp⟩ (fa.2.2.2.1 ws) (fa.2.2.2.2 ivs) hC
    obtain ⟨W, J, M, e5, a1, a2, a3, v97⟩ := fin W0 J0 I1 M0 st' (f1 st') (fun y a b => i1 y (by omega) (by omega)) (frRr_t fa f4) d4 d13 d15 d97
    refine ⟨W, J, M, ?_, a1, a2, a3⟩
    have k175 : am_pA 0 (.ref 175) (nI b) (fx (S st2) I1 L R ++ tl) = some (nI kd) := (qa_175 (by omega)).trans (congrArg some x1')
    have last : ∀ q, q = m' → fg_510_86 N (.ref 174) (nI b) (.ref 174) (nI q) (fx (S st2) I1 L R ++ tl) = some (.inl (some (.int (nI n)), fx W J M R ++ tl)) := fun q hq => by
      subst hq
      apply hd_510_86
      exact ev_i rfl (ev_cI e2 (ev_i rfl (ev_cL e3 (ev_b (rdL (S96 st')) (ev_i rfl (ev_cV t1 (ev_i rfl (ev_cV e4 (ev_b qp_174_96 (ev_b v97 (ev_i rfl (ev_cI e5 rfl))))))))))))
    apply hm_510
    apply hd_510_0
    refine ev_i rfl (ev_cI e0 (ev_b (rdR rfl) (ev_b g3 (ev_t (nI_le z (by omega)) (ev_i rfl (ev_cI e1 (ev_b (rdR rfl) (ev_b k175 ?_))))))))
    by_cases q : kd = 0
    · exact ev_f (fun u => u (by rw [q]; rfl)) (last 5 (by rw [em, if_pos q]))
    · exact ev_t (fun u => q ((nI_eq (b := 0) (by omega) (by omega)).mp u)) (last 4 (by rw [em, if_neg q]))
  · rw [← ed] at z
    rw [← eb, ← es2] at e1
    obtain ⟨I2, e2, i2⟩ := r_chs (V := S st2) (I := I1) (L := L) (R := R) (tl := tl) (N := N) (T := T) (ch := ch) ebt efr (by omega) hc c1 hs hT T1 hch m24 cok hb (isR_X (q := 241) (by decide) hK (f1 st2)) (by rw [i1 206 (by decide) (by decide)]; exact t2) (by rw [i1 206 (by decide) (by decide)]; exact t4) (S96 _) hE
    rw [S2, ← eb', ← es3] at e2
    have e3 := x_477w (V := S st3) (I := I2) (L := L) (R := R) (tl := tl) (S96 _)
    rw [S2, ← esd, ← es'] at e3
    have i12 : ∀ y, y ≠ 241 → y ≠ 242 → I2 y = I y := fun y h1 h2 => (i2 y h1 h2).trans (i1 y h1 h2)
    have f2 : frXr 241 V (S st') I I2 L L := frXr_t (Sf st' I L) (frXr_i (fun y h1 h2 _ => i12 y h1 h2))
    have hp1 : rPr I2 b kd ln P := rPr_c hp (fun y h => (i12 y (by omega) (by omega)).trans (ha.2.1 y (by omega) (by omega) (by omega)))
    have hq1 : rPr I2 b' kd ln' Q := rPr_c hq (fun y h => (i12 y (by omega) (by omega)).trans (ha.2.1 y (by omega) (by omega) (by omega)))
    obtain ⟨W0, J0, e4, d4, d13, d15, d97, f4⟩ := r487 (V := S st') (I := I2) (L := L) (R := R) (tl := tl) (N := N) hN (by omega) (by omega) hg hgq hp1 hq1 (f2.2.2.2.1 hw) hC
    obtain ⟨W, J, M, e5, a1, a2, a3, v97⟩ := fin W0 J0 I2 L st' f2 (fun y a b => i12 y (by omega) (by omega)) f4 d4 d13 d15 d97
    refine ⟨W, J, M, ?_, a1, a2, a3⟩
    apply hm_510
    apply hd_510_0
    exact ev_i rfl (ev_cI e0 (ev_b (rdR rfl) (ev_b g3 (ev_f (nI_ge (by omega) (by omega)) (ev_i rfl (ev_cI e1 (ev_i rfl (ev_cI e2 (ev_i rfl (ev_cL e3 (ev_b (rdL (S96 st')) (ev_i rfl (ev_cV e4 (ev_b qp_174_96 (ev_b v97 (ev_i rfl (ev_cI e5 rfl)))))))))))))))))
