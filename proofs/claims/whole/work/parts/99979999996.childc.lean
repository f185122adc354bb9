/-! ===== a generation: the children in the class ===== -/
theorem hd_217_215 {N : Nat} {rec_33 : Value → Value → Int32 → Int32 → Int32 → am_H → Option am_O} {x0 : Value} {x1 : Value} {x2 : Int32} {x3 : Int32} {x4 : Int32} {h : am_H} {r_ : Option am_O} (k_ : (rec_33 x0 x1 x2 x3 ((x4 + 1)) h) = r_) : fg_217_215 N rec_33 x0 x1 x2 x3 x4 h = r_ := k_
theorem hd_217_184 {N : Nat} {rec_33 : Value → Value → Int32 → Int32 → Int32 → am_H → Option am_O} {x0 : Value} {x1 : Value} {x2 : Int32} {x3 : Int32} {x4 : Int32} {x5 : Int32} {s0 : Value} {s1 : Int32} {h : am_H} {r_ : Option am_O} (k_ : (if am_pOk 8 s0 h then am_cI true (fm_192 s0 s1 h) (fun v2 h3 => ((am_vR (am_pG 2834 x0 h3)).bind fun v5 => ((am_vR (am_pG 258 x1 h3)).bind fun v7 => (if am_pOk 8 v7 h3 then am_cL true (fm_194 v7 4611686018427387904 h3) (fun v10 h11 => (if am_pOk 11 x0 h11 then am_cI true (fm_190 N x0 x5 ((-1)) v2 v10 h11) (fun v14 h15 => ((am_pS 0 v5 x4 v14 h15).bind fun h17 => (fg_217_215 N rec_33 x0 x1 x2 x3 x4 h17))) else none)) else none)))) else none) = r_) : fg_217_184 N rec_33 x0 x1 x2 x3 x4 x5 s0 s1 h = r_ := k_
theorem hd_217_33 {N : Nat} {K : Nat} {x0 : Value} {x1 : Value} {x2 : Int32} {x3 : Int32} {x4 : Int32} {h : am_H} {r_ : Option am_O} (k_ : ((am_vI (am_pG 256 x1 h)).bind fun v1 => (if v1 ≤ x4 then ((am_vR (am_pG 2834 x0 h)).bind fun v4 => ((am_vR (am_pG 257 x1 h)).bind fun v6 => ((am_vI (am_pG 256 x1 h)).bind fun v8 => ((am_pCpy v4 0 v6 0 v8 h).bind fun h10 => some (.inl (none, h10)))))) else (if x2 ≤ x4 then ((am_vR (am_pG 258 x1 h)).bind fun v13 => (if am_pOk 8 v13 h then am_cI true (fm_192 v13 100 h) (fun v16 h17 => ((am_vR (am_pG 2820 x0 h17)).bind fun v19 => ((am_pA 0 v19 3 h17).bind fun v21 => (if v21 ≤ v16 then ((am_vR (am_pG 2820 x0 h17)).bind fun v24 => ((am_pA 0 v24 4 h17).bind fun v26 => ((am_vR (am_pG 2820 x0 h17)).bind fun v28 => ((am_pA 0 v28 2 h17).bind fun v30 => (if am_pOk 1 x1 h17 then am_cI true (fm_222 N x1 v26 v30 h17) (fun v33 h34 => ((am_vR (am_pG 258 x1 h34)).bind fun v36 => (if ¬ x3 = 0 then (fg_217_184 N (fg_217_33 N K) x0 x1 x2 x3 x4 v33 v36 4 h34) else (fg_217_184 N (fg_217_33 N K) x0 x1 x2 x3 x4 v33 v36 5 h34)))) else none))))) else ((am_vR (am_pG 2820 x0 h17)).bind fun v39 => ((am_pA 0 v39 4 h17).bind fun v41 => ((am_vR (am_pG 2820 x0 h17)).bind fun v43 => ((am_pA 0 v43 2 h17).bind fun v45 => (if am_pOk 1 x1 h17 then am_cI true (fm_222 N x1 v41 v45 h17) (fun v48 h49 => ((am_vR (am_pG 2820 x0 h49)).bind fun v51 => ((am_pA 0 v51 4 h49).bind fun v53 => ((am_vR (am_pG 2820 x0 h49)).bind fun v55 => ((am_pA 0 v55 2 h49).bind fun v57 => (if am_pOk 1 x1 h49 then am_cI true (fm_222 N x1 v53 v57 h49) (fun v60 h61 => ((am_vR (am_pG 2834 x0 h61)).bind fun v63 => ((am_vR (am_pG 258 x1 h61)).bind fun v65 => (if am_pOk 8 v65 h61 then am_cL true (fm_194 v65 4611686018427387904 h61) (fun v68 h69 => (if am_pOk 11 x0 h69 then am_cI true (fm_190 N x0 v48 v60 ((-1)) v68 h69) (fun v72 h73 => ((am_pS 0 v63 x4 v72 h73).bind fun h75 => (fg_217_215 N (fg_217_33 N K) x0 x1 x2 x3 x4 h75))) else none)) else none)))) else none)))))) else none))))))))) else none)) else ((am_vR (am_pG 2834 x0 h)).bind fun v77 => ((am_vR (am_pG 257 x1 h)).bind fun v79 => ((am_vR (am_pG 260 x1 h)).bind fun v81 => ((am_pA 0 v81 x4 h).bind fun v83 => ((am_pA 0 v79 v83 h).bind fun v85 => ((am_pS 0 v77 x4 v85 h).bind fun h87 => (fg_217_215 N (fg_217_33 N K) x0 x1 x2 x3 x4 h87)))))))))) = r_) : fg_217_33 N (K + 1) x0 x1 x2 x3 x4 h = r_ := by rw [fg_217_33]; exact k_
theorem hd_217_0 {N : Nat} {x0 : Value} {x1 : Value} {x2 : Int32} {h : am_H} {r_ : Option am_O} (k_ : ((am_vR (am_pG 2816 x0 h)).bind fun v1 => ((am_vR (am_pG 2819 x0 h)).bind fun v3 => (if am_pOk 1 x1 h then am_cV true (fm_218 N x1 v1 v3 h) (fun h7 => (if am_pOk 1 x1 h7 then am_cV true (fm_220 N x1 h7) (fun h11 => ((am_vR (am_pG 257 x1 h11)).bind fun v13 => ((am_pA 0 v13 0 h11).bind fun v15 => (if am_pOk 11 x0 h11 then am_cR true (fm_63 x0 v15 h11) (fun v18 h19 => ((am_vI (am_pG 769 v18 h19)).bind fun v21 => (fg_217_33 N N x0 x1 x2 v21 0 h19))) else none)))) else none)) else none))) = r_) : fg_217_0 N x0 x1 x2 h = r_ := k_
theorem hm_217 {N : Nat} {y0 : Value} {y1 : Value} {y2 : Int32} {h : am_H} {r_ : Option am_O} (k_ : fg_217_0 N y0 y1 y2 h = r_) : fm_217 N y0 y1 y2 h = r_ := k_

theorem chg_nb {kd ln w : Nat} {P X : xI} {sd : Int64} {nb : Int32} (hg : gdP kd ln P) (h : isChg kd ln P w sd X nb) : nb = -1 ∨ ∃ y, y < 1000000 ∧ nb = nI y := by
  rcases h with ⟨-, -, rfl, -⟩ | ⟨w3, ⟨-, -, rfl⟩ | ⟨m, y, d, em, m0, ey, dl, dq, dc, rfl⟩⟩
  · exact .inl rfl
  · exact .inl rfl
  · refine .inr ⟨y, ?_, rfl⟩
    have ym : y < m := by rw [ey]; exact Nat.mod_lt _ m0
    have := ncE_b hg w3
    have := cnt_m (cdE kd ln P w) (ncE kd ln P.length w) 0
    omega
theorem chg_ped {n b kd ln w : Nat} {P X : xI} {sd : Int64} {nb : Int32} (hg : gdP kd ln P) (hb : b < n) (hn : n ≤ 600) (hw : w < 5) (h : isChg kd ln P w sd X nb) : ped n 3 (nI b) (-1) (nI w) nb := ⟨3, by decide, rfl, .inr ⟨b, hb, rfl⟩, .inl rfl, fun _ => nI_nm1 (by omega), fun h => absurd h (by decide), fun _ => ⟨rfl, w, by omega, rfl⟩, chg_nb hg h⟩
theorem chg_gen {I : Nat → Nat → Int32} {n b kd ln w : Nat} {P X : xI} {sd : Int64} {nb : Int32} (hg : gdP kd ln P) (hb : b < n) (hn : n ≤ 600) (hp : rPr I b kd ln P) (hpp : P = prgI I b P.length) (h : isChg kd ln P w sd X nb) : gen1 I n 3 (nI b) (-1) (nI w) nb := by
  obtain ⟨q1, q2, q3, q6⟩ := hp
  rcases h with ⟨rfl, rfl, rfl, -⟩ | ⟨w3, ⟨-, -, rfl⟩ | ⟨m, y, d, em, m0, ey, dl, dq, dc, rfl⟩⟩
  · exact ⟨fun _ _ => ⟨b, hb, rfl, q1⟩, fun e => absurd e (by decide), fun _ w' j' hw' hj' _ e2 => absurd e2 (nI_m1d hj'), fun e => absurd e (by decide)⟩
  · exact ⟨fun _ e => absurd ((nI_eq (b := 4) (by omega) (by omega)).mp e) (by omega), fun e => absurd e (by decide), fun _ w' j' hw' hj' _ e2 => absurd e2 (nI_m1d hj'), fun e => absurd e (by decide)⟩
  · have ym : y < m := by rw [ey]; exact Nat.mod_lt _ m0
    have := ncE_b hg w3
    have := cnt_m (cdE kd ln P w) (ncE kd ln P.length w) 0
    exact gen_3 hb hn w3 (by omega) hg q1 q2 q3 hpp (by rw [← em]; exact ym)
theorem crs_nb {kd ln ln' : Nat} {P Q X : xI} {sd : Int64} {nb : Int32} (hg : gdP kd ln P) (hgq : gdP kd ln' Q) (h : isCrs kd ln ln' P Q sd X nb) : nb = -1 ∨ ∃ y, y < 1000000 ∧ nb = nI y := by
  rcases h with ⟨-, -, rfl⟩ | ⟨rfl, m, y, d, em, m0, ey, dl, dq, dc, rfl⟩
  · exact .inl rfl
  · refine .inr ⟨y, ?_, rfl⟩
    have ym : y < m := by rw [ey]; exact Nat.mod_lt _ m0
    have := ncP_b hg hgq
    have := cnt_m (cdP kd P Q) (ncP kd ln ln P.length Q.length) 0
    omega
theorem crs_gen {I : Nat → Nat → Int32} {n b c kd ln ln' : Nat} {P Q X : xI} {sd : Int64} {nb : Int32} (hg : gdP kd ln P) (hgq : gdP kd ln' Q) (hb : b < n) (hc : c < n) (hn : n ≤ 600) (hp : rPr I b kd ln P) (hpp : P = prgI I b P.length) (hq : rPr I c kd ln' Q) (hqq : Q = prgI I c Q.length) (h : isCrs kd ln ln' P Q sd X nb) : gen1 I n 4 (nI b) (nI c) (-1) nb := by
  obtain ⟨q1, q2, q3, q6⟩ := hp
  obtain ⟨r1, r2, r3, r6⟩ := hq
  rcases h with ⟨-, -, rfl⟩ | ⟨rfl, m, y, d, em, m0, ey, dl, dq, dc, rfl⟩
  · exact ⟨fun e => absurd e (by decide), fun _ => ⟨b, c, hb, hc, rfl, rfl, q1.trans r1.symm⟩, fun e => absurd e (by decide), fun _ y hy e => absurd e (nI_m1d hy)⟩
  · have ym : y < m := by rw [ey]; exact Nat.mod_lt _ m0
    have := ncP_b hg hgq
    have := cnt_m (cdP kd P Q) (ncP kd ln ln P.length Q.length) 0
    exact gen_4 hb hc hn hg hgq q1 q2 q3 hpp r1 r2 r3 hqq (fun y' hy' e => by
      have := (nI_eq (by omega) (by omega)).mp e
      rw [← em]
      omega)
/-- a child: who its parents are and how it is made -/
def chS (ch T c s r3 kd : Nat) (E : Nat → Nat → Nat) (bt : Nat → Nat → Bool) (fr : Nat → Bool) (bm : Nat → Nat) (n : Nat) (I : Nat → Nat → Int32) (st : Int64) (ln : Nat) (X : xI) (x1 x2 x3 x4 x5 : Int32) (x6 st' : Int64) : Prop :=
  (r3 ≤ drw st 100 ∧ ∃ b w P st2, b = bm (chF ch T c s E bt fr (nxt st)).1 ∧ st2 = (chF ch T c s E bt fr (nxt st)).2 ∧ b < n ∧ rPr I b kd ln P ∧ gdP kd ln P ∧ w = drw st2 (if kd = 0 then 5 else 4) ∧ x6 = lN (2147483648 * hlf (nxt (nxt st2)) + hlf (nxt (nxt (nxt st2)))) ∧ st' = nxt (nxt (nxt st2)) ∧ isChg kd ln P w x6 X x5 ∧ x1 = 3 ∧ x2 = nI b ∧ x3 = -1 ∧ x4 = nI w)
  ∨ (drw st 100 < r3 ∧ ∃ b b' ln' P Q st2 st3, b = bm (chF ch T c s E bt fr (nxt st)).1 ∧ st2 = (chF ch T c s E bt fr (nxt st)).2 ∧ b' = bm (chF ch T c s E bt fr st2).1 ∧ st3 = (chF ch T c s E bt fr st2).2 ∧ b < n ∧ b' < n ∧ rPr I b kd ln P ∧ gdP kd ln P ∧ rPr I b' kd ln' Q ∧ gdP kd ln' Q ∧ x6 = lN (2147483648 * hlf (nxt st3) + hlf (nxt (nxt st3))) ∧ st' = nxt (nxt st3) ∧ isCrs kd ln ln' P Q x6 X x5 ∧ x1 = 4 ∧ x2 = nI b ∧ x3 = nI b' ∧ x4 = -1)
/-- what the class has looked up -/
def isK (i c s : Nat) (bm cm zm : Nat → Nat) (E : Nat → Nat → Nat) (V : Nat → Nat → Value) (I : Nat → Nat → Int32) (L : Nat → Nat → Int64) : Prop := V (40 + 9 * i) 0 = .int (nI c) ∧ V (40 + 9 * i) 3 = .int (nI s) ∧ (∀ x, x < c → I (41 + 9 * i) x = nI (bm x)) ∧ (∀ x, x < c → L (44 + 9 * i) x = lN (cm x)) ∧ (∀ x, x < c → I (45 + 9 * i) x = nI (zm x)) ∧ ∀ x, x < c → ∀ r, r < s → I (46 + 9 * i) (24 * x + r) = nI (E x r)
/-- what a child's making leaves in the class -/
def frS (i : Nat) (V W : Nat → Nat → Value) (I J : Nat → Nat → Int32) : Prop := (∀ a j, (a < 76 ∨ 117 < a) → a ≠ 173 → a ≠ 42 + 9 * i → ¬ (a = 0 ∧ j = 1) → W a j = V a j) ∧ (∀ y, (y < 76 ∨ 117 < y) → y ≠ 48 + 9 * i → y ≠ 172 → J y = I y) ∧ (wt V → wt W)
theorem frS_r {i : Nat} {V : Nat → Nat → Value} {I : Nat → Nat → Int32} : frS i V V I I := ⟨fun _ _ _ _ _ _ => rfl, fun _ _ _ _ => rfl, id⟩
theorem frS_t {i : Nat} {U V W : Nat → Nat → Value} {G I J : Nat → Nat → Int32} (f : frS i U V G I) (g : frS i V W I J) : frS i U W G J := ⟨fun a j h1 h2 h3 h4 => (g.1 a j h1 h2 h3 h4).trans (f.1 a j h1 h2 h3 h4), fun y h1 h2 h3 => (g.2.1 y h1 h2 h3).trans (f.2.1 y h1 h2 h3), fun h => g.2.2 (f.2.2 h)⟩
theorem frS_I {i : Nat} {V W : Nat → Nat → Value} {I J : Nat → Nat → Int32} (f : frIs V W I J) : frS i V W I J := ⟨fun a j h1 h2 _ _ => f.1 a j h1 h2, fun y h1 _ _ => f.2.1 y h1, f.2.2⟩
theorem wt_42 {i : Nat} {V : Nat → Nat → Value} {x : Int64} (hi : i < 4) (w : wt V) : wt (vup V (42 + 9 * i) 0 (.long x)) := wt_lg w (by rcases (by omega : i = 0 ∨ i = 1 ∨ i = 2 ∨ i = 3) with rfl | rfl | rfl | rfl <;> decide)
theorem frS_42 {i : Nat} {V : Nat → Nat → Value} {I : Nat → Nat → Int32} {x : Int64} (hi : i < 4) : frS i V (vup V (42 + 9 * i) 0 (.long x)) I I := ⟨fun a j _ _ h _ => vup_na h, fun _ _ _ _ => rfl, wt_42 hi⟩
theorem frS_n {i : Nat} {V : Nat → Nat → Value} {I : Nat → Nat → Int32} {x : Int32} : frS i V (vup V 0 1 (.int x)) I I := ⟨fun a j _ _ _ h => vup_o h, fun _ _ _ _ => rfl, fun w => wt_i w (by decide)⟩
theorem frS_48 {i : Nat} {V : Nat → Nat → Value} {I : Nat → Nat → Int32} {F : Nat → Int32} : frS i V V I (iup I (48 + 9 * i) F) := ⟨fun _ _ _ _ _ _ => rfl, fun _ _ h _ => iup_na h, id⟩
theorem frS_172 {i : Nat} {V : Nat → Nat → Value} {I : Nat → Nat → Int32} {F : Nat → Int32} : frS i V V I (iup I 172 F) := ⟨fun _ _ _ _ _ _ => rfl, fun _ _ _ h => iup_na h, id⟩
theorem isK_S {i c s : Nat} {bm cm zm : Nat → Nat} {E : Nat → Nat → Nat} {V W : Nat → Nat → Value} {I J : Nat → Nat → Int32} {L : Nat → Nat → Int64} (hi : i < 4) (h : isK i c s bm cm zm E V I L) (f : frS i V W I J) : isK i c s bm cm zm E W J L := by
  obtain ⟨h0, h3, h41, h44, h45, h46⟩ := h
  refine ⟨(f.1 _ _ (by omega) (by omega) (by omega) (by omega)).trans h0, (f.1 _ _ (by omega) (by omega) (by omega) (by omega)).trans h3, ?_, h44, ?_, ?_⟩
  · rw [f.2.1 (41 + 9 * i) (by omega) (by omega) (by omega)]; exact h41
  · rw [f.2.1 (45 + 9 * i) (by omega) (by omega) (by omega)]; exact h45
  · rw [f.2.1 (46 + 9 * i) (by omega) (by omega) (by omega)]; exact h46
set_option maxRecDepth 100000 in
set_option maxHeartbeats 4000000 in
theorem c_chs {V : Nat → Nat → Value} {I : Nat → Nat → Int32} {L : Nat → Nat → Int64} {R : Nat → Nat → Option Nat} {tl : am_H} {N i c s T ch : Nat} {st : Int64} {bm cm zm : Nat → Nat} {E : Nat → Nat → Nat} (hN : 200 < N) (hi : i < 4) (hc : c ≤ 16) (c1 : 1 ≤ c) (hs : s ≤ 24) (hT : T ≤ 100) (T1 : 1 ≤ T) (hch : ch < 3) (hK : isK i c s bm cm zm E V I L) (h42 : V (42 + 9 * i) 0 = .long st) (hE : ∀ x r, E x r ≤ 2000000) (hb : ∀ x, x < c → cm x < 2 ^ 60 ∧ zm x < 2 ^ 31 ∧ bm x < 2 ^ 31) : ∃ F, fm_222 N (.ref (40 + 9 * i)) (nI ch) (nI T) (fx V I L R ++ tl) = some (.inl (some (.int (nI (bm (chF ch T c s E (btr cm zm bm) (frB cm zm c) st).1))), fx (vup V (42 + 9 * i) 0 (.long (chF ch T c s E (btr cm zm bm) (frB cm zm c) st).2)) (iup I (48 + 9 * i) F) L R ++ tl)) := by
  obtain ⟨h0, h3, h41, h44, h45, h46⟩ := hK
  exact c_222 hN hi hc c1 hs hT T1 hch h0 h3 h42 h41 h46 hE (frB_ex c1) (fun V p q hp hq => c_221 hi hc hp hq h44 h45 h41 hb) (fun V p hv hp => by
    unfold fm_228 fg_228_0
    exact c_228l hi hc hp hv h44 h45 (fun x hx => ⟨(hb x hx).1, (hb x hx).2.1⟩) c 0 N (by omega) (by omega))
set_option maxRecDepth 100000 in
set_option maxHeartbeats 4000000 in
theorem c_child {V : Nat → Nat → Value} {I : Nat → Nat → Int32} {L : Nat → Nat → Int64} {R : Nat → Nat → Option Nat} {tl : am_H} {N n p i c s T ch r3 e k K kd : Nat} {st : Int64} {bm cm zm : Nat → Nat} {E : Nat → Nat → Nat} {Vg : Nat → Nat → Value} {Ig : Nat → Nat → Int32} {Lg : Nat → Nat → Int64} {bt : Nat → Nat → Bool} {fr : Nat → Bool} (ebt : bt = btr cm zm bm) (efr : fr = frB cm zm c) (hN : 5000 < N) (hi : i < 4) (hc : c ≤ 16) (c1 : 1 ≤ c) (hs : s ≤ 24) (hT : T ≤ 100) (T1 : 1 ≤ T) (hch : ch < 3) (hE : ∀ x r, E x r ≤ 2000000) (hb : ∀ x, x < c → cm x < 2 ^ 60 ∧ zm x < 2 ^ 31 ∧ bm x < n) (hn : n < 600) (hk : k < c) (he : e ≤ k) (r100 : r3 ≤ 100) (hK : isK i c s bm cm zm E V I L) (h42 : V (42 + 9 * i) 0 = .long st) (t2 : I 38 2 = nI T) (t3 : I 38 3 = nI r3) (t4 : I 38 4 = nI ch) (b2 : V 0 1 = .int (nI n)) (hw : wt V) (l7 : L 77 = tW) (l8 : L 78 = tT) (hr : rel Vg Ig Lg R tl n p) (hkd : ∀ x, x < c → Ig 175 (bm x) = nI kd) (k3 : kd ≤ 3) : ∃ W J ln X x1 x2 x3 x4 x5 x6 st' f, fg_217_33 N (K + 1) (.ref 0) (.ref (40 + 9 * i)) (nI e) (nI kd) (nI k) (fx V I L R ++ tl) = fg_217_33 N K (.ref 0) (.ref (40 + 9 * i)) (nI e) (nI kd) (nI (k + 1)) (fx W J L (rup R 1 (va_up (R 1) n (some (269 + tl.length)))) ++ (tl ++ brt tl.length kd ln X.length x1 x2 x3 x4 x5 x6 f)) ∧ chS ch T c s r3 kd E bt fr bm n Ig st ln X x1 x2 x3 x4 x5 x6 st' ∧ gdP kd ln X ∧ itm kd (srt X) (vlu X) X.length f ∧ ped n x1 x2 x3 x4 x5 ∧ gen1 Ig n x1 x2 x3 x4 x5 ∧ W 0 1 = .int (nI (n + 1)) ∧ W (42 + 9 * i) 0 = .long st' ∧ J 172 = upd (I 172) k (nI n) ∧ frS i V W I J := by
  have hb' : ∀ x, x < c → cm x < 2 ^ 60 ∧ zm x < 2 ^ 31 ∧ bm x < 2 ^ 31 := fun x hx => by have := hb x hx; omega
  have lt := fun st => chF_lt (ch := ch) (T := T) (s := s) (bt := bt) (fr := fr) (st := st) hc c1 hE (by rw [efr]; exact frB_ex c1)
  obtain ⟨d, ed⟩ : ∃ d, d = drw st 100 := ⟨_, rfl⟩
  have d100 : d < 100 := by rw [ed]; exact drw_lt (by decide)
  have e0 := y_192i (V := V) (I := I) (L := L) (R := R) (tl := tl) (k := 100) hi h42 (by omega) (by omega)
  rw [show hlf (nxt st) % 100 = drw st 100 from rfl, ← ed] at e0
  obtain ⟨S, eS⟩ : ∃ S : Int64 → Nat → Nat → Value, S = fun x => vup V (42 + 9 * i) 0 (.long x) := ⟨_, rfl⟩
  have S42 : ∀ x, S x (42 + 9 * i) 0 = .long x := fun x => by rw [eS]; exact vup_eq
  have S2 : ∀ x y, vup (S x) (42 + 9 * i) 0 (.long y) = S y := fun x y => by rw [eS]; exact vup_2
  have Sf : ∀ (x : Int64) (J : Nat → Nat → Int32), frS i V (S x) J J := fun x J => by rw [eS]; exact frS_42 hi
  have S0 : vup V (42 + 9 * i) 0 (.long (nxt st)) = S (nxt st) := by rw [eS]
  rw [S0] at e0
  obtain ⟨F, e1⟩ := c_chs (V := S (nxt st)) (I := I) (L := L) (R := R) (tl := tl) (N := N) (T := T) (ch := ch) (by omega) hi hc c1 hs hT T1 hch (isK_S hi hK (Sf (nxt st) I)) (S42 _) hE hb'
  rw [S2, ← ebt, ← efr] at e1
  obtain ⟨y1, ey1⟩ : ∃ y, y = (chF ch T c s E bt fr (nxt st)).1 := ⟨_, rfl⟩
  obtain ⟨st2, es2⟩ : ∃ y, y = (chF ch T c s E bt fr (nxt st)).2 := ⟨_, rfl⟩
  have ly1 : y1 < c := by rw [ey1]; exact lt _
  rw [← ey1, ← es2] at e1
  obtain ⟨I1, eI1⟩ : ∃ X, X = iup I (48 + 9 * i) F := ⟨_, rfl⟩
  rw [← eI1] at e1
  have f1 : frS i V (S st2) I I1 := by rw [eI1]; exact frS_t (Sf st2 I) frS_48
  have hb1 := (hb y1 ly1).2.2
  obtain ⟨ln, P, a, it, hg, hp, q4, q5, hpp⟩ := bth_F hr hb1 (hkd y1 ly1) (by omega)
  -- the birth is put down
  have fin : ∀ (W0 : Nat → Nat → Value) (J0 J1 : Nat → Nat → Int32) (st' : Int64) (R' : Nat → Nat → Option Nat) (t' : am_H), frIs (S st') W0 J1 J0 → frS i V (S st') I J1 → J1 172 = I 172 → ∃ W J, am_pS 0 (.ref 172) (nI k) (nI n) (fx (vup W0 0 1 (.int (nI (n + 1)))) J0 L R' ++ t') = some (fx W J L R' ++ t') ∧ W 0 1 = .int (nI (n + 1)) ∧ W (42 + 9 * i) 0 = .long st' ∧ J 172 = upd (I 172) k (nI n) ∧ frS i V W I J := fun W0 J0 J1 st' R' t' f0 f1 h172 => by
    refine ⟨vup W0 0 1 (.int (nI (n + 1))), iup J0 172 (upd (J0 172) k (nI n)), qs_172 (by omega), vup_eq, ?_, ?_, frS_t f1 (frS_t (frS_I f0) (frS_t frS_n frS_172))⟩
    · rw [vup_na (by omega), f0.1 _ _ (by omega) (by omega)]
      exact S42 st'
    · rw [iup_eq, f0.2.1 172 (by omega), h172]
  have kc : ¬ nI c ≤ nI k := nI_ge (by omega) (by omega)
  have ke : nI e ≤ nI k := nI_le he (by omega)
  have g2 : am_pA 0 (.ref 38) 2 (fx (S (nxt st)) I L R ++ tl) = some (nI T) := (qa_38 (k := 2) (by omega)).trans (congrArg some t2)
  have g3 : am_pA 0 (.ref 38) 3 (fx (S (nxt st)) I L R ++ tl) = some (nI r3) := (qa_38 (k := 3) (by omega)).trans (congrArg some t3)
  have g4 : am_pA 0 (.ref 38) 4 (fx (S (nxt st)) I L R ++ tl) = some (nI ch) := (qa_38 (k := 4) (by omega)).trans (congrArg some t4)
  by_cases z : r3 ≤ d
  · -- a change
    obtain ⟨m, em⟩ : ∃ m, m = (if kd = 0 then 5 else 4) := ⟨_, rfl⟩
    have m5 : 4 ≤ m ∧ m ≤ 5 := by rw [em]; split <;> omega
    obtain ⟨w, ew⟩ : ∃ w, w = drw st2 m := ⟨_, rfl⟩
    have wm : w < m := by rw [ew]; exact drw_lt (by omega)
    have w4 : w = 4 → kd = 0 := fun u => by
      by_cases q : kd = 0
      · exact q
      · rw [if_neg q] at em
        omega
    have e2 := y_192i (V := S st2) (I := I1) (L := L) (R := R) (tl := tl) (k := m) hi (S42 _) (by omega) (by omega)
    rw [show hlf (nxt st2) % m = drw st2 m from rfl, ← ew, S2] at e2
    have e3 := y_194w (V := S (nxt st2)) (I := I1) (L := L) (R := R) (tl := tl) hi (S42 _)
    rw [S2] at e3
    obtain ⟨st', es'⟩ : ∃ y, y = nxt (nxt (nxt st2)) := ⟨_, rfl⟩
    obtain ⟨sd, esd⟩ : ∃ y, y = lN (2147483648 * hlf (nxt (nxt st2)) + hlf (nxt (nxt (nxt st2)))) := ⟨_, rfl⟩
    rw [← esd, ← es'] at e3
    have fs : frS i V (S st') I I1 := by rw [eI1]; exact frS_t (Sf st' I) frS_48
    obtain ⟨W0, J0, X, nb, f, e4, hC, gX, hf, f0⟩ := c190 (V := S st') (I := I1) (L := L) (R := R) (tl := tl) (N := N) (sd := sd) (w := w) hN (by rw [eS]; exact (vup_na (by omega)).trans b2) hn hb1 (fs.2.2 hw) hg q4 q5 l7 l8 (by omega) w4
    obtain ⟨W, J, e5, u1, u2, u3, u4⟩ := fin W0 J0 I1 st' (rup R 1 (va_up (R 1) n (some (269 + tl.length)))) (tl ++ brt tl.length kd ln X.length 3 (nI (bm y1)) (-1) (nI w) nb sd f) f0 fs (by rw [eI1]; exact iup_na (by omega))
    refine ⟨W, J, ln, X, 3, nI (bm y1), -1, nI w, nb, sd, st', f, ?_, .inl ⟨by rw [← ed]; exact z, bm y1, w, P, st2, by rw [ey1], es2, hb1, hp, hg, by rw [← em]; exact ew, esd, es', hC, rfl, rfl, rfl, rfl⟩, gX, hf, chg_ped hg hb1 (by omega) (by omega) hC, chg_gen hg hb1 (by omega) hp hpp hC, u1, u2, u3, u4⟩
    have last : ∀ m', m' = m → fg_217_184 N (fg_217_33 N K) (.ref 0) (.ref (40 + 9 * i)) (nI e) (nI kd) (nI k) (nI (bm y1)) (.ref (42 + 9 * i)) (nI m') (fx (S st2) I1 L R ++ tl) = fg_217_33 N K (.ref 0) (.ref (40 + 9 * i)) (nI e) (nI kd) (nI (k + 1)) (fx W J L (rup R 1 (va_up (R 1) n (some (269 + tl.length)))) ++ (tl ++ brt tl.length kd ln X.length 3 (nI (bm y1)) (-1) (nI w) nb sd f)) := fun m' hm => by
      subst hm
      apply hd_217_184
      refine ev_i (yo_8 hi) (ev_cI e2 (ev_b (rdR rfl) (ev_b (ir_2 hi) (ev_i (yo_8 hi) (ev_cL e3 (ev_i rfl (ev_cI e4 (ev_b e5 ?_))))))))
      apply hd_217_215
      rw [nI_1]
    apply hd_217_33
    refine ev_b (iv_0 hi hK.1) (ev_f kc (ev_t ke (ev_b (ir_2 hi) (ev_i (yo_8 hi) (ev_cI e0 (ev_b (rdR rfl) (ev_b g3 (ev_t (nI_le z (by omega)) (ev_b (rdR rfl) (ev_b g4 (ev_b (rdR rfl) (ev_b g2 (ev_i (io_1 hi) (ev_cI e1 (ev_b (ir_2 hi) ?_)))))))))))))))
    by_cases q : kd = 0
    · exact ev_f (fun u => u (by rw [q]; rfl)) (last 5 (by rw [em, if_pos q]))
    · exact ev_t (fun u => q ((nI_eq (b := 0) (by omega) (by omega)).mp u)) (last 4 (by rw [em, if_neg q]))
  · -- a cross
    obtain ⟨F2, e2⟩ := c_chs (V := S st2) (I := I1) (L := L) (R := R) (tl := tl) (N := N) (T := T) (ch := ch) (by omega) hi hc c1 hs hT T1 hch (isK_S hi hK f1) (S42 _) hE hb'
    rw [S2, ← ebt, ← efr] at e2
    obtain ⟨y2, ey2⟩ : ∃ y, y = (chF ch T c s E bt fr st2).1 := ⟨_, rfl⟩
    obtain ⟨st3, es3⟩ : ∃ y, y = (chF ch T c s E bt fr st2).2 := ⟨_, rfl⟩
    have ly2 : y2 < c := by rw [ey2]; exact lt _
    rw [← ey2, ← es3] at e2
    obtain ⟨I2, eI2⟩ : ∃ X, X = iup I1 (48 + 9 * i) F2 := ⟨_, rfl⟩
    rw [← eI2] at e2
    have hb2 := (hb y2 ly2).2.2
    obtain ⟨ln', Q, a', it', hgq, hq, r4, r5, hqq⟩ := bth_F hr hb2 (hkd y2 ly2) (by omega)
    have e3 := y_194w (V := S st3) (I := I2) (L := L) (R := R) (tl := tl) hi (S42 _)
    rw [S2] at e3
    obtain ⟨st', es'⟩ : ∃ y, y = nxt (nxt st3) := ⟨_, rfl⟩
    obtain ⟨sd, esd⟩ : ∃ y, y = lN (2147483648 * hlf (nxt st3) + hlf (nxt (nxt st3))) := ⟨_, rfl⟩
    rw [← esd, ← es'] at e3
    have fs : frS i V (S st') I I2 := by rw [eI2, eI1]; exact frS_t (Sf st' I) (frS_t frS_48 frS_48)
    obtain ⟨W0, J0, X, nb, f, e4, hC, gX, hf, f0⟩ := c190x (V := S st') (I := I2) (L := L) (R := R) (tl := tl) (N := N) (sd := sd) hN (by rw [eS]; exact (vup_na (by omega)).trans b2) hn hb1 hb2 (fs.2.2 hw) hg hgq q4 q5 r4 r5
    obtain ⟨W, J, e5, u1, u2, u3, u4⟩ := fin W0 J0 I2 st' (rup R 1 (va_up (R 1) n (some (269 + tl.length)))) (tl ++ brt tl.length kd ln X.length 4 (nI (bm y1)) (nI (bm y2)) (-1) nb sd f) f0 fs (by rw [eI2, iup_na (by omega), eI1]; exact iup_na (by omega))
    refine ⟨W, J, ln, X, 4, nI (bm y1), nI (bm y2), -1, nb, sd, st', f, ?_, .inr ⟨by rw [← ed]; omega, bm y1, bm y2, ln', P, Q, st2, st3, by rw [ey1], es2, by rw [ey2], es3, hb1, hb2, hp, hg, hq, hgq, esd, es', hC, rfl, rfl, rfl, rfl⟩, gX, hf, ped_4 hb1 hb2 (by omega) (crs_nb hg hgq hC), crs_gen hg hgq hb1 hb2 (by omega) hp hpp hq hqq hC, u1, u2, u3, u4⟩
    have g2' : am_pA 0 (.ref 38) 2 (fx (S st2) I1 L R ++ tl) = some (nI T) := (qa_38 (k := 2) (by omega)).trans (congrArg some (by rw [eI1, iup_na (by omega)]; exact t2))
    have g4' : am_pA 0 (.ref 38) 4 (fx (S st2) I1 L R ++ tl) = some (nI ch) := (qa_38 (k := 4) (by omega)).trans (congrArg some (by rw [eI1, iup_na (by omega)]; exact t4))
    apply hd_217_33
    refine ev_b (iv_0 hi hK.1) (ev_f kc (ev_t ke (ev_b (ir_2 hi) (ev_i (yo_8 hi) (ev_cI e0 (ev_b (rdR rfl) (ev_b g3 (ev_f (nI_ge (by omega) (by omega)) (ev_b (rdR rfl) (ev_b g4 (ev_b (rdR rfl) (ev_b g2 (ev_i (io_1 hi) (ev_cI e1 (ev_b (rdR rfl) (ev_b g4' (ev_b (rdR rfl) (ev_b g2' (ev_i (io_1 hi) (ev_cI e2 (ev_b (rdR rfl) (ev_b (ir_2 hi) (ev_i (yo_8 hi) (ev_cL e3 (ev_i rfl (ev_cI e4 (ev_b e5 ?_)))))))))))))))))))))))))))
    apply hd_217_215
    rw [nI_1]
