/-! ===== cross(a, b, seed) ===== -/
theorem hd_190_138 {N : Nat} {x1 : Int32} {x2 : Int32} {x3 : Int32} {x4 : Int64} {x7 : Int32} {s0 : Value} {s1 : Value} {s2 : Int32} {h : am_H} {r_ : Option am_O} (k_ : (if am_pOk 11 s0 h then am_cI true (fm_59 s0 s1 s2 x1 x2 x3 x7 x4 h) (fun v2 h3 => some (.inl (some (.int v2), h3))) else none) = r_) : fg_190_138 N x1 x2 x3 x4 x7 s0 s1 s2 h = r_ := k_
theorem hd_190_121 {N : Nat} {x0 : Value} {x1 : Int32} {x2 : Int32} {x3 : Int32} {x4 : Int64} {x7 : Int32} {h : am_H} {r_ : Option am_O} (k_ : ((am_vR (am_pG 2823 x0 h)).bind fun v1 => ((am_vR (am_pG 0 v1 h)).bind fun v3 => (if 0 ≤ x2 then (fg_190_138 N x1 x2 x3 x4 x7 x0 v3 4 h) else (fg_190_138 N x1 x2 x3 x4 x7 x0 v3 3 h)))) = r_) : fg_190_121 N x0 x1 x2 x3 x4 x7 h = r_ := k_
theorem hd_190_95 {N : Nat} {x0 : Value} {x1 : Int32} {x2 : Int32} {x3 : Int32} {x4 : Int64} {x6 : Value} {s0 : Int32} {h : am_H} {r_ : Option am_O} (k_ : ((am_vR (am_pG 2823 x0 h)).bind fun v1 => (if am_pOk 0 v1 h then am_cI true (fm_187 N v1 s0 h) (fun v4 h5 => (if ¬ v4 = 0 then (fg_190_121 N x0 x1 x2 x3 x4 s0 h5) else ((am_vR (am_pG 2823 x0 h5)).bind fun v8 => ((am_vR (am_pG 0 v8 h5)).bind fun v10 => (if am_pOk 3 v10 h5 then am_cV true (fm_60 v10 x6 h5) (fun h14 => (fg_190_121 N x0 x1 x2 x3 x4 s0 h14)) else none))))) else none)) = r_) : fg_190_95 N x0 x1 x2 x3 x4 x6 s0 h = r_ := k_
theorem hd_190_63 {N : Nat} {x0 : Value} {x1 : Int32} {x2 : Int32} {x3 : Int32} {x4 : Int64} {x6 : Value} {s0 : Value} {s1 : Value} {s2 : Value} {h : am_H} {r_ : Option am_O} (k_ : (if am_pOk 0 s0 h then am_cI true (fm_159 N s0 s1 s2 x3 h) (fun v2 h3 => ((am_vR (am_pG 2823 x0 h3)).bind fun v5 => (if am_pOk 0 v5 h3 then am_cI true (fm_162 N v5 h3) (fun v8 h9 => (if v8 ≤ 0 then (fg_190_95 N x0 x1 x2 x3 x4 x6 ((-1)) h9) else ((am_vR (am_pG 2835 x0 h9)).bind fun v12 => (if am_pOk 8 v12 h9 then am_cI true (fm_192 v12 v8 h9) (fun v15 h16 => (fg_190_95 N x0 x1 x2 x3 x4 x6 v15 h16)) else none)))) else none))) else none) = r_) : fg_190_63 N x0 x1 x2 x3 x4 x6 s0 s1 s2 h = r_ := k_
theorem hd_190_0 {N : Nat} {x0 : Value} {x1 : Int32} {x2 : Int32} {x3 : Int32} {x4 : Int64} {h : am_H} {r_ : Option am_O} (k_ : (if am_pOk 11 x0 h then am_cR true (fm_63 x0 x1 h) (fun v2 h3 => ((am_vR (am_pG 2835 x0 h3)).bind fun v5 => ((am_pP 2048 v5 (.long x4) h3).bind fun h7 => (if ¬ x3 = 4 then ((am_vR (am_pG 2823 x0 h7)).bind fun v10 => (if 0 ≤ x2 then (if am_pOk 11 x0 h7 then am_cR true (fm_63 x0 x2 h7) (fun v14 h15 => (fg_190_63 N x0 x1 x2 x3 x4 v2 v10 v2 v14 h15)) else none) else (fg_190_63 N x0 x1 x2 x3 x4 v2 v10 v2 Value.null h7))) else ((am_vR (am_pG 2823 x0 h7)).bind fun v17 => ((am_vR (am_pG 2835 x0 h7)).bind fun v19 => ((am_vR (am_pG 2822 x0 h7)).bind fun v21 => (if am_pOk 0 v17 h7 then am_cV true (fm_191 N v17 v2 v19 v21 h7) (fun h25 => (fg_190_121 N x0 x1 x2 x3 x4 ((-1)) h25)) else none)))))))) else none) = r_) : fg_190_0 N x0 x1 x2 x3 x4 h = r_ := k_
theorem hm_190 {N : Nat} {y0 : Value} {y1 : Int32} {y2 : Int32} {y3 : Int32} {y4 : Int64} {h : am_H} {r_ : Option am_O} (k_ : fg_190_0 N y0 y1 y2 y3 y4 h = r_) : fm_190 N y0 y1 y2 y3 y4 h = r_ := k_
theorem hd_198_0 {N : Nat} {x0 : Value} {x1 : Int32} {x2 : Int32} {x3 : Int64} {h : am_H} {r_ : Option am_O} (k_ : (if am_pOk 11 x0 h then am_cR true (fm_63 x0 x1 h) (fun v2 h3 => ((am_vI (am_pG 769 v2 h3)).bind fun v5 => (if am_pOk 11 x0 h3 then am_cR true (fm_63 x0 x2 h3) (fun v8 h9 => ((am_vI (am_pG 769 v8 h9)).bind fun v11 => (if v5 = v11 then (if am_pOk 11 x0 h9 then am_cV true (fm_32 x0 1 h9) (fun h16 => (if am_pOk 11 x0 h16 then am_cI true (fm_190 N x0 x1 x2 ((-1)) x3 h16) (fun v19 h20 => some (.inl (some (.int v19), h20))) else none)) else none) else some (.inr (0, h9 ++ [am_dummy]))))) else none))) else none) = r_) : fg_198_0 N x0 x1 x2 x3 h = r_ := k_
theorem hm_198 {N : Nat} {y0 : Value} {y1 : Int32} {y2 : Int32} {y3 : Int64} {h : am_H} {r_ : Option am_O} (k_ : fg_198_0 N y0 y1 y2 y3 h = r_) : fm_198 N y0 y1 y2 y3 h = r_ := k_
theorem hd_486_55 {N : Nat} {x0 : Value} {x1 : Int32} {x2 : Int32} {x3 : Int64} {s0 : Value} {s1 : Int32} {h : am_H} {r_ : Option am_O} (k_ : ((am_pP 3072 s0 (.int s1) h).bind fun h1 => ((am_vI (am_pG 3072 x0 h1)).bind fun v3 => (if v3 ≤ 0 then (if am_pOk 12 x0 h1 then am_cV true (fm_487 N x0 x1 x2 x3 h1) (fun h8 => ((am_vI (am_pG 3169 x0 h8)).bind fun v10 => (if am_pOk 12 x0 h8 then am_cI true (fm_356 N x0 4 x1 x2 ((-1)) v10 x3 h8) (fun v13 h14 => some (.inl (some (.int v13), h14))) else none))) else none) else some (.inl (some (.int 0), h1))))) = r_) : fg_486_55 N x0 x1 x2 x3 s0 s1 h = r_ := k_
theorem hd_486_17 {N : Nat} {x0 : Value} {x1 : Int32} {x2 : Int32} {x3 : Int64} {s0 : Value} {h : am_H} {r_ : Option am_O} (k_ : (fg_486_55 N x0 x1 x2 x3 s0 1 h) = r_) : fg_486_17 N x0 x1 x2 x3 s0 h = r_ := k_
theorem hd_486_0 {N : Nat} {x0 : Value} {x1 : Int32} {x2 : Int32} {x3 : Int64} {h : am_H} {r_ : Option am_O} (k_ : (if am_pOk 12 x0 h then am_cI true (fm_358 x0 x1 h) (fun v2 h3 => (if v2 = 0 then (fg_486_17 N x0 x1 x2 x3 x0 h3) else (if am_pOk 12 x0 h3 then am_cI true (fm_358 x0 x2 h3) (fun v7 h8 => (if ¬ v7 = 0 then ((am_vR (am_pG 3074 x0 h8)).bind fun v11 => ((am_pA 0 v11 x1 h8).bind fun v13 => ((am_vR (am_pG 3074 x0 h8)).bind fun v15 => ((am_pA 0 v15 x2 h8).bind fun v17 => (if v13 = v17 then ((am_vI (am_pG 3073 x0 h8)).bind fun v20 => (if ¬ v20 = 600 then (fg_486_55 N x0 x1 x2 x3 x0 0 h8) else (fg_486_55 N x0 x1 x2 x3 x0 3 h8))) else (fg_486_55 N x0 x1 x2 x3 x0 2 h8)))))) else (fg_486_17 N x0 x1 x2 x3 x0 h8))) else none))) else none) = r_) : fg_486_0 N x0 x1 x2 x3 h = r_ := k_
theorem hm_486 {N : Nat} {y0 : Value} {y1 : Int32} {y2 : Int32} {y3 : Int64} {h : am_H} {r_ : Option am_O} (k_ : fg_486_0 N y0 y1 y2 y3 h = r_) : fm_486 N y0 y1 y2 y3 h = r_ := k_
theorem hd_487_38 {N : Nat} {x0 : Value} {s0 : Int32} {h : am_H} {r_ : Option am_O} (k_ : (if ¬ s0 = 0 then (if am_pOk 12 x0 h then am_cI true (fm_474 x0 s0 h) (fun v3 h4 => ((am_pP 3169 x0 (.int v3) h4).bind fun h6 => ((am_vI (am_pG 3169 x0 h6)).bind fun v8 => (if am_pOk 12 x0 h6 then am_cI true (fm_481 N x0 v8 h6) (fun v11 h12 => some (.inl (none, h12))) else none)))) else none) else (if am_pOk 12 x0 h then am_cV true (fm_442 N x0 h) (fun h16 => some (.inl (none, h16))) else none)) = r_) : fg_487_38 N x0 s0 h = r_ := k_
theorem hd_487_0 {N : Nat} {x0 : Value} {x1 : Int32} {x2 : Int32} {x3 : Int64} {h : am_H} {r_ : Option am_O} (k_ : ((am_pP 3168 x0 (.long x3) h).bind fun h1 => ((am_pP 3169 x0 (.int (-1)) h1).bind fun h3 => (if am_pOk 12 x0 h3 then am_cV true (fm_391 N x0 x1 h3) (fun h7 => (if am_pOk 12 x0 h7 then am_cV true (fm_480 N x0 x2 h7) (fun h11 => (if am_pOk 12 x0 h11 then am_cI true (fm_479 x0 x1 x2 h11) (fun v14 h15 => (if v14 = 0 then (fg_487_38 N x0 0 h15) else (if am_pOk 12 x0 h15 then am_cI true (fm_481 N x0 ((-1)) h15) (fun v19 h20 => (fg_487_38 N x0 v19 h20)) else none))) else none)) else none)) else none))) = r_) : fg_487_0 N x0 x1 x2 x3 h = r_ := k_
theorem hm_487 {N : Nat} {y0 : Value} {y1 : Int32} {y2 : Int32} {y3 : Int64} {h : am_H} {r_ : Option am_O} (k_ : fg_487_0 N y0 y1 y2 y3 h = r_) : fm_487 N y0 y1 y2 y3 h = r_ := k_
theorem p60E_90 {V : Nat → Nat → Value} {I : Nat → Nat → Int32} {L : Nat → Nat → Int64} {R : Nat → Nat → Option Nat} {tl : am_H} {A it kd ln : Nat} {Q : xI} (hA : A ≠ 90) (hg : gdP kd ln Q) (hs : srcE V I tl A it kd ln Q) : ∃ W J, fm_60 (.ref 90) (.ref A) (fx V I L R ++ tl) = some (.inl (none, fx W J L R ++ tl)) ∧ holdE W J 90 kd ln Q ∧ fr1 90 V W I J := by
  obtain ⟨m, f, p1, p2, p3, p4⟩ := hs
  refine ⟨_, _, p60_90 p1 hA hg.1 p3 p4 (gd_w hg) (by have := hg.2.1; omega), ⟨rfl, rfl, rfl, ?_, ?_⟩, ?_⟩
  · show Value.int (if nI kd = 2 then 5 else 2) = .int (nI (wdN kd))
    congr 1
    unfold wdN
    by_cases c : kd = 2
    · rw [if_pos c, if_pos (show nI kd = 2 by rw [c]; rfl)]; rfl
    · rw [if_neg c, if_neg (show ¬ nI kd = (2 : Int32) from fun e => c ((nI_eq (b := 2) (by have := hg.1; omega) (by decide)).mp e))]; rfl
  · show itm kd (srt Q) (vlu Q) Q.length (va_cpy f (I 91) 0 0 (Q.length * wdN kd))
    exact itm_cp p2 lay_s
  · exact fr1_t (fr1_v (by decide)) (fr1_t (fr1_v (by decide)) (fr1_t (fr1_v (by decide)) (fr1_t (fr1_v (by decide)) (fr1_t (fr1_v (by decide)) fr1_i))))
theorem wt_lg {V : Nat → Nat → Value} {a j : Nat} {x : Int64} (h : wt V) (hi : ¬ j ∈ fI a) : wt (vup V a j (.long x)) := by
  refine ⟨fun b k hk => ?_, fun b k hk => ?_⟩
  · obtain ⟨y, hy⟩ := h.1 b k hk
    exact ⟨y, (vup_o (fun e => by rw [e.1, e.2] at hk; exact hi hk)).trans hy⟩
  · by_cases c : b = a ∧ k = j
    · rw [c.1, c.2]; exact ⟨x, vup_eq⟩
    · obtain ⟨y, hy⟩ := h.2 b k hk
      exact ⟨y, (vup_o c).trans hy⟩
theorem keep_lg {V : Nat → Nat → Value} {I : Nat → Nat → Int32} {a j : Nat} {x : Int64} (h : ¬ j ∈ vRel a) (hi : ¬ j ∈ fI a) : keep V (vup V a j (.long x)) I I := ⟨fun b k hk => vup_o (fun e => h (by rw [← e.1, ← e.2]; exact hk)), fun _ _ => rfl, fun w => wt_lg w hi⟩
theorem SP_173 {tl : am_H} {A it B ib kd ln : Nat} {P Q : xI} {V : Nat → Nat → Value} {I : Nat → Nat → Int32} {x : Int64} (hA : 200 < A) (hB : 200 < B) (h : SP tl A it B ib kd ln P Q V I) : SP tl A it B ib kd ln P Q (vup V 173 0 (.long x)) I := by
  obtain ⟨h1, h2, h3, h4, h5, h6, h7, h8, h9, h10⟩ := h
  exact ⟨wt_lg h1 (by decide), h2, h3, h4, h5, srcE_c (fun j => vup_o (fun e => by omega)) rfl h6, srcE_c (fun j => vup_o (fun e => by omega)) rfl h7, h8, fun e => ⟨⟨(h9 e).1.1, (h9 e).1.2⟩, ⟨(h9 e).2.1, (h9 e).2.2⟩⟩, h10⟩
theorem SE_173 {tl : am_H} {A it kd ln w : Nat} {P : xI} {V : Nat → Nat → Value} {I : Nat → Nat → Int32} {x : Int64} (hA : 200 < A) (h : SE tl A it kd ln w P V I) : SE tl A it kd ln w P (vup V 173 0 (.long x)) I := by
  obtain ⟨h1, h2, h3, h4, h5, h6, h7, h8⟩ := h
  exact ⟨wt_lg h1 (by decide), h2, h3, h4, srcE_c (fun j => vup_o (fun e => by omega)) rfl h5, h6, h7, fun e => ⟨(h8 e).1, (h8 e).2⟩⟩
/-- fields of the reference that the loops over candidates keep -/
def kpF (V W : Nat → Nat → Value) : Prop := ∀ j, j ≠ 13 → j ≠ 14 → j ≠ 15 → j ≠ 93 → j ≠ 94 → j ≠ 95 → W 174 j = V 174 j
theorem kpF_Sc {V W : Nat → Nat → Value} {I J : Nat → Nat → Int32} {so : Int32} (f : frSc (vSo V so) W I J) : kpF V W := fun j h1 h2 h3 h4 h5 h6 => (f.1 174 j (fun e => by omega)).trans (vSo_o (fun e => by omega))
set_option maxRecDepth 100000 in
set_option maxHeartbeats 4000000 in
theorem rP_481 {V : Nat → Nat → Value} {I : Nat → Nat → Int32} {L : Nat → Nat → Int64} {R : Nat → Nat → Option Nat} {tl : am_H} {N kd ln : Nat} {P Q : xI} {so : Int32} (hN : 400 < N) (hg : gdP kd ln P) (hgq : gdP kd ln Q) (hd : dsE kd ln P V I) (ht : dsT kd Q V I) (wv : wt V) : ∃ W J x, fm_481 N (.ref 174) so (fx V I L R ++ tl) = some (.inl (some (.int x), fx W J L R ++ tl)) ∧ outS (vSo V so) I (cdP kd P Q) so (ncP kd ln ln P.length Q.length) kd (nI ln) W J ∧ W 174 94 = .int x ∧ dsE kd ln P W J ∧ dsT kd Q W J ∧ keep V W I J ∧ kpF V W := by
  obtain ⟨W, J, x, e, o, hx⟩ := all_rP (L := L) (R := R) (tl := tl) (N := N) (so := so) hN hg hgq hd ht wv
  have f2 : frSc (vSo V so) W I J := by
    rcases o with o | o
    · exact o.1
    · exact o.1
  refine ⟨W, J, x, e, o, hx, dsE_Sc hd f2, ⟨dsB_f f2 ht.1, fun k0 k hk => ?_⟩, keep_t keep_So (keep_Sc f2), kpF_Sc f2⟩
  rw [f2.2.1 193 (by decide) (by decide) (by decide) (by decide) (by decide) (by decide)]
  exact ht.2 k0 k hk
theorem ped_4 {n b c : Nat} {nb : Int32} (hb : b < n) (hc : c < n) (hn : n ≤ 600) (hy : nb = -1 ∨ ∃ y, y < 1000000 ∧ nb = nI y) : ped n 4 (nI b) (nI c) (-1) nb := ⟨4, by decide, rfl, .inr ⟨b, hb, rfl⟩, .inr ⟨c, hc, rfl⟩, fun _ => nI_nm1 (by omega), fun _ => ⟨nI_nm1 (by omega), rfl⟩, fun h => absurd h (by decide), hy⟩
set_option maxRecDepth 100000 in
set_option maxHeartbeats 4000000 in
theorem fin_31 {V : Nat → Nat → Value} {I : Nat → Nat → Int32} {L : Nat → Nat → Int64} {R : Nat → Nat → Option Nat} {tl : am_H} {N n p j b c kd ln : Nat} {sd : Int64} {nb : Int32} {X : xI} {W2 : Nat → Nat → Value} {J2 : Nat → Nat → Int32} (hr : rel V I L R tl n p) (hm : room tl n p j) (hN : 5000 < N) (hb : b < n) (hc : c < n) (hn : n < 600) (gX : gdP kd ln X) (kW : keep V W2 I J2) (hcls : fm_198 N (.ref 0) (nI b) (nI c) sd (fx V I L R ++ tl) = am_cI true (fg_190_121 N (.ref 0) (nI b) (nI c) (-1) sd nb (fx W2 J2 L R ++ tl)) (fun v19 h20 => some (.inl (some (.int v19), h20)))) (h90 : holdE W2 J2 90 kd ln X) (hp : ped n 4 (nI b) (nI c) (-1) nb) (hg1 : gen1 I n 4 (nI b) (nI c) (-1) nb) (hke : ∃ k, I 175 b = nI k ∧ I 175 c = nI k ∧ k ≤ 3) (href : ∀ (Y : Nat → Nat → Value) (M : Nat → Nat → Int64) (S : Nat → Nat → Option Nat) (t : am_H), wt Y → (∀ a j, a = 174 → Y a j = W2 a j) → ∃ W J, fm_487 N (.ref 174) (nI b) (nI c) sd (fx (vup Y 174 0 (.int 0)) J2 M S ++ t) = some (.inl (none, fx W J M S ++ t)) ∧ keep (vup Y 174 0 (.int 0)) W J2 J ∧ dkL W J X ∧ W 174 13 = .int (nI kd) ∧ W 174 15 = .int (nI ln) ∧ W 174 97 = .int nb ∧ W 174 0 = .int 0) : ∃ h', opBI (fm_197 N (.ref 0) (nI b) (nI c) sd (.ref 268) (fx V I L R ++ tl)) (fun h1 => fm_486 N (.ref 174) (nI b) (nI c) sd h1) vfI h' ∧ invW (j + 1) h' := by
  obtain ⟨b1, b2, b3⟩ := hr.1
  have hwt := rel_w hr
  have c01 : W2 0 1 = .int (nI n) := (kW.1 0 1 (by decide)).trans b2
  have c17 : W2 174 1 = .int (nI n) := (kW.1 174 1 (by decide)).trans b3
  have wX := gd_w gX
  have iR : ∀ y, y ∈ iRel → J2 y = I y := kW.2.1
  obtain ⟨k, e1, e2, k3⟩ := hke
  have eb := bear_c90 (V := W2) (I := J2) (L := L) (R := R) (tl := tl) (n := n) (kd := kd) (ln := ln) (sz := X.length) h90.1 h90.2.1 h90.2.2.1 h90.2.2.2.1 gX.1 wX c01 hn 4 (nI b) (nI c) (-1) nb sd
  obtain ⟨W4, J4, r1, K, d1, d13, d15, d97, d0⟩ := href (vup W2 0 1 (.int (nI (n + 1)))) (outL L (nI n).toInt64) (rup R 1 (va_up (R 1) n (some (269 + tl.length)))) (tl ++ brt tl.length kd ln X.length 4 (nI b) (nI c) (-1) nb sd (va_cpy (J2 91) (fun _ => 0) 0 0 (X.length * wdN kd))) (wt_i (kW.2.2 hwt) (by decide)) (fun a j ha => vup_o (fun e => by omega))
  have v1 : W4 174 1 = .int (nI n) := (K.1 174 1 (by decide)).trans c17
  have er := bear_r (V := W4) (I := J4) (L := outL L (nI n).toInt64) (R := rup R 1 (va_up (R 1) n (some (269 + tl.length)))) (tl := tl ++ brt tl.length kd ln X.length 4 (nI b) (nI c) (-1) nb sd (va_cpy (J2 91) (fun _ => 0) 0 0 (X.length * wdN kd))) (N := N) (n := n) (kd := kd) (ln := ln) (sz := X.length) v1 d13 d1.1 ⟨nI ln, d15, gd_nt gX⟩ hn gX.2.1 (by omega) 4 (nI b) (nI c) (-1) nb sd
  refine bear_fin (W := W2) (J := J2) (W' := W4) (J' := J4) (kd := kd) (ln := ln) (sz := X.length) (x1 := 4) (x2 := nI b) (x3 := nI c) (x4 := -1) (x5 := nb) (x6 := sd) (F := va_cpy (J2 91) (fun _ => 0) 0 0 (X.length * wdN kd)) hr hm hn wX ?_ ?_ (keep_t (keep_up hwt (by decide) kW) (keep_t (keep_v (a := 174) (j := 0) (by decide) (by decide)) K)) d0 (itm_cp h90.2.2.2.2 d1.2) (gd_snd gX d1.2) hp hg1
  · have e : fm_198 N (.ref 0) (nI b) (nI c) sd (fx V I L R ++ tl) = some (.inl (some (.int (nI n)), fx (vup W2 0 1 (.int (nI (n + 1)))) J2 L (rup R 1 (va_up (R 1) n (some (269 + tl.length)))) ++ (tl ++ brt tl.length kd ln X.length 4 (nI b) (nI c) (-1) nb sd (va_cpy (J2 91) (fun _ => 0) 0 0 (X.length * wdN kd))))) := by
      rw [hcls]
      refine ev_cI ?_ rfl
      apply hd_190_121
      refine ev_b (rdR rfl) (ev_b (rdR rfl) (ev_t (nI_le (a := 0) (Nat.zero_le c) (by omega)) ?_))
      apply hd_190_138
      exact ev_i rfl (ev_cI eb rfl)
    unfold fm_197 fg_197_0
    refine ev_i rfl ?_
    rw [e]
    exact ev_b out_s rfl
  · show fm_486 N (.ref 174) (nI b) (nI c) sd _ = _
    apply hm_486
    apply hd_486_0
    refine ev_i rfl (ev_cI (r_358 c17 b1 hb) (ev_f (by decide) (ev_i rfl (ev_cI (r_358 c17 b1 hc) (ev_t (by decide) (ev_b (rdR rfl) (ev_b ((qa_175 (by omega)).trans (congrArg some ((congrFun (iR 175 (by decide)) b).trans e1))) (ev_b (rdR rfl) (ev_b ((qa_175 (by omega)).trans (congrArg some ((congrFun (iR 175 (by decide)) c).trans e2))) (ev_t rfl (ev_b (rdI c17) (ev_t (fun e => by have := (nI_eq (b := 600) (by omega) (by decide)).mp e; omega) ?_))))))))))))
    apply hd_486_55
    exact ev_b qp_174_0 (ev_b (a := 0) rfl (ev_t (by decide) (ev_i rfl (ev_cV r1 (ev_b (rdI d97) (ev_i rfl (ev_cI er rfl)))))))
