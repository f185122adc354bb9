/-! ===== a birth by change or cross: the reference ===== -/
/-- what making a program leaves in the reference -/
def frRr (V W : Nat → Nat → Value) (I J : Nat → Nat → Int32) (L M : Nat → Nat → Int64) : Prop := (∀ a j, ¬ (a = 174 ∧ (j = 80 ∨ (13 ≤ j ∧ j ≤ 15) ∨ (18 ≤ j ∧ j ≤ 23) ∨ j = 88 ∨ (93 ≤ j ∧ j ≤ 97))) → W a j = V a j) ∧ (∀ y, ¬ ((186 ≤ y ∧ y ≤ 196) ∨ y = 211 ∨ (226 ≤ y ∧ y ≤ 230)) → J y = I y) ∧ (∀ y, ¬ (224 ≤ y ∧ y ≤ 230) → M y = L y) ∧ (wt V → wt W) ∧ (rInv V L → rInv W M)
theorem frRr_t {U V W : Nat → Nat → Value} {H I J : Nat → Nat → Int32} {K L M : Nat → Nat → Int64} (f : frRr U V H I K L) (g : frRr V W I J L M) : frRr U W H J K M := ⟨fun a j h => (g.1 a j h).trans (f.1 a j h), fun y h => (g.2.1 y h).trans (f.2.1 y h), fun y h => (g.2.2.1 y h).trans (f.2.2.1 y h), fun h => g.2.2.2.1 (f.2.2.2.1 h), fun h => g.2.2.2.2 (f.2.2.2.2 h)⟩
theorem frRr_m {V W : Nat → Nat → Value} {I J : Nat → Nat → Int32} {L : Nat → Nat → Int64} (v : ∀ a j, ¬ (a = 174 ∧ ((13 ≤ j ∧ j ≤ 15) ∨ (18 ≤ j ∧ j ≤ 23) ∨ j = 88 ∨ (93 ≤ j ∧ j ≤ 97))) → W a j = V a j) (i : ∀ y, ¬ ((186 ≤ y ∧ y ≤ 196) ∨ y = 211) → J y = I y) (w : wt V → wt W) : frRr V W I J L L := ⟨fun a j h => v a j (by omega), fun y h => i y (by omega), fun _ _ => rfl, w, fun h => rInv_v (v 174 80 (by omega)) h⟩
theorem frRr_r {V : Nat → Nat → Value} {I : Nat → Nat → Int32} {L : Nat → Nat → Int64} : frRr V V I I L L := frRr_m (fun _ _ _ => rfl) (fun _ _ => rfl) id
theorem frRr_39 {V W : Nat → Nat → Value} {I J : Nat → Nat → Int32} {L : Nat → Nat → Int64} (f : fr39 V W I J) : frRr V W I J L L := frRr_m (fun a j h => f.1 a j (by omega)) (fun y h => f.2.1 y (by omega) (by omega) (by omega)) f.2.2
theorem frRr_48 {V W : Nat → Nat → Value} {I J : Nat → Nat → Int32} {L : Nat → Nat → Int64} (f : fr48 V W I J) : frRr V W I J L L := frRr_m (fun a j h => f.1 a j (by omega)) (fun y h => f.2.1 y (by omega) (by omega) (by omega)) f.2.2
theorem frRr_Ed {V W : Nat → Nat → Value} {I J : Nat → Nat → Int32} {L : Nat → Nat → Int64} (f : frEd V W I J) : frRr V W I J L L := frRr_m (fun a j h => f.1 a j (by omega)) (fun y h => f.2.1 y (by omega) (by omega)) f.2.2
theorem frRr_l {V : Nat → Nat → Value} {I : Nat → Nat → Int32} {L : Nat → Nat → Int64} {x : Int64} : frRr V (vup V 174 96 (.long x)) I I L L := frRr_m (fun a j h => vup_o (by omega)) (fun _ _ => rfl) (fun w => wt_lg w (by decide))
theorem frRr_i {V : Nat → Nat → Value} {I : Nat → Nat → Int32} {L : Nat → Nat → Int64} {x : Int32} : frRr V (vup V 174 97 (.int x)) I I L L := frRr_m (fun a j h => vup_o (by omega)) (fun _ _ => rfl) (fun w => wt_i w (by decide))
theorem frRr_Sc {V W : Nat → Nat → Value} {I J : Nat → Nat → Int32} {L : Nat → Nat → Int64} {so : Int32} (f : frSc (vSo V so) W I J) : frRr V W I J L L := frRr_m (fun a j h => (f.1 a j (by omega)).trans (vSo_o (by omega))) (fun y h => f.2.1 y (by omega) (by omega) (by omega) (by omega) (by omega) (by omega)) (fun w => f.2.2 (keep_So (I := I) |>.2.2 w))
set_option maxRecDepth 100000 in
set_option maxHeartbeats 4000000 in
theorem r439 {V : Nat → Nat → Value} {I : Nat → Nat → Int32} {L : Nat → Nat → Int64} {R : Nat → Nat → Option Nat} {tl : am_H} {N kd ln w : Nat} {P : xI} {so : Int32} (hN : 400 < N) (hg : gdP kd ln P) (hw : w < 4) (hd : dsE kd ln P V I) (wv : wt V) : ∃ W J x, fm_439 N (.ref 174) (nI w) so (fx V I L R ++ tl) = some (.inl (some (.int x), fx W J L R ++ tl)) ∧ outS (vSo V so) I (cdE kd ln P w) so (ncE kd ln P.length w) kd (nI ln) W J ∧ W 174 94 = .int x ∧ dsE kd ln P W J ∧ frRr V W I J L L ∧ kpF V W := by
  obtain ⟨W, J, x, e, o, hx⟩ := all_r (L := L) (R := R) (tl := tl) (N := N) (so := so) hN hg hw hd.1 hd.2.1 hd.2.2.1 hd.2.2.2 wv
  have f2 : frSc (vSo V so) W I J := by
    rcases o with o | o
    · exact o.1
    · exact o.1
  exact ⟨W, J, x, e, o, hx, dsE_Sc hd f2, frRr_Sc f2, kpF_Sc f2⟩
set_option maxRecDepth 100000 in
set_option maxHeartbeats 4000000 in
theorem r481 {V : Nat → Nat → Value} {I : Nat → Nat → Int32} {L : Nat → Nat → Int64} {R : Nat → Nat → Option Nat} {tl : am_H} {N kd ln : Nat} {P Q : xI} {so : Int32} (hN : 400 < N) (hg : gdP kd ln P) (hgq : gdP kd ln Q) (hd : dsE kd ln P V I) (ht : dsT kd Q V I) (wv : wt V) : ∃ W J x, fm_481 N (.ref 174) so (fx V I L R ++ tl) = some (.inl (some (.int x), fx W J L R ++ tl)) ∧ outS (vSo V so) I (cdP kd P Q) so (ncP kd ln ln P.length Q.length) kd (nI ln) W J ∧ W 174 94 = .int x ∧ dsE kd ln P W J ∧ dsT kd Q W J ∧ frRr V W I J L L ∧ kpF V W := by
  obtain ⟨W, J, x, e, o, hx⟩ := all_rP (L := L) (R := R) (tl := tl) (N := N) (so := so) hN hg hgq hd ht wv
  have f2 : frSc (vSo V so) W I J := by
    rcases o with o | o
    · exact o.1
    · exact o.1
  refine ⟨W, J, x, e, o, hx, dsE_Sc hd f2, ⟨dsB_f f2 ht.1, fun k0 k hk => ?_⟩, frRr_Sc f2, kpF_Sc f2⟩
  rw [f2.2.1 193 (by decide) (by decide) (by decide) (by decide) (by decide) (by decide)]
  exact ht.2 k0 k hk
set_option maxRecDepth 100000 in
set_option maxHeartbeats 4000000 in
theorem r472 {V : Nat → Nat → Value} {I : Nat → Nat → Int32} {L : Nat → Nat → Int64} {R : Nat → Nat → Option Nat} {tl : am_H} {N kd ln w : Nat} {P X : xI} {sd : Int64} {nb : Int32} (hN : 5000 < N) (hg : gdP kd ln P) (hd : dsE kd ln P V I) (hwt : wt V) (iv : rInv V L) (hi : isChg kd ln P w sd X nb) : ∃ W J M, fm_472 N (.ref 174) (nI w) sd (fx V I L R ++ tl) = some (.inl (none, fx W J M R ++ tl)) ∧ dkL W J X ∧ W 174 13 = .int (nI kd) ∧ W 174 15 = .int (nI ln) ∧ W 174 97 = .int nb ∧ frRr V W I J L M := by
  obtain ⟨Wb, eb⟩ : ∃ X, X = vup (vup V 174 96 (.long sd)) 174 97 (.int (-1)) := ⟨_, rfl⟩
  have fb : frRr V Wb I I L L := by rw [eb]; exact frRr_t frRr_l frRr_i
  have vb : ∀ j', j' ≠ 96 → j' ≠ 97 → Wb 174 j' = V 174 j' := fun j' h1 h2 => by rw [eb, vup_o (fun u => h2 u.2), vup_o (fun u => h1 u.2)]
  have wb : wt Wb := fb.2.2.2.1 hwt
  have b96 : Wb 174 96 = .long sd := by rw [eb]; exact (vup_nj (by decide)).trans vup_eq
  have b97 : Wb 174 97 = .int (-1) := by rw [eb]; exact vup_eq
  have hdb : dsE kd ln P Wb I := dsE_c hd ⟨vb 18 (by decide) (by decide), vb 19 (by decide) (by decide), vb 20 (by decide) (by decide)⟩ ⟨rfl, rfl, rfl⟩
  rcases hi with ⟨rfl, rfl, rfl, k, c, m, n0, r, tr, fl, ek, etr, efl, ec, en, hz, er, eX⟩ | ⟨w3, hi⟩
  · obtain ⟨rfl, ho, et⟩ := hg.2.2.1 rfl
    have p1 := gdL_1 hg (by decide)
    obtain ⟨T, eT⟩ : ∃ T, T = uTx P := ⟨_, rfl⟩
    have hsp := hdb.2.2.2 rfl
    rw [← eT] at ho et ek etr efl eX hsp
    have lT : T.length = P.length := by rw [eT]; exact uTx_len
    have hA : rA Wb I 0 T := ⟨hdb.1, hdb.2.1, ⟨by rw [et]; exact hdb.2.2.1.1, by rw [et]; exact hdb.2.2.1.2⟩, fun k hk => hsp k (by rw [← lT]; exact hk), by rw [lT]; exact hg.2.1⟩
    obtain ⟨W, J, M, e4, d4, d13, d15, fv, fj, fm, w80, m4, m5, ww⟩ := r_473 (V := Wb) (I := I) (L := L) (R := R) (tl := tl) (N := N) (P := T) (nt := 0) hN wb hA ho (fb.2.2.2.2 iv) b96 (by omega) ek etr efl ec en hz er
    rw [← eX] at d4
    refine ⟨W, J, M, ?_, d4, d13, d15, (fv 174 97 (by decide)).trans b97, frRr_t fb ⟨fun a' j' h => fv a' j' (by omega), fun y h => fj y (fun u => h ?_), fun y h => fm y (by omega) (by omega) (by omega) (by omega), fun _ => ww, fun _ => .inr ⟨w80, m4, m5⟩⟩⟩
    · apply hm_472
      apply hd_472_0
      exact ev_b qp_174_96 (ev_b (a := fx Wb I L R ++ tl) (by rw [eb]; exact qp_174_97) (ev_f (fun u => u rfl) (ev_i rfl (ev_cV e4 rfl))))
    · have key : ∀ y, y ∈ [186, 187, 194, 195, 196, 211, 227, 228, 229] → ((186 ≤ y ∧ y ≤ 196) ∨ y = 211 ∨ (226 ≤ y ∧ y ≤ 230)) := by decide
      exact key y u
  have nbd := ncE_b hg w3
  have wf : w ≠ 4 := by omega
  obtain ⟨m, em⟩ : ∃ m, m = cnt (cdE kd ln P w) (ncE kd ln P.length w) 0 := ⟨_, rfl⟩
  have cm := cnt_m (cdE kd ln P w) (ncE kd ln P.length w) 0
  rw [← em] at cm
  obtain ⟨Wc, Jc, x, t5, o, hx, hdc, fc, kp⟩ := r439 (V := Wb) (I := I) (L := L) (R := R) (tl := tl) (N := N) (so := -1) (by omega) hg w3 hdb wb
  have ex : x = nI m := by
    rcases o with ⟨-, -, d, X, d1, -, d3, -⟩ | ⟨-, o2, -⟩
    · exact absurd d3 (nI_m1c (by have := cnt_m (cdE kd ln P w) d 0; omega))
    · rw [hx] at o2
      injection o2 with o2
      rw [o2, em]
  subst ex
  have kp' : ∀ j', j' ≠ 13 → j' ≠ 14 → j' ≠ 15 → j' ≠ 93 → j' ≠ 94 → j' ≠ 95 → Wc 174 j' = Wb 174 j' := kp
  have c97 : Wc 174 97 = .int (-1) := (kp' 97 (by decide) (by decide) (by decide) (by decide) (by decide) (by decide)).trans b97
  have c96 : Wc 174 96 = .long sd := (kp' 96 (by decide) (by decide) (by decide) (by decide) (by decide) (by decide)).trans b96
  have fbc : frRr V Wc I Jc L L := frRr_t fb fc
  have go : ∀ o, (if ¬ nI m = 0 then (if am_pOk 12 (.ref 174) (fx Wc Jc L R ++ tl) then am_cI true (fm_474 (.ref 174) (nI m) (fx Wc Jc L R ++ tl)) (fun v12 h13 => ((am_pP 3169 (.ref 174) (.int v12) h13).bind fun h15 => ((am_vI (am_pG 3169 (.ref 174) h15)).bind fun v17 => (if am_pOk 12 (.ref 174) h15 then am_cI true (fm_439 N (.ref 174) (nI w) v17 h15) (fun v20 h21 => some (.inl (none, h21))) else none)))) else none) else (if am_pOk 12 (.ref 174) (fx Wc Jc L R ++ tl) then am_cV true (fm_442 N (.ref 174) (fx Wc Jc L R ++ tl)) (fun h25 => some (.inl (none, h25))) else none)) = o → fm_472 N (.ref 174) (nI w) sd (fx V I L R ++ tl) = o := fun o k_ => by
    apply hm_472
    apply hd_472_0
    exact ev_b qp_174_96 (ev_b (a := fx Wb I L R ++ tl) (by rw [eb]; exact qp_174_97) (ev_t (fun u => wf ((nI_eq (b := 4) (by omega) (by omega)).mp u)) (ev_i rfl (ev_cI t5 k_))))
  rcases hi with ⟨z0, rfl, rfl⟩ | ⟨m', y, d, em', m0, ey, dl, dq, dc, rfl⟩
  · rw [← em] at z0
    obtain ⟨W6, J6, t6, x1, x2, x3, f6⟩ := s442 (V := Wc) (I := Jc) (L := L) (R := R) (tl := tl) (N := N) (by omega) hdc.1 hdc.2.1 hdc.2.2.1 (by have := hg.2.1; omega)
    exact ⟨W6, J6, L, go _ (ev_f (fun u => u (by rw [z0]; rfl)) (ev_i rfl (ev_cV t6 rfl))), x1, x2, x3, (f6.1 174 97 (by decide)).trans c97, frRr_t fbc (frRr_Ed f6)⟩
  · rw [← em] at em'
    subst em'
    have ym : y < m' := by rw [ey]; exact Nat.mod_lt _ m0
    have t6 := x_474 (V := Wc) (I := Jc) (L := L) (R := R) (tl := tl) (k := m') c96 (by omega) (by omega)
    rw [← ey] at t6
    obtain ⟨U6, eu6⟩ : ∃ X, X = vup (vup Wc 174 96 (.long (nxt sd))) 174 97 (.int (nI y)) := ⟨_, rfl⟩
    have f6 : frRr Wc U6 Jc Jc L L := by rw [eu6]; exact frRr_t frRr_l frRr_i
    have kp6 : ∀ j, j ≠ 96 → j ≠ 97 → U6 174 j = Wc 174 j := fun j h1 h2 => by rw [eu6, vup_o (fun e => h2 e.2), vup_o (fun e => h1 e.2)]
    have hd6 : dsE kd ln P U6 Jc := dsE_c hdc ⟨kp6 18 (by decide) (by decide), kp6 19 (by decide) (by decide), kp6 20 (by decide) (by decide)⟩ ⟨rfl, rfl, rfl⟩
    have fb6 := frRr_t fbc f6
    obtain ⟨U7, K7, x7, t7, o7, hx7, hd7, f7, kp7⟩ := r439 (V := U6) (I := Jc) (L := L) (R := R) (tl := tl) (N := N) (so := nI y) (by omega) hg w3 hd6 (fb6.2.2.2.1 hwt)
    have kp7' : ∀ j', j' ≠ 13 → j' ≠ 14 → j' ≠ 15 → j' ≠ 93 → j' ≠ 94 → j' ≠ 95 → U7 174 j' = U6 174 j' := kp7
    rcases o7 with ⟨-, -, d', X', d1, d2, d3, d4', d5, d6⟩ | ⟨-, -, -, o4⟩
    case inr => exact absurd (o4 y (by omega) rfl) (by omega)
    have eyc := (nI_eq (by omega) (by have := cnt_m (cdE kd ln P w) d' 0; omega)).mp d3
    have ecd : d' = d := cnt_u (cd := cdE kd ln P w) (by rw [d2]; rfl) (by rw [dq]; rfl) (by omega)
    subst ecd
    have eX : X' = X := by rw [dq] at d2; exact (Option.some.inj d2).symm
    subst eX
    have h97 : U6 174 97 = .int (nI y) := by rw [eu6]; exact vup_eq
    refine ⟨U7, K7, L, go _ ?_, d4', d5, d6, (kp7' 97 (by decide) (by decide) (by decide) (by decide) (by decide) (by decide)).trans h97, frRr_t fb6 f7⟩
    exact ev_t (fun u => by have := (nI_eq (b := 0) (by omega) (by decide)).mp u; omega) (ev_i rfl (ev_cI t6 (ev_b (a := fx U6 Jc L R ++ tl) (by rw [eu6]; exact qp_174_97) (ev_b (rdI h97) (ev_i rfl (ev_cI t7 rfl))))))
/-- a program as the reference lays it -/
def rPr (I : Nat → Nat → Int32) (b kd ln : Nat) (P : xI) : Prop := I 175 b = nI kd ∧ I 176 b = nI P.length ∧ I 177 b = nI ln ∧ lay2 (fun k => I 184 (60 * b + k)) (fun k => I 185 (60 * b + k)) P
theorem rPr_c {I J : Nat → Nat → Int32} {b kd ln : Nat} {P : xI} (h : rPr I b kd ln P) (e : ∀ y, y = 175 ∨ y = 176 ∨ y = 177 ∨ y = 184 ∨ y = 185 → J y = I y) : rPr J b kd ln P := by
  unfold rPr
  rw [e 175 (by omega), e 176 (by omega), e 177 (by omega), e 184 (by omega), e 185 (by omega)]
  exact h
set_option maxRecDepth 100000 in
set_option maxHeartbeats 4000000 in
theorem r487 {V : Nat → Nat → Value} {I : Nat → Nat → Int32} {L : Nat → Nat → Int64} {R : Nat → Nat → Option Nat} {tl : am_H} {N b c kd ln ln' : Nat} {P Q X : xI} {sd : Int64} {nb : Int32} (hN : 5000 < N) (hb : b < 600) (hc : c < 600) (hg : gdP kd ln P) (hgq : gdP kd ln' Q) (hp : rPr I b kd ln P) (hq : rPr I c kd ln' Q) (hwt : wt V) (hi : isCrs kd ln ln' P Q sd X nb) : ∃ W J, fm_487 N (.ref 174) (nI b) (nI c) sd (fx V I L R ++ tl) = some (.inl (none, fx W J L R ++ tl)) ∧ dkL W J X ∧ W 174 13 = .int (nI kd) ∧ W 174 15 = .int (nI ln) ∧ W 174 97 = .int nb ∧ frRr V W I J L L := by
  have gl := gd_ln hg
  have gl' := gd_ln hgq
  have k3' := hg.1
  obtain ⟨Y1, ey⟩ : ∃ X, X = vup (vup V 174 96 (.long sd)) 174 97 (.int (-1)) := ⟨_, rfl⟩
  have fy : frRr V Y1 I I L L := by rw [ey]; exact frRr_t frRr_l frRr_i
  obtain ⟨x1, x2, x3, x4⟩ := hp
  obtain ⟨W3, J3, t1, f3, g20, g19, gds, gsp⟩ := ld_E (V := Y1) (I := I) (L := L) (R := R) (tl := tl) (N := N) (by omega) hb hg x1 x2 x3 x4
  have hq3 := rPr_c hq (J := J3) (fun y h => f3.2.1 y (by omega) (by omega) (by omega))
  obtain ⟨z1, z2, z3, z4⟩ := hq3
  obtain ⟨W4, J4, t2, f4, ht4⟩ := ld_B (V := W3) (I := J3) (L := L) (R := R) (tl := tl) (N := N) (by omega) hc hgq z1 z2 z4
  have hd4 := dsE_48 ⟨g20, g19, gds, gsp⟩ f4
  have fd : ∀ j, j ≠ 18 → j ≠ 19 → j ≠ 20 → j ≠ 23 → W4 174 j = Y1 174 j := fun j a1 a2 a3 a4 => (f4.1 174 j (by omega)).trans (f3.1 174 j (by omega))
  have g96 : W4 174 96 = .long sd := by rw [fd 96 (by decide) (by decide) (by decide) (by decide), ey]; rfl
  have g97 : W4 174 97 = .int (-1) := by rw [fd 97 (by decide) (by decide) (by decide) (by decide), ey]; rfl
  have fr4 : frRr V W4 I J4 L L := frRr_t fy (frRr_t (frRr_39 f3) (frRr_48 f4))
  have w4 : wt W4 := fr4.2.2.2.1 hwt
  have j4 : ∀ y, y = 175 ∨ y = 177 → J4 y = I y := fun y h => fr4.2.1 y (by omega)
  have go : ∀ o, (if bI (decide (kd = kd ∧ (kd = 3 → ln = ln'))) = 0 then (fg_487_38 N (.ref 174) 0 (fx W4 J4 L R ++ tl)) else (if am_pOk 12 (.ref 174) (fx W4 J4 L R ++ tl) then am_cI true (fm_481 N (.ref 174) ((-1)) (fx W4 J4 L R ++ tl)) (fun v19 h20 => (fg_487_38 N (.ref 174) v19 h20)) else none)) = o → fm_487 N (.ref 174) (nI b) (nI c) sd (fx V I L R ++ tl) = o := fun o k_ => by
    apply hm_487
    apply hd_487_0
    refine ev_b qp_174_96 (ev_b (a := fx Y1 I L R ++ tl) (by rw [ey]; exact qp_174_97) (ev_i rfl (ev_cV t1 (ev_i rfl (ev_cV t2 (ev_i rfl (ev_cI (r_479 hb hc k3' k3' gl.1 gl'.1 ((congrFun (j4 175 (by omega)) b).trans x1) ((congrFun (j4 177 (by omega)) b).trans x3) ((congrFun (j4 175 (by omega)) c).trans hq.1) ((congrFun (j4 177 (by omega)) c).trans hq.2.2.1)) k_)))))))
  rcases hi with ⟨hz, rfl, rfl⟩ | ⟨rfl, m, y, d, em, m0, eyy, dl, dq, dc, rfl⟩
  · have fin : ∀ (W5 : Nat → Nat → Value) (J5 : Nat → Nat → Int32), dsE kd ln X W5 J5 → frRr V W5 I J5 L L → W5 174 97 = .int (-1) → fm_487 N (.ref 174) (nI b) (nI c) sd (fx V I L R ++ tl) = fg_487_38 N (.ref 174) 0 (fx W5 J5 L R ++ tl) → ∃ W J, fm_487 N (.ref 174) (nI b) (nI c) sd (fx V I L R ++ tl) = some (.inl (none, fx W J L R ++ tl)) ∧ dkL W J X ∧ W 174 13 = .int (nI kd) ∧ W 174 15 = .int (nI ln) ∧ W 174 97 = .int (-1) ∧ frRr V W I J L L := fun W5 J5 hd5 f5 g97' e5 => by
      obtain ⟨W6, J6, t6, s1, s2, s3, f6⟩ := s442 (V := W5) (I := J5) (L := L) (R := R) (tl := tl) (N := N) (by omega) hd5.1 hd5.2.1 hd5.2.2.1 (by have := hg.2.1; omega)
      refine ⟨W6, J6, e5.trans ?_, s1, s2, s3, (f6.1 174 97 (by decide)).trans g97', frRr_t f5 (frRr_Ed f6)⟩
      apply hd_487_38
      exact ev_f (fun u => u rfl) (ev_i rfl (ev_cV t6 rfl))
    rcases hz with hz | ⟨hz1, hz2⟩
    · refine fin W4 J4 hd4 fr4 g97 (go _ ?_)
      rw [decide_eq_false hz]
      exact ev_t rfl rfl
    · subst hz1
      obtain ⟨W5, J5, x, t5, o, hx, hd5, ht5, f5, kp5⟩ := r481 (V := W4) (I := J4) (L := L) (R := R) (tl := tl) (N := N) (so := -1) (by omega) hg hgq hd4 ht4 w4
      have ex : x = 0 := by
        rcases o with ⟨-, -, d, X', d1, -, d3, -⟩ | ⟨-, o2, -⟩
        · exact absurd d3 (nI_m1c (by have := cnt_m (cdP kd X Q) d 0; have := ncP_b hg hgq; omega))
        · rw [hx, hz2] at o2
          injection o2
      subst ex
      refine fin W5 J5 hd5 (frRr_t fr4 f5) ((kp5 97 (by decide) (by decide) (by decide) (by decide) (by decide) (by decide)).trans g97) (go _ ?_)
      rw [decide_eq_true ⟨rfl, fun _ => rfl⟩]
      exact ev_f (by decide) (ev_i rfl (ev_cI t5 rfl))
  · have nbd := ncP_b hg hgq
    have cmm := cnt_m (cdP kd P Q) (ncP kd ln ln P.length Q.length) 0
    rw [← em] at cmm
    have ym : y < m := by rw [eyy]; exact Nat.mod_lt _ m0
    obtain ⟨U5, K5, x, t5, o, hx, hd5, ht5, f5, kp5⟩ := r481 (V := W4) (I := J4) (L := L) (R := R) (tl := tl) (N := N) (so := -1) (by omega) hg hgq hd4 ht4 w4
    have ex : x = nI m := by
      rcases o with ⟨-, -, d, X, d1, -, d3, -⟩ | ⟨-, o2, -⟩
      · exact absurd d3 (nI_m1c (by have := cnt_m (cdP kd P Q) d 0; omega))
      · rw [hx] at o2
        injection o2 with o2
        rw [o2, em]
    subst ex
    have g96' : U5 174 96 = .long sd := (kp5 96 (by decide) (by decide) (by decide) (by decide) (by decide) (by decide)).trans g96
    have t6 := x_474 (I := K5) (L := L) (R := R) (tl := tl) (k := m) g96' (by omega) (by omega)
    rw [← eyy] at t6
    obtain ⟨U6, eu6⟩ : ∃ X, X = vup (vup U5 174 96 (.long (nxt sd))) 174 97 (.int (nI y)) := ⟨_, rfl⟩
    have f6 : frRr U5 U6 K5 K5 L L := by rw [eu6]; exact frRr_t frRr_l frRr_i
    have kp6 : ∀ j, j ≠ 96 → j ≠ 97 → U6 174 j = U5 174 j := fun j h1 h2 => by rw [eu6, vup_o (fun e => h2 e.2), vup_o (fun e => h1 e.2)]
    have hd6 : dsE kd ln P U6 K5 := dsE_c hd5 ⟨kp6 18 (by decide) (by decide), kp6 19 (by decide) (by decide), kp6 20 (by decide) (by decide)⟩ ⟨rfl, rfl, rfl⟩
    have ht6 : dsT kd Q U6 K5 := ⟨⟨(kp6 23 (by decide) (by decide)).trans ht5.1.1, ht5.1.2⟩, ht5.2⟩
    have fr6 := frRr_t fr4 (frRr_t f5 f6)
    obtain ⟨U7, K7, x7, t7, o7, hx7, hd7, ht7, f7, kp7⟩ := r481 (V := U6) (I := K5) (L := L) (R := R) (tl := tl) (N := N) (so := nI y) (by omega) hg hgq hd6 ht6 (fr6.2.2.2.1 hwt)
    rcases o7 with ⟨-, -, d', X', d1, d2, d3, d4', d5, d6⟩ | ⟨-, -, -, o4⟩
    case inr => exact absurd (o4 y (by omega) rfl) (by omega)
    have eyc := (nI_eq (by omega) (by have := cnt_m (cdP kd P Q) d' 0; omega)).mp d3
    have ecd : d' = d := cnt_u (cd := cdP kd P Q) (by rw [d2]; rfl) (by rw [dq]; rfl) (by omega)
    subst ecd
    have eX : X' = X := by rw [dq] at d2; exact (Option.some.inj d2).symm
    subst eX
    have h97 : U6 174 97 = .int (nI y) := by rw [eu6]; rfl
    refine ⟨U7, K7, go _ ?_, d4', d5, d6, (kp7 97 (by decide) (by decide) (by decide) (by decide) (by decide) (by decide)).trans h97, frRr_t fr6 f7⟩
    rw [decide_eq_true ⟨rfl, fun _ => rfl⟩]
    refine ev_f (by decide) (ev_i rfl (ev_cI t5 ?_))
    apply hd_487_38
    refine ev_t (fun u => by have := (nI_eq (b := 0) (by omega) (by decide)).mp u; omega) (ev_i rfl (ev_cI t6 (ev_b (a := fx U6 K5 L R ++ tl) (by rw [eu6]; exact qp_174_97) (ev_b (rdI h97) (ev_i rfl (ev_cI t7 rfl))))))
