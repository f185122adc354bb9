/-! ===== change(b, how, seed) ===== -/
theorem hd_188_25 {N : Nat} {h : am_H} {r_ : Option am_O} (k_ : some (.inl (some (.int 3), h)) = r_) : fg_188_25 N h = r_ := k_
theorem hd_188_21 {N : Nat} {h : am_H} {r_ : Option am_O} (k_ : some (.inl (some (.int 2), h)) = r_) : fg_188_21 N h = r_ := k_
theorem hd_188_17 {N : Nat} {h : am_H} {r_ : Option am_O} (k_ : some (.inl (some (.int 1), h)) = r_) : fg_188_17 N h = r_ := k_
theorem hd_188_0 {N : Nat} {x0 : Value} {x1 : Int32} {x2 : Int32} {x3 : Int64} {x5 : Value} {h : am_H} {r_ : Option am_O} (k_ : (if am_pOk 11 x0 h then (match fm_189 N x0 x1 x2 x3 h with | some (.inl (some (.int v2), h3)) => ((am_pSL x5 0 (Int32.toInt64 v2) h3).bind fun h5 => some (.inl (some (.int 0), h5))) | some (.inr (0, h7)) => (fg_188_21 N h7) | some (.inr (1, h9)) => (fg_188_25 N h9) | some (.inr (2, h11)) => (fg_188_17 N h11) | _ => none) else none) = r_) : fg_188_0 N x0 x1 x2 x3 x5 h = r_ := k_
theorem hm_188 {N : Nat} {y0 : Value} {y1 : Int32} {y2 : Int32} {y3 : Int64} {y4 : Value} {h : am_H} {r_ : Option am_O} (k_ : fg_188_0 N y0 y1 y2 y3 y4 h = r_) : fm_188 N y0 y1 y2 y3 y4 h = r_ := k_
theorem hd_189_40 {N : Nat} {x0 : Value} {x1 : Int32} {x2 : Int32} {x3 : Int64} {h : am_H} {r_ : Option am_O} (k_ : (if am_pOk 11 x0 h then am_cV true (fm_32 x0 1 h) (fun h3 => (if am_pOk 11 x0 h3 then am_cI true (fm_190 N x0 x1 ((-1)) x2 x3 h3) (fun v6 h7 => some (.inl (some (.int v6), h7))) else none)) else none) = r_) : fg_189_40 N x0 x1 x2 x3 h = r_ := k_
theorem hd_189_29 {N : Nat} {h : am_H} {r_ : Option am_O} (k_ : some (.inr (0, h ++ [am_dummy])) = r_) : fg_189_29 N h = r_ := k_
theorem hd_189_0 {N : Nat} {x0 : Value} {x1 : Int32} {x2 : Int32} {x3 : Int64} {h : am_H} {r_ : Option am_O} (k_ : (if am_pOk 11 x0 h then am_cR true (fm_63 x0 x1 h) (fun v2 h3 => (if x2 < 0 then (fg_189_29 N h3) else (if 4 < x2 then (fg_189_29 N h3) else (if ¬ x2 = 4 then (fg_189_40 N x0 x1 x2 x3 h3) else ((am_vI (am_pG 769 v2 h3)).bind fun v8 => (if v8 = 0 then (fg_189_40 N x0 x1 x2 x3 h3) else (fg_189_29 N h3))))))) else none) = r_) : fg_189_0 N x0 x1 x2 x3 h = r_ := k_
theorem hm_189 {N : Nat} {y0 : Value} {y1 : Int32} {y2 : Int32} {y3 : Int64} {h : am_H} {r_ : Option am_O} (k_ : fg_189_0 N y0 y1 y2 y3 h = r_) : fm_189 N y0 y1 y2 y3 h = r_ := k_
theorem hd_470_41 {N : Nat} {x0 : Value} {x1 : Int32} {x2 : Int32} {x3 : Int64} {s0 : Value} {s1 : Int32} {h : am_H} {r_ : Option am_O} (k_ : ((am_pP 3072 s0 (.int s1) h).bind fun h1 => ((am_vI (am_pG 3072 x0 h1)).bind fun v3 => (if v3 ≤ 0 then (if am_pOk 12 x0 h1 then am_cV true (fm_391 N x0 x1 h1) (fun h8 => (if am_pOk 12 x0 h8 then am_cV true (fm_472 N x0 x2 x3 h8) (fun h12 => ((am_vI (am_pG 3169 x0 h12)).bind fun v14 => (if am_pOk 12 x0 h12 then am_cI true (fm_356 N x0 3 x1 ((-1)) x2 v14 x3 h12) (fun v17 h18 => some (.inl (some (.int v17), h18))) else none))) else none)) else none) else some (.inl (some (.int 0), h1))))) = r_) : fg_470_41 N x0 x1 x2 x3 s0 s1 h = r_ := k_
theorem hd_470_0 {N : Nat} {x0 : Value} {x1 : Int32} {x2 : Int32} {x3 : Int64} {h : am_H} {r_ : Option am_O} (k_ : (if am_pOk 12 x0 h then am_cI true (fm_358 x0 x1 h) (fun v2 h3 => (if ¬ v2 = 0 then (if am_pOk 12 x0 h3 then am_cI true (fm_471 x0 x1 x2 h3) (fun v7 h8 => (if ¬ v7 = 0 then ((am_vI (am_pG 3073 x0 h8)).bind fun v11 => (if ¬ v11 = 600 then (fg_470_41 N x0 x1 x2 x3 x0 0 h8) else (fg_470_41 N x0 x1 x2 x3 x0 3 h8))) else (fg_470_41 N x0 x1 x2 x3 x0 2 h8))) else none) else (fg_470_41 N x0 x1 x2 x3 x0 1 h3))) else none) = r_) : fg_470_0 N x0 x1 x2 x3 h = r_ := k_
theorem hm_470 {N : Nat} {y0 : Value} {y1 : Int32} {y2 : Int32} {y3 : Int64} {h : am_H} {r_ : Option am_O} (k_ : fg_470_0 N y0 y1 y2 y3 h = r_) : fm_470 N y0 y1 y2 y3 h = r_ := k_
theorem hd_471_43 {s0 : Int32} {h : am_H} {r_ : Option am_O} (k_ : (if am_rfit (some FieldType.boolean) s0 then some (.inl (some (.int s0), h)) else none) = r_) : fg_471_43 s0 h = r_ := k_
theorem hd_471_42 {h : am_H} {r_ : Option am_O} (k_ : (fg_471_43 0 h) = r_) : fg_471_42 h = r_ := k_
theorem hd_471_38 {h : am_H} {r_ : Option am_O} (k_ : (fg_471_43 1 h) = r_) : fg_471_38 h = r_ := k_
theorem hd_471_34 {s0 : Value} {s1 : Int32} {h : am_H} {r_ : Option am_O} (k_ : ((am_pA 0 s0 s1 h).bind fun v1 => (if ¬ v1 = 0 then (fg_471_42 h) else (fg_471_38 h))) = r_) : fg_471_34 s0 s1 h = r_ := k_
theorem hd_471_0 {x0 : Value} {x1 : Int32} {x2 : Int32} {h : am_H} {r_ : Option am_O} (k_ : am_cI false (fm_327 ((Int32.toInt64 x2)) 0 3 h) (fun v1 h2 => (if ¬ v1 = 0 then (fg_471_38 h2) else (if ¬ x2 = 4 then (fg_471_42 h2) else ((am_vR (am_pG 3074 x0 h2)).bind fun v6 => (if am_pOk 12 x0 h2 then am_cI true (fm_358 x0 x1 h2) (fun v9 h10 => (if v9 = 0 then (fg_471_34 v6 0 h10) else (fg_471_34 v6 x1 h10))) else none))))) = r_) : fg_471_0 x0 x1 x2 h = r_ := k_
theorem hm_471 {y0 : Value} {y1 : Int32} {y2 : Int32} {h : am_H} {r_ : Option am_O} (k_ : fg_471_0 y0 y1 y2 h = r_) : fm_471 y0 y1 y2 h = r_ := k_
theorem hd_472_0 {N : Nat} {x0 : Value} {x1 : Int32} {x2 : Int64} {h : am_H} {r_ : Option am_O} (k_ : ((am_pP 3168 x0 (.long x2) h).bind fun h1 => ((am_pP 3169 x0 (.int (-1)) h1).bind fun h3 => (if ¬ x1 = 4 then (if am_pOk 12 x0 h3 then am_cI true (fm_439 N x0 x1 ((-1)) h3) (fun v7 h8 => (if ¬ v7 = 0 then (if am_pOk 12 x0 h8 then am_cI true (fm_474 x0 v7 h8) (fun v12 h13 => ((am_pP 3169 x0 (.int v12) h13).bind fun h15 => ((am_vI (am_pG 3169 x0 h15)).bind fun v17 => (if am_pOk 12 x0 h15 then am_cI true (fm_439 N x0 x1 v17 h15) (fun v20 h21 => some (.inl (none, h21))) else none)))) else none) else (if am_pOk 12 x0 h8 then am_cV true (fm_442 N x0 h8) (fun h25 => some (.inl (none, h25))) else none))) else none) else (if am_pOk 12 x0 h3 then am_cV true (fm_473 N x0 h3) (fun h29 => some (.inl (none, h29))) else none)))) = r_) : fg_472_0 N x0 x1 x2 h = r_ := k_
theorem hm_472 {N : Nat} {y0 : Value} {y1 : Int32} {y2 : Int64} {h : am_H} {r_ : Option am_O} (k_ : fg_472_0 N y0 y1 y2 h = r_) : fm_472 N y0 y1 y2 h = r_ := k_

theorem rg_gd {P : xT} {k c n r tr fl : Nat} (hg : gdP 0 0 (tI P)) (ho : okP P) (hk : k < P.length) (n1 : 1 ≤ n) (hn : n ≤ 12) (hc : c < 4) (hr : r < uT c n) (et : tr = c % 2) (ef : fl = c / 2) (hs : sndB 0 (tI (P.take k ++ (unX c n r ++ P.drop (xE P k)))) = true) : gdP 0 0 (tI (P.take k ++ (unX c n r ++ P.drop (xE P k)))) := by
  obtain ⟨g1, g2, g3, g4⟩ := unX_ok (tr := tr) (fl := fl) n1 hn hc hr et ef
  obtain ⟨s1, s2⟩ := (snd_rp ho hk (fun x hx => (g4 x hx).1) g2).mp hs
  have h20 : ∀ x, x ∈ P.take k ++ (unX c n r ++ P.drop (xE P k)) → x.1 ≤ 20 ∧ (x.1 = 0 → two x.2) ∧ (x.1 ≠ 0 → x.2 = 0) := fun x hx => by
    rcases List.mem_append.mp hx with h | h
    · have := List.mem_of_mem_take h
      exact ⟨okP_20b ho x this, ho.2 x this⟩
    · rcases List.mem_append.mp h with h | h
      · exact g4 x h
      · have := List.mem_of_mem_drop h
        exact ⟨okP_20b ho x this, ho.2 x this⟩
  have eu : uTx (tI (P.take k ++ (unX c n r ++ P.drop (xE P k)))) = P.take k ++ (unX c n r ++ P.drop (xE P k)) := uTx_tI (fun x hx => (h20 x hx).1)
  have hf : okF [(0, 1, 0)] (sl (P.take k ++ (unX c n r ++ P.drop (xE P k)))) := by
    have := (hole_iff ho.1 (k := k) (by rw [sl_len]; exact hk) g2).mpr s2
    rw [sl_app, sl_app]
    unfold sl at this ⊢
    rw [List.map_take, List.map_drop]
    exact this
  refine ⟨by omega, ?_, fun _ => ⟨rfl, ?_, ?_⟩, fun e => absurd e (by decide), fun e => absurd e (by decide), fun e => absurd e (by decide)⟩
  · rw [tI_len, List.length_append, List.length_append, List.length_take, List.length_drop, Nat.min_eq_left (by omega)]
    omega
  · rw [eu]
    exact ⟨hf, fun x hx => (h20 x hx).2⟩
  · rw [eu]
set_option maxRecDepth 100000 in
set_option maxHeartbeats 4000000 in
theorem rE_439k {V : Nat → Nat → Value} {I : Nat → Nat → Int32} {L : Nat → Nat → Int64} {R : Nat → Nat → Option Nat} {tl : am_H} {N kd ln w : Nat} {P : xI} {so : Int32} (hN : 400 < N) (hg : gdP kd ln P) (hw : w < 4) (hd : dsE kd ln P V I) (wv : wt V) : ∃ W J x, fm_439 N (.ref 174) (nI w) so (fx V I L R ++ tl) = some (.inl (some (.int x), fx W J L R ++ tl)) ∧ outS (vSo V so) I (cdE kd ln P w) so (ncE kd ln P.length w) kd (nI ln) W J ∧ W 174 94 = .int x ∧ dsE kd ln P W J ∧ keep V W I J ∧ kpF V W := by
  obtain ⟨W, J, x, e, o, hx⟩ := all_r (L := L) (R := R) (tl := tl) (N := N) (so := so) hN hg hw hd.1 hd.2.1 hd.2.2.1 hd.2.2.2 wv
  have f2 : frSc (vSo V so) W I J := by
    rcases o with o | o
    · exact o.1
    · exact o.1
  exact ⟨W, J, x, e, o, hx, dsE_Sc hd f2, keep_t keep_So (keep_Sc f2), kpF_Sc f2⟩
theorem r_471 {V : Nat → Nat → Value} {I : Nat → Nat → Int32} {L : Nat → Nat → Int64} {R : Nat → Nat → Option Nat} {tl : am_H} {n b w kd : Nat} (b3 : V 174 1 = .int (nI n)) (b1 : n ≤ 600) (hb : b < n) (q1 : I 175 b = nI kd) (k3 : kd ≤ 3) (hw : w < 5) : fm_471 (.ref 174) (nI b) (nI w) (fx V I L R ++ tl) = some (.inl (some (.int (if w = 4 ∧ kd ≠ 0 then 0 else 1)), fx V I L R ++ tl)) := by
  apply hm_471
  apply hd_471_0
  refine ev_cI (pe_327 _ _ _ _) ?_
  by_cases c : w = 4
  · subst c
    rw [show pv_327 (nI 4).toInt64 0 3 = 0 by decide]
    refine ev_f (fun q => q rfl) (ev_f (fun q => q rfl) (ev_b (rdR rfl) (ev_i rfl (ev_cI (r_358 b3 b1 hb) (ev_f (by decide) ?_)))))
    apply hd_471_34
    refine ev_b ((qa_175 (by omega)).trans (congrArg some q1)) ?_
    by_cases d : kd = 0
    · rw [show (if 4 = 4 ∧ kd ≠ 0 then (0 : Int32) else 1) = 1 from if_neg (fun q => q.2 d)]
      exact ev_f (fun q => q (by rw [d]; rfl)) (hd_471_38 (hd_471_43 (ev_i rfl rfl)))
    · rw [show (if 4 = 4 ∧ kd ≠ 0 then (0 : Int32) else 1) = 0 from if_pos ⟨rfl, d⟩]
      exact ev_t (fun q => d ((nI_eq (b := 0) (by omega) (by omega)).mp q)) (hd_471_42 (hd_471_43 (ev_i rfl rfl)))
  · rw [in_4 w (by omega), show (if w = 4 ∧ kd ≠ 0 then (0 : Int32) else 1) = 1 from if_neg (fun q => c q.1)]
    exact ev_t (by decide) (hd_471_38 (hd_471_43 (ev_i rfl rfl)))
theorem r_471n {V : Nat → Nat → Value} {I : Nat → Nat → Int32} {L : Nat → Nat → Int64} {R : Nat → Nat → Option Nat} {tl : am_H} {b : Int32} {a : Int32} (hn : a < 0 ∨ nI 5 ≤ a) : fm_471 (.ref 174) b a (fx V I L R ++ tl) = some (.inl (some (.int 0), fx V I L R ++ tl)) := by
  apply hm_471
  apply hd_471_0
  refine ev_cI (pe_327 _ _ _ _) ?_
  have h4 : a < 0 ∨ nI 4 ≤ a := hn.imp id (fun h => Int32.le_trans (by decide) h)
  rw [in_4n h4]
  refine ev_f (fun q => q rfl) (ev_t (fun q => ?_) (hd_471_42 (hd_471_43 (ev_i rfl rfl))))
  rw [q] at hn
  exact absurd hn (by decide)
set_option maxRecDepth 100000 in
set_option maxHeartbeats 4000000 in
theorem fin_29 {V : Nat → Nat → Value} {I : Nat → Nat → Int32} {L : Nat → Nat → Int64} {R : Nat → Nat → Option Nat} {tl : am_H} {N n p j b kd ln kd0 w : Nat} {sd : Int64} {nb : Int32} {X : xI} {W2 V0 : Nat → Nat → Value} {J2 : Nat → Nat → Int32} {L0 : Nat → Nat → Int64} (hr : rel V I L R tl n p) (h80 : rel V0 I L0 R tl n p) (hm : room tl n p j) (hN : 5000 < N) (hb : b < n) (hn : n < 600) (gX : gdP kd ln X) (kW : keep V W2 I J2) (hcls : fm_189 N (.ref 0) (nI b) (nI w) sd (fx V I L R ++ tl) = am_cI true (fg_190_121 N (.ref 0) (nI b) (-1) (nI w) sd nb (fx W2 J2 L R ++ tl)) (fun v19 h20 => some (.inl (some (.int v19), h20)))) (h90 : holdE W2 J2 90 kd ln X) (hw : w < 5) (q1 : I 175 b = nI kd0) (k3 : kd0 ≤ 3) (hk0 : ¬ (w = 4 ∧ kd0 ≠ 0)) (hp : ped n 3 (nI b) (-1) (nI w) nb) (hg1 : gen1 I n 3 (nI b) (-1) (nI w) nb) (href : ∀ (S : Nat → Nat → Option Nat) (t : am_H), ∃ Wa Ja W J M, fm_391 N (.ref 174) (nI b) (fx (vup (vup W2 0 1 (.int (nI (n + 1)))) 174 0 (.int 0)) J2 (outL L (nI n).toInt64) S ++ t) = some (.inl (none, fx Wa Ja (outL L (nI n).toInt64) S ++ t)) ∧ fm_472 N (.ref 174) (nI w) sd (fx Wa Ja (outL L (nI n).toInt64) S ++ t) = some (.inl (none, fx W J M S ++ t)) ∧ keep (vup V0 0 1 (.int (nI (n + 1)))) W I J ∧ dkL W J X ∧ W 174 13 = .int (nI kd) ∧ W 174 15 = .int (nI ln) ∧ W 174 97 = .int nb ∧ W 174 0 = .int 0 ∧ W 174 1 = .int (nI n) ∧ (∀ y, y ∈ lRel → M y = L0 y) ∧ M 268 0 = (nI n).toInt64) : ∃ h', opBI (fm_188 N (.ref 0) (nI b) (nI w) sd (.ref 268) (fx V I L R ++ tl)) (fun h1 => fm_470 N (.ref 174) (nI b) (nI w) sd h1) vfI h' ∧ invW (j + 1) h' := by
  obtain ⟨b1, b2, b3⟩ := hr.1
  have hwt := rel_w hr
  have c01 : W2 0 1 = .int (nI n) := (kW.1 0 1 (by decide)).trans b2
  have c17 : W2 174 1 = .int (nI n) := (kW.1 174 1 (by decide)).trans b3
  have wX := gd_w gX
  have iR : ∀ y, y ∈ iRel → J2 y = I y := kW.2.1
  have eb := bear_c90 (V := W2) (I := J2) (L := L) (R := R) (tl := tl) (n := n) (kd := kd) (ln := ln) (sz := X.length) h90.1 h90.2.1 h90.2.2.1 h90.2.2.2.1 gX.1 wX c01 hn 3 (nI b) (-1) (nI w) nb sd
  obtain ⟨Wa, Ja, W4, J4, M4, r0, r1, K, d1, d13, d15, d97, d0, v1, lM, l8⟩ := href (rup R 1 (va_up (R 1) n (some (269 + tl.length)))) (tl ++ brt tl.length kd ln X.length 3 (nI b) (-1) (nI w) nb sd (va_cpy (J2 91) (fun _ => 0) 0 0 (X.length * wdN kd)))
  have er := bear_r (V := W4) (I := J4) (L := M4) (R := rup R 1 (va_up (R 1) n (some (269 + tl.length)))) (tl := tl ++ brt tl.length kd ln X.length 3 (nI b) (-1) (nI w) nb sd (va_cpy (J2 91) (fun _ => 0) 0 0 (X.length * wdN kd))) (N := N) (n := n) (kd := kd) (ln := ln) (sz := X.length) v1 d13 d1.1 ⟨nI ln, d15, gd_nt gX⟩ hn gX.2.1 (by omega) 3 (nI b) (-1) (nI w) nb sd
  have hR := bear_rel (W := V0) (J := I) (W' := W4) (J' := J4) (M' := M4) (kd := kd) (ln := ln) (sz := X.length) (x1 := 3) (x2 := nI b) (x3 := -1) (x4 := nI w) (x5 := nb) (x6 := sd) (f := va_cpy (J2 91) (fun _ => 0) 0 0 (X.length * wdN kd)) h80 hn keep_r K lM (itm_cp h90.2.2.2.2 d1.2) (gd_snd gX d1.2) hp hg1
  refine ⟨_, opBI_g (v := nI n) (W := vup W2 0 1 (.int (nI (n + 1)))) (J := J2) (M := outL L (nI n).toInt64) (R1 := rup R 1 (va_up (R 1) n (some (269 + tl.length)))) (t1 := tl ++ brt tl.length kd ln X.length 3 (nI b) (-1) (nI w) nb sd (va_cpy (J2 91) (fun _ => 0) 0 0 (X.length * wdN kd))) ?_ ?_ ?_ ?_, inv_mk hR (room_up (room_b wX hm))⟩
  · have e : fm_189 N (.ref 0) (nI b) (nI w) sd (fx V I L R ++ tl) = some (.inl (some (.int (nI n)), fx (vup W2 0 1 (.int (nI (n + 1)))) J2 L (rup R 1 (va_up (R 1) n (some (269 + tl.length)))) ++ (tl ++ brt tl.length kd ln X.length 3 (nI b) (-1) (nI w) nb sd (va_cpy (J2 91) (fun _ => 0) 0 0 (X.length * wdN kd))))) := by
      rw [hcls]
      refine ev_cI ?_ rfl
      apply hd_190_121
      refine ev_b (rdR rfl) (ev_b (rdR rfl) (ev_f (by decide) ?_))
      apply hd_190_138
      exact ev_i rfl (ev_cI eb rfl)
    unfold fm_188 fg_188_0
    refine ev_i rfl ?_
    rw [e]
    exact ev_b out_s rfl
  · show fm_470 N (.ref 174) (nI b) (nI w) sd _ = _
    have c17' : vup W2 0 1 (.int (nI (n + 1))) 174 1 = .int (nI n) := (vup_o (by decide)).trans c17
    apply hm_470
    apply hd_470_0
    refine ev_i rfl (ev_cI (r_358 c17' b1 hb) (ev_t (by decide) (ev_i rfl (ev_cI (r_471 c17' b1 hb ((congrFun (iR 175 (by decide)) b).trans q1) k3 hw) ?_))))
    rw [if_neg hk0]
    refine ev_t (by decide) (ev_b (rdI c17') (ev_t (fun e => by have := (nI_eq (b := 600) (by omega) (by decide)).mp e; omega) ?_))
    apply hd_470_41
    exact ev_b qp_174_0 (ev_b (a := 0) rfl (ev_t (by decide) (ev_i rfl (ev_cV r0 (ev_i rfl (ev_cV r1 (ev_b (rdI d97) (ev_i rfl (ev_cI er rfl)))))))))
  · rw [vup_o (by decide)]
    exact d0
  · rw [lup_na (by decide)]
    exact l8
