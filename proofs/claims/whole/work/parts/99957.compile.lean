/-! ===== compile ===== -/
theorem hd_307_104 {N : Nat} {s0 : Int32} {h : am_H} {r_ : Option am_O} (k_ : some (.inl (some (.int s0), h)) = r_) : fg_307_104 N s0 h = r_ := k_
theorem hd_307_78 {N : Nat} {x0 : Value} {x1 : Int32} {s0 : Int32} {h : am_H} {r_ : Option am_O} (k_ : (if s0 = 0 then (fg_307_104 N ((-1)) h) else ((am_vR (am_pG 2831 x0 h)).bind fun v2 => (if am_pOk 11 x0 h then am_cI true (fm_59 x0 v2 7 x1 ((-1)) ((-1)) ((-1)) 0 h) (fun v5 h6 => (fg_307_104 N v5 h6)) else none))) = r_) : fg_307_78 N x0 x1 s0 h = r_ := k_
theorem hd_307_41 {N : Nat} {x0 : Value} {x1 : Int32} {x2 : Int32} {x3 : Value} {h : am_H} {r_ : Option am_O} (k_ : (if am_pOk 11 x0 h then am_cV true (fm_32 x0 1 h) (fun h3 => (if ¬ x2 = 1 then ((am_vR (am_pG 2825 x0 h3)).bind fun v6 => ((am_vR (am_pG 2831 x0 h3)).bind fun v8 => (if am_pOk 10 v6 h3 then am_cI true (fm_293 N v6 x3 v8 h3) (fun v11 h12 => (fg_307_78 N x0 x1 v11 h12)) else none))) else ((am_vR (am_pG 2825 x0 h3)).bind fun v14 => ((am_vR (am_pG 2831 x0 h3)).bind fun v16 => (if am_pOk 10 v14 h3 then am_cI true (fm_205 N v14 x3 v16 h3) (fun v19 h20 => (fg_307_78 N x0 x1 v19 h20)) else none))))) else none) = r_) : fg_307_41 N x0 x1 x2 x3 h = r_ := k_
theorem hd_307_30 {N : Nat} {h : am_H} {r_ : Option am_O} (k_ : some (.inr (0, h ++ [am_dummy])) = r_) : fg_307_30 N h = r_ := k_
theorem hd_307_18 {N : Nat} {x0 : Value} {x1 : Int32} {x2 : Int32} {x3 : Value} {h : am_H} {r_ : Option am_O} (k_ : ((am_vI (am_pG 769 x3 h)).bind fun v1 => (if ¬ v1 = 1 then (fg_307_30 N h) else (if x2 = 0 then (fg_307_41 N x0 x1 x2 x3 h) else (fg_307_30 N h)))) = r_) : fg_307_18 N x0 x1 x2 x3 h = r_ := k_
theorem hd_307_0 {N : Nat} {x0 : Value} {x1 : Int32} {x2 : Int32} {h : am_H} {r_ : Option am_O} (k_ : (if am_pOk 11 x0 h then am_cR true (fm_63 x0 x1 h) (fun v2 h3 => ((am_vI (am_pG 769 v2 h3)).bind fun v5 => (if ¬ v5 = 0 then (fg_307_18 N x0 x1 x2 v2 h3) else (if x2 = 1 then (fg_307_41 N x0 x1 x2 v2 h3) else (fg_307_18 N x0 x1 x2 v2 h3))))) else none) = r_) : fg_307_0 N x0 x1 x2 h = r_ := k_
theorem hm_307 {N : Nat} {y0 : Value} {y1 : Int32} {y2 : Int32} {h : am_H} {r_ : Option am_O} (k_ : fg_307_0 N y0 y1 y2 h = r_) : fm_307 N y0 y1 y2 h = r_ := k_
theorem hd_556_118 {N : Nat} {x0 : Value} {x1 : Int32} {h : am_H} {r_ : Option am_O} (k_ : (if am_pOk 12 x0 h then am_cI true (fm_356 N x0 7 x1 ((-1)) ((-1)) ((-1)) 0 h) (fun v2 h3 => some (.inl (some (.int v2), h3))) else none) = r_) : fg_556_118 N x0 x1 h = r_ := k_
theorem hd_556_101 {N : Nat} {x0 : Value} {x1 : Int32} {x2 : Int32} {s0 : Int32} {h : am_H} {r_ : Option am_O} (k_ : (if ¬ s0 = 0 then (if ¬ x2 = 0 then (fg_556_118 N x0 x1 h) else (if am_pOk 12 x0 h then am_cV true (fm_442 N x0 h) (fun h5 => (fg_556_118 N x0 x1 h5)) else none)) else some (.inl (some (.int (-1)), h))) = r_) : fg_556_101 N x0 x1 x2 s0 h = r_ := k_
theorem hd_556_63 {N : Nat} {x0 : Value} {x1 : Int32} {x2 : Int32} {s0 : Value} {s1 : Int32} {h : am_H} {r_ : Option am_O} (k_ : ((am_pP 3072 s0 (.int s1) h).bind fun h1 => ((am_vI (am_pG 3072 x0 h1)).bind fun v3 => (if v3 ≤ 0 then (if am_pOk 12 x0 h1 then am_cV true (fm_359 N x0 x1 h1) (fun h8 => (if am_pOk 12 x0 h8 then am_cV true (fm_391 N x0 x1 h8) (fun h12 => (if ¬ x2 = 1 then (if am_pOk 12 x0 h12 then am_cI true (fm_557 N x0 h12) (fun v16 h17 => (fg_556_101 N x0 x1 x2 v16 h17)) else none) else (if am_pOk 12 x0 h12 then am_cI true (fm_494 N x0 h12) (fun v20 h21 => (fg_556_101 N x0 x1 x2 v20 h21)) else none))) else none)) else none) else some (.inl (some (.int 0), h1))))) = r_) : fg_556_63 N x0 x1 x2 s0 s1 h = r_ := k_
theorem hd_556_44 {N : Nat} {x0 : Value} {x1 : Int32} {x2 : Int32} {s0 : Value} {h : am_H} {r_ : Option am_O} (k_ : (fg_556_63 N x0 x1 x2 s0 2 h) = r_) : fg_556_44 N x0 x1 x2 s0 h = r_ := k_
theorem hd_556_18 {N : Nat} {x0 : Value} {x1 : Int32} {x2 : Int32} {s0 : Int32} {h : am_H} {r_ : Option am_O} (k_ : (if am_pOk 12 x0 h then am_cI true (fm_358 x0 x1 h) (fun v2 h3 => (if ¬ v2 = 0 then (if 1 < s0 then (fg_556_44 N x0 x1 x2 x0 h3) else (if x2 = (1 - s0) then ((am_vI (am_pG 3073 x0 h3)).bind fun v8 => (if ¬ v8 = 600 then (fg_556_63 N x0 x1 x2 x0 0 h3) else (fg_556_63 N x0 x1 x2 x0 3 h3))) else (fg_556_44 N x0 x1 x2 x0 h3))) else (fg_556_63 N x0 x1 x2 x0 1 h3))) else none) = r_) : fg_556_18 N x0 x1 x2 s0 h = r_ := k_
theorem hd_556_0 {N : Nat} {x0 : Value} {x1 : Int32} {x2 : Int32} {h : am_H} {r_ : Option am_O} (k_ : (if am_pOk 12 x0 h then am_cI true (fm_358 x0 x1 h) (fun v2 h3 => (if v2 = 0 then (fg_556_18 N x0 x1 x2 0 h3) else ((am_vR (am_pG 3074 x0 h3)).bind fun v6 => ((am_pA 0 v6 x1 h3).bind fun v8 => (fg_556_18 N x0 x1 x2 v8 h3))))) else none) = r_) : fg_556_0 N x0 x1 x2 h = r_ := k_
theorem hm_556 {N : Nat} {y0 : Value} {y1 : Int32} {y2 : Int32} {h : am_H} {r_ : Option am_O} (k_ : fg_556_0 N y0 y1 y2 h = r_) : fm_556 N y0 y1 y2 h = r_ := k_
set_option maxRecDepth 100000 in
set_option maxHeartbeats 4000000 in
theorem r_556h {V : Nat → Nat → Value} {I : Nat → Nat → Int32} {L : Nat → Nat → Int64} {R : Nat → Nat → Option Nat} {tl : am_H} {N n b kd : Nat} {a2 : Int32} {o : Option am_O} (b3 : V 174 1 = .int (nI n)) (b1 : n ≤ 600) (hb : b < n) (q1 : I 175 b = nI kd) (k3 : kd ≤ 3) (ho : fg_556_63 N (.ref 174) (nI b) a2 (.ref 174) (if (kd = 0 ∧ a2 = 1) ∨ (kd = 1 ∧ a2 = 0) then (if n = 600 then 3 else 0) else 2) (fx V I L R ++ tl) = o) : fm_556 N (.ref 174) (nI b) a2 (fx V I L R ++ tl) = o := by
  apply hm_556
  apply hd_556_0
  refine ev_i rfl (ev_cI (r_358 b3 b1 hb) (ev_f (by decide) (ev_b (rdR rfl) (ev_b ((qa_175 (by omega)).trans (congrArg some q1)) ?_))))
  apply hd_556_18
  refine ev_i rfl (ev_cI (r_358 b3 b1 hb) (ev_t (by decide) ?_))
  have last : ((am_vI (am_pG 3073 (.ref 174) (fx V I L R ++ tl))).bind fun v8 => (if ¬ v8 = 600 then (fg_556_63 N (.ref 174) (nI b) a2 (.ref 174) 0 (fx V I L R ++ tl)) else (fg_556_63 N (.ref 174) (nI b) a2 (.ref 174) 3 (fx V I L R ++ tl)))) = fg_556_63 N (.ref 174) (nI b) a2 (.ref 174) (if n = 600 then 3 else 0) (fx V I L R ++ tl) := by
    refine ev_b (rdI b3) ?_
    by_cases d : n = 600
    · rw [if_pos d]
      exact ev_f (fun e => e (by rw [d]; rfl)) rfl
    · rw [if_neg d]
      exact ev_t (fun e => d ((nI_eq (b := 600) (by omega) (by omega)).mp e)) rfl
  by_cases c0 : kd = 0
  · subst c0
    refine ev_f (by decide) ?_
    by_cases c : a2 = 1
    · rw [if_pos (.inl ⟨rfl, c⟩)] at ho
      exact ev_t (by rw [c]; rfl) (last.trans ho)
    · rw [if_neg (fun h => by rcases h with h | h; exact c h.2; exact absurd h.1 (by decide))] at ho
      exact ev_f c ho
  · by_cases c1 : kd = 1
    · subst c1
      refine ev_f (by decide) ?_
      by_cases c : a2 = 0
      · rw [if_pos (.inr ⟨rfl, c⟩)] at ho
        exact ev_t (by rw [c]; rfl) (last.trans ho)
      · rw [if_neg (fun h => by rcases h with h | h; exact absurd h.1 (by decide); exact c h.2)] at ho
        exact ev_f c ho
    · rw [if_neg (fun h => by omega)] at ho
      exact ev_t (show (1 : Int32) < nI kd by simp (disch := omega) only [i_1, nI_ltI]; omega) ho
set_option maxRecDepth 100000 in
set_option maxHeartbeats 4000000 in
theorem c_307h {V : Nat → Nat → Value} {I : Nat → Nat → Int32} {L : Nat → Nat → Int64} {R : Nat → Nat → Option Nat} {tl : am_H} {N n b a kd : Nat} {a2 : Int32} (b2 : V 0 1 = .int (nI n)) (b1 : n ≤ 600) (hb : b < n) (q4 : R 1 b = some (269 + a)) (k3 : kd ≤ 3) (rk : am_vI (am_pG 769 (.ref (269 + a)) (fx V I L R ++ tl)) = some (nI kd)) : ((kd = 0 ∧ a2 = 1) ∨ (kd = 1 ∧ a2 = 0) → ∀ o, fg_307_41 N (.ref 0) (nI b) a2 (.ref (269 + a)) (fx V I L R ++ tl) = o → fm_307 N (.ref 0) (nI b) a2 (fx V I L R ++ tl) = o) ∧ (¬ ((kd = 0 ∧ a2 = 1) ∨ (kd = 1 ∧ a2 = 0)) → fm_307 N (.ref 0) (nI b) a2 (fx V I L R ++ tl) = some (.inr (0, fx V I L R ++ (tl ++ [am_dummy])))) := by
  have st0 : ∀ o, (if ¬ nI kd = 0 then (fg_307_18 N (.ref 0) (nI b) a2 (.ref (269 + a)) (fx V I L R ++ tl)) else (if a2 = 1 then (fg_307_41 N (.ref 0) (nI b) a2 (.ref (269 + a)) (fx V I L R ++ tl)) else (fg_307_18 N (.ref 0) (nI b) a2 (.ref (269 + a)) (fx V I L R ++ tl)))) = o → fm_307 N (.ref 0) (nI b) a2 (fx V I L R ++ tl) = o := fun o k_ => by
    apply hm_307
    apply hd_307_0
    exact ev_i rfl (ev_cR (c_63 b2 b1 hb q4) rfl (ev_b rk k_))
  refine ⟨fun h o k_ => st0 o ?_, fun h => st0 _ ?_⟩
  · rcases h with ⟨h, g⟩ | ⟨h, g⟩
    · subst h
      exact ev_f (fun e => e rfl) (ev_t g k_)
    · subst h
      refine ev_t (by decide) ?_
      apply hd_307_18
      exact ev_b rk (ev_f (fun e => e rfl) (ev_t g k_))
  · have en : fg_307_30 N (fx V I L R ++ tl) = some (.inr (0, fx V I L R ++ (tl ++ [am_dummy]))) := by
      rw [← List.append_assoc]
      rfl
    have e18 : ¬ (kd = 1 ∧ a2 = 0) → fg_307_18 N (.ref 0) (nI b) a2 (.ref (269 + a)) (fx V I L R ++ tl) = some (.inr (0, fx V I L R ++ (tl ++ [am_dummy]))) := fun h => by
      apply hd_307_18
      refine ev_b rk ?_
      by_cases c : kd = 1
      · subst c
        exact ev_f (fun e => e rfl) (ev_f (fun e => h ⟨rfl, e⟩) en)
      · exact ev_t (fun e => c ((nI_eq (b := 1) (by omega) (by decide)).mp e)) en
    by_cases c : kd = 0
    · subst c
      exact ev_f (fun e => e rfl) (ev_f (fun e => h (.inl ⟨rfl, e⟩)) (e18 (fun e => h (.inr e))))
    · exact ev_t (fun e => c ((nI_eq (b := 0) (by omega) (by decide)).mp e)) (e18 (fun e => h (.inr e)))
/-- the end of compile, of both kinds -/
def endR (N b : Nat) (b0 : Bool) (h : am_H) : Option am_O := if b0 = true then fg_556_118 N (.ref 174) (nI b) h else some (.inl (some (.int (-1)), h))
set_option maxRecDepth 100000 in
set_option maxHeartbeats 4000000 in
theorem fin_55 {V : Nat → Nat → Value} {I : Nat → Nat → Int32} {L : Nat → Nat → Int64} {R : Nat → Nat → Option Nat} {tl : am_H} {N n p j b kd : Nat} {a2 : Int32} {b0 : Bool} {W2 : Nat → Nat → Value} {J2 : Nat → Nat → Int32} {R' : Nat → Nat → Option Nat} {Q : xT} (hr : rel V I L R tl n p) (hm : room tl n p j) (hN : 400 < N) (hb : b < n) (hn : n < 600) (hkd : kd ≤ 1) (hR : ∀ y, y ≠ 140 → R' y = R y) (hP : rPl R') (kW : keep V W2 I J2) (hc : fm_307 N (.ref 0) (nI b) a2 (fx V I L R ++ tl) = fg_307_78 N (.ref 0) (nI b) (bI b0) (fx W2 J2 L R' ++ tl)) (hh : b0 = true → hold W2 J2 167 kd 0 Q ∧ Q.length ≤ 60 ∧ ∀ s v, lay2 s v (tI Q) → sound kd 0 Q.length s v) (href : ∀ (X : Nat → Nat → Value) (Y : Nat → Nat → Int32) (M : Nat → Nat → Int64) (S : Nat → Nat → Option Nat) (t : am_H), X 174 1 = .int (nI n) → (∀ y, y ∈ iRel → Y y = I y) → ∃ W J, fm_556 N (.ref 174) (nI b) a2 (fx X Y M S ++ t) = endR N b b0 (fx W J M S ++ t) ∧ (b0 = true → W 174 13 = .int (nI kd) ∧ (∃ nt, W 174 15 = .int nt) ∧ dkL W J (tI Q)) ∧ keep X W Y J ∧ W 174 0 = .int 0) : ∃ h', opBI (fm_306 N (.ref 0) (nI b) a2 (.ref 268) (fx V I L R ++ tl)) (fun h1 => fm_556 N (.ref 174) (nI b) a2 h1) vfI h' ∧ invW (j + 1) h' := by
  obtain ⟨b1, b2, b3⟩ := hr.1
  have hw := rel_w hr
  have hr' := rel_R hr hR hP
  have c01 : W2 0 1 = .int (nI n) := (kW.1 0 1 (by decide)).trans b2
  have c17 : W2 174 1 = .int (nI n) := (kW.1 174 1 (by decide)).trans b3
  cases b0 with
  | false =>
    have ec : fm_307 N (.ref 0) (nI b) a2 (fx V I L R ++ tl) = some (.inl (some (.int (-1)), fx W2 J2 L R' ++ tl)) := hc.trans (hd_307_78 (ev_t rfl rfl))
    obtain ⟨W, J, e, -, k, z⟩ := href W2 J2 (outL L (-1 : Int32).toInt64) R' tl c17 kW.2.1
    refine ⟨_, opBI_g (v := -1) (W := W2) (J := J2) (M := outL L (-1 : Int32).toInt64) (R1 := R') (t1 := tl) ?_ e z outL_at, inv_mk (rel_k (keep_t kW k) (rel_ol _ hr')) (room_up hm)⟩
    unfold fm_306 fg_306_0
    refine ev_i rfl ?_
    rw [ec]
    exact ev_b out_s rfl
  | true =>
    obtain ⟨hd, l60, hsd⟩ := hh rfl
    have wd : wdN kd = 2 := wd2 (by omega)
    have eb := bear_c (V := W2) (I := J2) (L := L) (R := R') (tl := tl) (n := n) (kd := kd) (ln := 0) (sz := Q.length) hd.1 hd.2.1 hd.2.2.1 (by rw [wd]; exact hd.2.2.2.1) (by omega) (by rw [wd]; omega) c01 hn 7 (nI b) (-1) (-1) (-1) 0
    have ec : fm_307 N (.ref 0) (nI b) a2 (fx V I L R ++ tl) = _ := hc.trans (hd_307_78 (ev_f (by decide) (ev_b (rdR rfl) (ev_i rfl (ev_cI eb rfl)))))
    obtain ⟨W, J, e, d, k, z⟩ := href (vup W2 0 1 (.int (nI (n + 1)))) J2 (outL L (nI n).toInt64) (rup R' 1 (va_up (R' 1) n (some (269 + tl.length)))) (tl ++ brt tl.length kd 0 Q.length 7 (nI b) (-1) (-1) (-1) 0 (va_cpy (J2 168) (fun _ => 0) 0 0 (Q.length * wdN kd))) ((vup_o (by decide)).trans c17) kW.2.1
    obtain ⟨d1, ⟨nt, d2⟩, d3⟩ := d rfl
    have l3 := d3.1
    rw [tI_len] at l3
    have v1 : W 174 1 = .int (nI n) := (k.1 174 1 (by decide)).trans ((vup_o (by decide)).trans c17)
    have n3 : ¬ nI kd = 3 := fun e => by have := (nI_eq (b := 3) (by omega) (by decide)).mp e; omega
    have er := bear_r (V := W) (I := J) (L := outL L (nI n).toInt64) (R := rup R' 1 (va_up (R' 1) n (some (269 + tl.length)))) (tl := tl ++ brt tl.length kd 0 Q.length 7 (nI b) (-1) (-1) (-1) 0 (va_cpy (J2 168) (fun _ => 0) 0 0 (Q.length * wdN kd))) (N := N) (n := n) (kd := kd) (ln := 0) (sz := Q.length) v1 d1 l3 ⟨nt, d2, by rw [if_neg n3]; rfl⟩ hn (by omega) (by omega) 7 (nI b) (-1) (-1) (-1) 0
    refine bear_fin (W := W2) (J := J2) (W' := W) (J' := J) (kd := kd) (ln := 0) (sz := Q.length) (x1 := 7) (x2 := nI b) (x3 := -1) (x4 := -1) (x5 := -1) (x6 := 0) (F := va_cpy (J2 168) (fun _ => 0) 0 0 (Q.length * wdN kd)) hr' hm hn (by rw [wd]; omega) ?_ ?_ (keep_t (keep_up hw (by decide) kW) k) z (itm_T (by omega) (by rw [wd]; exact tO_cpy hd.2.2.2.2) d3.2) (hsd _ _ d3.2) (ped_7 hb b1) (gen_o (by decide) (by decide))
    · unfold fm_306 fg_306_0
      refine ev_i rfl ?_
      rw [ec]
      exact ev_b out_s rfl
    · show fm_556 N (.ref 174) (nI b) a2 _ = _
      refine e.trans ?_
      unfold endR
      rw [if_pos rfl]
      apply hd_556_118
      exact ev_i rfl (ev_cI er rfl)
set_option maxRecDepth 100000 in
set_option maxHeartbeats 4000000 in
theorem ref_A {V : Nat → Nat → Value} {I : Nat → Nat → Int32} {L : Nat → Nat → Int64} {R : Nat → Nat → Option Nat} {tl : am_H} {N n b : Nat} {P : xT} (hN : 400 < N) (hb : b < n) (hn : n < 600) (b3 : V 174 1 = .int (nI n)) (o1 : okP P) (o2 : P.length ≤ 60) (q1 : I 175 b = nI 0) (q2 : I 176 b = nI P.length) (q3 : I 177 b = nI 0) (hy : lay2 (fun k => I 184 (60 * b + k)) (fun k => I 185 (60 * b + k)) (tI P)) : ∃ W J b0, fm_556 N (.ref 174) (nI b) 1 (fx V I L R ++ tl) = endR N b b0 (fx W J L R ++ tl) ∧ (b0 = true ↔ hasC P) ∧ (b0 = true → W 174 13 = .int (nI 1) ∧ (∃ nt, W 174 15 = .int nt) ∧ dkL W J (tI (cO2 P 0))) ∧ keep V W I J ∧ W 174 0 = .int 0 := by
  have e1 := r_359 (V := vup V 174 0 (.int 0)) (I := I) (L := L) (R := R) (tl := tl) (N := N) (b := b) (kd := 0) (ln := 0) (sz := P.length) (by omega) (by omega) o2 q1 q2 q3
  obtain ⟨g, e2⟩ := s391m (V := dkV (vup V 174 0 (.int 0)) 0 0 P.length) (I := dkI I b P.length) (L := L) (R := R) (tl := tl) (N := N) (b := b) hN (by omega) o1 o2 q1 q2 q3 hy
  have dk : dkT (dk2V (dkV (vup V 174 0 (.int 0)) 0 0 P.length) 0 0 P.length) (iup (dk2I (dkI I b P.length) b P.length) 192 g) (nI 0) P := by
    refine ⟨rfl, rfl, by rw [tI_len]; rfl, fun k x hx => ?_⟩
    have hk : k < P.length := by
      have := (List.getElem?_eq_some_iff.mp hx).1
      rw [tI_len] at this
      exact this
    obtain ⟨y1, y2⟩ := hy k x hx
    exact ⟨(ldr_at hk).trans y1, (ldr_at hk).trans y2⟩
  obtain ⟨W, J, b0, e3, g3, d3, f3⟩ := rs_494 (L := L) (R := R) (tl := tl) (N := N) hN o1 o2 dk
  refine ⟨W, J, b0, r_556h b3 (by omega) hb q1 (by omega) ?_, g3, fun e => ?_, keep_t keep_0 (keep_t keep_dk (keep_t keep_dk2 (keep_t (keep_i (by decide)) (keep_Tc f3)))), (f3.1 174 0 (by decide)).trans rfl⟩
  · rw [if_pos (.inl ⟨rfl, rfl⟩), if_neg (by omega)]
    apply hd_556_63
    refine ev_b qp_174_0 (ev_b (a := 0) rfl (ev_t (by decide) (ev_i rfl (ev_cV e1 (ev_i rfl (ev_cV e2 (ev_f (fun e => e rfl) (ev_i rfl (ev_cI e3 ?_)))))))))
    apply hd_556_101
    cases b0 with
    | false => exact ev_f (fun e => e rfl) rfl
    | true => exact ev_t (by decide) (ev_t (by decide) rfl)
  · obtain ⟨x1, x2, x3⟩ := d3 e
    exact ⟨x1, ⟨_, x2⟩, x3⟩
set_option maxRecDepth 100000 in
set_option maxHeartbeats 4000000 in
theorem ref_B {V : Nat → Nat → Value} {I : Nat → Nat → Int32} {L : Nat → Nat → Int64} {R : Nat → Nat → Option Nat} {tl : am_H} {N n b : Nat} {C : xT} (hN : 400 < N) (hb : b < n) (hn : n < 600) (b3 : V 174 1 = .int (nI n)) (hc : sndC C) (o2 : C.length ≤ 60) (q1 : I 175 b = nI 1) (q2 : I 176 b = nI C.length) (q3 : I 177 b = nI 0) (hy : lay2 (fun k => I 184 (60 * b + k)) (fun k => I 185 (60 * b + k)) (tI C)) : ∃ W J b0, fm_556 N (.ref 174) (nI b) 0 (fx V I L R ++ tl) = endR N b b0 (fx W J L R ++ tl) ∧ (b0 = true ↔ ∃ Q, tOf C Q) ∧ (b0 = true → ∃ Q, tOf C Q ∧ W 174 13 = .int (nI 0) ∧ (∃ nt, W 174 15 = .int nt) ∧ dkL W J (tI Q)) ∧ keep V W I J ∧ W 174 0 = .int 0 := by
  have e1 := r_359 (V := vup V 174 0 (.int 0)) (I := I) (L := L) (R := R) (tl := tl) (N := N) (b := b) (kd := 1) (ln := 0) (sz := C.length) (by omega) (by omega) o2 q1 q2 q3
  have e2 := r_391 (V := dkV (vup V 174 0 (.int 0)) 1 0 C.length) (I := dkI I b C.length) (L := L) (R := R) (tl := tl) (N := N) (b := b) (kd := 1) (ln := 0) (sz := C.length) (by omega) (by omega) o2 (by decide) (by decide) q1 q2 q3
  have dk : dsA (dk2V (dkV (vup V 174 0 (.int 0)) 1 0 C.length) 1 0 C.length) (dk2I (dkI I b C.length) b C.length) (tI C) := by
    refine ⟨by rw [tI_len]; rfl, fun k x hx => ?_⟩
    have hk : k < C.length := by
      have := (List.getElem?_eq_some_iff.mp hx).1
      rw [tI_len] at this
      exact this
    obtain ⟨y1, y2⟩ := hy k x hx
    exact ⟨(ldr_at hk).trans y1, (ldr_at hk).trans y2⟩
  obtain ⟨W, J, b0, e3, g3, d3, f3⟩ := s557 (L := L) (R := R) (tl := tl) (N := N) hN o2 hc rfl dk
  have K : keep V W I J := keep_t keep_0 (keep_t keep_dk (keep_t keep_dk2 (keep_Tr f3)))
  have z : W 174 0 = .int 0 := (f3.1 174 0 (by decide)).trans rfl
  have st0 : ∀ o, fg_556_101 N (.ref 174) (nI b) 0 (bI b0) (fx W J L R ++ tl) = o → fm_556 N (.ref 174) (nI b) 0 (fx V I L R ++ tl) = o := fun o k_ => by
    refine r_556h b3 (by omega) hb q1 (by omega) ?_
    rw [if_pos (.inr ⟨rfl, rfl⟩), if_neg (by omega)]
    apply hd_556_63
    exact ev_b qp_174_0 (ev_b (a := 0) rfl (ev_t (by decide) (ev_i rfl (ev_cV e1 (ev_i rfl (ev_cV e2 (ev_t (by decide) (ev_i rfl (ev_cI e3 k_)))))))))
  cases b0 with
  | false =>
    refine ⟨W, J, false, st0 _ ?_, g3, fun e => Bool.noConfusion e, K, z⟩
    apply hd_556_101
    exact ev_f (fun e => e rfl) rfl
  | true =>
    obtain ⟨Q, t, A⟩ := d3 rfl
    obtain ⟨W5, J5, e5, h5, x1, x2, f5⟩ := s442 (L := L) (R := R) (tl := tl) (N := N) hN A.1 A.2.1 A.2.2.1 (by rw [tI_len]; have := A.2.2.2.2; omega)
    refine ⟨W5, J5, true, st0 _ ?_, g3, fun _ => ⟨Q, t, x1, ⟨_, x2⟩, h5⟩, keep_t K (keep_Ed f5), (f5.1 174 0 (by decide)).trans z⟩
    apply hd_556_101
    exact ev_t (by decide) (ev_f (fun e => e rfl) (ev_i rfl (ev_cV e5 rfl)))
set_option maxRecDepth 100000 in
set_option maxHeartbeats 4000000 in
theorem u_55 {V : Nat → Nat → Value} {I : Nat → Nat → Int32} {L : Nat → Nat → Int64} {R : Nat → Nat → Option Nat} {tl : am_H} {n p j : Nat} (hr : rel V I L R tl n p) (hm : room tl n p j) {N : Nat} (hN : 5000 < N) (a1 a2 : Int32) : ∃ h', opBI (fm_306 N (.ref 0) a1 a2 (.ref 268) (fx V I L R ++ tl)) (fun h1 => fm_556 N (.ref 174) a1 a2 h1) vfI h' ∧ invW (j + 1) h' := by
  obtain ⟨b1, b2, b3⟩ := hr.1
  have hw := rel_w hr
  rcases dich a1 (n := n) (by omega) with hn | ⟨b, hb, rfl⟩
  · refine ⟨_, opBI_err (c := 1) (b := 0) (by decide) (tl := tl ++ [am_dummy]) ?_ ?_, inv_mk (rel_thr 1 (rel_dum hr)) (room_dum hm)⟩
    · have e : fm_307 N (.ref 0) a1 a2 (fx V I L R ++ tl) = some (.inr (2, (fx V I L R ++ (tl ++ [am_dummy])))) := by
        apply hm_307
        apply hd_307_0
        refine ev_i rfl ?_
        rw [c_63n b2 hn]
        rfl
      unfold fm_306 fg_306_0
      refine ev_i rfl ?_
      rw [e]
      rfl
    · show fm_556 N (.ref 174) a1 a2 (fx V I L R ++ (tl ++ [am_dummy])) = _
      apply hm_556
      apply hd_556_0
      refine ev_i rfl (ev_cI (r_358n b3 b1 hn) (ev_t rfl ?_))
      apply hd_556_18
      refine ev_i rfl (ev_cI (r_358n b3 b1 hn) (ev_f (fun e => e rfl) ?_))
      apply hd_556_63
      exact ev_b qp_174_0 (ev_b (a := 1) rfl (ev_f (by decide) rfl))
  · obtain ⟨kd, ln, sz, a, it, f, q1, q2, q3, q4, q5, q6, q7⟩ := bOk_pg (V := V) (I := I) (L := L) (R := R) (tl := tl) (hr.2.1 b hb)
    have k3 := q7.1
    obtain ⟨x1, x2, x3, x4, x5, x6, pp1, pp3⟩ := id q5
    obtain ⟨gd, bd⟩ := c_307h (N := N) (a2 := a2) (I := I) (L := L) (tl := tl) b2 b1 hb q4 k3 (ev_gI pp1 rfl rfl)
    by_cases hg : (kd = 0 ∧ a2 = 1) ∨ (kd = 1 ∧ a2 = 0)
    case neg =>
      refine ⟨_, opBI_err (c := 2) (b := 0) (by decide) (tl := tl ++ [am_dummy]) ?_ (r_556h b3 b1 hb q1 k3 (by rw [if_neg hg]; apply hd_556_63; exact ev_b qp_174_0 (ev_b (a := 2) rfl (ev_f (by decide) rfl)))), inv_mk (rel_thr 2 (rel_dum hr)) (room_dum hm)⟩
      unfold fm_306 fg_306_0
      refine ev_i rfl ?_
      rw [bd hg]
      rfl
    by_cases c6 : n = 600
    · subst c6
      refine ⟨_, opBI_err (c := 3) (b := 0) (by decide) (tl := tl ++ [am_dummy]) ?_ (r_556h b3 b1 hb q1 k3 (by rw [if_pos hg, if_pos rfl]; apply hd_556_63; exact ev_b qp_174_0 (ev_b (a := 3) rfl (ev_f (by decide) rfl)))), inv_mk (rel_thr 3 (rel_dum hr)) (room_dum hm)⟩
      have e : fm_307 N (.ref 0) (nI b) a2 (fx V I L R ++ tl) = some (.inr (1, (fx V I L R ++ (tl ++ [am_dummy])))) := gd hg _ (by
        apply hd_307_41
        refine ev_i rfl ?_
        rw [c_32n b2]
        rfl)
      unfold fm_306 fg_306_0
      refine ev_i rfl ?_
      rw [e]
      rfl
    have hn : n < 600 := by omega
    rcases hg with ⟨h0, h1⟩ | ⟨h0, h1⟩
    · subst h0
      subst h1
      obtain ⟨P, a', it', o1, o2, o3, o4, o5, o6, o7, o8⟩ := birth_T hr hb q1
      have ea : a' = a := by rw [q4] at o5; have := Option.some.inj o5; omega
      subst ea
      obtain ⟨W2, J2, b0, e, g, d, f⟩ := c_205 (L := L) (R := R) (tl := tl) (N := N) (by omega) o1 hw (o7 V I) (by omega) (by omega)
      refine fin_55 (kd := 1) (b0 := b0) (Q := cO2 P 0) (W2 := W2) (J2 := J2) (R' := R) hr hm (by omega) hb hn (by omega) (fun _ _ => rfl) (rel_pl hr) (keep_Co f) (gd (.inl ⟨rfl, rfl⟩) _ ?_) (fun e => ?_) (fun X Y M S t h1 h2 => ?_)
      · apply hd_307_41
        exact ev_i rfl (ev_cV (c_32 b2 hn) (ev_f (fun e => e rfl) (ev_b (rdR rfl) (ev_b (rdR rfl) (ev_i rfl (ev_cI e rfl))))))
      · have hC := g.mp e
        refine ⟨d e, hC.1.2, fun s v hl => ?_⟩
        obtain ⟨i1, i2⟩ := okI_cO o1 hC.1.2
        have hX := hC.2
        have lt : (tI (cO2 P 0)).length = (cO2 P 0).length := tI_len
        rw [← lt] at hX
        cases ex : cdX (tI (cO2 P 0)) (tI (cO2 P 0)).length 0 g00 with
        | inl y => rw [ex] at hX; exact absurd hX (by simp)
        | inr y =>
          have := snd_code i1 i2 (by rw [lt]; exact cO_pos o1 hC.1.1) (by rw [lt]; exact hC.1.2) ex hl
          rw [lt] at this
          exact this
      · obtain ⟨W, J, b', e', g', d', k', z'⟩ := ref_A (V := X) (I := Y) (L := M) (R := S) (tl := t) (N := N) (by omega) hb hn h1 o1 o2 (by rw [h2 175 (by decide)]; exact q1) (by rw [h2 176 (by decide)]; exact o3) (by rw [h2 177 (by decide)]; exact o4) (by rw [h2 184 (by decide), h2 185 (by decide)]; exact o6)
        have eb : b' = b0 := by
          cases b0 with
          | true => exact g'.mpr (g.mp rfl)
          | false => cases b' with
            | false => rfl
            | true => exact Bool.noConfusion (g.mpr (g'.mp rfl))
        subst eb
        exact ⟨W, J, e', d', k', z'⟩
    · subst h0
      subst h1
      obtain ⟨C, a', it', o1, o2, o3, o4, o5, o6, o7, o8⟩ := birth_C hr hb q1
      have ea : a' = a := by rw [q4] at o5; have := Option.some.inj o5; omega
      subst ea
      obtain ⟨W2, J2, R2, b0, e, g, d, f, fR, fP⟩ := c_293_167 (L := L) (R := R) (tl := tl) (N := N) (by omega) (by omega) (by omega) hw (rel_pl hr) (o7 V I) o1
      obtain ⟨Q, hQ⟩ : ∃ Q, b0 = true → tOf C Q := by
        cases b0 with
        | false => exact ⟨[], fun e => Bool.noConfusion e⟩
        | true => obtain ⟨Q, h⟩ := g.mp rfl; exact ⟨Q, fun _ => h⟩
      refine fin_55 (kd := 0) (b0 := b0) (Q := Q) (W2 := W2) (J2 := J2) (R' := R2) hr hm (by omega) hb hn (by omega) fR fP (keep_Cx (.inl rfl) f) (gd (.inr ⟨rfl, rfl⟩) _ ?_) (fun e => ?_) (fun X Y M S t h1 h2 => ?_)
      · apply hd_307_41
        exact ev_i rfl (ev_cV (c_32 b2 hn) (ev_t (by decide) (ev_b (rdR rfl) (ev_b (rdR rfl) (ev_i rfl (ev_cI e rfl))))))
      · obtain ⟨Q', y1, y2⟩ := d e
        have eq := tOf_u (hQ e) y1
        subst eq
        obtain ⟨z1, z2⟩ := tOf_ok o1 y1
        exact ⟨y2, z2, fun s v hl => sound_T z1 z2 hl⟩
      · obtain ⟨W, J, b', e', g', d', k', z'⟩ := ref_B (V := X) (I := Y) (L := M) (R := S) (tl := t) (N := N) (by omega) hb hn h1 o1 o2 (by rw [h2 175 (by decide)]; exact q1) (by rw [h2 176 (by decide)]; exact o3) (by rw [h2 177 (by decide)]; exact o4) (by rw [h2 184 (by decide), h2 185 (by decide)]; exact o6)
        have eb : b' = b0 := by
          cases b0 with
          | true => exact g'.mpr (g.mp rfl)
          | false => cases b' with
            | false => rfl
            | true => exact Bool.noConfusion (g.mpr (g'.mp rfl))
        subst eb
        refine ⟨W, J, e', fun e => ?_, k', z'⟩
        obtain ⟨Q', y1, y2⟩ := d' e
        rw [tOf_u (hQ e) y1]
        exact y2
