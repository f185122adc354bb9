/-! ===== equal ===== -/
theorem hd_566_130 {N : Nat} {s0 : Int32} {h : am_H} {r_ : Option am_O} (k_ : some (.inl (some (.int s0), h)) = r_) : fg_566_130 N s0 h = r_ := k_
theorem hd_566_111 {N : Nat} {x0 : Value} {x1 : Int32} {x2 : Int32} {h : am_H} {r_ : Option am_O} (k_ : (if am_pOk 12 x0 h then am_cI true (fm_572 N x0 x1 x2 h) (fun v2 h3 => (if v2 = 0 then (if am_pOk 12 x0 h3 then am_cI true (fm_573 N x0 x1 x2 h3) (fun v7 h8 => (fg_566_130 N v7 h8)) else none) else (fg_566_130 N 1 h3))) else none) = r_) : fg_566_111 N x0 x1 x2 h = r_ := k_
theorem hd_566_69 {N : Nat} {x0 : Value} {x1 : Int32} {x2 : Int32} {h : am_H} {r_ : Option am_O} (k_ : ((am_vR (am_pG 3074 x0 h)).bind fun v1 => ((am_pA 0 v1 x1 h).bind fun v3 => (if ¬ v3 = 3 then (fg_566_111 N x0 x1 x2 h) else ((am_vR (am_pG 3074 x0 h)).bind fun v6 => ((am_pA 0 v6 x2 h).bind fun v8 => (if ¬ v8 = 3 then (fg_566_111 N x0 x1 x2 h) else ((am_vR (am_pG 3076 x0 h)).bind fun v11 => ((am_pA 0 v11 x1 h).bind fun v13 => ((am_vR (am_pG 3076 x0 h)).bind fun v15 => ((am_pA 0 v15 x2 h).bind fun v17 => (if ¬ v13 = v17 then (fg_566_111 N x0 x1 x2 h) else (if am_pOk 12 x0 h then am_cI true (fm_570 N x0 x1 x2 h) (fun v21 h22 => some (.inl (some (.int v21), h22))) else none)))))))))))) = r_) : fg_566_69 N x0 x1 x2 h = r_ := k_
theorem hd_566_22 {N : Nat} {x0 : Value} {x1 : Int32} {x2 : Int32} {s0 : Value} {s1 : Int32} {h : am_H} {r_ : Option am_O} (k_ : ((am_pP 3072 s0 (.int s1) h).bind fun h1 => ((am_vI (am_pG 3072 x0 h1)).bind fun v3 => (if v3 ≤ 0 then ((am_vR (am_pG 3074 x0 h1)).bind fun v6 => ((am_pA 0 v6 x1 h1).bind fun v8 => (if ¬ v8 = 2 then (fg_566_69 N x0 x1 x2 h1) else ((am_vR (am_pG 3074 x0 h1)).bind fun v11 => ((am_pA 0 v11 x2 h1).bind fun v13 => (if ¬ v13 = 2 then (fg_566_69 N x0 x1 x2 h1) else (if am_pOk 12 x0 h1 then am_cV true (fm_391 N x0 x1 h1) (fun h18 => (if am_pOk 12 x0 h18 then am_cV true (fm_480 N x0 x2 h18) (fun h22 => (if am_pOk 12 x0 h22 then am_cI true (fm_567 N x0 h22) (fun v25 h26 => some (.inl (some (.int v25), h26))) else none)) else none)) else none))))))) else some (.inl (some (.int 0), h1))))) = r_) : fg_566_22 N x0 x1 x2 s0 s1 h = r_ := k_
theorem hd_566_21 {N : Nat} {x0 : Value} {x1 : Int32} {x2 : Int32} {s0 : Value} {h : am_H} {r_ : Option am_O} (k_ : (fg_566_22 N x0 x1 x2 s0 1 h) = r_) : fg_566_21 N x0 x1 x2 s0 h = r_ := k_
theorem hd_566_0 {N : Nat} {x0 : Value} {x1 : Int32} {x2 : Int32} {h : am_H} {r_ : Option am_O} (k_ : (if am_pOk 12 x0 h then am_cI true (fm_358 x0 x1 h) (fun v2 h3 => (if v2 = 0 then (fg_566_21 N x0 x1 x2 x0 h3) else (if am_pOk 12 x0 h3 then am_cI true (fm_358 x0 x2 h3) (fun v7 h8 => (if v7 = 0 then (fg_566_21 N x0 x1 x2 x0 h8) else (fg_566_22 N x0 x1 x2 x0 0 h8))) else none))) else none) = r_) : fg_566_0 N x0 x1 x2 h = r_ := k_
theorem hm_566 {N : Nat} {y0 : Value} {y1 : Int32} {y2 : Int32} {h : am_H} {r_ : Option am_O} (k_ : fg_566_0 N y0 y1 y2 h = r_) : fm_566 N y0 y1 y2 h = r_ := k_
def kE (E : List Nat) (V W : Nat → Nat → Value) (I J : Nat → Nat → Int32) : Prop := (∀ a j, j ∈ vRel a → W a j = V a j) ∧ (∀ y, y ∈ iRel → ¬ y ∈ E → J y = I y) ∧ (wt V → wt W)
theorem kE_k {E : List Nat} {V W : Nat → Nat → Value} {I J : Nat → Nat → Int32} (h : keep V W I J) : kE E V W I J := ⟨h.1, fun y hy _ => h.2.1 y hy, h.2.2⟩
theorem kE_t {E : List Nat} {V W X : Nat → Nat → Value} {I J K : Nat → Nat → Int32} (h : kE E V W I J) (g : kE E W X J K) : kE E V X I K := ⟨fun a j hj => (g.1 a j hj).trans (h.1 a j hj), fun y hy n => (g.2.1 y hy n).trans (h.2.1 y hy n), fun w => g.2.2 (h.2.2 w)⟩
theorem kE_i {E : List Nat} {V : Nat → Nat → Value} {I : Nat → Nat → Int32} {y : Nat} {F : Nat → Int32} (h : y ∈ E ∨ ¬ y ∈ iRel) : kE E V V I (iup I y F) := ⟨fun _ _ _ => rfl, fun z hz hn => iup_na (fun e => by subst e; rcases h with h | h; exact hn h; exact h hz), id⟩
theorem kE_U {V W : Nat → Nat → Value} {I J : Nat → Nat → Int32} (f : frU V W I J) : kE [165, 166] V W I J := by
  refine ⟨fun a j hj => ?_, fun y hy hn => ?_, f.2.2.2.2.2⟩
  · by_cases c : a = 16
    · subst c
      have key : ∀ j, j ∈ vRel 16 → j = 0 := by decide
      rw [key j hj]; exact f.2.1
    · by_cases d : a = 27
      · subst d
        have key : ∀ j, j ∈ vRel 27 → j = 0 := by decide
        rw [key j hj]; exact f.2.2.1
      · refine f.1 a j c d (fun e => ?_) (fun e => ?_)
        · rw [e.1] at hj; exact absurd hj (by simp [vRel])
        · rw [e.1] at hj; exact absurd hj (by simp [vRel])
  · have key : ∀ y, y ∈ iRel → y ≠ 18 ∧ y ≠ 25 ∧ y ≠ 26 ∧ y ≠ 29 ∧ y ≠ 36 ∧ y ≠ 37 := by decide
    obtain ⟨a, b, c, d, e, g⟩ := key y hy
    exact f.2.2.2.1 y a b c d e g (fun h => hn (by rw [h]; decide))
theorem rel_w3 {V : Nat → Nat → Value} {I : Nat → Nat → Int32} {L : Nat → Nat → Int64} {R : Nat → Nat → Option Nat} {tl : am_H} {n p : Nat} {F g g' : Nat → Int32} (hr : rel V I L R tl n p) (hF : ∀ j, 10 ≤ j → j < 15 → F j = 0) (hg : ∀ j, j < 15 → g j = g' j) : rel V (iup (iup (iup I 165 F) 166 g) 254 g') L R tl n p := by
  obtain ⟨a1, a2, a3, a4, a5, a6, a7, a8, a9, a10, a11, a12, w⟩ := hr
  exact ⟨a1, a2, a3, a4, a5, a6, a7, a8, ⟨hg, hF, a9.2.2.1, a9.2.2.2⟩, a10, a11, a12, w⟩
set_option maxRecDepth 100000 in
set_option maxHeartbeats 4000000 in
theorem fin_51 {V : Nat → Nat → Value} {I : Nat → Nat → Int32} {L : Nat → Nat → Int64} {R : Nat → Nat → Option Nat} {tl : am_H} {N n p j b c : Nat} {r : Int32} {W : Nat → Nat → Value} {J : Nat → Nat → Int32} {R' : Nat → Nat → Option Nat} (hr : rel V I L R tl n p) (hm : room tl n p j) (hR : ∀ y, y ≠ 140 → R' y = R y) (hP : rPl R') (hc : fm_287 N (.ref 0) (nI b) (nI c) (fx V I L R ++ tl) = some (.inl (some (.int r), fx W J L R' ++ tl))) (kW : kE [165, 166] V W I J) (hz : ∀ j, 10 ≤ j → j < 15 → J 165 j = 0) (href : ∃ W' J', fm_566 N (.ref 174) (nI b) (nI c) (fx W J (outL L r.toInt64) R' ++ tl) = some (.inl (some (.int r), fx W' J' (outL L r.toInt64) R' ++ tl)) ∧ kE [254] W W' J J' ∧ W' 174 0 = .int 0 ∧ ∀ j, j < 15 → J 166 j = J' 254 j) : ∃ h', opBI (fm_286 N (.ref 0) (nI b) (nI c) (.ref 268) (fx V I L R ++ tl)) (fun h1 => fm_566 N (.ref 174) (nI b) (nI c) h1) vfI h' ∧ invW (j + 1) h' := by
  obtain ⟨W', J', e, k, z, g⟩ := href
  have h3 := rel_w3 (F := J 165) (g := J 166) (g' := J' 254) (rel_R hr hR hP) hz g
  have K : keep V W' (iup (iup (iup I 165 (J 165)) 166 (J 166)) 254 (J' 254)) J' := by
    refine ⟨fun a j hj => (k.1 a j hj).trans (kW.1 a j hj), fun y hy => ?_, fun w => k.2.2 (kW.2.2 w)⟩
    by_cases c1 : y = 254
    · rw [c1, iup_eq]
    · rw [iup_na c1, k.2.1 y hy (fun h => c1 (by simpa using h))]
      by_cases c2 : y = 166
      · rw [c2, iup_eq]
      · rw [iup_na c2]
        by_cases c3 : y = 165
        · rw [c3, iup_eq]
        · rw [iup_na c3]
          exact kW.2.1 y hy (fun h => by
            rw [List.mem_cons, List.mem_cons] at h
            rcases h with h | h | h
            · exact c3 h
            · exact c2 h
            · cases h)
  refine ⟨_, opBI_g (v := r) (W := W) (J := J) (M := outL L r.toInt64) (R1 := R') (t1 := tl) ?_ e z outL_at, inv_mk (rel_k K (rel_ol _ h3)) (room_up hm)⟩
  unfold fm_286 fg_286_0
  refine ev_i rfl ?_
  rw [hc]
  exact ev_b out_s rfl
/-- a machine that was born -/
theorem mach_b {R : Nat → Nat → Option Nat} {tl : am_H} {I0 : Nat → Nat → Int32} {b : Nat} (h : bK R tl I0 b) (h2 : kdB I0 b = 2) : ∃ (a it : Nat) (f val : Nat → Int32) (nxt : Nat → Nat → Nat), R 1 b = some (269 + a) ∧ mcO (szB I0 b) nxt ∧ (∀ V I, mcC V I tl a it (lnB I0 b) (szB I0 b) f val nxt) ∧ (∀ i, i < szB I0 b → I0 184 (60 * b + i) = val i ∧ ∀ c, c < 4 → pv_367 (I0 185 (60 * b + i)) (nI c) = nI (nxt i c)) := by
  obtain ⟨q1, q2, q3, q4, a, it, f, q5, q6, q7⟩ := h
  rw [h2] at q4 q6 q7
  obtain ⟨z1, z2, z3⟩ := so_2 q4
  unfold itm at q7
  rw [if_pos rfl] at q7
  refine ⟨a, it, f, sB I0 b, nxM (vB I0 b), q5, ⟨z1, z2, fun i c h1 h2 => (z3 i c h1 h2).2⟩, fun V I => ⟨q6 V I, fun i hi => ⟨(q7 i hi).1, fun c hc => ((q7 i hi).2 c hc).trans (z3 i c hi hc).1⟩⟩, fun i hi => ⟨rfl, fun c hc => (z3 i c hi hc).1⟩⟩
theorem mw_eq {P : List Nat} {g g' : Nat → Int32} (h : mwI P g) (h' : mwI P g') : ∀ j, j < 15 → g j = g' j := fun j hj => (h j hj).trans (h' j hj).symm
theorem wn_eq {ln x q : Nat} {g g' : Nat → Int32} (h : wnI ln x q g) (h' : wnI ln x q g') : ∀ j, j < 15 → g j = g' j := fun j hj => (h j hj).trans (h' j hj).symm
set_option maxRecDepth 100000 in
set_option maxHeartbeats 4000000 in
theorem eq_M {V : Nat → Nat → Value} {I : Nat → Nat → Int32} {L : Nat → Nat → Int64} {R : Nat → Nat → Option Nat} {tl : am_H} {N n p j b c : Nat} (hr : rel V I L R tl n p) (hm : room tl n p j) (hN : 5000 < N) (hb : b < n) (hcn : c < n) (hBb : bK R tl I b) (hBc : bK R tl I c) (hk : kdB I b = 2) (hk' : kdB I c = 2) : ∃ h', opBI (fm_286 N (.ref 0) (nI b) (nI c) (.ref 268) (fx V I L R ++ tl)) (fun h1 => fm_566 N (.ref 174) (nI b) (nI c) h1) vfI h' ∧ invW (j + 1) h' := by
  obtain ⟨b1, b2, b3⟩ := hr.1
  obtain ⟨a, it, f, val, nxt, q5, o1, m1, l1⟩ := mach_b hBb hk
  obtain ⟨a', it', f', val', nxt', r5, o2, m2, l2⟩ := mach_b hBc hk'
  obtain ⟨q1, q2, q3, -⟩ := hBb
  obtain ⟨r1, r2, r3, -⟩ := hBc
  rw [hk] at q1
  rw [hk'] at r1
  have rk : ∀ W J M Q, am_vI (am_pG 769 (.ref (269 + a)) (fx W J M Q ++ tl)) = some (nI 2) := fun W J M Q => by
    obtain ⟨x1, x2, x3, x4, x5, x6, p1, p2⟩ := (m1 W J).1 W J M Q (fun _ => rfl) rfl
    exact ev_gI p1 rfl rfl
  have rk' : ∀ W J M Q, am_vI (am_pG 769 (.ref (269 + a')) (fx W J M Q ++ tl)) = some (nI 2) := fun W J M Q => by
    obtain ⟨x1, x2, x3, x4, x5, x6, p1, p2⟩ := (m2 W J).1 W J M Q (fun _ => rfl) rfl
    exact ev_gI p1 rfl rfl
  have hz : ∀ j, 10 ≤ j → j < 15 → I 165 j = 0 := hr.2.2.2.2.2.2.2.2.1.2.1
  have hu : ∀ j, j < 15 → I 166 j = I 254 j := hr.2.2.2.2.2.2.2.2.1.1
  have cst : ∀ v H, fm_288 N (.ref 131) (.ref (269 + a)) (.ref (269 + a')) (.ref 166) (fx V I L R ++ tl) = some (.inl (some (.int v), H)) → fm_287 N (.ref 0) (nI b) (nI c) (fx V I L R ++ tl) = (if v = 0 then (fg_287_52 N 1 H) else (fg_287_52 N 0 H)) := fun v H e => by
    apply hm_287
    apply hd_287_0
    refine ev_i rfl (ev_cR (c_63 b2 b1 hb q5) rfl (ev_i rfl (ev_cR (c_63 b2 b1 hcn r5) rfl ?_)))
    exact ev_b (rk V I L R) (ev_f (fun e => e rfl) (ev_b (rk' V I L R) (ev_f (fun e => e rfl) (ev_b (rdR rfl) (ev_b (rdR rfl) (ev_i rfl (ev_cI e rfl)))))))
  have rst : ∀ (J : Nat → Nat → Int32) (M : Nat → Nat → Int64) (v : Int32) (H : am_H), (∀ y, y ≠ 145 → y ≠ 146 → y ≠ 166 → J y = I y) → fm_567 N (.ref 174) (fx (vup (dk2V (vup V 174 0 (.int 0)) 2 (lnB I b) (szB I b)) 174 23 (.int (nI (szB I c)))) (dk3I (dk2I J b (szB I b)) c (szB I c)) M R ++ tl) = some (.inl (some (.int v), H)) → fm_566 N (.ref 174) (nI b) (nI c) (fx V J M R ++ tl) = some (.inl (some (.int v), H)) := fun J M v H hJ e => by
    have e1 := r_391 (V := vup V 174 0 (.int 0)) (I := J) (L := M) (R := R) (tl := tl) (N := N) (b := b) (kd := 2) (ln := lnB I b) (sz := szB I b) (by omega) (by omega) (by have := o1.2.1; omega) (by decide) (by decide) (by rw [hJ 175 (by decide) (by decide) (by decide)]; exact q1) (by rw [hJ 176 (by decide) (by decide) (by decide)]; exact q2) (by rw [hJ 177 (by decide) (by decide) (by decide)]; exact q3)
    have d175 : dk2I J b (szB I b) 175 c = nI 2 := by show J 175 c = _; rw [hJ 175 (by decide) (by decide) (by decide)]; exact r1
    have d176 : dk2I J b (szB I b) 176 c = nI (szB I c) := by show J 176 c = _; rw [hJ 176 (by decide) (by decide) (by decide)]; exact r2
    have e2 := r_480 (V := dk2V (vup V 174 0 (.int 0)) 2 (lnB I b) (szB I b)) (I := dk2I J b (szB I b)) (L := M) (R := R) (tl := tl) (N := N) (b := c) (kd := 2) (sz := szB I c) (by omega) (by omega) (by have := o2.2.1; omega) (by decide) (by decide) d175 d176
    have t1 : V 174 1 = .int (nI n) := b3
    apply hm_566
    apply hd_566_0
    refine ev_i rfl (ev_cI (r_358 t1 b1 hb) (ev_f (by decide) (ev_i rfl (ev_cI (r_358 t1 b1 hcn) (ev_f (by decide) ?_)))))
    apply hd_566_22
    refine ev_b qp_174_0 (ev_b (a := 0) rfl (ev_t (by decide) ?_))
    exact ev_b (rdR rfl) (ev_b ((qa_175 (by omega)).trans (congrArg some ((by rw [hJ 175 (by decide) (by decide) (by decide)]; exact q1 : J 175 b = nI 2)))) (ev_f (fun e => e rfl) (ev_b (rdR rfl) (ev_b ((qa_175 (by omega)).trans (congrArg some ((by rw [hJ 175 (by decide) (by decide) (by decide)]; exact r1 : J 175 c = nI 2)))) (ev_f (fun e => e rfl) (ev_i rfl (ev_cV e1 (ev_i rfl (ev_cV e2 (ev_i rfl (ev_cI e rfl)))))))))))
  have mU : ∀ J, (∀ y, y ≠ 145 → y ≠ 146 → y ≠ 166 → J y = I y) → mcU (dk3I (dk2I J b (szB I b)) c (szB I c)) (szB I b) val nxt ∧ mcT (dk3I (dk2I J b (szB I b)) c (szB I c)) (szB I c) val' nxt' := fun J hJ => by
    refine ⟨fun i hi => ?_, fun i hi => ?_⟩
    · have x1 : dk3I (dk2I J b (szB I b)) c (szB I c) 188 i = J 184 (60 * b + i) := ldr_at hi
      have x2 : dk3I (dk2I J b (szB I b)) c (szB I c) 189 i = J 185 (60 * b + i) := ldr_at hi
      rw [x1, x2, hJ 184 (by decide) (by decide) (by decide), hJ 185 (by decide) (by decide) (by decide)]
      exact l1 i hi
    · have x1 : dk3I (dk2I J b (szB I b)) c (szB I c) 190 i = J 184 (60 * c + i) := ldr_at hi
      have x2 : dk3I (dk2I J b (szB I b)) c (szB I c) 191 i = J 185 (60 * c + i) := ldr_at hi
      rw [x1, x2, hJ 184 (by decide) (by decide) (by decide), hJ 185 (by decide) (by decide) (by decide)]
      exact l2 i hi
  have kV : ∀ J, kE [254] V (vup (dk2V (vup V 174 0 (.int 0)) 2 (lnB I b) (szB I b)) 174 23 (.int (nI (szB I c)))) J (dk3I (dk2I J b (szB I b)) c (szB I c)) := fun J => kE_k (keep_t keep_0 (keep_t keep_dk2 (keep_t (keep_v (by decide) (by decide)) (keep_t (keep_i (by decide)) (keep_i (by decide))))))
  have cc := c_288 (V := V) (I := I) (L := L) (R := R) (tl := tl) (N := N) hN o1 o2 (m1 V I) (m2 V I)
  cases em : mgo nxt nxt' val val' 37 0 with
  | none =>
    rw [em] at cc
    obtain ⟨g, q, e⟩ := cc
    have hJ : ∀ y, y ≠ 145 → y ≠ 146 → y ≠ 166 → iup (iup I 145 q) 146 g y = I y := fun y h1 h2 _ => (iup_na h2).trans (iup_na h1)
    refine fin_51 (r := 1) (R' := R) hr hm (fun _ _ => rfl) (rel_pl hr) ((cst 0 _ e).trans (ev_t rfl rfl)) (kE_t (kE_i (.inr (by decide))) (kE_i (.inr (by decide)))) hz ?_
    obtain ⟨u1, u2⟩ := mU _ hJ
    have rr := r_567 (V := vup (dk2V (vup V 174 0 (.int 0)) 2 (lnB I b) (szB I b)) 174 23 (.int (nI (szB I c)))) (L := outL L (1 : Int32).toInt64) (R := R) (tl := tl) (N := N) hN o1 o2 u1 u2
    rw [em] at rr
    obtain ⟨F', B', S', q', e'⟩ := rr
    exact ⟨_, _, rst _ _ _ _ hJ e', kE_t (kV _) (kE_t (kE_i (.inr (by decide))) (kE_t (kE_i (.inr (by decide))) (kE_t (kE_i (.inr (by decide))) (kE_i (.inr (by decide)))))), rfl, hu⟩
  | some y =>
    rw [em] at cc
    obtain ⟨-, -, g, q, w, hw, e⟩ := cc
    have hJ : ∀ y, y ≠ 145 → y ≠ 146 → y ≠ 166 → iup (iup (iup I 145 q) 146 g) 166 w y = I y := fun y h1 h2 h3 => (iup_na h3).trans ((iup_na h2).trans (iup_na h1))
    refine fin_51 (r := 0) (R' := R) hr hm (fun _ _ => rfl) (rel_pl hr) ((cst 1 _ e).trans (ev_f (by decide) rfl)) (kE_t (kE_i (.inr (by decide))) (kE_t (kE_i (.inr (by decide))) (kE_i (.inl (by decide))))) hz ?_
    obtain ⟨u1, u2⟩ := mU _ hJ
    have rr := r_567 (V := vup (dk2V (vup V 174 0 (.int 0)) 2 (lnB I b) (szB I b)) 174 23 (.int (nI (szB I c)))) (L := outL L (0 : Int32).toInt64) (R := R) (tl := tl) (N := N) hN o1 o2 u1 u2
    rw [em] at rr
    obtain ⟨F', B', S', q', T, w', hw', e'⟩ := rr
    exact ⟨_, _, rst _ _ _ _ hJ e', kE_t (kV _) (kE_t (kE_i (.inr (by decide))) (kE_t (kE_i (.inr (by decide))) (kE_t (kE_i (.inr (by decide))) (kE_t (kE_i (.inr (by decide))) (kE_t (kE_i (.inr (by decide))) (kE_i (.inl (by decide)))))))), rfl, mw_eq hw hw'⟩
