/-! ===== pairs: machines in the reference; all pairs ===== -/
theorem sh_1 : ∀ z, z < 7 → ((1 : Int32) <<< (nI z &&& 31)) - 1 = nI (2 ^ z - 1) := by decide
def mixL (P Q : xI) (m s : Nat) : xI := (List.range s).map (fun k => if m / 2 ^ k % 2 = 1 then (srt Q k, vlu Q k) else (srt P k, vlu P k))
theorem mixL_len {P Q : xI} {m s : Nat} : (mixL P Q m s).length = s := by unfold mixL; rw [List.length_map, List.length_range]
theorem mixL_s {P Q : xI} {m s : Nat} : mixL P Q m (s + 1) = mixL P Q m s ++ [if m / 2 ^ s % 2 = 1 then (srt Q s, vlu Q s) else (srt P s, vlu P s)] := by unfold mixL; rw [List.range_succ, List.map_append]; rfl
set_option maxRecDepth 100000 in
set_option maxHeartbeats 4000000 in
theorem l484 {L : Nat → Nat → Int64} {R : Nat → Nat → Option Nat} {tl : am_H} {N x : Nat} {rc : Value → Int32 → am_H → Option am_O} {P Q : xI} (hl : P.length ≤ 6) (hq : Q.length = P.length) (hx : x < 64) : ∀ (m s K : Nat) (V : Nat → Nat → Value) (I : Nat → Nat → Int32), s + m = P.length → m < K → dsA V I P → dsB V I Q → dkL V I (mixL P Q x s) → ∃ W J K', fg_484_38 N rc K (.ref 174) (nI x) (nI s) (fx V I L R ++ tl) = fg_484_38 N rc (K' + 1) (.ref 174) (nI x) (nI P.length) (fx W J L R ++ tl) ∧ dkL W J (mixL P Q x P.length) ∧ frEd V W I J ∧ W 174 13 = V 174 13 ∧ W 174 15 = V 174 15 := by
  intro m
  induction m with
  | zero =>
    intro s K V I hs hK hA hB hd
    obtain ⟨K, rfl⟩ : ∃ k, K = k + 1 := ⟨K - 1, by omega⟩
    rw [Nat.add_zero] at hs
    subst hs
    exact ⟨V, I, K, rfl, hd, ⟨fun _ _ _ => rfl, fun _ _ _ => rfl, id⟩, rfl, rfl⟩
  | succ m ih =>
    intro s K V I hs hK hA hB hd
    obtain ⟨K, rfl⟩ : ∃ k, K = k + 1 := ⟨K - 1, by omega⟩
    have hb := bit_1 x hx s (by omega)
    obtain ⟨a1, a2⟩ := ds_at hA (k := s) (by omega)
    obtain ⟨c1, c2⟩ := hB.2 s _ (srt_at (Q := Q) (by omega))
    obtain ⟨y, ey⟩ : ∃ y, y = (if x / 2 ^ s % 2 = 1 then (srt Q s, vlu Q s) else (srt P s, vlu P s)) := ⟨_, rfl⟩
    obtain ⟨W1, J1, e1, d1, f1⟩ := s335 (L := L) (R := R) (tl := tl) y.1 y.2 hd (by rw [mixL_len]; omega)
    have F1 := frEd_k f1
    have d1 : dkL W1 J1 (mixL P Q x (s + 1)) := by rw [mixL_s, ← ey]; exact d1
    obtain ⟨W, J, K', e, d, f, g13, g15⟩ := ih (s + 1) K W1 J1 (by omega) (by omega) (ds_f (frSc_d F1) hA) (dsB_d F1 hB) d1
    refine ⟨W, J, K', ?_, d, frEd_t F1 f, g13.trans (f1.1 174 13 (by decide)), g15.trans (f1.1 174 15 (by decide))⟩
    have nx : fg_484_90 N rc (fg_484_38 N rc K) (.ref 174) (nI x) (nI s) (fx W1 J1 L R ++ tl) = fg_484_38 N rc (K' + 1) (.ref 174) (nI x) (nI P.length) (fx W J L R ++ tl) := by
      apply hd_484_90
      rw [nI_1]
      exact e
    apply hd_484_38
    refine ev_b (rdI hA.1) (ev_f (nI_ge (by omega) (by omega)) ?_)
    by_cases q : x / 2 ^ s % 2 = 1
    · rw [if_pos q] at ey
      subst ey
      exact ev_f (fun u => u (hb.mpr q)) (ev_b (rdR rfl) (ev_b ((qa_190 (by omega)).trans (congrArg some c1)) (ev_b (rdR rfl) (ev_b ((qa_191 (by omega)).trans (congrArg some c2)) (ev_i rfl (ev_cV e1 nx))))))
    · rw [if_neg q] at ey
      subst ey
      exact ev_t (fun u => q (hb.mp u)) (ev_b (rdR rfl) (ev_b ((qa_188 (by omega)).trans (congrArg some a1)) (ev_b (rdR rfl) (ev_b ((qa_189 (by omega)).trans (congrArg some a2)) (ev_i rfl (ev_cV e1 nx))))))
set_option maxRecDepth 100000 in
set_option maxHeartbeats 4000000 in
theorem r_484 {V : Nat → Nat → Value} {I : Nat → Nat → Int32} {L : Nat → Nat → Int64} {R : Nat → Nat → Option Nat} {tl : am_H} {V0 : Nat → Nat → Value} {I0 : Nat → Nat → Int32} {cd : Nat → Option xI} {so nt : Int32} {N : Nat} {P Q : xI} (hN : 400 < N) (hx : ctxR V0 I0 2 nt so P) (hy : dsB V0 I0 Q) (h6 : 1 ≤ P.length ∧ P.length ≤ 6) (hq : Q.length = P.length) (hcd : ∀ c, cd c = cdP2 P Q c) (h : scS V0 I0 cd so 0 V I) : ∃ W J, fm_484 N (.ref 174) (fx V I L R ++ tl) = some (.inl (none, fx W J L R ++ tl)) ∧ outS V0 I0 cd so (2 ^ P.length - 2) 2 nt W J := by
  have l60 := hx.2.2.2.2
  have d18 : ∀ (V : Nat → Nat → Value) (I : Nat → Nat → Int32), frSc V0 V I0 I → V 174 18 = .int (nI P.length) := fun V I f => (ct_f hx f).2.2.1.1
  have p64 : 2 ^ P.length ≤ 2 ^ 6 := Nat.pow_le_pow_right (by decide) h6.2
  have p2 : 2 ≤ 2 ^ P.length := Nat.le_trans (by decide) (Nat.pow_le_pow_right (by decide) h6.1)
  have sh := sh_1 P.length (by omega)
  have main := inn (L := L) (R := R) (tl := tl) (V0 := V0) (I0 := I0) (cd := cd) (so := so) (nt := nt) (kd := 2) (b := 0) (S := 2 ^ P.length - 2) (st := 1) (E := fun K k h => fg_484_2 N K (.ref 174) (nI (k + 1)) h) (G := fun h => some (.inl (none, h))) (fun K k V I hk f hc => by
      show fg_484_2 N (K + 1) (.ref 174) (nI (k + 1)) _ = _
      apply hd_484_2
      refine ev_b (rdI (d18 V I f)) ?_
      rw [sh]
      have B := dsB_f f hy
      by_cases c : 2 ^ P.length - 1 ≤ k + 1
      · exact ev_t (nI_le c (by omega)) rfl
      · rcases hc with hc | hc
        · omega
        · exact ev_f (nI_ge (by omega) (by omega)) (ev_b (rdI (d18 V I f)) (ev_b (rdI B.1) (ev_f (fun u => u (by rw [hq])) (ev_b (rdI hc) (ev_t (by decide) rfl)))))) (fun K k V I hk h => by
      rw [Nat.zero_add, Nat.one_mul] at h
      rw [Nat.zero_add, Nat.one_mul]
      show ∃ W J, fg_484_2 N (K + 1) (.ref 174) (nI (k + 1)) (fx V I L R ++ tl) = fg_484_2 N K (.ref 174) (nI (k + 1 + 1)) (fx W J L R ++ tl) ∧ outS V0 I0 cd so (k + 1) 2 nt W J
      have c0 := ct_f hx h.1
      have B0 := dsB_f h.1 hy
      obtain ⟨W1, e1, d1, d2, d3, f1⟩ := s451 (V := V) (I := I) (L := L) (R := R) (tl := tl) c0.1 c0.2.1
      have A1 : dsA W1 I P := ds_f (frSc_d f1) c0.2.2.1
      obtain ⟨W2, J2, K', e2, d4, f2, g13, g15⟩ := l484 (L := L) (R := R) (tl := tl) (N := N) (x := k + 1) (rc := fg_484_2 N K) h6.2 hq (by omega) P.length 0 N W1 I (by omega) (by omega) A1 (dsB_d f1 B0) d1
      have lq := mixL_len (P := P) (Q := Q) (m := k + 1) (s := P.length)
      have ecd : cd k = gS2 2 (mixL P Q (k + 1) P.length) := by
        rw [hcd]
        have s2 : sndB 2 (mixL P Q (k + 1) P.length) = true := decide_eq_true (by rw [lq]; exact h6)
        unfold gS2
        rw [s2]
        rfl
      obtain ⟨W, J, bb, e, g3, g4⟩ := stepC (L := L) (R := R) (tl := tl) hN h (frEd_t f1 f2) d4 (g13.trans d2) (g15.trans d3) (kd := 2) (fr_2 (by rw [lq]; omega)) ecd (by omega) hx.2.2.2.1
      refine ⟨W, J, ?_, outS_b g3 g4⟩
      apply hd_484_2
      refine ev_b (rdI (d18 V I h.1)) ?_
      rw [sh]
      refine ev_f (nI_ge (by omega) (by omega)) (ev_b (rdI (d18 V I h.1)) (ev_b (rdI B0.1) (ev_f (fun u => u (by rw [hq])) (ev_b (rdI h.2.2.1) (ev_f (fun e => e rfl) (ev_i rfl (ev_cV e1 (e2.trans ?_))))))))
      apply hd_484_38
      have A2 : dsA W2 J2 P := ds_f (frSc_d f2) A1
      refine ev_b (rdI A2.1) (ev_t (nI_le (Nat.le_refl _) (by omega)) (ev_i rfl (ev_cI e (ev_b (qp_174_95 (by cases bb <;> rfl)) ?_))))
      rw [sc_95 g3 g4, nI_1]) (2 ^ P.length - 2) 0 N V I (by omega) (by omega) (by rw [Nat.mul_zero]; exact h)
  obtain ⟨W, J, e, o⟩ := main
  refine ⟨W, J, ?_, by rw [Nat.zero_add, Nat.one_mul] at o; exact o⟩
  apply hm_484
  apply hd_484_0
  exact e
theorem r_484n {V : Nat → Nat → Value} {I : Nat → Nat → Int32} {L : Nat → Nat → Int64} {R : Nat → Nat → Option Nat} {tl : am_H} {V0 : Nat → Nat → Value} {I0 : Nat → Nat → Int32} {cd : Nat → Option xI} {so nt : Int32} {N : Nat} {P Q : xI} (hN : 400 < N) (hx : ctxR V0 I0 2 nt so P) (hy : dsB V0 I0 Q) (h6 : 1 ≤ P.length ∧ P.length ≤ 6) (hq6 : Q.length ≤ 6) (hq : Q.length ≠ P.length) (h : scS V0 I0 cd so 0 V I) : fm_484 N (.ref 174) (fx V I L R ++ tl) = some (.inl (none, fx V I L R ++ tl)) := by
  obtain ⟨K, rfl⟩ : ∃ k, N = k + 1 := ⟨N - 1, by omega⟩
  have c0 := ct_f hx h.1
  have B0 := dsB_f h.1 hy
  have p64 : 2 ^ P.length ≤ 2 ^ 6 := Nat.pow_le_pow_right (by decide) h6.2
  apply hm_484
  apply hd_484_0
  apply hd_484_2
  refine ev_b (rdI c0.2.2.1.1) ?_
  rw [sh_1 P.length (by omega)]
  by_cases c : 2 ^ P.length - 1 ≤ 1
  · exact ev_t (nI_le (b := 1) c (by decide)) rfl
  · exact ev_f (nI_ge (a := 1) (by omega) (by omega)) (ev_b (rdI c0.2.2.1.1) (ev_b (rdI B0.1) (ev_t (fun e => hq ((nI_eq (by omega) (by omega)).mp e).symm) rfl)))
/-- the third desk holds a program -/
def dsT (kd : Nat) (Q : xI) (V : Nat → Nat → Value) (I : Nat → Nat → Int32) : Prop := dsB V I Q ∧ (kd = 0 → ∀ k, k < Q.length → I 193 k = nI (xE (uTx Q) k - k))
set_option maxRecDepth 100000 in
set_option maxHeartbeats 4000000 in
theorem all_rP {V : Nat → Nat → Value} {I : Nat → Nat → Int32} {L : Nat → Nat → Int64} {R : Nat → Nat → Option Nat} {tl : am_H} {N kd ln : Nat} {P Q : xI} {so : Int32} (hN : 400 < N) (hg : gdP kd ln P) (hgq : gdP kd ln Q) (hd : dsE kd ln P V I) (ht : dsT kd Q V I) (wv : wt V) : ∃ W J x, fm_481 N (.ref 174) so (fx V I L R ++ tl) = some (.inl (some (.int x), fx W J L R ++ tl)) ∧ outS (vSo V so) I (cdP kd P Q) so (ncP kd ln ln P.length Q.length) kd (nI ln) W J ∧ W 174 94 = .int x := by
  have g2 := hg.2.1
  have q2 := hgq.2.1
  have k3 := hg.1
  obtain ⟨h20, h19, hds, hsp⟩ := hd
  have h20' : vSo V so 174 20 = .int (nI kd) := h20
  have cx : ctxR (vSo V so) I kd (nI ln) so P := ⟨h20, h19, hds, rfl, g2⟩
  have cy : dsB (vSo V so) I Q := ht.1
  have wS : wt (vSo V so) := vSo_w wv
  have st0 : ∀ o, (if ¬ nI kd = 0 then ((am_vI (am_pG 3092 (.ref 174) (fx (vSo V so) I L R ++ tl))).bind fun v10 => (if ¬ v10 = 2 then (if am_pOk 12 (.ref 174) (fx (vSo V so) I L R ++ tl) then am_cV true (fm_485 N (.ref 174) (fx (vSo V so) I L R ++ tl)) (fun h15 => (fg_481_48 N (.ref 174) h15)) else none) else (if am_pOk 12 (.ref 174) (fx (vSo V so) I L R ++ tl) then am_cV true (fm_484 N (.ref 174) (fx (vSo V so) I L R ++ tl)) (fun h19 => (fg_481_48 N (.ref 174) h19)) else none))) else (if am_pOk 12 (.ref 174) (fx (vSo V so) I L R ++ tl) then am_cV true (fm_482 N (.ref 174) (fx (vSo V so) I L R ++ tl)) (fun h23 => (fg_481_48 N (.ref 174) h23)) else none)) = o → fm_481 N (.ref 174) so (fx V I L R ++ tl) = o := fun o e => by
    apply hm_481
    apply hd_481_0
    exact ev_b qp_174_93 (ev_b qp_174_94 (ev_b (qp_174_95 rfl) (ev_b (rdI h20') e)))
  rcases (by omega : kd = 0 ∨ kd = 1 ∨ kd = 2 ∨ kd = 3) with rfl | rfl | rfl | rfl
  · obtain ⟨-, ho, et⟩ := hg.2.2.1 rfl
    obtain ⟨-, hoq, eq⟩ := hgq.2.2.1 rfl
    have lu := uTx_len (P := P)
    have lv := uTx_len (P := Q)
    have cx2 : ctxR (vSo V so) I 0 (nI ln) so (tI (uTx P)) := by rw [et]; exact cx
    have cxt : ctxT (vSo V so) I (nI ln) so (uTx P) := ⟨cx2, fun k hk => hsp rfl k (by rw [← lu]; exact hk), okP_20b ho, okF_F _ _ ho.1⟩
    obtain ⟨W, J, e, o⟩ := r_482 (L := L) (R := R) (tl := tl) (N := N) (cd := cdP 0 P Q) (P := uTx P) (Q := uTx Q) hN cxt (by rw [eq]; exact cy) (by omega) ho hoq (fun j hj => ht.2 rfl j (by rw [← lv]; exact hj)) (fun c => by rw [et, eq]; rfl) scS_0
    rw [lu, lv, Nat.mul_comm] at o
    obtain ⟨x, hx⟩ := outS_94 wS o
    exact ⟨W, J, x, st0 _ (ev_f (fun u => u rfl) (ev_i rfl (ev_cV e (hd_481_48 (ev_b (rdI hx) rfl))))), o, hx⟩
  · obtain ⟨l0, l1, hoI, hv, hj, hX⟩ := hg.2.2.2.1 rfl
    obtain ⟨-, m1, hqI, -⟩ := hgq.2.2.2.1 rfl
    obtain ⟨W, J, e, o⟩ := r_485 (L := L) (R := R) (tl := tl) (N := N) (cd := cdP 1 P Q) (kd := 1) (P := P) (Q := Q) hN cx cy q2 (fun i j hi => ⟨by omega, by rw [jo_len hi]; omega, fun e => absurd e (by decide), fun _ => ⟨okI_j hoI hqI hi, by rw [jo_len hi]; omega⟩⟩) (fun c => rfl) scS_0
    rw [Nat.mul_comm] at o
    obtain ⟨x, hx⟩ := outS_94 wS o
    exact ⟨W, J, x, st0 _ (ev_t (by decide) (ev_b (rdI h20') (ev_t (by decide) (ev_i rfl (ev_cV e (hd_481_48 (ev_b (rdI hx) rfl))))))), o, hx⟩
  · obtain ⟨l0, l1, ho⟩ := hg.2.2.2.2.1 rfl
    obtain ⟨-, m1, hoq⟩ := hgq.2.2.2.2.1 rfl
    by_cases q : P.length = Q.length
    · obtain ⟨W, J, e, o⟩ := r_484 (L := L) (R := R) (tl := tl) (N := N) (cd := cdP 2 P Q) (P := P) (Q := Q) hN cx cy ⟨l1, ho.1⟩ q.symm (fun c => rfl) scS_0
      obtain ⟨x, hx⟩ := outS_94 wS o
      refine ⟨W, J, x, st0 _ (ev_t (by decide) (ev_b (rdI h20') (ev_f (fun u => u rfl) (ev_i rfl (ev_cV e (hd_481_48 (ev_b (rdI hx) rfl))))))), ?_, hx⟩
      show outS _ _ _ _ (if P.length = Q.length then 2 ^ P.length - 2 else 0) _ _ _ _
      rw [if_pos q]
      exact o
    · have e := r_484n (L := L) (R := R) (tl := tl) (N := N) (cd := cdP 2 P Q) (P := P) (Q := Q) hN cx cy ⟨l1, ho.1⟩ hoq.1 (fun u => q u.symm) scS_0
      have hx : vSo V so 174 94 = .int 0 := rfl
      refine ⟨_, _, 0, st0 _ (ev_t (by decide) (ev_b (rdI h20') (ev_f (fun u => u rfl) (ev_i rfl (ev_cV e (hd_481_48 (ev_b (rdI hx) rfl))))))), .inr ?_, hx⟩
      show scS _ _ _ _ (if P.length = Q.length then 2 ^ P.length - 2 else 0) _ _
      rw [if_neg q]
      exact scS_0
  · obtain ⟨W, J, e, o⟩ := r_485 (L := L) (R := R) (tl := tl) (N := N) (cd := cdP 3 P Q) (kd := 3) (P := P) (Q := Q) hN cx cy q2 (fun i j hi => fr_3 (by rw [jo_len hi]; have := (hg.2.2.2.2.2 rfl).2.2.1; have := (hgq.2.2.2.2.2 rfl).2.2.1; omega)) (fun c => rfl) scS_0
    rw [Nat.mul_comm] at o
    obtain ⟨x, hx⟩ := outS_94 wS o
    refine ⟨W, J, x, st0 _ (ev_t (by decide) (ev_b (rdI h20') (ev_t (by decide) (ev_i rfl (ev_cV e (hd_481_48 (ev_b (rdI hx) rfl))))))), ?_, hx⟩
    show outS _ _ _ _ (if 3 = 3 ∧ ln ≠ ln then 0 else (P.length + 1) * (Q.length + 1)) _ _ _ _
    rw [if_neg (fun u => u.2 rfl)]
    exact o
