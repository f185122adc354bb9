/-! ===== edits: candidates in the class: code without instructions ===== -/
theorem hd_175_132 {N : Nat} {rec_62 : Value → Int32 → Int32 → Int32 → am_H → Option am_O} {x0 : Value} {x1 : Int32} {x2 : Int32} {x3 : Int32} {h : am_H} {r_ : Option am_O} (k_ : (rec_62 x0 x1 x2 ((x3 + 1)) h) = r_) : fg_175_132 N rec_62 x0 x1 x2 x3 h = r_ := k_
theorem hd_175_62 {N : Nat} {K : Nat} {x0 : Value} {x1 : Int32} {x2 : Int32} {x3 : Int32} {h : am_H} {r_ : Option am_O} (k_ : (if x1 ≤ x3 then some (.inl (some (.int 1), h)) else ((am_vR (am_pG 5 x0 h)).bind fun v2 => (if am_pOk 3 v2 h then am_cI true (fm_54 v2 x3 1 h) (fun v5 h6 => ((am_vR (am_pG 5 x0 h6)).bind fun v8 => (if am_pOk 3 v8 h6 then am_cI true (fm_54 v8 x3 0 h6) (fun v11 h12 => (if v11 < 17 then (fg_175_132 N (fg_175_62 N K) x0 x1 x2 x3 h12) else (if ((x3 + 1) + v5) ≤ x1 then (fg_175_132 N (fg_175_62 N K) x0 x1 x2 x3 h12) else (if (x1 + x2) ≤ ((x3 + 1) + v5) then ((am_vR (am_pG 0 x0 h12)).bind fun v17 => ((am_vR (am_pG 5 x0 h12)).bind fun v19 => (if am_pOk 3 v19 h12 then am_cI true (fm_54 v19 x3 1 h12) (fun v22 h23 => (if am_pOk 3 v17 h23 then am_cV true (fm_51 v17 x3 1 ((v22 - x2)) h23) (fun h27 => (fg_175_132 N (fg_175_62 N K) x0 x1 x2 x3 h27)) else none)) else none))) else some (.inl (some (.int 0), h12)))))) else none))) else none))) = r_) : fg_175_62 N (K + 1) x0 x1 x2 x3 h = r_ := by rw [fg_175_62]; exact k_
theorem hd_175_0 {N : Nat} {x0 : Value} {x1 : Int32} {x2 : Int32} {h : am_H} {r_ : Option am_O} (k_ : ((am_vR (am_pG 5 x0 h)).bind fun v1 => ((am_vI (am_pG 771 v1 h)).bind fun v3 => (if (x1 + x2) ≤ v3 then ((am_vR (am_pG 0 x0 h)).bind fun v6 => (if am_pOk 3 v6 h then am_cV true (fm_34 v6 1 0 h) (fun h10 => ((am_vR (am_pG 0 x0 h10)).bind fun v12 => ((am_vR (am_pG 5 x0 h10)).bind fun v14 => (if am_pOk 3 v12 h10 then am_cI true (fm_170 v12 v14 0 x1 h10) (fun v17 h18 => ((am_vR (am_pG 0 x0 h18)).bind fun v20 => ((am_vR (am_pG 5 x0 h18)).bind fun v22 => ((am_vR (am_pG 5 x0 h18)).bind fun v24 => ((am_vI (am_pG 771 v24 h18)).bind fun v26 => (if am_pOk 3 v20 h18 then am_cI true (fm_170 v20 v22 ((x1 + x2)) v26 h18) (fun v29 h30 => (fg_175_62 N N x0 x1 x2 0 h30)) else none)))))) else none)))) else none)) else some (.inl (some (.int 0), h))))) = r_) : fg_175_0 N x0 x1 x2 h = r_ := k_
theorem hm_175 {N : Nat} {y0 : Value} {y1 : Int32} {y2 : Int32} {h : am_H} {r_ : Option am_O} (k_ : fg_175_0 N y0 y1 y2 h = r_) : fm_175 N y0 y1 y2 h = r_ := k_
def fO (P : xT) (p n j : Nat) : Nat × Int32 := (xS P j, if 16 < xS P j ∧ p < j + 1 + sN (xV P j) then xV P j - nI n else xV P j)
def bO (P : xT) (p n i : Nat) : xT := (List.range i).map (fO P p n) ++ (seg P i p ++ P.drop (p + n))
theorem bO_l {P : xT} {p n i : Nat} (hi : i ≤ p) (hp : p + n ≤ P.length) : (bO P p n i).length = P.length - n := by
  unfold bO
  rw [List.length_append, List.length_map, List.length_range, List.length_append, seg_len (by omega), List.length_drop]
  omega
theorem seg_c {P : xT} {i j : Nat} (h : i < j) (hj : j ≤ P.length) : seg P i j = (xS P i, xV P i) :: seg P (i + 1) j := by
  unfold seg
  have e := xS_at (P := P) (k := i) (by omega)
  rw [List.drop_eq_getElem_cons (by omega), show j - i = (j - (i + 1)) + 1 by omega, List.take_succ_cons]
  rw [List.getElem?_eq_getElem (by omega)] at e
  rw [Option.some.inj e]
theorem bO_at {P : xT} {p n i : Nat} (hi : i < p) (hp : p + n ≤ P.length) : xS (bO P p n i) i = xS P i ∧ ∀ v, (bO P p n i).set i (xS P i, v) = (List.range i).map (fO P p n) ++ ((xS P i, v) :: (seg P (i + 1) p ++ P.drop (p + n))) := by
  have l : ((List.range i).map (fO P p n)).length = i := by rw [List.length_map, List.length_range]
  unfold bO
  rw [seg_c hi (by omega), List.cons_append]
  refine ⟨?_, fun v => ?_⟩
  · unfold xS
    rw [List.getD_eq_getElem?_getD, List.getElem?_append_right (by omega), l, Nat.sub_self]
    rfl
  · rw [List.set_append_right _ _ (by omega), l, Nat.sub_self]
    rfl
theorem bO_s {P : xT} {p n i : Nat} (hi : i < p) (hp : p + n ≤ P.length) {v : Int32} (hv : fO P p n i = (xS P i, v)) : (List.range i).map (fO P p n) ++ ((xS P i, v) :: (seg P (i + 1) p ++ P.drop (p + n))) = bO P p n (i + 1) := by
  unfold bO
  rw [List.range_succ, List.map_append, List.append_assoc]
  congr 1
  rw [← hv]
  rfl
theorem bO_w {P : xT} {p n : Nat} (h18 : ∀ k, k < P.length → xS P k ≤ 18) (hp : p + n ≤ P.length) : tI (bO P p n p) = wOut (tI P) p n := by
  unfold bO wOut
  have : seg P p p = [] := by unfold seg; rw [Nat.sub_self]; rfl
  rw [this, List.nil_append, tI_app, tI_drop]
  congr 1
  unfold tI
  rw [List.map_map]
  refine List.map_congr_left (fun k hk => ?_)
  rw [List.mem_range] at hk
  have e := srt_tI (Q := P) (k := k) (by omega)
  have x := h18 k (by omega)
  show (nI (fO P p n k).1, (fO P p n k).2) = _
  unfold fO jmp
  have e1 : srt (List.map (fun x => (nI x.1, x.2)) P) k = nI (xS P k) := e.1
  have e2 : vlu (List.map (fun x => (nI x.1, x.2)) P) k = xV P k := e.2
  rw [e1, e2, sN_n (by omega)]
set_option maxRecDepth 100000 in
set_option maxHeartbeats 4000000 in
theorem l175 {L : Nat → Nat → Int64} {R : Nat → Nat → Option Nat} {tl : am_H} {N A it p n : Nat} {P : xT} (hA : 130 < A) (hi : 130 < it) (hc : okI (tI P)) (h18 : ∀ k, k < P.length → xS P k ≤ 18) (hp : p + n ≤ P.length) (hn : n ≤ 3) : ∀ (m i K : Nat) (V : Nat → Nat → Value) (I : Nat → Nat → Int32), i + m = p → m < K → V 89 5 = .ref A → srcP V I tl A it 1 0 P → hold V I 90 1 0 (bO P p n i) → ∃ W J b, fg_175_62 N K (.ref 89) (nI p) (nI n) (nI i) (fx V I L R ++ tl) = some (.inl (some (.int (bI b)), fx W J L R ++ tl)) ∧ (b = true ↔ ∀ j, i ≤ j → j < p → ¬ badO (tI P) p n j) ∧ (b = true → hold W J 90 1 0 (bO P p n p)) ∧ fr1 90 V W I J := by
  intro m
  induction m with
  | zero =>
    intro i K V I hm hK h5 hs hd
    obtain ⟨K, rfl⟩ : ∃ k, K = k + 1 := ⟨K - 1, by omega⟩
    rw [Nat.add_zero] at hm
    subst hm
    have l60 := (src_ok (L := L) (R := R) hs).2.2.2.2
    exact ⟨V, I, true, hd_175_62 (ev_t (nI_le (Nat.le_refl _) (by omega)) rfl), ⟨fun _ j a b => absurd b (by omega), fun _ => rfl⟩, fun _ => hd, fr1_r⟩
  | succ m ih =>
    intro i K V I hm hK h5 hs hd
    obtain ⟨K, rfl⟩ : ∃ k, K = k + 1 := ⟨K - 1, by omega⟩
    obtain ⟨o1, o2, -, -, l60⟩ := src_ok (L := L) (R := R) hs
    have hk : i < P.length := by omega
    obtain ⟨g0, g1⟩ := src_get (L := L) (R := R) hs hk
    have rb : am_vR (am_pG 5 (.ref 89) (fx V I L R ++ tl)) = some (.ref A) := rVR qv_89_5 h5
    obtain ⟨w1, w2, w3⟩ := hc i (by rw [tI_len]; exact hk)
    have xi := h18 i hk
    rw [(srt_tI hk).1, sN_n (by omega), (srt_tI hk).2] at w3
    have bi : badO (tI P) p n i ↔ (16 < xS P i ∧ p < i + 1 + sN (xV P i) ∧ i + 1 + sN (xV P i) < p + n) := by
      unfold badO jmp
      rw [(srt_tI hk).1, (srt_tI hk).2, sN_n (by omega)]
    have st0 : ∀ o, (if nI (xS P i) < 17 then (fg_175_132 N (fg_175_62 N K) (.ref 89) (nI p) (nI n) (nI i) (fx V I L R ++ tl)) else (if ((nI i + 1) + xV P i) ≤ nI p then (fg_175_132 N (fg_175_62 N K) (.ref 89) (nI p) (nI n) (nI i) (fx V I L R ++ tl)) else (if (nI p + nI n) ≤ ((nI i + 1) + xV P i) then ((am_vR (am_pG 0 (.ref 89) (fx V I L R ++ tl))).bind fun v17 => ((am_vR (am_pG 5 (.ref 89) (fx V I L R ++ tl))).bind fun v19 => (if am_pOk 3 v19 (fx V I L R ++ tl) then am_cI true (fm_54 v19 (nI i) 1 (fx V I L R ++ tl)) (fun v22 h23 => (if am_pOk 3 v17 h23 then am_cV true (fm_51 v17 (nI i) 1 ((v22 - nI n)) h23) (fun h27 => (fg_175_132 N (fg_175_62 N K) (.ref 89) (nI p) (nI n) (nI i) h27)) else none)) else none))) else some (.inl (some (.int 0), fx V I L R ++ tl))))) = o → fg_175_62 N (K + 1) (.ref 89) (nI p) (nI n) (nI i) (fx V I L R ++ tl) = o := fun o k_ => by
      apply hd_175_62
      exact ev_f (nI_ge (by omega) (by omega)) (ev_b rb (ev_i o1 (ev_cI g1 (ev_b rb (ev_i o1 (ev_cI g0 k_))))))
    have go : ∀ (W : Nat → Nat → Value) (J : Nat → Nat → Int32), ¬ badO (tI P) p n i → fr1 90 V W I J → hold W J 90 1 0 (bO P p n (i + 1)) → fg_175_62 N (K + 1) (.ref 89) (nI p) (nI n) (nI i) (fx V I L R ++ tl) = fg_175_132 N (fg_175_62 N K) (.ref 89) (nI p) (nI n) (nI i) (fx W J L R ++ tl) → ∃ W J b, fg_175_62 N (K + 1) (.ref 89) (nI p) (nI n) (nI i) (fx V I L R ++ tl) = some (.inl (some (.int (bI b)), fx W J L R ++ tl)) ∧ (b = true ↔ ∀ j, i ≤ j → j < p → ¬ badO (tI P) p n j) ∧ (b = true → hold W J 90 1 0 (bO P p n p)) ∧ fr1 90 V W I J := fun W J nb f hd e => by
      obtain ⟨W', J', b, e', g', d', f'⟩ := ih (i + 1) K W J (by omega) (by omega) ((f.1 89 5 (by decide)).trans h5) (srcP_f f (by omega) (by omega) hs) hd
      refine ⟨W', J', b, e.trans ?_, ?_, d', fr1_t f f'⟩
      · apply hd_175_132
        rw [nI_1]
        exact e'
      · rw [g']
        refine ⟨fun h j a c => ?_, fun h j a c => h j (by omega) c⟩
        by_cases q : j = i
        · rw [q]; exact nb
        · exact h j (by omega) c
    obtain ⟨at1, at2⟩ := bO_at (n := n) (i := i) (p := p) (by omega) hp
    have same : ∀ v, fO P p n i = (xS P i, v) → v = xV P i → hold V I 90 1 0 (bO P p n (i + 1)) := fun v hv ev => by
      have : bO P p n i = bO P p n (i + 1) := by
        rw [← bO_s (n := n) (by omega) hp hv, ev]
        unfold bO
        rw [seg_c (by omega) (by omega)]
        rfl
      rw [← this]
      exact hd
    by_cases c1 : 16 < xS P i
    case neg => exact go V I (fun e => c1 (bi.mp e).1) fr1_r (same _ (by unfold fO; rw [if_neg (fun e => c1 e.1)]) rfl) (st0 _ (ev_t ((nI_ltI (b := 17) (by omega) (by decide)).mpr (by omega)) rfl))
    obtain ⟨w4, w5⟩ := w3 (by omega)
    have sj : nI i + 1 + xV P i = nI (i + 1 + sN (xV P i)) := by rw [nI_1]; exact (congrArg (fun z => nI (i + 1) + z) w4).trans (nI_add _ _)
    have spn : nI p + nI n = nI (p + n) := nI_add p n
    rw [sj, spn] at st0
    have n17 : ¬ nI (xS P i) < 17 := nI_nlt (b := 17) (by omega) (by omega)
    by_cases c2 : p < i + 1 + sN (xV P i)
    case neg => exact go V I (fun e => c2 (bi.mp e).2.1) fr1_r (same _ (by unfold fO; rw [if_neg (fun e => c2 e.2)]) rfl) (st0 _ (ev_f n17 (ev_t (nI_le (by omega) (by omega)) rfl)))
    by_cases c3 : p + n ≤ i + 1 + sN (xV P i)
    case neg =>
      refine ⟨V, I, false, st0 _ (ev_f n17 (ev_f (nI_ge c2 (by omega)) (ev_f (nI_ge (by omega) (by omega)) rfl))), ⟨fun e => Bool.noConfusion e, fun h => absurd (bi.mpr ⟨c1, c2, by omega⟩) (h i (Nat.le_refl _) (by omega))⟩, fun e => Bool.noConfusion e, fr1_r⟩
    have lb := bO_l (i := i) (n := n) (p := p) (by omega) hp
    obtain ⟨W1, J1, e1, d1, f1⟩ := s51_90 (L := L) (R := R) (tl := tl) (v := xV P i - nI n) hd (i := i) (by rw [lb]; omega) (by rw [lb]; omega)
    rw [at1, at2, bO_s (n := n) (by omega) hp (by unfold fO; rw [if_pos ⟨c1, c2⟩])] at d1
    exact go W1 J1 (fun e => by have := (bi.mp e).2.2; omega) f1 d1 (st0 _ (ev_f n17 (ev_f (nI_ge c2 (by omega)) (ev_t (nI_le c3 (by omega)) (ev_b (rdR rfl) (ev_b rb (ev_i o1 (ev_cI g1 (ev_i rfl (ev_cV e1 rfl))))))))))
