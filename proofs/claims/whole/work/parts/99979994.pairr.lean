/-! ===== pairs: the reference's candidates ===== -/
theorem hd_481_48 {N : Nat} {x0 : Value} {h : am_H} {r_ : Option am_O} (k_ : ((am_vI (am_pG 3166 x0 h)).bind fun v1 => some (.inl (some (.int v1), h))) = r_) : fg_481_48 N x0 h = r_ := k_
theorem hd_481_0 {N : Nat} {x0 : Value} {x1 : Int32} {h : am_H} {r_ : Option am_O} (k_ : ((am_pP 3165 x0 (.int x1) h).bind fun h1 => ((am_pP 3166 x0 (.int 0) h1).bind fun h3 => ((am_pP 3167 x0 (.int 0) h3).bind fun h5 => ((am_vI (am_pG 3092 x0 h5)).bind fun v7 => (if ¬ v7 = 0 then ((am_vI (am_pG 3092 x0 h5)).bind fun v10 => (if ¬ v10 = 2 then (if am_pOk 12 x0 h5 then am_cV true (fm_485 N x0 h5) (fun h15 => (fg_481_48 N x0 h15)) else none) else (if am_pOk 12 x0 h5 then am_cV true (fm_484 N x0 h5) (fun h19 => (fg_481_48 N x0 h19)) else none))) else (if am_pOk 12 x0 h5 then am_cV true (fm_482 N x0 h5) (fun h23 => (fg_481_48 N x0 h23)) else none)))))) = r_) : fg_481_0 N x0 x1 h = r_ := k_
theorem hm_481 {N : Nat} {y0 : Value} {y1 : Int32} {h : am_H} {r_ : Option am_O} (k_ : fg_481_0 N y0 y1 h = r_) : fm_481 N y0 y1 h = r_ := k_
theorem hd_482_140 {N : Nat} {h : am_H} {r_ : Option am_O} (k_ : some (.inl (none, h)) = r_) : fg_482_140 N h = r_ := k_
theorem hd_482_134 {N : Nat} {rec_2 : Value → Int32 → am_H → Option am_O} {x0 : Value} {x1 : Int32} {h : am_H} {r_ : Option am_O} (k_ : (rec_2 x0 ((x1 + 1)) h) = r_) : fg_482_134 N rec_2 x0 x1 h = r_ := k_
theorem hd_482_128 {N : Nat} {rec_2 : Value → Int32 → am_H → Option am_O} {rec_19 : Value → Int32 → Int32 → am_H → Option am_O} {x0 : Value} {x1 : Int32} {x2 : Int32} {h : am_H} {r_ : Option am_O} (k_ : (rec_19 x0 x1 ((x2 + 1)) h) = r_) : fg_482_128 N rec_2 rec_19 x0 x1 x2 h = r_ := k_
theorem hd_482_19 {N : Nat} {rec_2 : Value → Int32 → am_H → Option am_O} {K : Nat} {x0 : Value} {x1 : Int32} {x2 : Int32} {h : am_H} {r_ : Option am_O} (k_ : ((am_vI (am_pG 3095 x0 h)).bind fun v1 => (if v1 ≤ x2 then (fg_482_134 N rec_2 x0 x1 h) else ((am_vI (am_pG 3167 x0 h)).bind fun v4 => (if ¬ v4 = 0 then (fg_482_134 N rec_2 x0 x1 h) else ((am_vR (am_pG 3093 x0 h)).bind fun v7 => ((am_pA 0 v7 x1 h).bind fun v9 => am_cI false (fm_334 v9 h) (fun v11 h12 => ((am_vR (am_pG 3096 x0 h12)).bind fun v14 => ((am_pA 0 v14 x2 h12).bind fun v16 => am_cI false (fm_334 v16 h12) (fun v18 h19 => (if ¬ v11 = v18 then (fg_482_128 N rec_2 (fg_482_19 N rec_2 K) x0 x1 x2 h19) else ((am_vI (am_pG 3090 x0 h19)).bind fun v22 => ((am_vR (am_pG 3098 x0 h19)).bind fun v24 => ((am_pA 0 v24 x1 h19).bind fun v26 => ((am_vR (am_pG 3099 x0 h19)).bind fun v28 => ((am_pA 0 v28 x2 h19).bind fun v30 => (if ((v22 - v26) + v30) ≤ 60 then (if am_pOk 12 x0 h19 then am_cV true (fm_451 x0 h19) (fun h35 => (if am_pOk 12 x0 h35 then am_cV true (fm_443 N x0 0 x1 h35) (fun h39 => ((am_vR (am_pG 3099 x0 h39)).bind fun v41 => ((am_pA 0 v41 x2 h39).bind fun v43 => (if am_pOk 12 x0 h39 then am_cV true (fm_483 N x0 x2 ((x2 + v43)) h39) (fun h47 => ((am_vR (am_pG 3098 x0 h47)).bind fun v49 => ((am_pA 0 v49 x1 h47).bind fun v51 => ((am_vI (am_pG 3090 x0 h47)).bind fun v53 => (if am_pOk 12 x0 h47 then am_cV true (fm_443 N x0 ((x1 + v51)) v53 h47) (fun h57 => (if am_pOk 12 x0 h57 then am_cI true (fm_444 N x0 h57) (fun v60 h61 => ((am_pP 3167 x0 (.int v60) h61).bind fun h63 => (fg_482_128 N rec_2 (fg_482_19 N rec_2 K) x0 x1 x2 h63))) else none)) else none))))) else none)))) else none)) else none) else (fg_482_128 N rec_2 (fg_482_19 N rec_2 K) x0 x1 x2 h19)))))))))))))))))) = r_) : fg_482_19 N rec_2 (K + 1) x0 x1 x2 h = r_ := by rw [fg_482_19]; exact k_
theorem hd_482_2 {N : Nat} {K : Nat} {x0 : Value} {x1 : Int32} {h : am_H} {r_ : Option am_O} (k_ : ((am_vI (am_pG 3090 x0 h)).bind fun v1 => (if v1 ≤ x1 then (fg_482_140 N h) else ((am_vI (am_pG 3167 x0 h)).bind fun v4 => (if ¬ v4 = 0 then (fg_482_140 N h) else (fg_482_19 N (fg_482_2 N K) N x0 x1 0 h))))) = r_) : fg_482_2 N (K + 1) x0 x1 h = r_ := by rw [fg_482_2]; exact k_
theorem hd_482_0 {N : Nat} {x0 : Value} {h : am_H} {r_ : Option am_O} (k_ : (fg_482_2 N N x0 0 h) = r_) : fg_482_0 N x0 h = r_ := k_
theorem hm_482 {N : Nat} {y0 : Value} {h : am_H} {r_ : Option am_O} (k_ : fg_482_0 N y0 h = r_) : fm_482 N y0 h = r_ := k_
theorem hd_483_2 {N : Nat} {K : Nat} {x0 : Value} {x2 : Int32} {x3 : Int32} {h : am_H} {r_ : Option am_O} (k_ : (if x2 ≤ x3 then some (.inl (none, h)) else ((am_vR (am_pG 3096 x0 h)).bind fun v2 => ((am_pA 0 v2 x3 h).bind fun v4 => ((am_vR (am_pG 3097 x0 h)).bind fun v6 => ((am_pA 0 v6 x3 h).bind fun v8 => (if am_pOk 12 x0 h then am_cV true (fm_335 x0 v4 v8 h) (fun h12 => (fg_483_2 N K x0 x2 ((x3 + 1)) h12)) else none)))))) = r_) : fg_483_2 N (K + 1) x0 x2 x3 h = r_ := by rw [fg_483_2]; exact k_
theorem hd_483_0 {N : Nat} {x0 : Value} {x1 : Int32} {x2 : Int32} {h : am_H} {r_ : Option am_O} (k_ : (fg_483_2 N N x0 x2 x1 h) = r_) : fg_483_0 N x0 x1 x2 h = r_ := k_
theorem hm_483 {N : Nat} {y0 : Value} {y1 : Int32} {y2 : Int32} {h : am_H} {r_ : Option am_O} (k_ : fg_483_0 N y0 y1 y2 h = r_) : fm_483 N y0 y1 y2 h = r_ := k_
theorem hd_484_110 {N : Nat} {h : am_H} {r_ : Option am_O} (k_ : some (.inl (none, h)) = r_) : fg_484_110 N h = r_ := k_
theorem hd_484_90 {N : Nat} {rec_2 : Value → Int32 → am_H → Option am_O} {rec_38 : Value → Int32 → Int32 → am_H → Option am_O} {x0 : Value} {x1 : Int32} {x2 : Int32} {h : am_H} {r_ : Option am_O} (k_ : (rec_38 x0 x1 ((x2 + 1)) h) = r_) : fg_484_90 N rec_2 rec_38 x0 x1 x2 h = r_ := k_
theorem hd_484_38 {N : Nat} {rec_2 : Value → Int32 → am_H → Option am_O} {K : Nat} {x0 : Value} {x1 : Int32} {x2 : Int32} {h : am_H} {r_ : Option am_O} (k_ : ((am_vI (am_pG 3090 x0 h)).bind fun v1 => (if v1 ≤ x2 then (if am_pOk 12 x0 h then am_cI true (fm_444 N x0 h) (fun v5 h6 => ((am_pP 3167 x0 (.int v5) h6).bind fun h8 => (rec_2 x0 ((x1 + 1)) h8))) else none) else (if ¬ ((x1 >>> (x2 &&& 31)) &&& 1) = 1 then ((am_vR (am_pG 3093 x0 h)).bind fun v11 => ((am_pA 0 v11 x2 h).bind fun v13 => ((am_vR (am_pG 3094 x0 h)).bind fun v15 => ((am_pA 0 v15 x2 h).bind fun v17 => (if am_pOk 12 x0 h then am_cV true (fm_335 x0 v13 v17 h) (fun h21 => (fg_484_90 N rec_2 (fg_484_38 N rec_2 K) x0 x1 x2 h21)) else none))))) else ((am_vR (am_pG 3096 x0 h)).bind fun v23 => ((am_pA 0 v23 x2 h).bind fun v25 => ((am_vR (am_pG 3097 x0 h)).bind fun v27 => ((am_pA 0 v27 x2 h).bind fun v29 => (if am_pOk 12 x0 h then am_cV true (fm_335 x0 v25 v29 h) (fun h33 => (fg_484_90 N rec_2 (fg_484_38 N rec_2 K) x0 x1 x2 h33)) else none)))))))) = r_) : fg_484_38 N rec_2 (K + 1) x0 x1 x2 h = r_ := by rw [fg_484_38]; exact k_
theorem hd_484_2 {N : Nat} {K : Nat} {x0 : Value} {x1 : Int32} {h : am_H} {r_ : Option am_O} (k_ : ((am_vI (am_pG 3090 x0 h)).bind fun v1 => (if ((1 <<< (v1 &&& 31)) - 1) ≤ x1 then (fg_484_110 N h) else ((am_vI (am_pG 3090 x0 h)).bind fun v4 => ((am_vI (am_pG 3095 x0 h)).bind fun v6 => (if ¬ v4 = v6 then (fg_484_110 N h) else ((am_vI (am_pG 3167 x0 h)).bind fun v9 => (if ¬ v9 = 0 then (fg_484_110 N h) else (if am_pOk 12 x0 h then am_cV true (fm_451 x0 h) (fun h14 => (fg_484_38 N (fg_484_2 N K) N x0 x1 0 h14)) else none)))))))) = r_) : fg_484_2 N (K + 1) x0 x1 h = r_ := by rw [fg_484_2]; exact k_
theorem hd_484_0 {N : Nat} {x0 : Value} {h : am_H} {r_ : Option am_O} (k_ : (fg_484_2 N N x0 1 h) = r_) : fg_484_0 N x0 h = r_ := k_
theorem hm_484 {N : Nat} {y0 : Value} {h : am_H} {r_ : Option am_O} (k_ : fg_484_0 N y0 h = r_) : fm_484 N y0 h = r_ := k_
theorem hd_485_73 {N : Nat} {h : am_H} {r_ : Option am_O} (k_ : some (.inl (none, h)) = r_) : fg_485_73 N h = r_ := k_
theorem hd_485_67 {N : Nat} {rec_2 : Value → Int32 → am_H → Option am_O} {x0 : Value} {x1 : Int32} {h : am_H} {r_ : Option am_O} (k_ : (rec_2 x0 ((x1 + 1)) h) = r_) : fg_485_67 N rec_2 x0 x1 h = r_ := k_
theorem hd_485_19 {N : Nat} {rec_2 : Value → Int32 → am_H → Option am_O} {K : Nat} {x0 : Value} {x1 : Int32} {x2 : Int32} {h : am_H} {r_ : Option am_O} (k_ : ((am_vI (am_pG 3095 x0 h)).bind fun v1 => (if v1 < x2 then (fg_485_67 N rec_2 x0 x1 h) else ((am_vI (am_pG 3167 x0 h)).bind fun v4 => (if ¬ v4 = 0 then (fg_485_67 N rec_2 x0 x1 h) else (if am_pOk 12 x0 h then am_cV true (fm_451 x0 h) (fun h9 => (if am_pOk 12 x0 h9 then am_cV true (fm_443 N x0 0 x1 h9) (fun h13 => ((am_vI (am_pG 3095 x0 h13)).bind fun v15 => (if am_pOk 12 x0 h13 then am_cV true (fm_483 N x0 x2 v15 h13) (fun h19 => (if am_pOk 12 x0 h19 then am_cI true (fm_444 N x0 h19) (fun v22 h23 => ((am_pP 3167 x0 (.int v22) h23).bind fun h25 => (fg_485_19 N rec_2 K x0 x1 ((x2 + 1)) h25))) else none)) else none))) else none)) else none))))) = r_) : fg_485_19 N rec_2 (K + 1) x0 x1 x2 h = r_ := by rw [fg_485_19]; exact k_
theorem hd_485_2 {N : Nat} {K : Nat} {x0 : Value} {x1 : Int32} {h : am_H} {r_ : Option am_O} (k_ : ((am_vI (am_pG 3090 x0 h)).bind fun v1 => (if v1 < x1 then (fg_485_73 N h) else ((am_vI (am_pG 3167 x0 h)).bind fun v4 => (if ¬ v4 = 0 then (fg_485_73 N h) else (fg_485_19 N (fg_485_2 N K) N x0 x1 0 h))))) = r_) : fg_485_2 N (K + 1) x0 x1 h = r_ := by rw [fg_485_2]; exact k_
theorem hd_485_0 {N : Nat} {x0 : Value} {h : am_H} {r_ : Option am_O} (k_ : (fg_485_2 N N x0 0 h) = r_) : fg_485_0 N x0 h = r_ := k_
theorem hm_485 {N : Nat} {y0 : Value} {h : am_H} {r_ : Option am_O} (k_ : fg_485_0 N y0 h = r_) : fm_485 N y0 h = r_ := k_
def dsB (V : Nat → Nat → Value) (I : Nat → Nat → Int32) (Q : xI) : Prop := V 174 23 = .int (nI Q.length) ∧ lay2 (I 190) (I 191) Q
theorem dsB_d {V W : Nat → Nat → Value} {I J : Nat → Nat → Int32} {Q : xI} (f : frEd V W I J) (h : dsB V I Q) : dsB W J Q := ⟨(f.1 174 23 (by decide)).trans h.1, by rw [f.2.1 190 (by decide) (by decide), f.2.1 191 (by decide) (by decide)]; exact h.2⟩
theorem dsB_f {V W : Nat → Nat → Value} {I J : Nat → Nat → Int32} {P : xI} (f : frSc V W I J) (h : dsB V I P) : dsB W J P := ⟨(f.1 174 23 (by decide)).trans h.1, by rw [f.2.1 190 (by decide) (by decide) (by decide) (by decide) (by decide) (by decide), f.2.1 191 (by decide) (by decide) (by decide) (by decide) (by decide) (by decide)]; exact h.2⟩
theorem s483l {L : Nat → Nat → Int64} {R : Nat → Nat → Option Nat} {tl : am_H} {N j : Nat} {P : xI} (hj : j ≤ P.length) (hP : P.length ≤ 400) : ∀ (m k K : Nat) (V : Nat → Nat → Value) (I : Nat → Nat → Int32) (Q : xI), k + m = j → m < K → dsB V I P → dkL V I Q → Q.length + m ≤ 400 → ∃ W J, fg_483_2 N K (.ref 174) (nI j) (nI k) (fx V I L R ++ tl) = some (.inl (none, fx W J L R ++ tl)) ∧ dkL W J (Q ++ sg P k j) ∧ frDk V W I J := by
  intro m
  induction m with
  | zero =>
    intro k K V I Q hm hK hA hd hq
    obtain ⟨K, rfl⟩ : ∃ k, K = k + 1 := ⟨K - 1, by omega⟩
    refine ⟨V, I, ?_, ?_, frDk_r⟩
    · apply hd_483_2
      exact ev_t (nI_le (by omega) (by omega)) rfl
    · have e : sg P k j = [] := by unfold sg; rw [show j - k = 0 by omega, List.take_zero]
      rw [e, List.append_nil]
      exact hd
  | succ m ih =>
    intro k K V I Q hm hK hA hd hq
    obtain ⟨K, rfl⟩ : ∃ k, K = k + 1 := ⟨K - 1, by omega⟩
    have hk : k < P.length := by omega
    obtain ⟨a1, a2⟩ := hA.2 k _ (List.getElem?_eq_getElem hk)
    obtain ⟨W, J, e, q, f⟩ := s335 (L := L) (R := R) (tl := tl) (P[k]).1 (P[k]).2 hd (by omega)
    obtain ⟨W2, J2, e2, q2, f2⟩ := ih (k + 1) K W J (Q ++ [P[k]]) (by omega) (by omega) (dsB_d (frEd_d f) hA) q (by rw [List.length_append]; show Q.length + 1 + m ≤ 400; omega)
    refine ⟨W2, J2, ?_, ?_, frDk_t f f2⟩
    · apply hd_483_2
      rw [nI_1]
      exact ev_f (nI_ge (by omega) (by omega)) (ev_b (rdR rfl) (ev_b ((qa_190 (by omega)).trans (congrArg some a1)) (ev_b (rdR rfl) (ev_b ((qa_191 (by omega)).trans (congrArg some a2)) (ev_i rfl (ev_cV e e2))))))
    · rw [List.append_assoc, List.singleton_append] at q2
      rw [sg_s (by omega) hj]
      exact q2
theorem s483 {V : Nat → Nat → Value} {I : Nat → Nat → Int32} {L : Nat → Nat → Int64} {R : Nat → Nat → Option Nat} {tl : am_H} {N i j : Nat} {P Q : xI} (x y : Int32) (hx : x = nI i) (hy : y = nI j) (hN : 400 < N) (hij : i ≤ j) (hj : j ≤ P.length) (hP : P.length ≤ 400) (hA : dsB V I P) (hd : dkL V I Q) (hq : Q.length + (j - i) ≤ 400) : ∃ W J, fm_483 N (.ref 174) x y (fx V I L R ++ tl) = some (.inl (none, fx W J L R ++ tl)) ∧ dkL W J (Q ++ sg P i j) ∧ frDk V W I J := by
  subst hx
  subst hy
  obtain ⟨W, J, e, r⟩ := s483l (L := L) (R := R) (tl := tl) (N := N) hj hP (j - i) i N V I Q (by omega) (by omega) hA hd hq
  exact ⟨W, J, e, r⟩
set_option maxRecDepth 100000 in
set_option maxHeartbeats 4000000 in
theorem r_485 {V : Nat → Nat → Value} {I : Nat → Nat → Int32} {L : Nat → Nat → Int64} {R : Nat → Nat → Option Nat} {tl : am_H} {V0 : Nat → Nat → Value} {I0 : Nat → Nat → Int32} {cd : Nat → Option xI} {so nt : Int32} {N : Nat} {kd : Nat} {P Q : xI} (hN : 400 < N) (hx : ctxR V0 I0 kd nt so P) (hy : dsB V0 I0 Q) (hq : Q.length ≤ 60) (hfr : ∀ i j, i ≤ P.length → frm kd (P.take i ++ Q.drop j)) (hcd : ∀ c, cd c = gS2 kd (P.take (c / (Q.length + 1)) ++ Q.drop (c % (Q.length + 1)))) (h : scS V0 I0 cd so 0 V I) : ∃ W J, fm_485 N (.ref 174) (fx V I L R ++ tl) = some (.inl (none, fx W J L R ++ tl)) ∧ outS V0 I0 cd so ((Q.length + 1) * (P.length + 1)) kd nt W J := by
  have l60 := hx.2.2.2.2
  have d18 : ∀ (V : Nat → Nat → Value) (I : Nat → Nat → Int32), frSc V0 V I0 I → V 174 18 = .int (nI P.length) := fun V I f => (ct_f hx f).2.2.1.1
  have main := inn (L := L) (R := R) (tl := tl) (V0 := V0) (I0 := I0) (cd := cd) (so := so) (nt := nt) (kd := kd) (b := 0) (S := P.length + 1) (st := (Q.length + 1)) (E := fun K k h => fg_485_2 N K (.ref 174) (nI k) h) (G := fun h => some (.inl (none, h))) (fun K k V I hk f hc => by
      show fg_485_2 N (K + 1) (.ref 174) (nI k) _ = _
      apply hd_485_2
      by_cases c : P.length < k
      · exact ev_b (rdI (d18 V I f)) (ev_t ((nI_ltI (by omega) (by omega)).mpr c) rfl)
      · rcases hc with hc | hc
        · omega
        · exact ev_b (rdI (d18 V I f)) (ev_f (nI_nlt (by omega) (by omega)) (ev_b (rdI hc) (ev_t (by decide) rfl)))
      ) (fun K k V I hk h => by
      rw [Nat.zero_add] at h
      show ∃ W J, fg_485_2 N (K + 1) (.ref 174) (nI k) (fx V I L R ++ tl) = fg_485_2 N K (.ref 174) (nI (k + 1)) (fx W J L R ++ tl) ∧ outS V0 I0 cd so (0 + (Q.length + 1) * (k + 1)) kd nt W J
      rw [Nat.zero_add]
      have ik := inn (L := L) (R := R) (tl := tl) (V0 := V0) (I0 := I0) (cd := cd) (so := so) (nt := nt) (kd := kd) (b := (Q.length + 1) * k) (S := Q.length + 1) (st := 1) (E := fun K' s h => fg_485_19 N (fg_485_2 N K) K' (.ref 174) (nI k) (nI s) h) (G := fun h => fg_485_2 N K (.ref 174) (nI (k + 1)) h) (fun K' s V I hs f hc => by
          show fg_485_19 N (fg_485_2 N K) (K' + 1) (.ref 174) (nI k) (nI s) _ = fg_485_2 N K (.ref 174) (nI (k + 1)) _
          have nx : fg_485_67 N (fg_485_2 N K) (.ref 174) (nI k) (fx V I L R ++ tl) = fg_485_2 N K (.ref 174) (nI (k + 1)) (fx V I L R ++ tl) := by
            apply hd_485_67
            rw [nI_1]
          apply hd_485_19
          have B := dsB_f f hy
          by_cases c : Q.length < s
          · exact ev_b (rdI B.1) (ev_t ((nI_ltI (by omega) (by omega)).mpr c) nx)
          · rcases hc with hc | hc
            · omega
            · exact ev_b (rdI B.1) (ev_f (nI_nlt (by omega) (by omega)) (ev_b (rdI hc) (ev_t (by decide) nx)))
          ) (fun K' s V I hs h => by
          rw [Nat.one_mul] at h
          rw [Nat.one_mul]
          show ∃ W J, fg_485_19 N (fg_485_2 N K) (K' + 1) (.ref 174) (nI k) (nI s) (fx V I L R ++ tl) = fg_485_19 N (fg_485_2 N K) K' (.ref 174) (nI k) (nI (s + 1)) (fx W J L R ++ tl) ∧ outS V0 I0 cd so ((Q.length + 1) * k + (s + 1)) kd nt W J
          have c0 := ct_f hx h.1
          have B0 := dsB_f h.1 hy
          have ml : (Q.length + 1) * k ≤ 61 * 60 := Nat.mul_le_mul (by omega) (by omega)
          have ecd : cd ((Q.length + 1) * k + s) = gS2 kd (P.take k ++ Q.drop s) := by
            rw [hcd, Nat.mul_add_div (by omega), Nat.div_eq_of_lt hs, Nat.add_zero, Nat.mul_add_mod, Nat.mod_eq_of_lt hs]
          obtain ⟨W1, e1, d1, d2, d3, f1⟩ := s451 (V := V) (I := I) (L := L) (R := R) (tl := tl) c0.1 c0.2.1
          have A1 : dsA W1 I P := ds_f (frSc_d f1) c0.2.2.1
          obtain ⟨W2, J2, e2, d4, f2⟩ := s443 (L := L) (R := R) (tl := tl) (i := 0) (j := k) (P := P) (Q := []) 0 (nI k) rfl rfl hN (by omega) (by omega) (by omega) A1 d1 (by show 0 + _ ≤ 400; omega)
          have F2 := frEd_t f1 (frEd_k f2)
          have B2 : dsB W2 J2 Q := dsB_f (frSc_d F2) B0
          have q2 : ([] ++ sg P 0 k).length = k := by rw [List.nil_append, sg_len (by omega)]; omega
          obtain ⟨W3, J3, e3, d5, f3⟩ := s483 (L := L) (R := R) (tl := tl) (i := s) (j := Q.length) (P := Q) (nI s) (nI Q.length) rfl rfl hN (by omega) (Nat.le_refl _) (by omega) B2 d4 (by rw [q2]; omega)
          rw [List.nil_append, sg_0, sg_n] at d5
          obtain ⟨W, J, bb, e, g3, g4⟩ := stepC (L := L) (R := R) (tl := tl) hN h (frEd_t F2 (frEd_k f3)) d5 ((f3.1 174 13 (by decide)).trans ((f2.1 174 13 (by decide)).trans d2)) ((f3.1 174 15 (by decide)).trans ((f2.1 174 15 (by decide)).trans d3)) (hfr k s (by omega)) ecd (by omega) hx.2.2.2.1
          refine ⟨W, J, ?_, outS_b g3 g4⟩
          apply hd_485_19
          refine ev_b (rdI B0.1) (ev_f (nI_nlt (by omega) (by omega)) (ev_b (rdI h.2.2.1) (ev_f (fun e => e rfl) (ev_i rfl (ev_cV e1 (ev_i rfl (ev_cV e2 (ev_b (rdI B2.1) (ev_i rfl (ev_cV e3 (ev_i rfl (ev_cI e (ev_b (qp_174_95 (by cases bb <;> rfl)) ?_)))))))))))))
          rw [sc_95 g3 g4, nI_1]
          ) (Q.length + 1) 0 N V I (by omega) (by omega) (by rw [Nat.mul_zero, Nat.add_zero]; exact h)
      obtain ⟨W, J, e, o⟩ := ik
      refine ⟨W, J, ?_, ?_⟩
      · apply hd_485_2
        exact ev_b (rdI (d18 V I h.1)) (ev_f (nI_nlt (by omega) (by omega)) (ev_b (rdI h.2.2.1) (ev_f (fun e => e rfl) e)))
      · rw [show (Q.length + 1) * (k + 1) = (Q.length + 1) * k + 1 * (Q.length + 1) by rw [Nat.mul_add, Nat.mul_one, Nat.one_mul]]
        exact o
      ) (P.length + 1) 0 N V I (by omega) (by omega) (by rw [Nat.mul_zero]; exact h)
  obtain ⟨W, J, e, o⟩ := main
  refine ⟨W, J, ?_, by rw [Nat.zero_add] at o; exact o⟩
  apply hm_485
  apply hd_485_0
  exact e
set_option maxRecDepth 100000 in
set_option maxHeartbeats 4000000 in
theorem r_482 {V : Nat → Nat → Value} {I : Nat → Nat → Int32} {L : Nat → Nat → Int64} {R : Nat → Nat → Option Nat} {tl : am_H} {V0 : Nat → Nat → Value} {I0 : Nat → Nat → Int32} {cd : Nat → Option xI} {so nt : Int32} {N : Nat} {P Q : xT} (hN : 400 < N) (hx : ctxT V0 I0 nt so P) (hy : dsB V0 I0 (tI Q)) (hq : Q.length ≤ 60) (ho : okP P) (hoq : okP Q) (hsq : ∀ j, j < Q.length → I0 193 j = nI (xE Q j - j)) (hcd : ∀ c, cd c = cdP0 (tI P) (tI Q) c) (h : scS V0 I0 cd so 0 V I) : ∃ W J, fm_482 N (.ref 174) (fx V I L R ++ tl) = some (.inl (none, fx W J L R ++ tl)) ∧ outS V0 I0 cd so (Q.length * (P.length)) 0 nt W J := by
  have l60 := hx.1.2.2.2.2
  have lt : (tI P).length = P.length := tI_len
  have d18 : ∀ (V : Nat → Nat → Value) (I : Nat → Nat → Int32), frSc V0 V I0 I → V 174 18 = .int (nI P.length) := fun V I f => by
    have := (ct_f hx.1 f).2.2.1.1
    rw [lt] at this
    exact this
  have main := inn (L := L) (R := R) (tl := tl) (V0 := V0) (I0 := I0) (cd := cd) (so := so) (nt := nt) (kd := 0) (b := 0) (S := P.length) (st := Q.length) (E := fun K k h => fg_482_2 N K (.ref 174) (nI k) h) (G := fun h => some (.inl (none, h))) (fun K k V I hk f hc => by
      show fg_482_2 N (K + 1) (.ref 174) (nI k) _ = _
      apply hd_482_2
      by_cases c : P.length ≤ k
      · exact ev_b (rdI (d18 V I f)) (ev_t (nI_le c (by omega)) rfl)
      · rcases hc with hc | hc
        · omega
        · exact ev_b (rdI (d18 V I f)) (ev_f (nI_ge (by omega) (by omega)) (ev_b (rdI hc) (ev_t (by decide) rfl)))
      ) (fun K k V I hk h => by
      rw [Nat.zero_add] at h
      show ∃ W J, fg_482_2 N (K + 1) (.ref 174) (nI k) (fx V I L R ++ tl) = fg_482_2 N K (.ref 174) (nI (k + 1)) (fx W J L R ++ tl) ∧ outS V0 I0 cd so (0 + Q.length * (k + 1)) 0 nt W J
      rw [Nat.zero_add]
      have ik := inn (L := L) (R := R) (tl := tl) (V0 := V0) (I0 := I0) (cd := cd) (so := so) (nt := nt) (kd := 0) (b := Q.length * k) (S := Q.length) (st := 1) (E := fun K' s h => fg_482_19 N (fg_482_2 N K) K' (.ref 174) (nI k) (nI s) h) (G := fun h => fg_482_2 N K (.ref 174) (nI (k + 1)) h) (fun K' s V I hs f hc => by
          show fg_482_19 N (fg_482_2 N K) (K' + 1) (.ref 174) (nI k) (nI s) _ = fg_482_2 N K (.ref 174) (nI (k + 1)) _
          have nx : fg_482_134 N (fg_482_2 N K) (.ref 174) (nI k) (fx V I L R ++ tl) = fg_482_2 N K (.ref 174) (nI (k + 1)) (fx V I L R ++ tl) := by
            apply hd_482_134
            rw [nI_1]
          apply hd_482_19
          have B := dsB_f f hy
          have B1 : V 174 23 = .int (nI Q.length) := by have := B.1; rw [tI_len] at this; exact this
          by_cases c : Q.length ≤ s
          · exact ev_b (rdI B1) (ev_t (nI_le c (by omega)) nx)
          · rcases hc with hc | hc
            · omega
            · exact ev_b (rdI B1) (ev_f (nI_ge (by omega) (by omega)) (ev_b (rdI hc) (ev_t (by decide) nx)))
          ) (fun K' s V I hs h => by
          rw [Nat.one_mul] at h
          rw [Nat.one_mul]
          show ∃ W J, fg_482_19 N (fg_482_2 N K) (K' + 1) (.ref 174) (nI k) (nI s) (fx V I L R ++ tl) = fg_482_19 N (fg_482_2 N K) K' (.ref 174) (nI k) (nI (s + 1)) (fx W J L R ++ tl) ∧ outS V0 I0 cd so (Q.length * k + (s + 1)) 0 nt W J
          have c0 := ct_f hx.1 h.1
          have B0 := dsB_f h.1 hy
          have B1 : V 174 23 = .int (nI Q.length) := by have := B0.1; rw [tI_len] at this; exact this
          have lq : (tI Q).length = Q.length := tI_len
          have ml : Q.length * k ≤ 60 * 60 := Nat.mul_le_mul (by omega) (by omega)
          have hqp : 0 < Q.length := by omega
          obtain ⟨es, ev⟩ := ds_at c0.2.2.1 (k := k) (by omega)
          rw [(srt_tI hk).1] at es
          have xk : xS P k ≤ 20 := (nd_at ho hk).1
          have ys : xS Q s ≤ 20 := (nd_at hoq hs).1
          have rs : am_pA 0 (.ref 188) (nI k) (fx V I L R ++ tl) = some (nI (xS P k)) := (qa_188 (by omega)).trans (congrArg some es)
          have e190 : I 190 s = nI (xS Q s) := by
            have := (B0.2 s _ (srt_at (Q := tI Q) (by omega))).1
            rw [(srt_tI hs).1] at this
            exact this
          have rq : am_pA 0 (.ref 190) (nI s) (fx V I L R ++ tl) = some (nI (xS Q s)) := (qa_190 (by omega)).trans (congrArg some e190)
          have xg := xE_gt hk
          have xl : xE P k ≤ P.length := xE_le (by omega)
          have yg := xE_gt hs
          have yl : xE Q s ≤ Q.length := xE_le (by omega)
          have s192 : ∀ (W : Nat → Nat → Value) (J : Nat → Nat → Int32), frSc V0 W I0 J → am_pA 0 (.ref 192) (nI k) (fx W J L R ++ tl) = some (nI (xE P k - k)) := fun W J f => (qa_192 (by omega)).trans (congrArg some (by rw [f.2.1 192 (by decide) (by decide) (by decide) (by decide) (by decide) (by decide)]; exact hx.2.1 k hk))
          have s193 : ∀ (W : Nat → Nat → Value) (J : Nat → Nat → Int32), frSc V0 W I0 J → am_pA 0 (.ref 193) (nI s) (fx W J L R ++ tl) = some (nI (xE Q s - s)) := fun W J f => (qa_193 (by omega)).trans (congrArg some (by rw [f.2.1 193 (by decide) (by decide) (by decide) (by decide) (by decide) (by decide)]; exact hsq s hs))
          have ecd : cd (Q.length * k + s) = if truN (xS P k) = truN (xS Q s) then gS2 0 (tI (rp P k (seg Q s (xE Q s)))) else none := by
            rw [hcd]
            unfold cdP0
            rw [lq, Nat.mul_add_div hqp, Nat.div_eq_of_lt hs, Nat.add_zero, Nat.mul_add_mod, Nat.mod_eq_of_lt hs, (srt_tI hk).1, (srt_tI hs).1, sN_n (by omega), sN_n (by omega), eT2_x (okP_20b ho), eT2_x (okP_20b hoq), rp_x]
            unfold seg
            rw [tI_take, tI_drop]
          have nx2 : ∀ (W : Nat → Nat → Value) (J : Nat → Nat → Int32), fg_482_128 N (fg_482_2 N K) (fg_482_19 N (fg_482_2 N K) K') (.ref 174) (nI k) (nI s) (fx W J L R ++ tl) = fg_482_19 N (fg_482_2 N K) K' (.ref 174) (nI k) (nI (s + 1)) (fx W J L R ++ tl) := fun W J => by
            apply hd_482_128
            rw [nI_1]
          have tx := tN_1 (xS P k)
          have ty := tN_1 (xS Q s)
          by_cases q1 : truN (xS P k) = truN (xS Q s)
          case neg =>
            rw [if_neg q1] at ecd
            refine ⟨V, I, ?_, .inr (scS_n h ecd)⟩
            apply hd_482_19
            refine ev_b (rdI B1) (ev_f (nI_ge hs (by omega)) (ev_b (rdI h.2.2.1) (ev_f (fun e => e rfl) (ev_b (rdR rfl) (ev_b rs (ev_cI (pe_334 _ _) (ev_b (rdR rfl) (ev_b rq (ev_cI (pe_334 _ _) ?_)))))))))
            rw [(ar343 _ (by omega)).2, (ar343 _ (by omega)).2]
            exact ev_t (fun e => q1 ((nI_eq (by omega) (by omega)).mp e)) (nx2 V I)
          rw [if_pos q1] at ecd
          have sgl : (seg Q s (xE Q s)).length = xE Q s - s := seg_len yl
          have st0 : ∀ o, (if ((nI P.length - nI (xE P k - k)) + nI (xE Q s - s)) ≤ 60 then (if am_pOk 12 (.ref 174) (fx V I L R ++ tl) then am_cV true (fm_451 (.ref 174) (fx V I L R ++ tl)) (fun h35 => (if am_pOk 12 (.ref 174) h35 then am_cV true (fm_443 N (.ref 174) 0 (nI k) h35) (fun h39 => ((am_vR (am_pG 3099 (.ref 174) h39)).bind fun v41 => ((am_pA 0 v41 (nI s) h39).bind fun v43 => (if am_pOk 12 (.ref 174) h39 then am_cV true (fm_483 N (.ref 174) (nI s) ((nI s + v43)) h39) (fun h47 => ((am_vR (am_pG 3098 (.ref 174) h47)).bind fun v49 => ((am_pA 0 v49 (nI k) h47).bind fun v51 => ((am_vI (am_pG 3090 (.ref 174) h47)).bind fun v53 => (if am_pOk 12 (.ref 174) h47 then am_cV true (fm_443 N (.ref 174) ((nI k + v51)) v53 h47) (fun h57 => (if am_pOk 12 (.ref 174) h57 then am_cI true (fm_444 N (.ref 174) h57) (fun v60 h61 => ((am_pP 3167 (.ref 174) (.int v60) h61).bind fun h63 => (fg_482_128 N (fg_482_2 N K) (fg_482_19 N (fg_482_2 N K) K') (.ref 174) (nI k) (nI s) h63))) else none)) else none))))) else none)))) else none)) else none) else (fg_482_128 N (fg_482_2 N K) (fg_482_19 N (fg_482_2 N K) K') (.ref 174) (nI k) (nI s) (fx V I L R ++ tl))) = o → fg_482_19 N (fg_482_2 N K) (K' + 1) (.ref 174) (nI k) (nI s) (fx V I L R ++ tl) = o := fun o k_ => by
            apply hd_482_19
            refine ev_b (rdI B1) (ev_f (nI_ge hs (by omega)) (ev_b (rdI h.2.2.1) (ev_f (fun e => e rfl) (ev_b (rdR rfl) (ev_b rs (ev_cI (pe_334 _ _) (ev_b (rdR rfl) (ev_b rq (ev_cI (pe_334 _ _) ?_)))))))))
            rw [(ar343 _ (by omega)).2, (ar343 _ (by omega)).2]
            exact ev_f (fun e => e (by rw [q1])) (ev_b (rdI (d18 V I h.1)) (ev_b (rdR rfl) (ev_b (s192 V I h.1) (ev_b (rdR rfl) (ev_b (s193 V I h.1) k_)))))
          have sln : nI P.length - nI (xE P k - k) + nI (xE Q s - s) = nI (P.length - (xE P k - k) + (xE Q s - s)) := by rw [nI_sub (by omega), nI_add]
          have lrp : (rp P k (seg Q s (xE Q s))).length = P.length - (xE P k - k) + (xE Q s - s) := by rw [rp_len hk, sgl]; omega
          by_cases q2 : P.length - (xE P k - k) + (xE Q s - s) ≤ 60
          case neg =>
            have ns : gS2 0 (tI (rp P k (seg Q s (xE Q s)))) = none := by
              unfold gS2
              exact if_neg (fun e => by
                have := (snd_0 (mem_rp2 (okP_20b ho) (fun x hx => okP_20b hoq x (mem_seg hx)))).mp e
                have l := this.1
                rw [show P.take k ++ (seg Q s (xE Q s) ++ P.drop (xE P k)) = rp P k (seg Q s (xE Q s)) from rfl, lrp] at l
                exact q2 l)
            exact ⟨V, I, st0 _ (ev_f (by rw [sln]; exact nI_ge (a := 60) (by omega) (by omega)) (nx2 V I)), .inr (scS_n h (ecd.trans ns))⟩
          obtain ⟨W1, e1, d1, d2, d3, f1⟩ := s451 (V := V) (I := I) (L := L) (R := R) (tl := tl) c0.1 c0.2.1
          have A1 : dsA W1 I (tI P) := ds_f (frSc_d f1) c0.2.2.1
          obtain ⟨W2, J2, e2, d4, f2⟩ := s443 (L := L) (R := R) (tl := tl) (i := 0) (j := k) (P := tI P) (Q := []) 0 (nI k) rfl rfl hN (by omega) (by omega) (by omega) A1 d1 (by show 0 + _ ≤ 400; omega)
          have F2 := frEd_t f1 (frEd_k f2)
          have B2 : dsB W2 J2 (tI Q) := dsB_f (frSc_d F2) B0
          have q3 : ([] ++ sg (tI P) 0 k).length = k := by rw [List.nil_append, sg_len (by omega)]; omega
          obtain ⟨W3, J3, e3, d5, f3⟩ := s483 (L := L) (R := R) (tl := tl) (i := s) (j := xE Q s) (P := tI Q) (nI s) (nI s + nI (xE Q s - s)) rfl (nI_ad _ _ _ (by omega)) hN (by omega) (by omega) (by omega) B2 d4 (by rw [q3]; omega)
          have F3 := frEd_t F2 (frEd_k f3)
          have A3 : dsA W3 J3 (tI P) := ds_f (frSc_d F3) c0.2.2.1
          have q4 : ([] ++ sg (tI P) 0 k ++ sg (tI Q) s (xE Q s)).length = k + (xE Q s - s) := by rw [List.length_append, q3, sg_len (by omega)]
          obtain ⟨W4, J4, e4, d6, f4⟩ := s443 (L := L) (R := R) (tl := tl) (i := xE P k) (j := (tI P).length) (P := tI P) (nI k + nI (xE P k - k)) (nI (tI P).length) (nI_ad _ _ _ (by omega)) rfl hN (by omega) (by omega) (by omega) A3 d5 (by rw [q4]; omega)
          have eq2 : ([] ++ sg (tI P) 0 k ++ sg (tI Q) s (xE Q s)) ++ sg (tI P) (xE P k) (tI P).length = tI (rp P k (seg Q s (xE Q s))) := by
            rw [rp_x, sg_0, sg_n, List.nil_append, List.append_assoc, tI_seg]
          rw [eq2] at d6
          have F := frEd_t F3 (frEd_k f4)
          have fS : ∀ (W : Nat → Nat → Value) (J : Nat → Nat → Int32), frEd V W I J → frSc V0 W I0 J := fun W J f => frSc_t h.1 (frSc_d f)
          have y1 : ∀ j, j = 13 ∨ j = 15 → W4 174 j = W1 174 j := fun j hj => (f4.1 174 j (by omega)).trans ((f3.1 174 j (by omega)).trans (f2.1 174 j (by omega)))
          obtain ⟨W, J, bb, e, g1, g2⟩ := stepC (L := L) (R := R) (tl := tl) hN h F d6 ((y1 13 (.inl rfl)).trans d2) ((y1 15 (.inr rfl)).trans d3) (kd := 0) (rp_frm (okP_20b ho) (okF_F _ _ ho.1) hk (by omega) (by omega) (fun x hx => okP_20b hoq x (mem_seg hx)) (sub_F hoq hs)) ecd (by omega) hx.1.2.2.2.1
          refine ⟨W, J, st0 _ ?_, outS_b g1 g2⟩
          refine ev_t (by rw [sln]; exact nI_le (b := 60) q2 (by decide)) (ev_i rfl (ev_cV e1 (ev_i rfl (ev_cV e2 (ev_b (rdR rfl) (ev_b (s193 W2 J2 (fS W2 J2 F2)) (ev_i rfl (ev_cV e3 (ev_b (rdR rfl) (ev_b (s192 W3 J3 (fS W3 J3 F3)) (ev_b (rdI A3.1) (ev_i rfl (ev_cV e4 (ev_i rfl (ev_cI e (ev_b (qp_174_95 (by cases bb <;> rfl)) ?_))))))))))))))))
          rw [sc_95 g1 g2]
          exact nx2 W J
          ) (Q.length) 0 N V I (by omega) (by omega) (by rw [Nat.mul_zero, Nat.add_zero]; exact h)
      obtain ⟨W, J, e, o⟩ := ik
      refine ⟨W, J, ?_, ?_⟩
      · apply hd_482_2
        exact ev_b (rdI (d18 V I h.1)) (ev_f (nI_ge (by omega) (by omega)) (ev_b (rdI h.2.2.1) (ev_f (fun e => e rfl) e)))
      · rw [show Q.length * (k + 1) = Q.length * k + 1 * Q.length by rw [Nat.mul_add, Nat.mul_one, Nat.one_mul]]
        exact o
      ) (P.length) 0 N V I (by omega) (by omega) (by rw [Nat.mul_zero]; exact h)
  obtain ⟨W, J, e, o⟩ := main
  refine ⟨W, J, ?_, by rw [Nat.zero_add] at o; exact o⟩
  apply hm_482
  apply hd_482_0
  exact e
