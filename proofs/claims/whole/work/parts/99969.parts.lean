/-! ===== edits: parts of trees, swapped comparators, in the reference ===== -/
theorem isF_pre : ∀ (l : List (Nat × Nat)) (n m : Nat), isF (n + m) l → isF n (l.take (tk n l)) := by
  intro l
  induction l with
  | nil =>
    intro n m h
    cases n with
    | zero => exact trivial
    | succ n => rw [Nat.succ_add] at h; exact h.elim
  | cons x l ih =>
    intro n m h
    cases n with
    | zero => exact trivial
    | succ n =>
      have e : tk (n + 1) (x :: l) = tk (n + arN x.1) l + 1 := Nat.add_comm 1 (tk (n + arN x.1) l)
      rw [e, List.take_succ_cons]
      rw [Nat.succ_add] at h
      have h : isF (n + m + arN x.1) l := h
      exact ih (n + arN x.1) m (by rw [show n + arN x.1 + m = n + m + arN x.1 by omega]; exact h)
theorem scS_up {V0 : Nat → Nat → Value} {I0 : Nat → Nat → Int32} {cd : Nat → Option xI} {so nt : Int32} {V : Nat → Nat → Value} {I : Nat → Nat → Int32} {c : Nat} : ∀ (m : Nat), (∀ j, c ≤ j → j < c + m → cd j = none) → scS V0 I0 cd so c V I → scS V0 I0 cd so (c + m) V I := by
  intro m
  induction m with
  | zero => intro _ h; exact h
  | succ m ih =>
    intro hn h
    exact scS_n (ih (fun j a b => hn j a (by omega)) h) (hn (c + m) (by omega) (by omega))
theorem ar_3 (s : Nat) : arN s ≤ 3 := by unfold arN; split <;> (try split) <;> (try split) <;> omega
set_option maxRecDepth 100000 in
set_option maxHeartbeats 4000000 in
theorem r_452 {V : Nat → Nat → Value} {I : Nat → Nat → Int32} {L : Nat → Nat → Int64} {R : Nat → Nat → Option Nat} {tl : am_H} {V0 : Nat → Nat → Value} {I0 : Nat → Nat → Int32} {cd : Nat → Option xI} {so nt : Int32} {N : Nat} {P : xT} (hN : 400 < N) (hx : ctxT V0 I0 nt so P) (hcd : ∀ c, cd c = cd03 (tI P) c) (h : scS V0 I0 cd so 0 V I) : ∃ W J, fm_452 N (.ref 174) (fx V I L R ++ tl) = some (.inl (none, fx W J L R ++ tl)) ∧ outS V0 I0 cd so (3 * (P.length)) 0 nt W J := by
  have h20 := hx.2.2.1
  have hF := hx.2.2.2
  have l60 := hx.1.2.2.2.2
  have lt : (tI P).length = P.length := tI_len
  have d18 : ∀ (V : Nat → Nat → Value) (I : Nat → Nat → Int32), frSc V0 V I0 I → V 174 18 = .int (nI P.length) := fun V I f => by
    have := (ct_f hx.1 f).2.2.1.1
    rw [lt] at this
    exact this
  have main := inn (L := L) (R := R) (tl := tl) (V0 := V0) (I0 := I0) (cd := cd) (so := so) (nt := nt) (kd := 0) (b := 0) (S := P.length) (st := 3) (E := fun K k h => fg_452_2 N K (.ref 174) (nI k) h) (G := fun h => some (.inl (none, h))) (fun K k V I hk f hc => by
      show fg_452_2 N (K + 1) (.ref 174) (nI k) _ = _
      apply hd_452_2
      by_cases c : P.length ≤ k
      · exact ev_b (rdI (d18 V I f)) (ev_t (nI_le c (by omega)) rfl)
      · rcases hc with hc | hc
        · omega
        · exact ev_b (rdI (d18 V I f)) (ev_f (nI_ge (by omega) (by omega)) (ev_b (rdI hc) (ev_t (by decide) rfl)))
      ) (fun K k V I hk h => by
      rw [Nat.zero_add] at h
      show ∃ W J, fg_452_2 N (K + 1) (.ref 174) (nI k) (fx V I L R ++ tl) = fg_452_2 N K (.ref 174) (nI (k + 1)) (fx W J L R ++ tl) ∧ outS V0 I0 cd so (0 + 3 * (k + 1)) 0 nt W J
      rw [Nat.zero_add]
      have xk : xS P k ≤ 20 := h20 _ (List.mem_of_getElem? (xS_at hk))
      have a3 := ar_3 (xS P k)
      have ecd0 : ∀ s, s < 3 → cd (3 * k + s) = if s < arN (xS P k) ∧ twN (xS P k) s = truN (xS P k) then gS2 0 ((tI P).take k ++ (((tI P).drop (ptA (tI P) k s)).take (eT2 (tI P) (ptA (tI P) k s) - ptA (tI P) k s) ++ (tI P).drop (eT2 (tI P) k))) else none := fun s hs => by
        rw [hcd]
        unfold cd03
        rw [show (3 * k + s) / 3 = k by omega, show (3 * k + s) % 3 = s by omega, (srt_tI hk).1, sN_n (by omega)]
      have ik := inn (L := L) (R := R) (tl := tl) (V0 := V0) (I0 := I0) (cd := cd) (so := so) (nt := nt) (kd := 0) (b := 3 * k) (S := arN (xS P k)) (st := 1) (E := fun K' s h => fg_452_19 N (fg_452_2 N K) K' (.ref 174) (nI k) (nI s) h) (G := fun h => fg_452_2 N K (.ref 174) (nI (k + 1)) h) (fun K' s V I hs f hc => by
          show fg_452_19 N (fg_452_2 N K) (K' + 1) (.ref 174) (nI k) (nI s) _ = fg_452_2 N K (.ref 174) (nI (k + 1)) _
          have nx : fg_452_124 N (fg_452_2 N K) (.ref 174) (nI k) (fx V I L R ++ tl) = fg_452_2 N K (.ref 174) (nI (k + 1)) (fx V I L R ++ tl) := by
            apply hd_452_124
            rw [nI_1]
          have c0 := ct_f hx.1 f
          have es := (ds_at c0.2.2.1 (k := k) (by omega)).1
          rw [(srt_tI hk).1] at es
          have rs : am_pA 0 (.ref 188) (nI k) (fx V I L R ++ tl) = some (nI (xS P k)) := (qa_188 (by omega)).trans (congrArg some es)
          apply hd_452_19
          refine ev_b (rdR rfl) (ev_b rs (ev_cI (pe_343 _ _) ?_))
          rw [(ar343 _ (by omega)).1]
          by_cases c : arN (xS P k) ≤ s
          · exact ev_t (nI_le c (by omega)) nx
          · rcases hc with hc | hc
            · omega
            · exact ev_f (nI_ge (by omega) (by omega)) (ev_b (rdI hc) (ev_t (by decide) nx))
          ) (fun K' s V I hs h => by
          rw [Nat.one_mul] at h
          rw [Nat.one_mul]
          show ∃ W J, fg_452_19 N (fg_452_2 N K) (K' + 1) (.ref 174) (nI k) (nI s) (fx V I L R ++ tl) = fg_452_19 N (fg_452_2 N K) K' (.ref 174) (nI k) (nI (s + 1)) (fx W J L R ++ tl) ∧ outS V0 I0 cd so (3 * k + (s + 1)) 0 nt W J
          have c0 := ct_f hx.1 h.1
          have es := (ds_at c0.2.2.1 (k := k) (by omega)).1
          rw [(srt_tI hk).1] at es
          have rs : am_pA 0 (.ref 188) (nI k) (fx V I L R ++ tl) = some (nI (xS P k)) := (qa_188 (by omega)).trans (congrArg some es)
          have nx : ∀ (W : Nat → Nat → Value) (J : Nat → Nat → Int32), fg_452_118 N (fg_452_2 N K) (fg_452_19 N (fg_452_2 N K) K') (.ref 174) (nI k) (nI s) (fx W J L R ++ tl) = fg_452_19 N (fg_452_2 N K) K' (.ref 174) (nI k) (nI (s + 1)) (fx W J L R ++ tl) := fun W J => by
            apply hd_452_118
            rw [nI_1]
          have hs3 : s < 3 := by omega
          have ecd := ecd0 s hs3
          have t1 : ∀ p, twN (xS P k) p ≤ 1 := fun p => by unfold twN; split <;> omega
          have t2 : truN (xS P k) ≤ 1 := by rcases tru_01 (xS P k) with t | t <;> omega
          have st0 : ∀ o, (if nI (twN (xS P k) s) = nI (truN (xS P k)) then (if am_pOk 12 (.ref 174) (fx V I L R ++ tl) then am_cI true (fm_393 N (.ref 174) (nI k) (nI s) (fx V I L R ++ tl)) (fun v28 h29 => (if am_pOk 12 (.ref 174) h29 then am_cV true (fm_451 (.ref 174) h29) (fun h33 => (if am_pOk 12 (.ref 174) h33 then am_cV true (fm_443 N (.ref 174) 0 (nI k) h33) (fun h37 => ((am_vR (am_pG 3098 (.ref 174) h37)).bind fun v39 => ((am_pA 0 v39 v28 h37).bind fun v41 => (if am_pOk 12 (.ref 174) h37 then am_cV true (fm_443 N (.ref 174) v28 ((v28 + v41)) h37) (fun h45 => ((am_vR (am_pG 3098 (.ref 174) h45)).bind fun v47 => ((am_pA 0 v47 (nI k) h45).bind fun v49 => ((am_vI (am_pG 3090 (.ref 174) h45)).bind fun v51 => (if am_pOk 12 (.ref 174) h45 then am_cV true (fm_443 N (.ref 174) ((nI k + v49)) v51 h45) (fun h55 => (if am_pOk 12 (.ref 174) h55 then am_cI true (fm_444 N (.ref 174) h55) (fun v58 h59 => ((am_pP 3167 (.ref 174) (.int v58) h59).bind fun h61 => (fg_452_118 N (fg_452_2 N K) (fg_452_19 N (fg_452_2 N K) K') (.ref 174) (nI k) (nI s) h61))) else none)) else none))))) else none)))) else none)) else none)) else none) else (fg_452_118 N (fg_452_2 N K) (fg_452_19 N (fg_452_2 N K) K') (.ref 174) (nI k) (nI s) (fx V I L R ++ tl))) = o → fg_452_19 N (fg_452_2 N K) (K' + 1) (.ref 174) (nI k) (nI s) (fx V I L R ++ tl) = o := fun o k_ => by
            apply hd_452_19
            refine ev_b (rdR rfl) (ev_b rs (ev_cI (pe_343 _ _) ?_))
            rw [(ar343 _ (by omega)).1]
            refine ev_f (nI_ge hs (by omega)) (ev_b (rdI h.2.2.1) (ev_f (fun e => e rfl) (ev_b (rdR rfl) (ev_b rs (ev_cI (pe_330 _ _ _) (ev_b (rdR rfl) (ev_b rs (ev_cI (pe_334 _ _) ?_))))))))
            rw [tw330 _ (by omega) s hs3, (ar343 _ (by omega)).2]
            exact k_
          by_cases c1 : twN (xS P k) s = truN (xS P k)
          case neg =>
            exact ⟨V, I, st0 _ (ev_f (fun e => c1 ((nI_eq (by have := t1 s; omega) (by omega)).mp e)) (nx V I)), .inr (scS_n h (ecd.trans (if_neg (fun e => c1 e.2))))⟩
          rw [if_pos ⟨hs, c1⟩] at ecd
          have lsl : (sl P).length = P.length := List.length_map ..
          obtain ⟨x, r, m, hdk, hFr⟩ := isF_at hF (k := k) (by omega)
          have ex : x.1 = xS P k := by
            have : (sl P)[k]? = some x := by
              have h0 : ((sl P).drop k)[0]? = some x := by rw [hdk]; rfl
              rw [List.getElem?_drop, Nat.add_zero] at h0
              exact h0
            unfold sl at this
            rw [List.getElem?_map, xS_at hk] at this
            have := Option.some.inj this
            rw [← this]
          have hrT : rowT (I 192) (sl P) 0 := fun j _ hj => by
            rw [h.1.2.1 192 (by decide) (by decide) (by decide) (by decide) (by decide) (by decide), hx.2.1 j (by omega)]
            congr 1
            unfold xE enL
            omega
          have e0 := r_393 (V := V) (I := I) (L := L) (R := R) (tl := tl) (N := N) (P := s) (by omega) (by omega) hrT hdk hFr (by rw [ex]; omega)
          have hr : (sl P).drop (k + 1) = r := by rw [← List.drop_drop, hdk]; rfl
          have lr : r.length = P.length - (k + 1) := by rw [← hr, List.length_drop, lsl]
          have hq0 : isF ((arN x.1 - s - 1 + m) + 1) (r.drop (tk s r)) := isF_add r s _ (by rw [show s + (arN x.1 - s - 1 + m + 1) = m + arN x.1 by rw [ex]; omega]; exact hFr)
          have hq1 : tk s r < r.length := by
            have := tk_le r s
            rcases Nat.lt_or_ge (tk s r) r.length with h | h
            · exact h
            · rw [List.drop_of_length_le h] at hq0
              exact hq0.elim
          obtain ⟨q, hq⟩ : ∃ q, q = k + 1 + tk s r := ⟨_, rfl⟩
          rw [← hq] at e0
          have qP : q < P.length := by omega
          have drq : (sl P).drop q = r.drop (tk s r) := by rw [hq, ← hr, List.drop_drop]
          have ep : ptA (tI P) k s = q := by unfold ptA; rw [tL_tI h20, hr, hq]
          rw [ep, eT2_x h20, eT2_x h20] at ecd
          have xb := xE_b hF hk
          have xq := xE_b hF qP
          have emid : ((tI P).drop q).take (xE P q - q) = tI ((P.drop q).take (xE P q - q)) := by rw [tI_take, tI_drop]
          rw [emid, ← rp_x] at ecd
          obtain ⟨W1, e1, d1, d2, d3, f1⟩ := s451 (I := I) (L := L) (R := R) (tl := tl) c0.1 c0.2.1
          have A1 : dsA W1 I (tI P) := ds_f (frSc_d f1) c0.2.2.1
          obtain ⟨W2, J2, e2, d4, f2⟩ := s443 (L := L) (R := R) (tl := tl) (i := 0) (j := k) (P := tI P) (Q := []) 0 (nI k) rfl rfl hN (by omega) (by omega) (by omega) A1 d1 (by show 0 + _ ≤ 400; omega)
          have F2 := frEd_t f1 (frEd_k f2)
          have A2 : dsA W2 J2 (tI P) := ds_f (frSc_d F2) c0.2.2.1
          have q2 : ([] ++ sg (tI P) 0 k).length = k := by rw [List.nil_append, sg_len (by omega)]; omega
          have sp2 : am_pA 0 (.ref 192) (nI q) (fx W2 J2 L R ++ tl) = some (nI (xE P q - q)) := (qa_192 (by omega)).trans (congrArg some (by
            rw [F2.2.1 192 (by decide) (by decide), h.1.2.1 192 (by decide) (by decide) (by decide) (by decide) (by decide) (by decide)]
            exact hx.2.1 q qP))
          obtain ⟨W3, J3, e3, d5, f3⟩ := s443 (L := L) (R := R) (tl := tl) (i := q) (j := xE P q) (P := tI P) (nI q) (nI q + nI (xE P q - q)) rfl (nI_ad _ _ _ (by omega)) hN (by omega) (by omega) (by omega) A2 d4 (by rw [q2]; omega)
          have F3 := frEd_t F2 (frEd_k f3)
          have A3 : dsA W3 J3 (tI P) := ds_f (frSc_d F3) c0.2.2.1
          have q3 : ([] ++ sg (tI P) 0 k ++ sg (tI P) q (xE P q)).length = k + (xE P q - q) := by rw [List.length_append, q2, sg_len (by omega)]
          have sp3 : am_pA 0 (.ref 192) (nI k) (fx W3 J3 L R ++ tl) = some (nI (xE P k - k)) := (qa_192 (by omega)).trans (congrArg some (by
            rw [F3.2.1 192 (by decide) (by decide), h.1.2.1 192 (by decide) (by decide) (by decide) (by decide) (by decide) (by decide)]
            exact hx.2.1 k hk))
          obtain ⟨W4, J4, e4, d6, f4⟩ := s443 (L := L) (R := R) (tl := tl) (i := xE P k) (j := (tI P).length) (P := tI P) (nI k + nI (xE P k - k)) (nI (tI P).length) (nI_ad _ _ _ (by omega)) rfl hN (by omega) (by omega) (by omega) A3 d5 (by rw [q3]; omega)
          have eq2 : ([] ++ sg (tI P) 0 k ++ sg (tI P) q (xE P q)) ++ sg (tI P) (xE P k) (tI P).length = tI (rp P k ((P.drop q).take (xE P q - q))) := by
            rw [rp_x, ← emid, sg_0, sg_n, List.nil_append, List.append_assoc]
            rfl
          rw [eq2] at d6
          have F := frEd_t F3 (frEd_k f4)
          have y1 : ∀ j, j = 13 ∨ j = 15 → W4 174 j = W1 174 j := fun j hj => (f4.1 174 j (by omega)).trans ((f3.1 174 j (by omega)).trans (f2.1 174 j (by omega)))
          have fq : frm 0 (tI (rp P k ((P.drop q).take (xE P q - q)))) := rp_frm h20 hF hk (by omega) (by rw [List.length_take, List.length_drop]; omega) (fun x hx => h20 x (List.mem_of_mem_drop (List.mem_of_mem_take hx))) (by
            rw [sl_take, sl_drop, show xE P q - q = tk 1 ((sl P).drop q) by unfold xE enL; omega, drq]
            exact isF_pre _ 1 (arN x.1 - s - 1 + m) (by rw [Nat.add_comm]; exact hq0))
          obtain ⟨W, J, bb, e, g1, g2⟩ := stepC (L := L) (R := R) (tl := tl) hN h F d6 ((y1 13 (.inl rfl)).trans d2) ((y1 15 (.inr rfl)).trans d3) (kd := 0) fq ecd (by omega) hx.1.2.2.2.1
          refine ⟨W, J, st0 _ (ev_t (by rw [c1]) (ev_i rfl (ev_cI e0 (ev_i rfl (ev_cV e1 (ev_i rfl (ev_cV e2 (ev_b (rdR rfl) (ev_b sp2 (ev_i rfl (ev_cV e3 (ev_b (rdR rfl) (ev_b sp3 (ev_b (rdI A3.1) (ev_i rfl (ev_cV e4 (ev_i rfl (ev_cI e (ev_b (qp_174_95 (by cases bb <;> rfl)) ?_))))))))))))))))))), outS_b g1 g2⟩
          rw [sc_95 g1 g2]
          exact nx W J
          ) (arN (xS P k)) 0 N V I (by omega) (by omega) (by rw [Nat.mul_zero, Nat.add_zero]; exact h)
      obtain ⟨W, J, e, o⟩ := ik
      refine ⟨W, J, ?_, ?_⟩
      · apply hd_452_2
        exact ev_b (rdI (d18 V I h.1)) (ev_f (nI_ge hk (by omega)) (ev_b (rdI h.2.2.1) (ev_f (fun e => e rfl) e)))
      · rw [Nat.one_mul] at o
        rcases o with o | o
        · exact .inl (scH_m o (by omega))
        · have := scS_up (nt := nt) (3 - arN (xS P k)) (fun j a b => by
            have := ecd0 (j - 3 * k) (by omega)
            rw [show 3 * k + (j - 3 * k) = j by omega] at this
            rw [this, if_neg (fun e => by omega)]) o
          rw [show 3 * k + arN (xS P k) + (3 - arN (xS P k)) = 3 * (k + 1) by omega] at this
          exact .inr this
      ) (P.length) 0 N V I (by omega) (by omega) (by rw [Nat.mul_zero]; exact h)
  obtain ⟨W, J, e, o⟩ := main
  refine ⟨W, J, ?_, by rw [Nat.zero_add] at o; exact o⟩
  apply hm_452
  apply hd_452_0
  exact e
theorem set_swap {P : xI} {k : Nat} {x y : Int32 × Int32} (hk : k + 1 < P.length) : (P.set k x).set (k + 1) y = P.take k ++ (x :: y :: P.drop (k + 2)) := by
  refine List.ext_getElem? (fun j => ?_)
  have lt : (P.take k).length = k := by rw [List.length_take]; omega
  rcases (by omega : j < k ∨ j = k ∨ j = k + 1 ∨ k + 1 < j) with c | c | c | c
  · rw [List.getElem?_set_ne (by omega), List.getElem?_set_ne (by omega), List.getElem?_append_left (by omega), List.getElem?_take, if_pos c]
  · subst c
    rw [List.getElem?_set_ne (by omega), List.getElem?_set_self (by omega), List.getElem?_append_right (by omega), lt, Nat.sub_self]
    rfl
  · subst c
    rw [List.getElem?_set_self (by rw [List.length_set]; exact hk), List.getElem?_append_right (by omega), lt, show k + 1 - k = 0 + 1 by omega, List.getElem?_cons_succ]
    rfl
  · rw [List.getElem?_set_ne (by omega), List.getElem?_set_ne (by omega), List.getElem?_append_right (by omega), lt, show j - k = (j - k - 2) + 1 + 1 by omega, List.getElem?_cons_succ, List.getElem?_cons_succ, List.getElem?_drop, show k + 2 + (j - k - 2) = j by omega]
set_option maxRecDepth 100000 in
set_option maxHeartbeats 4000000 in
theorem r_468 {V : Nat → Nat → Value} {I : Nat → Nat → Int32} {L : Nat → Nat → Int64} {R : Nat → Nat → Option Nat} {tl : am_H} {V0 : Nat → Nat → Value} {I0 : Nat → Nat → Int32} {cd : Nat → Option xI} {so nt : Int32} {N : Nat} {P : xI} (hN : 400 < N) (hx : ctxR V0 I0 3 nt so P) (h40 : P.length ≤ 40) (hcd : ∀ c, cd c = cd33 P c) (h : scS V0 I0 cd so 0 V I) : ∃ W J, fm_468 N (.ref 174) (fx V I L R ++ tl) = some (.inl (none, fx W J L R ++ tl)) ∧ outS V0 I0 cd so (1 * (P.length - 1)) 3 nt W J := by
  have l60 := hx.2.2.2.2
  have d18 : ∀ (V : Nat → Nat → Value) (I : Nat → Nat → Int32), frSc V0 V I0 I → V 174 18 = .int (nI P.length) := fun V I f => (ct_f hx f).2.2.1.1
  have main := inn (L := L) (R := R) (tl := tl) (V0 := V0) (I0 := I0) (cd := cd) (so := so) (nt := nt) (kd := 3) (b := 0) (S := P.length - 1) (st := 1) (E := fun K k h => fg_468_2 N K (.ref 174) (nI k) h) (G := fun h => some (.inl (none, h))) (fun K k V I hk f hc => by
      show fg_468_2 N (K + 1) (.ref 174) (nI k) _ = _
      apply hd_468_2
      by_cases c : P.length ≤ k + 1
      · exact ev_b (rdI (d18 V I f)) (ev_t (by rw [nI_1]; exact nI_le c (by omega)) rfl)
      · rcases hc with hc | hc
        · omega
        · exact ev_b (rdI (d18 V I f)) (ev_f (by rw [nI_1]; exact nI_ge (by omega) (by omega)) (ev_b (rdI hc) (ev_t (by decide) rfl)))
      ) (fun K k V I hk h => by
      rw [Nat.zero_add] at h
      show ∃ W J, fg_468_2 N (K + 1) (.ref 174) (nI k) (fx V I L R ++ tl) = fg_468_2 N K (.ref 174) (nI (k + 1)) (fx W J L R ++ tl) ∧ outS V0 I0 cd so (0 + 1 * (k + 1)) 3 nt W J
      rw [Nat.zero_add]
      rw [Nat.one_mul] at h
      rw [Nat.one_mul]
      have c0 := ct_f hx h.1
      have k1 : k + 1 < P.length := by omega
      obtain ⟨sa, va⟩ := ds_at c0.2.2.1 (k := k) (by omega)
      obtain ⟨sb, vb⟩ := ds_at c0.2.2.1 (k := k + 1) k1
      have nx : ∀ (W : Nat → Nat → Value) (J : Nat → Nat → Int32), fg_468_124 N (fg_468_2 N K) (.ref 174) (nI k) (fx W J L R ++ tl) = fg_468_2 N K (.ref 174) (nI (k + 1)) (fx W J L R ++ tl) := fun W J => by
        apply hd_468_124
        rw [nI_1]
      have R1a : ∀ (W : Nat → Nat → Value) (J : Nat → Nat → Int32), J 188 = I 188 → am_pA 0 (.ref 188) (nI k) (fx W J L R ++ tl) = some (srt P k) := fun W J e => (qa_188 (by omega)).trans (by rw [e, sa])
      have R1b : ∀ (W : Nat → Nat → Value) (J : Nat → Nat → Int32), J 188 = I 188 → am_pA 0 (.ref 188) (nI k + 1) (fx W J L R ++ tl) = some (srt P (k + 1)) := fun W J e => by rw [nI_1]; exact (qa_188 (by omega)).trans (by rw [e, sb])
      have R2a : ∀ (W : Nat → Nat → Value) (J : Nat → Nat → Int32), J 189 = I 189 → am_pA 0 (.ref 189) (nI k) (fx W J L R ++ tl) = some (vlu P k) := fun W J e => (qa_189 (by omega)).trans (by rw [e, va])
      have R2b : ∀ (W : Nat → Nat → Value) (J : Nat → Nat → Int32), J 189 = I 189 → am_pA 0 (.ref 189) (nI k + 1) (fx W J L R ++ tl) = some (vlu P (k + 1)) := fun W J e => by rw [nI_1]; exact (qa_189 (by omega)).trans (by rw [e, vb])
      have ecd : cd k = if (srt P k, vlu P k) = (srt P (k + 1), vlu P (k + 1)) then none else some (P.take k ++ ((srt P (k + 1), vlu P (k + 1)) :: (srt P k, vlu P k) :: P.drop (k + 2))) := by
        rw [hcd]
        rfl
      have go : ¬ (srt P k, vlu P k) = (srt P (k + 1), vlu P (k + 1)) → (∀ o, fg_468_56 N (fg_468_2 N K) (.ref 174) (nI k) (fx V I L R ++ tl) = o → fg_468_2 N (K + 1) (.ref 174) (nI k) (fx V I L R ++ tl) = o) → ∃ W J, fg_468_2 N (K + 1) (.ref 174) (nI k) (fx V I L R ++ tl) = fg_468_2 N K (.ref 174) (nI (k + 1)) (fx W J L R ++ tl) ∧ outS V0 I0 cd so (k + 1) 3 nt W J := fun nn st1 => by
        rw [if_neg nn] at ecd
        obtain ⟨W1, J1, e1, d1, d2, d3, f1⟩ := s442 (L := L) (R := R) (tl := tl) hN c0.1 c0.2.1 c0.2.2.1 (by omega)
        have eq := set_swap (x := (srt P (k + 1), vlu P (k + 1))) (y := (srt P k, vlu P k)) k1
        have lq : ((P.set k (srt P (k + 1), vlu P (k + 1))).set (k + 1) (srt P k, vlu P k)).length = P.length := by rw [List.length_set, List.length_set]
        rw [← eq] at ecd
        have g3 : gS2 3 ((P.set k (srt P (k + 1), vlu P (k + 1))).set (k + 1) (srt P k, vlu P k)) = some ((P.set k (srt P (k + 1), vlu P (k + 1))).set (k + 1) (srt P k, vlu P k)) := by
          unfold gS2
          rw [if_pos]
          rw [snd_3, lq]
          exact h40
        have j8 : J1 188 = I 188 := f1.2.1 188 (by decide) (by decide)
        have j9 : J1 189 = I 189 := f1.2.1 189 (by decide) (by decide)
        obtain ⟨W, J, bb, e, g1, g2⟩ := stepC (L := L) (R := R) (tl := tl) (V1 := W1) (I1 := iup (iup (iup (iup J1 186 (upd (J1 186) k (srt P (k + 1)))) 187 (upd (J1 187) k (vlu P (k + 1)))) 186 (upd (upd (J1 186) k (srt P (k + 1))) (k + 1) (srt P k))) 187 (upd (upd (J1 187) k (vlu P (k + 1))) (k + 1) (vlu P k))) hN h (frEd_t f1 (frEd_t (frEd_i (by decide)) (frEd_t (frEd_i (by decide)) (frEd_t (frEd_i (by decide)) (frEd_i (by decide)))))) ⟨by rw [lq]; exact d1.1, lay2_sv (lay2_sv d1.2)⟩ d2 d3 (kd := 3) ⟨by omega, by rw [lq]; omega, fun e => absurd e (by decide), fun e => absurd e (by decide)⟩ (ecd.trans g3.symm) (by omega) hx.2.2.2.1
        refine ⟨W, J, st1 _ ?_, outS_b g1 g2⟩
        have w6 : ∀ {W : Nat → Nat → Value} {J : Nat → Nat → Int32} {x : Int32}, am_pS 0 (.ref 186) (nI k + 1) x (fx W J L R ++ tl) = some (fx W (iup J 186 (upd (J 186) (k + 1) x)) L R ++ tl) := fun {W J x} => by rw [nI_1]; exact qs_186 (by omega)
        have w7 : ∀ {W : Nat → Nat → Value} {J : Nat → Nat → Int32} {x : Int32}, am_pS 0 (.ref 187) (nI k + 1) x (fx W J L R ++ tl) = some (fx W (iup J 187 (upd (J 187) (k + 1) x)) L R ++ tl) := fun {W J x} => by rw [nI_1]; exact qs_187 (by omega)
        apply hd_468_56
        refine ev_i rfl (ev_cV e1 (ev_b (rdR rfl) (ev_b (rdR rfl) (ev_b (R1b _ _ (by exact j8)) (ev_b (qs_186 (by omega)) (ev_b (rdR rfl) (ev_b (rdR rfl) (ev_b (R2b _ _ (by exact j9)) (ev_b (qs_187 (by omega)) (ev_b (rdR rfl) (ev_b (rdR rfl) (ev_b (R1a _ _ (by exact j8)) (ev_b w6 (ev_b (rdR rfl) (ev_b (rdR rfl) (ev_b (R2a _ _ (by exact j9)) (ev_b w7 (ev_i rfl (ev_cI e (ev_b (qp_174_95 (by cases bb <;> rfl)) ?_))))))))))))))))))))
        rw [sc_95 g1 g2]
        exact nx W J
      have h18' : ¬ nI P.length ≤ nI k + 1 := by rw [nI_1]; exact nI_ge k1 (by omega)
      have a := And.intro (R1a V I rfl) (R1b V I rfl)
      have b := And.intro (R2a V I rfl) (R2b V I rfl)
      by_cases c1 : srt P k = srt P (k + 1)
      case neg => exact go (fun e => c1 (Prod.mk.inj e).1) (fun o k_ => by apply hd_468_2; exact ev_b (rdI (d18 V I h.1)) (ev_f h18' (ev_b (rdI h.2.2.1) (ev_f (fun e => e rfl) (ev_b (rdR rfl) (ev_b a.1 (ev_b (rdR rfl) (ev_b a.2 (ev_t c1 k_)))))))))
      by_cases c2 : vlu P k = vlu P (k + 1)
      case neg => exact go (fun e => c2 (Prod.mk.inj e).2) (fun o k_ => by apply hd_468_2; exact ev_b (rdI (d18 V I h.1)) (ev_f h18' (ev_b (rdI h.2.2.1) (ev_f (fun e => e rfl) (ev_b (rdR rfl) (ev_b a.1 (ev_b (rdR rfl) (ev_b a.2 (ev_f (fun e => e c1) (ev_b (rdR rfl) (ev_b b.1 (ev_b (rdR rfl) (ev_b b.2 (ev_t c2 k_))))))))))))))
      refine ⟨V, I, ?_, .inr (scS_n h (ecd.trans (if_pos (by rw [c1, c2]))))⟩
      apply hd_468_2
      exact ev_b (rdI (d18 V I h.1)) (ev_f h18' (ev_b (rdI h.2.2.1) (ev_f (fun e => e rfl) (ev_b (rdR rfl) (ev_b a.1 (ev_b (rdR rfl) (ev_b a.2 (ev_f (fun e => e c1) (ev_b (rdR rfl) (ev_b b.1 (ev_b (rdR rfl) (ev_b b.2 (ev_f (fun e => e c2) (nx V I))))))))))))))
      ) (P.length - 1) 0 N V I (by omega) (by omega) (by rw [Nat.mul_zero]; exact h)
  obtain ⟨W, J, e, o⟩ := main
  refine ⟨W, J, ?_, by rw [Nat.zero_add] at o; exact o⟩
  apply hm_468
  apply hd_468_0
  exact e
