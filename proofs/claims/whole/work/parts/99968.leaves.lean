/-! ===== edits: leaves and parts of trees, in the reference ===== -/
/-- a tree on the second desk, with the spans of its nodes -/
def ctxT (V0 : Nat → Nat → Value) (I0 : Nat → Nat → Int32) (nt so : Int32) (P : xT) : Prop := ctxR V0 I0 0 nt so (tI P) ∧ (∀ k, k < P.length → I0 192 k = nI (xE P k - k)) ∧ (∀ x, x ∈ P → x.1 ≤ 20) ∧ isF 1 (sl P)
theorem sg_0 {P : xI} {k : Nat} : sg P 0 k = P.take k := by unfold sg; rw [List.drop_zero, Nat.sub_zero]
theorem sg_n {P : xI} {k : Nat} : sg P k P.length = P.drop k := by unfold sg; rw [List.take_of_length_le (by rw [List.length_drop]; exact Nat.le_refl _)]
theorem eT2_x {P : xT} (h : ∀ x, x ∈ P → x.1 ≤ 20) {k : Nat} : eT2 (tI P) k = xE P k := by
  unfold eT2
  rw [tL_tI h]
  rfl
theorem tI_take {P : xT} {k : Nat} : tI (P.take k) = (tI P).take k := List.map_take ..
theorem tI_drop {P : xT} {k : Nat} : tI (P.drop k) = (tI P).drop k := List.map_drop ..
theorem xE_b {P : xT} (hF : isF 1 (sl P)) {k : Nat} (hk : k < P.length) : k < xE P k ∧ xE P k ≤ P.length := by
  have l : (sl P).length = P.length := List.length_map ..
  obtain ⟨x, r, m, e, _⟩ := isF_at hF (k := k) (by omega)
  have t1 : 1 ≤ tk 1 ((sl P).drop k) := by rw [e]; unfold tk sw; omega
  have t2 := tk_1le (l := sl P) (k := k) (by omega)
  unfold xE enL
  omega
theorem rp_x {P m : xT} {k : Nat} : tI (rp P k m) = (tI P).take k ++ (tI m ++ (tI P).drop (xE P k)) := by
  unfold rp
  rw [tI_app, tI_app, tI_take, tI_drop]
theorem rp_frm {P m : xT} {k : Nat} (h20 : ∀ x, x ∈ P → x.1 ≤ 20) (hF : isF 1 (sl P)) (hk : k < P.length) (hl : P.length ≤ 60) (hm : m.length ≤ 60) (hm20 : ∀ x, x ∈ m → x.1 ≤ 20) (hmF : isF 1 (sl m)) : frm 0 (tI (rp P k m)) := by
  have b := xE_b hF hk
  have l : (sl P).length = P.length := List.length_map ..
  refine ⟨by omega, by rw [tI_len, rp_len hk]; omega, fun _ => ⟨_, rfl, fun x hx => ?_, ?_⟩, fun e => absurd e (by decide)⟩
  · unfold rp at hx
    rw [List.mem_append, List.mem_append] at hx
    rcases hx with hx | hx | hx
    · exact h20 x (List.mem_of_mem_take hx)
    · exact hm20 x hx
    · exact h20 x (List.mem_of_mem_drop hx)
  · unfold rp
    rw [sl_app, sl_app, sl_take, sl_drop]
    have := isF_rp (sl P) 1 k (sl m) hF (by omega) hmF
    exact this
set_option maxRecDepth 100000 in
set_option maxHeartbeats 4000000 in
theorem s450 {V : Nat → Nat → Value} {I : Nat → Nat → Int32} {L : Nat → Nat → Int64} {R : Nat → Nat → Option Nat} {tl : am_H} {V0 : Nat → Nat → Value} {I0 : Nat → Nat → Int32} {cd : Nat → Option xI} {so nt : Int32} {N c k a w : Nat} {v : Int32} {P : xT} (hN : 400 < N) (hx : ctxT V0 I0 nt so P) (h : scS V0 I0 cd so c V I) (hk : k < P.length) (c6 : c < 999999) (ha : a ≤ 4) (hlf : lfO w = (nI a, v)) (hcd : cd c = if truN (sN (srt (tI P) k)) = 1 ∨ (srt (tI P) k, vlu (tI P) k) = lfO w then none else gS2 0 ((tI P).take k ++ (lfO w :: (tI P).drop (eT2 (tI P) k)))) (x : Int32) (hxa : x = nI a) : ∃ W J b, fm_450 N (.ref 174) (nI k) x v (fx V I L R ++ tl) = some (.inl (some (.int (bI b)), fx W J L R ++ tl)) ∧ (b = true → scH V0 I0 cd so (c + 1) 0 nt W J) ∧ (b = false → scS V0 I0 cd so (c + 1) W J) := by
  subst hxa
  obtain ⟨hx, hsp, h20, hF⟩ := hx
  have c0 := ct_f hx h.1
  have lt : (tI P).length = P.length := tI_len
  have l60 := hx.2.2.2.2
  obtain ⟨es, ev⟩ := ds_at c0.2.2.1 (k := k) (by omega)
  obtain ⟨ts, tv⟩ := srt_tI hk
  rw [ts] at es
  rw [tv] at ev
  have xk : xS P k ≤ 20 := h20 _ (List.mem_of_getElem? (xS_at hk))
  have rs : am_pA 0 (.ref 188) (nI k) (fx V I L R ++ tl) = some (nI (xS P k)) := (qa_188 (by omega)).trans (congrArg some es)
  have rv : am_pA 0 (.ref 189) (nI k) (fx V I L R ++ tl) = some (xV P k) := (qa_189 (by omega)).trans (congrArg some ev)
  rw [ts, tv, sN_n (by omega), eT2_x h20, hlf] at hcd
  have no : cd c = none → fm_450 N (.ref 174) (nI k) (nI a) v (fx V I L R ++ tl) = some (.inl (some (.int 0), fx V I L R ++ tl)) → ∃ W J b, fm_450 N (.ref 174) (nI k) (nI a) v (fx V I L R ++ tl) = some (.inl (some (.int (bI b)), fx W J L R ++ tl)) ∧ (b = true → scH V0 I0 cd so (c + 1) 0 nt W J) ∧ (b = false → scS V0 I0 cd so (c + 1) W J) := fun hn e => ⟨V, I, false, e, fun e => Bool.noConfusion e, fun _ => scS_n h hn⟩
  have st0 : ∀ o, (if ¬ nI (truN (xS P k)) = 0 then (fg_450_32 N (fx V I L R ++ tl)) else ((am_vR (am_pG 3093 (.ref 174) (fx V I L R ++ tl))).bind fun v9 => ((am_pA 0 v9 (nI k) (fx V I L R ++ tl)).bind fun v11 => (if ¬ v11 = nI a then (fg_450_34 N (.ref 174) (nI k) (nI a) v (fx V I L R ++ tl)) else ((am_vR (am_pG 3094 (.ref 174) (fx V I L R ++ tl))).bind fun v14 => ((am_pA 0 v14 (nI k) (fx V I L R ++ tl)).bind fun v16 => (if ¬ v16 = v then (fg_450_34 N (.ref 174) (nI k) (nI a) v (fx V I L R ++ tl)) else (fg_450_32 N (fx V I L R ++ tl))))))))) = o → fm_450 N (.ref 174) (nI k) (nI a) v (fx V I L R ++ tl) = o := fun o k_ => by
    apply hm_450
    apply hd_450_0
    refine ev_b (rdR rfl) (ev_b rs (ev_cI (pe_334 _ _) ?_))
    rw [(ar343 _ (by omega)).2]
    exact k_
  rcases tru_01 (xS P k) with t | t
  case inr =>
    rw [if_pos (.inl t)] at hcd
    refine no hcd (st0 _ (ev_t (by rw [t]; decide) rfl))
  have go : ∀ (nn : ¬ (nI (xS P k), xV P k) = (nI a, v)), (∀ o, fg_450_34 N (.ref 174) (nI k) (nI a) v (fx V I L R ++ tl) = o → fm_450 N (.ref 174) (nI k) (nI a) v (fx V I L R ++ tl) = o) → ∃ W J b, fm_450 N (.ref 174) (nI k) (nI a) v (fx V I L R ++ tl) = some (.inl (some (.int (bI b)), fx W J L R ++ tl)) ∧ (b = true → scH V0 I0 cd so (c + 1) 0 nt W J) ∧ (b = false → scS V0 I0 cd so (c + 1) W J) := fun nn st1 => by
    rw [if_neg (fun e => by rcases e with e | e; omega; exact nn e)] at hcd
    have eq : (tI P).take k ++ ((nI a, v) :: (tI P).drop (xE P k)) = tI (rp P k [(a, v)]) := by rw [rp_x]; rfl
    have xb := xE_b hF hk
    rw [eq] at hcd
    obtain ⟨W1, e1, d1, d2, d3, f1⟩ := s451 (I := I) (L := L) (R := R) (tl := tl) c0.1 c0.2.1
    have A1 : dsA W1 I (tI P) := ds_f (frSc_d f1) c0.2.2.1
    obtain ⟨W2, J2, e2, d4, f2⟩ := s443 (L := L) (R := R) (tl := tl) (i := 0) (j := k) (P := tI P) (Q := []) 0 (nI k) rfl rfl hN (by omega) (by omega) (by omega) A1 d1 (by show 0 + _ ≤ 400; omega)
    have q2 : ([] ++ sg (tI P) 0 k).length = k := by rw [List.nil_append, sg_len (by omega)]; omega
    obtain ⟨W3, J3, e3, d5, f3⟩ := s335 (L := L) (R := R) (tl := tl) (nI a) v d4 (by rw [q2]; omega)
    have F3 := frEd_t f1 (frEd_t (frEd_k f2) (frEd_k f3))
    have A3 : dsA W3 J3 (tI P) := ds_f (frSc_d F3) c0.2.2.1
    have q3 : ([] ++ sg (tI P) 0 k ++ [(nI a, v)]).length = k + 1 := by rw [List.length_append, q2]; rfl
    have sp : J3 192 k = nI (xE P k - k) := by
      rw [F3.2.1 192 (by decide) (by decide), h.1.2.1 192 (by decide) (by decide) (by decide) (by decide) (by decide) (by decide)]
      exact hsp k hk
    have rsp : am_pA 0 (.ref 192) (nI k) (fx W3 J3 L R ++ tl) = some (nI (xE P k - k)) := (qa_192 (by omega)).trans (congrArg some sp)
    obtain ⟨W4, J4, e4, d6, f4⟩ := s443 (L := L) (R := R) (tl := tl) (i := xE P k) (j := (tI P).length) (P := tI P) (nI k + nI (xE P k - k)) (nI (tI P).length) (nI_ad _ _ _ (by omega)) rfl hN (by omega) (by omega) (by omega) A3 d5 (by rw [q3]; omega)
    have eq2 : ([] ++ sg (tI P) 0 k ++ [(nI a, v)]) ++ sg (tI P) (xE P k) (tI P).length = tI (rp P k [(a, v)]) := by
      rw [← eq, sg_0, sg_n, List.nil_append, List.append_assoc]
      rfl
    rw [eq2] at d6
    have F := frEd_t F3 (frEd_k f4)
    have y1 : ∀ j, j = 13 ∨ j = 15 → W4 174 j = W1 174 j := fun j hj => (f4.1 174 j (by omega)).trans ((f3.1 174 j (by omega)).trans (f2.1 174 j (by omega)))
    obtain ⟨W, J, bb, e, g1, g2⟩ := stepC (L := L) (R := R) (tl := tl) hN h F d6 ((y1 13 (.inl rfl)).trans d2) ((y1 15 (.inr rfl)).trans d3) (kd := 0) (rp_frm h20 hF hk (by omega) (by show 1 ≤ 60; omega) (fun x hx => by rw [List.mem_singleton] at hx; rw [hx]; show a ≤ 20; omega) (by
      have ar : arN a = 0 := if_pos (by omega)
      show isF (0 + arN a) []
      rw [ar]
      trivial)) hcd c6 hx.2.2.2.1
    refine ⟨W, J, bb, st1 _ ?_, g1, g2⟩
    apply hd_450_34
    exact ev_i rfl (ev_cV e1 (ev_i rfl (ev_cV e2 (ev_i rfl (ev_cV e3 (ev_b (rdR rfl) (ev_b rsp (ev_b (rdI A3.1) (ev_i rfl (ev_cV e4 (ev_i rfl (ev_cI e (ev_i (bI_fit bb) rfl)))))))))))))
  by_cases c1 : xS P k = a
  case neg => exact go (fun e => c1 ((nI_eq (by omega) (by omega)).mp (Prod.mk.inj e).1)) (fun o k_ => st0 o (ev_f (fun e => e (by rw [t]; rfl)) (ev_b (rdR rfl) (ev_b rs (ev_t (fun e => c1 ((nI_eq (by omega) (by omega)).mp e)) k_)))))
  by_cases c2 : xV P k = v
  case neg => exact go (fun e => c2 (Prod.mk.inj e).2) (fun o k_ => st0 o (ev_f (fun e => e (by rw [t]; rfl)) (ev_b (rdR rfl) (ev_b rs (ev_f (fun e => e (by rw [c1])) (ev_b (rdR rfl) (ev_b rv (ev_t c2 k_))))))))
  rw [if_pos (.inr (by rw [c1, c2]))] at hcd
  exact no hcd (st0 _ (ev_f (fun e => e (by rw [t]; rfl)) (ev_b (rdR rfl) (ev_b rs (ev_f (fun e => e (by rw [c1])) (ev_b (rdR rfl) (ev_b rv (ev_f (fun e => e c2) rfl))))))))
set_option maxRecDepth 100000 in
set_option maxHeartbeats 4000000 in
theorem r_449 {V : Nat → Nat → Value} {I : Nat → Nat → Int32} {L : Nat → Nat → Int64} {R : Nat → Nat → Option Nat} {tl : am_H} {V0 : Nat → Nat → Value} {I0 : Nat → Nat → Int32} {cd : Nat → Option xI} {so nt : Int32} {N : Nat} {P : xT} (hN : 400 < N) (hx : ctxT V0 I0 nt so P) (hcd : ∀ c, cd c = cd02 (tI P) c) (h : scS V0 I0 cd so 0 V I) : ∃ W J, fm_449 N (.ref 174) (fx V I L R ++ tl) = some (.inl (none, fx W J L R ++ tl)) ∧ outS V0 I0 cd so (3 * (P.length)) 0 nt W J := by
  have l60 := hx.1.2.2.2.2
  have lt : (tI P).length = P.length := tI_len
  have d18 : ∀ (V : Nat → Nat → Value) (I : Nat → Nat → Int32), frSc V0 V I0 I → V 174 18 = .int (nI P.length) := fun V I f => by
    have := (ct_f hx.1 f).2.2.1.1
    rw [lt] at this
    exact this
  have main := inn (L := L) (R := R) (tl := tl) (V0 := V0) (I0 := I0) (cd := cd) (so := so) (nt := nt) (kd := 0) (b := 0) (S := P.length) (st := 3) (E := fun K k h => fg_449_2 N K (.ref 174) (nI k) h) (G := fun h => some (.inl (none, h))) (fun K k V I hk f hc => by
      show fg_449_2 N (K + 1) (.ref 174) (nI k) _ = _
      apply hd_449_2
      by_cases c : P.length ≤ k
      · exact ev_b (rdI (d18 V I f)) (ev_t (nI_le c (by omega)) rfl)
      · rcases hc with hc | hc
        · omega
        · exact ev_b (rdI (d18 V I f)) (ev_f (nI_ge (by omega) (by omega)) (ev_b (rdI hc) (ev_t (by decide) rfl)))
      ) (fun K k V I hk h => by
      rw [Nat.zero_add] at h
      show ∃ W J, fg_449_2 N (K + 1) (.ref 174) (nI k) (fx V I L R ++ tl) = fg_449_2 N K (.ref 174) (nI (k + 1)) (fx W J L R ++ tl) ∧ outS V0 I0 cd so (0 + 3 * (k + 1)) 0 nt W J
      rw [Nat.zero_add]
      have ecd : ∀ w, w < 3 → cd (3 * k + w) = if truN (sN (srt (tI P) k)) = 1 ∨ (srt (tI P) k, vlu (tI P) k) = lfO w then none else gS2 0 ((tI P).take k ++ (lfO w :: (tI P).drop (eT2 (tI P) k))) := fun w hw => by
        rw [hcd]
        unfold cd02
        rw [show (3 * k + w) / 3 = k by omega, show (3 * k + w) % 3 = w by omega]
      have nx : ∀ (W : Nat → Nat → Value) (J : Nat → Nat → Int32), fg_449_48 N (fg_449_2 N K) (.ref 174) (nI k) (fx W J L R ++ tl) = fg_449_2 N K (.ref 174) (nI (k + 1)) (fx W J L R ++ tl) := fun W J => by
        apply hd_449_48
        rw [nI_1]
      obtain ⟨W1, J1, b1, e1, g1, n1⟩ := s450 (V := V) (I := I) (L := L) (R := R) (tl := tl) (a := 0) (v := 0) (w := 0) hN hx h hk (by omega) (by omega) rfl (ecd 0 (by omega)) 0 rfl
      cases b1 with
      | true =>
        refine ⟨W1, J1, ?_, .inl (scH_m (g1 rfl) (by omega))⟩
        apply hd_449_2
        exact ev_b (rdI (d18 V I h.1)) (ev_f (nI_ge hk (by omega)) (ev_b (rdI h.2.2.1) (ev_f (fun e => e rfl) (ev_i rfl (ev_cI e1 (ev_t (by decide) (nx W1 J1)))))))
      | false =>
        obtain ⟨W2, J2, b2, e2, g2, n2⟩ := s450 (V := W1) (I := J1) (L := L) (R := R) (tl := tl) (a := 1) (v := 0) (w := 1) hN hx (n1 rfl) hk (by omega) (by omega) rfl (ecd 1 (by omega)) 1 rfl
        cases b2 with
        | true =>
          refine ⟨W2, J2, ?_, .inl (scH_m (g2 rfl) (by omega))⟩
          apply hd_449_2
          exact ev_b (rdI (d18 V I h.1)) (ev_f (nI_ge hk (by omega)) (ev_b (rdI h.2.2.1) (ev_f (fun e => e rfl) (ev_i rfl (ev_cI e1 (ev_f (fun e => e rfl) (ev_i rfl (ev_cI e2 (ev_t (by decide) (nx W2 J2))))))))))
        | false =>
          obtain ⟨W3, J3, b3, e3, g3, n3⟩ := s450 (V := W2) (I := J2) (L := L) (R := R) (tl := tl) (a := 0) (v := 1) (w := 2) hN hx (n2 rfl) hk (by omega) (by omega) rfl (ecd 2 (by omega)) 0 rfl
          refine ⟨W3, J3, ?_, outS_b g3 n3⟩
          apply hd_449_2
          refine ev_b (rdI (d18 V I h.1)) (ev_f (nI_ge hk (by omega)) (ev_b (rdI h.2.2.1) (ev_f (fun e => e rfl) (ev_i rfl (ev_cI e1 (ev_f (fun e => e rfl) (ev_i rfl (ev_cI e2 (ev_f (fun e => e rfl) (ev_i rfl (ev_cI e3 (ev_b (qp_174_95 (by cases b3 <;> rfl)) ?_))))))))))))
          rw [sc_95 g3 n3]
          exact nx W3 J3
      ) (P.length) 0 N V I (by omega) (by omega) (by rw [Nat.mul_zero]; exact h)
  obtain ⟨W, J, e, o⟩ := main
  refine ⟨W, J, ?_, by rw [Nat.zero_add] at o; exact o⟩
  apply hm_449
  apply hd_449_0
  exact e
