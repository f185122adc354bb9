/-! ===== minimal(b): one cut ===== -/
theorem hd_303_86 {N : Nat} {rec_31 : Value → Int64 → Int32 → Int32 → am_H → Option am_O} {x0 : Value} {x2 : Int64} {x4 : Int32} {x5 : Int32} {h : am_H} {r_ : Option am_O} (k_ : (rec_31 x0 x2 x4 ((x5 + 1)) h) = r_) : fg_303_86 N rec_31 x0 x2 x4 x5 h = r_ := k_
theorem hd_303_31 {N : Nat} {K : Nat} {x0 : Value} {x2 : Int64} {x4 : Int32} {x5 : Int32} {h : am_H} {r_ : Option am_O} (k_ : (if x4 ≤ x5 then some (.inl (some (.int 0), h)) else ((am_vR (am_pG 2823 x0 h)).bind fun v2 => (if am_pOk 0 v2 h then am_cI true (fm_163 N v2 x5 h) (fun v5 h6 => (if v5 = 0 then (fg_303_86 N (fg_303_31 N K) x0 x2 x4 x5 h6) else ((am_vR (am_pG 2819 x0 h6)).bind fun v9 => ((am_vR (am_pG 2823 x0 h6)).bind fun v11 => ((am_vR (am_pG 0 v11 h6)).bind fun v13 => (if am_pOk 2 v9 h6 then am_cL true (fm_140 N v9 v13 0 h6) (fun v16 h17 => (if 0 < (lg_cmp v16 x2) then (fg_303_86 N (fg_303_31 N K) x0 x2 x4 x5 h17) else ((am_vR (am_pG 2831 x0 h17)).bind fun v20 => ((am_vR (am_pG 2823 x0 h17)).bind fun v22 => ((am_vR (am_pG 0 v22 h17)).bind fun v24 => (if am_pOk 3 v20 h17 then am_cV true (fm_60 v20 v24 h17) (fun h28 => some (.inl (some (.int 1), h28))) else none)))))) else none)))))) else none))) = r_) : fg_303_31 N (K + 1) x0 x2 x4 x5 h = r_ := by rw [fg_303_31]; exact k_
theorem hd_303_0 {N : Nat} {x0 : Value} {x1 : Int32} {h : am_H} {r_ : Option am_O} (k_ : ((am_vR (am_pG 2819 x0 h)).bind fun v1 => ((am_vR (am_pG 2831 x0 h)).bind fun v3 => (if am_pOk 2 v1 h then am_cL true (fm_140 N v1 v3 0 h) (fun v6 h7 => ((am_vR (am_pG 2823 x0 h7)).bind fun v9 => ((am_vR (am_pG 2831 x0 h7)).bind fun v11 => (if am_pOk 0 v9 h7 then am_cI true (fm_159 N v9 v11 Value.null x1 h7) (fun v14 h15 => (fg_303_31 N N x0 v6 v14 0 h15)) else none)))) else none))) = r_) : fg_303_0 N x0 x1 h = r_ := k_
theorem hm_303 {N : Nat} {y0 : Value} {y1 : Int32} {h : am_H} {r_ : Option am_O} (k_ : fg_303_0 N y0 y1 h = r_) : fm_303 N y0 y1 h = r_ := k_
theorem hd_578_17 {N : Nat} {K : Nat} {x0 : Value} {x1 : Int64} {x3 : Int64} {x5 : Int32} {x6 : Int32} {h : am_H} {r_ : Option am_O} (k_ : (if x5 ≤ x6 then some (.inl (some (.int 0), h)) else ((am_vI (am_pG 3092 x0 h)).bind fun v2 => am_cI false (fm_579 v2 h) (fun v4 h5 => (if am_pOk 12 x0 h5 then am_cI true (fm_439 N x0 v4 x6 h5) (fun v8 h9 => (if am_pOk 12 x0 h9 then am_cI true (fm_580 N x0 x1 x3 h9) (fun v12 h13 => (if v12 = 0 then (fg_578_17 N K x0 x1 x3 x5 ((x6 + 1)) h13) else (if am_pOk 12 x0 h13 then am_cV true (fm_495 N x0 h13) (fun h18 => some (.inl (some (.int 1), h18))) else none))) else none)) else none)))) = r_) : fg_578_17 N (K + 1) x0 x1 x3 x5 x6 h = r_ := by rw [fg_578_17]; exact k_
theorem hd_578_0 {N : Nat} {x0 : Value} {x1 : Int64} {x3 : Int64} {h : am_H} {r_ : Option am_O} (k_ : ((am_vI (am_pG 3092 x0 h)).bind fun v1 => am_cI false (fm_579 v1 h) (fun v3 h4 => (if am_pOk 12 x0 h4 then am_cI true (fm_439 N x0 v3 ((-1)) h4) (fun v7 h8 => (fg_578_17 N N x0 x1 x3 v7 0 h8)) else none))) = r_) : fg_578_0 N x0 x1 x3 h = r_ := k_
theorem hm_578 {N : Nat} {y0 : Value} {y1 : Int64} {y2 : Int64} {h : am_H} {r_ : Option am_O} (k_ : fg_578_0 N y0 y1 y2 h = r_) : fm_578 N y0 y1 y2 h = r_ := k_
theorem hd_579_19 {s0 : Int32} {h : am_H} {r_ : Option am_O} (k_ : some (.inl (some (.int s0), h)) = r_) : fg_579_19 s0 h = r_ := k_
theorem hd_579_0 {x0 : Int32} {h : am_H} {r_ : Option am_O} (k_ : (if ¬ x0 = 1 then (if ¬ x0 = 3 then (fg_579_19 3 h) else (fg_579_19 1 h)) else (fg_579_19 2 h)) = r_) : fg_579_0 x0 h = r_ := k_
theorem hm_579 {y0 : Int32} {h : am_H} {r_ : Option am_O} (k_ : fg_579_0 y0 h = r_) : fm_579 y0 h = r_ := k_
theorem hd_580_26 {N : Nat} {s0 : Int32} {h : am_H} {r_ : Option am_O} (k_ : (if am_rfit (some FieldType.boolean) s0 then some (.inl (some (.int s0), h)) else none) = r_) : fg_580_26 N s0 h = r_ := k_
theorem hd_580_0 {N : Nat} {x0 : Value} {x1 : Int64} {x3 : Int64} {h : am_H} {r_ : Option am_O} (k_ : (if am_pOk 12 x0 h then am_cV true (fm_428 N x0 0 h) (fun h3 => ((am_vL (am_pG 3163 x0 h3)).bind fun v5 => ((am_vL (am_pG 3164 x0 h3)).bind fun v7 => (if 0 < (lg_cmp (v5 * x3) (x1 * v7)) then (fg_580_26 N 0 h3) else (fg_580_26 N 1 h3))))) else none) = r_) : fg_580_0 N x0 x1 x3 h = r_ := k_
theorem hm_580 {N : Nat} {y0 : Value} {y1 : Int64} {y2 : Int64} {h : am_H} {r_ : Option am_O} (k_ : fg_580_0 N y0 y1 y2 h = r_) : fm_580 N y0 y1 y2 h = r_ := k_
set_option maxRecDepth 100000 in
set_option maxHeartbeats 4000000 in
theorem l495 {L : Nat → Nat → Int64} {R : Nat → Nat → Option Nat} {tl : am_H} {V : Nat → Nat → Value} {I : Nat → Nat → Int32} {N kd : Nat} {Q : xI} (hl : Q.length ≤ 60) (h14 : V 174 14 = .int (nI Q.length)) (h20 : V 174 20 = .int (nI kd)) (hk0 : kd ≠ 0) (hk3 : kd ≤ 3) (hd : lay2 (I 186) (I 187) Q) : ∀ (m k K : Nat) (J : Nat → Nat → Int32), k + m = Q.length → m < K → (∀ j, j < k → J 188 j = srt Q j ∧ J 189 j = vlu Q j) → (∀ y, y ≠ 188 → y ≠ 189 → J y = I y) → ∃ J', fg_495_26 N K (.ref 174) (nI k) (fx V J L R ++ tl) = some (.inl (none, fx V J' L R ++ tl)) ∧ (∀ j, j < Q.length → J' 188 j = srt Q j ∧ J' 189 j = vlu Q j) ∧ (∀ y, y ≠ 188 → y ≠ 189 → J' y = I y) := by
  intro m
  induction m with
  | zero =>
    intro k K J hk hK hj hy
    obtain ⟨K, rfl⟩ : ∃ k, K = k + 1 := ⟨K - 1, by omega⟩
    rw [Nat.add_zero] at hk
    subst hk
    exact ⟨J, hd_495_26 (ev_b (rdI h14) (ev_t (nI_le (Nat.le_refl _) (by omega)) (ev_b (rdI h20) (ev_t (fun e => hk0 ((nI_eq (b := 0) (by omega) (by decide)).mp e)) (hd_495_75 rfl))))), hj, hy⟩
  | succ m ih =>
    intro k K J hk hK hj hy
    obtain ⟨K, rfl⟩ : ∃ k, K = k + 1 := ⟨K - 1, by omega⟩
    have hkl : k < Q.length := by omega
    obtain ⟨d1, d2⟩ := hd k _ (srt_at hkl)
    have r6 : am_pA 0 (.ref 186) (nI k) (fx V J L R ++ tl) = some (srt Q k) := by rw [qa_186 (by omega), hy 186 (by decide) (by decide), d1]
    have r7 : am_pA 0 (.ref 187) (nI k) (fx V (iup J 188 (upd (J 188) k (srt Q k))) L R ++ tl) = some (vlu Q k) := by rw [qa_187 (by omega), iup_na (by decide), hy 187 (by decide) (by decide), d2]
    obtain ⟨J', e, a, b⟩ := ih (k + 1) K (iup (iup J 188 (upd (J 188) k (srt Q k))) 189 (upd (iup J 188 (upd (J 188) k (srt Q k)) 189) k (vlu Q k))) (by omega) (by omega) (fun j hjk => by
      rw [iup_na (by decide), iup_eq, iup_eq, iup_na (by decide)]
      by_cases c : j = k
      · subst c; rw [upd_eq, upd_eq]; exact ⟨rfl, rfl⟩
      · rw [upd_ne c, upd_ne c]; exact hj j (by omega)) (fun y h1 h2 => by rw [iup_na h2, iup_na h1]; exact hy y h1 h2)
    refine ⟨J', ?_, a, b⟩
    apply hd_495_26
    refine ev_b (rdI h14) (ev_f (nI_ge hkl (by omega)) (ev_b (rdR rfl) (ev_b (rdR rfl) (ev_b r6 (ev_b (qs_188 (by omega)) (ev_b (rdR rfl) (ev_b (rdR rfl) (ev_b r7 (ev_b (qs_189 (by omega)) ?_)))))))))
    rw [nI_1]
    exact e
set_option maxRecDepth 100000 in
set_option maxHeartbeats 4000000 in
theorem s495E {V : Nat → Nat → Value} {I : Nat → Nat → Int32} {L : Nat → Nat → Int64} {R : Nat → Nat → Option Nat} {tl : am_H} {N kd ln : Nat} {Q : xI} (hN : 100 < N) (hg : gdP kd ln Q) (hd : dkL V I Q) (h13 : V 174 13 = .int (nI kd)) (h15 : V 174 15 = .int (nI ln)) : ∃ W J, fm_495 N (.ref 174) (fx V I L R ++ tl) = some (.inl (none, fx W J L R ++ tl)) ∧ dsE kd ln Q W J ∧ fr39 V W I J := by
  have hl := hg.2.1
  have fV : fr39 V (vup (vup (vup V 174 20 (.int (nI kd))) 174 18 (.int (nI Q.length))) 174 19 (.int (nI ln))) I I := ⟨fun a j h => by rw [vup_o (fun e => h ⟨e.1, .inr (.inl e.2)⟩), vup_o (fun e => h ⟨e.1, .inl e.2⟩), vup_o (fun e => h ⟨e.1, .inr (.inr e.2)⟩)], fun _ _ _ _ => rfl, fun w => wt_i (wt_i (wt_i w (by decide)) (by decide)) (by decide)⟩
  by_cases k0 : kd = 0
  · subst k0
    obtain ⟨l0, ho, et⟩ := hg.2.2.1 rfl
    have lu := uTx_len (P := Q)
    obtain ⟨a, b, g, e, x1, x2, x3⟩ := r_495 (V := V) (I := I) (L := L) (R := R) (tl := tl) (N := N) (l := sl (uTx Q)) (nt := nI ln) hN (by rw [sl_len, lu]; exact hl) (okF_F _ _ ho.1) (fun k x r ed => by
      have hk : k < (uTx Q).length := by
        by_cases c : k < (uTx Q).length
        · exact c
        · rw [List.drop_of_length_le (by rw [sl_len]; omega)] at ed; exact absurd ed (by simp)
      rw [sl_at hk] at ed
      injection ed with e1 e2
      rw [← e1]
      have h2 := (hd.2 k _ (srt_at (by rw [← lu]; exact hk))).1
      refine ⟨h2.trans ?_, (nd_at ho hk).1⟩
      have := (srt_tI hk).1
      rw [et] at this
      exact this) h13 (by rw [sl_len, lu]; exact hd.1) h15
    rw [sl_len, lu] at e x1 x2
    refine ⟨_, _, e, ⟨rfl, rfl, ⟨rfl, fun k x hx => ?_⟩, fun _ k hk => ?_⟩, ⟨fV.1, fun y h1 h2 h3 => ?_, fV.2.2⟩⟩
    · have hk : k < Q.length := (List.getElem?_eq_some_iff.mp hx).1
      rw [iup_na (by decide), iup_na (by decide), iup_eq, iup_na (by decide), iup_eq, x1 k hk, x2 k hk]
      exact hd.2 k x hx
    · rw [iup_eq, x3 k (Nat.zero_le _) (by rw [sl_len, lu]; exact hk)]
      congr 1
      show _ = k + tk 1 ((sl (uTx Q)).drop k) - k
      omega
    · rw [iup_na h3, iup_na h2, iup_na h1]
  · obtain ⟨J, e, x1, x2⟩ := l495 (L := L) (R := R) (tl := tl) (V := vup (vup (vup V 174 20 (.int (nI kd))) 174 18 (.int (nI Q.length))) 174 19 (.int (nI ln))) (I := I) (N := N) (kd := kd) hl hd.1 rfl k0 hg.1 hd.2 Q.length 0 N I (by omega) (by omega) (fun j h => absurd h (Nat.not_lt_zero _)) (fun _ _ _ => rfl)
    refine ⟨_, J, ?_, ⟨rfl, rfl, ⟨rfl, fun k x hx => ?_⟩, fun z => absurd z k0⟩, ⟨fV.1, fun y h1 h2 _ => x2 y h1 h2, fV.2.2⟩⟩
    · unfold fm_495
      apply hd_495_0
      exact ev_b (rdI h13) (ev_b qp_174_20 (ev_b (rdI hd.1) (ev_b qp_174_18 (ev_b (rdI h15) (ev_b qp_174_19 e)))))
    · have hk : k < Q.length := (List.getElem?_eq_some_iff.mp hx).1
      rw [srt_at hk] at hx
      rw [← Option.some.inj hx]
      exact x1 k hk
def hwM (kd : Nat) : Nat := if kd = 1 then 2 else if kd = 3 then 1 else 3
theorem hwM_4 (kd : Nat) : hwM kd < 4 := by unfold hwM; split <;> (try split) <;> omega
theorem cd_less {kd ln c : Nat} {P Q : xI} (hg : gdP kd ln P) (hc : c < ncE kd ln P.length (hwM kd)) (h : cdE kd ln P (hwM kd) c = some Q) : Q.length < P.length := by
  have hg0 := hg
  obtain ⟨g1, g2, g3, g4, g5, g6⟩ := hg
  rcases (by omega : kd = 0 ∨ kd = 1 ∨ kd = 2 ∨ kd = 3) with rfl | rfl | rfl | rfl
  · obtain ⟨l0, ho, et⟩ := g3 rfl
    have h : cd03 P c = some Q := h
    have hc : c < 3 * P.length := hc
    have lu := uTx_len (P := P)
    have hk : c / 3 < (uTx P).length := by omega
    rw [← et] at h
    unfold cd03 at h
    have w3 : c % 3 < 3 := Nat.mod_lt _ (by decide)
    have x20 := (nd_at ho hk).1
    rw [(srt_tI hk).1, sN_n (by omega), eT2_x (okP_20b ho), eT2_x (okP_20b ho)] at h
    have pa : ptA (tI (uTx P)) (c / 3) (c % 3) = pA (uTx P) (c / 3) (c % 3) := by unfold ptA; rw [tL_tI (okP_20b ho), pA_tk hk w3]
    rw [pa] at h
    split at h
    case isFalse => exact absurd h (by simp)
    rename_i hq
    obtain ⟨rfl, -⟩ := gS2_s h
    obtain ⟨p1, p2, p3, -⟩ := part_at ho hk w3 hq.1
    have xl : xE (uTx P) (c / 3) ≤ (uTx P).length := xE_le (by omega)
    have xg := xE_gt p1
    rw [List.length_append, List.length_append, List.length_take, List.length_take, List.length_drop, List.length_drop, tI_len]
    omega
  · have h : cd12 P c = some Q := h
    have hc : c < 3 * P.length := hc
    unfold cd12 at h
    split at h
    case isFalse => exact absurd h (by simp)
    rename_i hq
    obtain ⟨rfl, -⟩ := gS2_s h
    unfold wOut
    rw [List.length_append, List.length_map, List.length_range, List.length_drop]
    omega
  · have h : cd23 P c = some Q := h
    have hc : c < P.length - 1 := hc
    unfold cd23 at h
    rw [← Option.some.inj h, List.length_map, List.length_append, List.length_take, List.length_drop]
    omega
  · have h : cd31 P c = some Q := h
    have hc : c < P.length := hc
    unfold cd31 at h
    rw [← Option.some.inj h, List.length_append, List.length_take, List.length_drop]
    omega
/-- the first that answers -/
def fsC (cd : Nat → Option xI) : Nat → Nat → Option xI
  | 0, _ => none
  | m + 1, c => match cd c with
    | some Q => some Q
    | none => fsC cd m (c + 1)
theorem fsC_n {cd : Nat → Option xI} {m c : Nat} (h : cd c = none) : fsC cd (m + 1) c = fsC cd m (c + 1) := by rw [fsC, h]
theorem fsC_s {cd : Nat → Option xI} {m c : Nat} {Q : xI} (h : cd c = some Q) : fsC cd (m + 1) c = some Q := by rw [fsC, h]
theorem fsC_e {cd : Nat → Option xI} {Q : xI} : ∀ m c, fsC cd m c = some Q → ∃ d, c ≤ d ∧ d < c + m ∧ cd d = some Q := by
  intro m
  induction m with
  | zero => intro c h; exact absurd h (by simp [fsC])
  | succ m ih =>
    intro c h
    cases e : cd c with
    | none =>
      rw [fsC_n e] at h
      obtain ⟨d, d1, d2, d3⟩ := ih (c + 1) h
      exact ⟨d, by omega, by omega, d3⟩
    | some X =>
      rw [fsC_s e] at h
      exact ⟨c, Nat.le_refl _, by omega, by rw [e]; exact h⟩
theorem fcd_0 {cd : Nat → Option xI} {pr : xI → Bool} {c : Nat} (h : cd c = none) : fcd cd pr c = none := by unfold fcd; rw [h]
theorem fcd_1 {cd : Nat → Option xI} {pr : xI → Bool} {c : Nat} {Q : xI} (h : cd c = some Q) (hp : pr Q = true) : fcd cd pr c = some Q := by unfold fcd; rw [h]; exact if_pos hp
theorem fcd_2 {cd : Nat → Option xI} {pr : xI → Bool} {c : Nat} {Q : xI} (h : cd c = some Q) (hp : pr Q = false) : fcd cd pr c = none := by unfold fcd; rw [h]; exact if_neg (by rw [hp]; decide)
theorem fs_skip {cd : Nat → Option xI} {pr : xI → Bool} {n : Nat} : ∀ (m c d : Nat), c + m = d → d ≤ n → cnt cd m c = 0 → fsC (fcd cd pr) (n - c) c = fsC (fcd cd pr) (n - d) d := by
  intro m
  induction m with
  | zero => intro c d h hd _; rw [Nat.add_zero] at h; rw [h]
  | succ m ih =>
    intro c d h hd hc
    rw [cnt_s2] at hc
    cases e : cd c with
    | none =>
      rw [show n - c = (n - (c + 1)) + 1 by omega, fsC_n (fcd_0 e)]
      exact ih (c + 1) d (by omega) hd (by rw [e] at hc; simpa using hc)
    | some Q => rw [e] at hc; simp at hc
theorem p60E_167 {V : Nat → Nat → Value} {I : Nat → Nat → Int32} {L : Nat → Nat → Int64} {R : Nat → Nat → Option Nat} {tl : am_H} {A it kd ln : Nat} {Q : xI} (hA : A ≠ 167) (hg : gdP kd ln Q) (hs : srcE V I tl A it kd ln Q) : ∃ W J, fm_60 (.ref 167) (.ref A) (fx V I L R ++ tl) = some (.inl (none, fx W J L R ++ tl)) ∧ holdE W J 167 kd ln Q ∧ fr1 167 V W I J := by
  obtain ⟨m, f, p1, p2, p3, p4⟩ := hs
  refine ⟨_, _, p60_167 p1 hA hg.1 p3 p4 (gd_w hg) (by have := hg.2.1; omega), ⟨rfl, rfl, rfl, ?_, ?_⟩, ?_⟩
  · show Value.int (if nI kd = 2 then 5 else 2) = .int (nI (wdN kd))
    congr 1
    unfold wdN
    by_cases c : kd = 2
    · rw [if_pos c, if_pos (show nI kd = 2 by rw [c]; rfl)]; rfl
    · rw [if_neg c, if_neg (show ¬ nI kd = (2 : Int32) from fun e => c ((nI_eq (b := 2) (by have := hg.1; omega) (by decide)).mp e))]; rfl
  · show itm kd (srt Q) (vlu Q) Q.length (va_cpy f (I 168) 0 0 (Q.length * wdN kd))
    exact itm_cp p2 lay_s
  · exact fr1_t (fr1_v (by decide)) (fr1_t (fr1_v (by decide)) (fr1_t (fr1_v (by decide)) (fr1_t (fr1_v (by decide)) (fr1_t (fr1_v (by decide)) fr1_i))))
theorem srcE_167 {V : Nat → Nat → Value} {I : Nat → Nat → Int32} {tl : am_H} {kd ln : Nat} {Q : xI} (w : wt V) (h : holdE V I 167 kd ln Q) (hq : Q.length * wdN kd ≤ 120) : srcE V I tl 167 168 kd ln Q := ⟨120, I 168, prF_167 (L := fun _ _ => 0) (R := fun _ _ => none) w h.1 h.2.1 h.2.2.1 h.2.2.2.1, h.2.2.2.2, hq, by omega⟩
theorem keep_167 {V W : Nat → Nat → Value} {I J : Nat → Nat → Int32} (f : fr1 167 V W I J) : keep V W I J := ⟨fun a j h => f.1 a j (fun e => by subst e; rw [show vRel 167 = [] from rfl] at h; exact absurd h (by simp)), fun y h => f.2.1 y (fun e => by subst e; exact absurd h (by decide)), f.2.2⟩
theorem holdE_c {V W : Nat → Nat → Value} {I J : Nat → Nat → Int32} {C kd ln : Nat} {Q : xI} (hv : ∀ j, W C j = V C j) (hi : J (C + 1) = I (C + 1)) (h : holdE V I C kd ln Q) : holdE W J C kd ln Q := by
  obtain ⟨h1, h2, h3, h4, h5⟩ := h
  exact ⟨(hv 1).trans h1, (hv 2).trans h2, (hv 3).trans h3, (hv 4).trans h4, by rw [hi]; exact h5⟩
theorem le_c {c d : Nat} (hc : c ≤ 432000000) (hd : d ≤ 432000000) : (0 < lg_cmp (lN c) (lN d)) ↔ ¬ c ≤ d := by
  obtain ⟨z1, z2⟩ := cmpL2 (a := c) (b := d) (by omega) (by omega)
  constructor
  · intro h u
    have h1 := z2.mp (Int32.le_of_lt h)
    have h2 : d = c := by omega
    rw [z1.mpr h2] at h
    exact absurd h (by decide)
  · intro h
    exact Int32.lt_of_le_of_ne (z2.mpr (by omega)) (fun e => by have := z1.mp e.symm; omega)
theorem lt_r {c d ws : Nat} (hc : c ≤ 432000000) (hd : d ≤ 432000000) (h1 : 1 ≤ ws) (h2 : ws ≤ 216) : (0 < lg_cmp (lN (c / Nat.gcd c ws) * lN (ws / Nat.gcd d ws)) (lN (d / Nat.gcd d ws) * lN (ws / Nat.gcd c ws))) ↔ ¬ c ≤ d := by
  have l1 := dv_le c (Nat.gcd c ws)
  have l2 := dv_le ws (Nat.gcd c ws)
  have l3 := dv_le d (Nat.gcd d ws)
  have l4 := dv_le ws (Nat.gcd d ws)
  rw [lN_mm2, lN_mm2]
  obtain ⟨x1, x2⟩ := cmpL2 (a := c / Nat.gcd c ws * (ws / Nat.gcd d ws)) (b := d / Nat.gcd d ws * (ws / Nat.gcd c ws)) (mul_lt60 (by omega) (by omega)) (mul_lt60 (by omega) (by omega))
  obtain ⟨y1, y2⟩ := cmq_eq (c1 := c) (c2 := d) h1
  constructor
  · intro h u
    have h1 := y2.mp (x2.mp (Int32.le_of_lt h))
    have h2 : d = c := by omega
    rw [x1.mpr (y1.mpr h2)] at h
    exact absurd h (by decide)
  · intro h
    exact Int32.lt_of_le_of_ne (x2.mpr (y2.mpr (by omega))) (fun e => by have := y1.mp (x1.mp e.symm); omega)
set_option maxRecDepth 100000 in
set_option maxHeartbeats 4000000 in
theorem l303 {L : Nat → Nat → Int64} {R : Nat → Nat → Option Nat} {tl : am_H} {I0 : Nat → Nat → Int32} {N kd ln w m0 lm bf : Nat} {nC : Int32} {P : xI} {ct : xI → Nat} (hN : 400 < N) (hg : gdP kd ln P) (hw : w < 4) (hb : bf ≤ 432000000) (hct : ∀ Q, ct Q ≤ 432000000) (nb : ncE kd ln P.length w ≤ 4500) (hC : nC = nI (ncE kd ln P.length w) ∨ (ncE kd ln P.length w = 0 ∧ nC ≤ 0)) (hco : ∀ (Q : xI) (X : Nat → Nat → Value) (Y : Nat → Nat → Int32), gdP kd ln Q → jdg I0 m0 lm X Y → srcE X Y tl 90 91 kd ln Q → ∃ W J, fm_140 N (.ref 14) (.ref 90) 0 (fx X Y L R ++ tl) = some (.inl (some (.long (lN (ct Q))), fx W J L R ++ tl)) ∧ frG X W Y J) : ∀ (m c K : Nat) (V : Nat → Nat → Value) (I : Nat → Nat → Int32), c + m = ncE kd ln P.length w → m < K → SE tl 167 168 kd ln w P V I → jdg I0 m0 lm V I → holdE V I 167 kd ln P → ∃ W J b, fg_303_31 N K (.ref 0) (lN bf) nC (nI c) (fx V I L R ++ tl) = some (.inl (some (.int (bI b)), fx W J L R ++ tl)) ∧ keep V W I J ∧ (b = true ↔ (fsC (fcd (cdE kd ln P w) (fun Q => decide (ct Q ≤ bf))) m c).isSome = true) ∧ holdE W J 167 kd ln ((fsC (fcd (cdE kd ln P w) (fun Q => decide (ct Q ≤ bf))) m c).getD P) := by
  intro m
  induction m with
  | zero =>
    intro c K V I h hK hs hj h167
    obtain ⟨K, rfl⟩ : ∃ k, K = k + 1 := ⟨K - 1, by omega⟩
    exact ⟨V, I, false, hd_303_31 (ev_t (nC_le nb hC (by omega) (by omega)) rfl), keep_r, ⟨fun e => Bool.noConfusion e, fun e => Bool.noConfusion e⟩, h167⟩
  | succ m ih =>
    intro c K V I h hK hs hj h167
    obtain ⟨K, rfl⟩ : ∃ k, K = k + 1 := ⟨K - 1, by omega⟩
    obtain ⟨W, J, b, e, o, f⟩ := all_m (L := L) (R := R) (N := N) (c := c) hN hg hw hs (by omega)
    have kf := keep_Cg (frM_Cg f)
    have hs' := SE_f hs f
    have hj' := jdg_k kf hj
    have h167' : holdE W J 167 kd ln P := holdE_c (fun j => f.1 167 j (by omega) (by decide) (by decide) (by decide)) (f.2.1 168 (by decide) (by decide) (by decide)) h167
    have st0 : ∀ r, (if bI b = 0 then (fg_303_86 N (fg_303_31 N K) (.ref 0) (lN bf) nC (nI c) (fx W J L R ++ tl)) else ((am_vR (am_pG 2819 (.ref 0) (fx W J L R ++ tl))).bind fun v9 => ((am_vR (am_pG 2823 (.ref 0) (fx W J L R ++ tl))).bind fun v11 => ((am_vR (am_pG 0 v11 (fx W J L R ++ tl))).bind fun v13 => (if am_pOk 2 v9 (fx W J L R ++ tl) then am_cL true (fm_140 N v9 v13 0 (fx W J L R ++ tl)) (fun v16 h17 => (if 0 < (lg_cmp v16 (lN bf)) then (fg_303_86 N (fg_303_31 N K) (.ref 0) (lN bf) nC (nI c) h17) else ((am_vR (am_pG 2831 (.ref 0) h17)).bind fun v20 => ((am_vR (am_pG 2823 (.ref 0) h17)).bind fun v22 => ((am_vR (am_pG 0 v22 h17)).bind fun v24 => (if am_pOk 3 v20 h17 then am_cV true (fm_60 v20 v24 h17) (fun h28 => some (.inl (some (.int 1), h28))) else none)))))) else none))))) = r → fg_303_31 N (K + 1) (.ref 0) (lN bf) nC (nI c) (fx V I L R ++ tl) = r := fun r k_ => by
      apply hd_303_31
      exact ev_f (nC_gt nb hC (by omega)) (ev_b (rdR rfl) (ev_i rfl (ev_cI e k_)))
    cases hcd : cdE kd ln P w c with
    | none =>
      have bf' : b = false := by
        cases b with
        | false => rfl
        | true => have := o.1.mp rfl; rw [hcd] at this; exact Bool.noConfusion this
      subst bf'
      obtain ⟨W', J', b', e', k', i', h'⟩ := ih (c + 1) K W J (by omega) (by omega) hs' hj' h167'
      rw [fsC_n (fcd_0 hcd)]
      refine ⟨W', J', b', st0 _ (ev_t rfl ?_), keep_t kf k', i', h'⟩
      apply hd_303_86
      rw [nI_1]
      exact e'
    | some Q =>
      have bt : b = true := o.1.mpr (by rw [hcd]; rfl)
      subst bt
      obtain ⟨o1, o2⟩ := o.2 Q hcd
      have gQ := cdE_gd hg hw (by omega) hcd
      obtain ⟨W2, J2, e2, f2⟩ := hco Q W J gQ hj' (srcE_90 hj'.1 o1 (gd_w gQ))
      have kg := frG_k f2
      have hs2 := SE_g hs' f2
      have hj2 := jdg_k kg hj'
      have lc := le_c (c := ct Q) (d := bf) (hct Q) hb
      by_cases q : ct Q ≤ bf
      · have s90 : srcE W2 J2 tl 90 91 kd ln Q := srcE_g (by decide) (by decide) f2 (srcE_90 hj'.1 o1 (gd_w gQ))
        obtain ⟨W3, J3, e3, d3, f3⟩ := p60E_167 (L := L) (R := R) (tl := tl) (by decide) gQ s90
        rw [fsC_s (fcd_1 hcd (decide_eq_true q))]
        exact ⟨W3, J3, true, st0 _ (ev_f (by decide) (ev_b (rdR rfl) (ev_b (rdR rfl) (ev_b (rdR rfl) (ev_i rfl (ev_cL e2 (ev_f (fun u => lc.mp u q) (ev_b (rdR rfl) (ev_b (rdR rfl) (ev_b (rdR rfl) (ev_i rfl (ev_cV e3 rfl)))))))))))), keep_t kf (keep_t kg (keep_167 f3)), ⟨fun _ => rfl, fun _ => rfl⟩, d3⟩
      · obtain ⟨W', J', b', e', k', i', h'⟩ := ih (c + 1) K W2 J2 (by omega) (by omega) hs2 hj2 (holdE_c (fun j => f2.1 167 j (by decide) (by omega)) (f2.2.2.1 168 (by decide) (by decide) (by decide)) h167')
        rw [fsC_n (fcd_2 hcd (decide_eq_false q))]
        refine ⟨W', J', b', st0 _ (ev_f (by decide) (ev_b (rdR rfl) (ev_b (rdR rfl) (ev_b (rdR rfl) (ev_i rfl (ev_cL e2 (ev_t (lc.mpr q) ?_))))))), keep_t kf (keep_t kg k'), i', h'⟩
        apply hd_303_86
        rw [nI_1]
        exact e'
