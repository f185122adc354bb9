/-! ===== edits: the reference goes through them ===== -/
theorem hd_439_274 {N : Nat} {x0 : Value} {h : am_H} {r_ : Option am_O} (k_ : ((am_vI (am_pG 3166 x0 h)).bind fun v1 => some (.inl (some (.int v1), h))) = r_) : fg_439_274 N x0 h = r_ := k_
theorem hd_439_270 {N : Nat} {x0 : Value} {h : am_H} {r_ : Option am_O} (k_ : (if am_pOk 12 x0 h then am_cV true (fm_468 N x0 h) (fun h3 => (fg_439_274 N x0 h3)) else none) = r_) : fg_439_270 N x0 h = r_ := k_
theorem hd_439_172 {N : Nat} {x0 : Value} {h : am_H} {r_ : Option am_O} (k_ : (if am_pOk 12 x0 h then am_cV true (fm_440 N x0 h) (fun h3 => (fg_439_274 N x0 h3)) else none) = r_) : fg_439_172 N x0 h = r_ := k_
theorem hd_439_0 {N : Nat} {x0 : Value} {x1 : Int32} {x2 : Int32} {h : am_H} {r_ : Option am_O} (k_ : ((am_pP 3165 x0 (.int x2) h).bind fun h1 => ((am_pP 3166 x0 (.int 0) h1).bind fun h3 => ((am_pP 3167 x0 (.int 0) h3).bind fun h5 => ((am_vI (am_pG 3092 x0 h5)).bind fun v7 => (if ((10 * v7) + x1) = 0 then (fg_439_172 N x0 h5) else (if ((10 * v7) + x1) = 1 then (if am_pOk 12 x0 h5 then am_cV true (fm_447 N x0 h5) (fun h13 => (fg_439_274 N x0 h13)) else none) else (if ((10 * v7) + x1) = 2 then (if am_pOk 12 x0 h5 then am_cV true (fm_449 N x0 h5) (fun h18 => (fg_439_274 N x0 h18)) else none) else (if ((10 * v7) + x1) = 3 then (if am_pOk 12 x0 h5 then am_cV true (fm_452 N x0 h5) (fun h23 => (fg_439_274 N x0 h23)) else none) else (if ((10 * v7) + x1) = 10 then (fg_439_172 N x0 h5) else (if ((10 * v7) + x1) = 11 then (if am_pOk 12 x0 h5 then am_cV true (fm_453 N x0 h5) (fun h29 => (fg_439_274 N x0 h29)) else none) else (if ((10 * v7) + x1) = 12 then (if am_pOk 12 x0 h5 then am_cV true (fm_455 N x0 h5) (fun h34 => (fg_439_274 N x0 h34)) else none) else (if ((10 * v7) + x1) = 13 then (if am_pOk 12 x0 h5 then am_cV true (fm_457 N x0 h5) (fun h39 => (fg_439_274 N x0 h39)) else none) else (if ((10 * v7) + x1) = 20 then (if am_pOk 12 x0 h5 then am_cV true (fm_460 N x0 h5) (fun h44 => (fg_439_274 N x0 h44)) else none) else (if ((10 * v7) + x1) = 21 then (if am_pOk 12 x0 h5 then am_cV true (fm_462 N x0 h5) (fun h49 => (fg_439_274 N x0 h49)) else none) else (if ((10 * v7) + x1) = 22 then (if am_pOk 12 x0 h5 then am_cV true (fm_463 N x0 h5) (fun h54 => (fg_439_274 N x0 h54)) else none) else (if ((10 * v7) + x1) = 23 then (if am_pOk 12 x0 h5 then am_cV true (fm_464 N x0 h5) (fun h59 => (fg_439_274 N x0 h59)) else none) else (if ((10 * v7) + x1) = 30 then (if am_pOk 12 x0 h5 then am_cV true (fm_465 N x0 h5) (fun h64 => (fg_439_274 N x0 h64)) else none) else (if ((10 * v7) + x1) = 31 then (if am_pOk 12 x0 h5 then am_cV true (fm_466 N x0 h5) (fun h69 => (fg_439_274 N x0 h69)) else none) else (if ((10 * v7) + x1) = 32 then (if am_pOk 12 x0 h5 then am_cV true (fm_467 N x0 h5) (fun h74 => (fg_439_274 N x0 h74)) else none) else (fg_439_270 N x0 h5)))))))))))))))))))) = r_) : fg_439_0 N x0 x1 x2 h = r_ := k_
theorem hm_439 {N : Nat} {y0 : Value} {y1 : Int32} {y2 : Int32} {h : am_H} {r_ : Option am_O} (k_ : fg_439_0 N y0 y1 y2 h = r_) : fm_439 N y0 y1 y2 h = r_ := k_
theorem gd_frm {kd ln : Nat} {P : xI} (h : gdP kd ln P) : frm kd P ∧ sndB kd P = true := by
  obtain ⟨g1, g2, g3, g4, g5, g6⟩ := h
  rcases (by omega : kd = 0 ∨ kd = 1 ∨ kd = 2 ∨ kd = 3) with rfl | rfl | rfl | rfl
  · obtain ⟨-, ho, et⟩ := g3 rfl
    refine ⟨⟨by omega, by omega, fun _ => ⟨uTx P, et.symm, okP_20b ho, okF_F _ _ ho.1⟩, fun e => absurd e (by decide)⟩, ?_⟩
    have := (snd_0 (okP_20b ho)).mpr ⟨by rw [uTx_len]; exact g2, ho.1⟩
    rw [et] at this
    exact this
  · obtain ⟨-, l1, hoI, -, -, g, hg⟩ := g4 rfl
    exact ⟨⟨by omega, by omega, fun e => absurd e (by decide), fun _ => ⟨hoI, by omega⟩⟩, snd_1.mpr ⟨⟨l1, g2⟩, by rw [hg]; rfl⟩⟩
  · obtain ⟨-, l1, ho⟩ := g5 rfl
    exact ⟨fr_2 g2, decide_eq_true ⟨l1, ho.1⟩⟩
  · obtain ⟨-, -, h40, -⟩ := g6 rfl
    exact ⟨fr_3 (by omega), decide_eq_true h40⟩
def vSo (V : Nat → Nat → Value) (so : Int32) : Nat → Nat → Value := vup (vup (vup V 174 93 (.int so)) 174 94 (.int 0)) 174 95 (.int 0)
theorem vSo_o {V : Nat → Nat → Value} {so : Int32} {a j : Nat} (h : ¬ (a = 174 ∧ (j = 93 ∨ j = 94 ∨ j = 95))) : vSo V so a j = V a j := by
  unfold vSo
  rw [vup_o (fun e => h ⟨e.1, .inr (.inr e.2)⟩), vup_o (fun e => h ⟨e.1, .inr (.inl e.2)⟩), vup_o (fun e => h ⟨e.1, .inl e.2⟩)]
theorem vSo_w {V : Nat → Nat → Value} {so : Int32} (h : wt V) : wt (vSo V so) := wt_i (wt_i (wt_i h (by decide)) (by decide)) (by decide)
theorem scS_0 {V : Nat → Nat → Value} {I : Nat → Nat → Int32} {cd : Nat → Option xI} {so : Int32} : scS (vSo V so) I cd so 0 (vSo V so) I := ⟨⟨fun _ _ _ => rfl, fun _ _ _ _ _ _ _ => rfl, id⟩, rfl, rfl, fun i _ _ => Nat.zero_le i⟩
theorem outS_94 {V0 : Nat → Nat → Value} {I0 : Nat → Nat → Int32} {cd : Nat → Option xI} {so nt : Int32} {m kd : Nat} {W : Nat → Nat → Value} {J : Nat → Nat → Int32} (hw : wt V0) (h : outS V0 I0 cd so m kd nt W J) : ∃ x, W 174 94 = .int x := by
  have hw : wt W := by
    rcases h with h | h
    · exact h.1.2.2 hw
    · exact h.1.2.2 hw
  exact hw.1 174 94 (by decide)
theorem cnt_none {cd : Nat → Option xI} (h : ∀ c, cd c = none) : ∀ m c, cnt cd m c = 0 := by
  intro m
  induction m with
  | zero => intro c; rfl
  | succ m ih => intro c; rw [cnt_s2, h c, ih]; rfl
set_option maxRecDepth 100000 in
set_option maxHeartbeats 4000000 in
theorem all_r {V : Nat → Nat → Value} {I : Nat → Nat → Int32} {L : Nat → Nat → Int64} {R : Nat → Nat → Option Nat} {tl : am_H} {N kd ln w : Nat} {P : xI} {so : Int32} (hN : 400 < N) (hg : gdP kd ln P) (hw : w < 4) (h20 : V 174 20 = .int (nI kd)) (h19 : V 174 19 = .int (nI ln)) (hds : dsA V I P) (hsp : kd = 0 → ∀ k, k < P.length → I 192 k = nI (xE (uTx P) k - k)) (wv : wt V) : ∃ W J x, fm_439 N (.ref 174) (nI w) so (fx V I L R ++ tl) = some (.inl (some (.int x), fx W J L R ++ tl)) ∧ outS (vSo V so) I (cdE kd ln P w) so (ncE kd ln P.length w) kd (nI ln) W J ∧ W 174 94 = .int x := by
  obtain ⟨hf, hsd⟩ := gd_frm hg
  have g2 := hg.2.1
  have k3 := hg.1
  have h20' : vSo V so 174 20 = .int (nI kd) := h20
  have cx : ctxR (vSo V so) I kd (nI ln) so P := ⟨h20, h19, hds, rfl, g2⟩
  have wS : wt (vSo V so) := vSo_w wv
  have st0 : ∀ o, (fun (r : Int32) => (if r = 0 then (fg_439_172 N (.ref 174) (fx (vSo V so) I L R ++ tl)) else (if r = 1 then (if am_pOk 12 (.ref 174) (fx (vSo V so) I L R ++ tl) then am_cV true (fm_447 N (.ref 174) (fx (vSo V so) I L R ++ tl)) (fun h13 => (fg_439_274 N (.ref 174) h13)) else none) else (if r = 2 then (if am_pOk 12 (.ref 174) (fx (vSo V so) I L R ++ tl) then am_cV true (fm_449 N (.ref 174) (fx (vSo V so) I L R ++ tl)) (fun h13 => (fg_439_274 N (.ref 174) h13)) else none) else (if r = 3 then (if am_pOk 12 (.ref 174) (fx (vSo V so) I L R ++ tl) then am_cV true (fm_452 N (.ref 174) (fx (vSo V so) I L R ++ tl)) (fun h13 => (fg_439_274 N (.ref 174) h13)) else none) else (if r = 10 then (fg_439_172 N (.ref 174) (fx (vSo V so) I L R ++ tl)) else (if r = 11 then (if am_pOk 12 (.ref 174) (fx (vSo V so) I L R ++ tl) then am_cV true (fm_453 N (.ref 174) (fx (vSo V so) I L R ++ tl)) (fun h13 => (fg_439_274 N (.ref 174) h13)) else none) else (if r = 12 then (if am_pOk 12 (.ref 174) (fx (vSo V so) I L R ++ tl) then am_cV true (fm_455 N (.ref 174) (fx (vSo V so) I L R ++ tl)) (fun h13 => (fg_439_274 N (.ref 174) h13)) else none) else (if r = 13 then (if am_pOk 12 (.ref 174) (fx (vSo V so) I L R ++ tl) then am_cV true (fm_457 N (.ref 174) (fx (vSo V so) I L R ++ tl)) (fun h13 => (fg_439_274 N (.ref 174) h13)) else none) else (if r = 20 then (if am_pOk 12 (.ref 174) (fx (vSo V so) I L R ++ tl) then am_cV true (fm_460 N (.ref 174) (fx (vSo V so) I L R ++ tl)) (fun h13 => (fg_439_274 N (.ref 174) h13)) else none) else (if r = 21 then (if am_pOk 12 (.ref 174) (fx (vSo V so) I L R ++ tl) then am_cV true (fm_462 N (.ref 174) (fx (vSo V so) I L R ++ tl)) (fun h13 => (fg_439_274 N (.ref 174) h13)) else none) else (if r = 22 then (if am_pOk 12 (.ref 174) (fx (vSo V so) I L R ++ tl) then am_cV true (fm_463 N (.ref 174) (fx (vSo V so) I L R ++ tl)) (fun h13 => (fg_439_274 N (.ref 174) h13)) else none) else (if r = 23 then (if am_pOk 12 (.ref 174) (fx (vSo V so) I L R ++ tl) then am_cV true (fm_464 N (.ref 174) (fx (vSo V so) I L R ++ tl)) (fun h13 => (fg_439_274 N (.ref 174) h13)) else none) else (if r = 30 then (if am_pOk 12 (.ref 174) (fx (vSo V so) I L R ++ tl) then am_cV true (fm_465 N (.ref 174) (fx (vSo V so) I L R ++ tl)) (fun h13 => (fg_439_274 N (.ref 174) h13)) else none) else (if r = 31 then (if am_pOk 12 (.ref 174) (fx (vSo V so) I L R ++ tl) then am_cV true (fm_466 N (.ref 174) (fx (vSo V so) I L R ++ tl)) (fun h13 => (fg_439_274 N (.ref 174) h13)) else none) else (if r = 32 then (if am_pOk 12 (.ref 174) (fx (vSo V so) I L R ++ tl) then am_cV true (fm_467 N (.ref 174) (fx (vSo V so) I L R ++ tl)) (fun h13 => (fg_439_274 N (.ref 174) h13)) else none) else (fg_439_270 N (.ref 174) (fx (vSo V so) I L R ++ tl)))))))))))))))))) (10 * nI kd + nI w) = o → fm_439 N (.ref 174) (nI w) so (fx V I L R ++ tl) = o := fun o e => by
    apply hm_439
    apply hd_439_0
    exact ev_b qp_174_93 (ev_b qp_174_94 (ev_b (qp_174_95 rfl) (ev_b (rdI h20') e)))
  rcases (by omega : kd = 0 ∨ kd = 1 ∨ kd = 2 ∨ kd = 3) with rfl | rfl | rfl | rfl
  · obtain ⟨-, ho, et⟩ := hg.2.2.1 rfl
    have lu := uTx_len (P := P)
    have cx2 : ctxR (vSo V so) I 0 (nI ln) so (tI (uTx P)) := by rw [et]; exact cx
    have cxt : ctxT (vSo V so) I (nI ln) so (uTx P) := ⟨cx2, fun k hk => hsp rfl k (by rw [← lu]; exact hk), okP_20b ho, okF_F _ _ ho.1⟩
    rcases (by omega : w = 0 ∨ w = 1 ∨ w = 2 ∨ w = 3) with rfl | rfl | rfl | rfl
    · obtain ⟨W, J, e, o⟩ := r_440 (L := L) (R := R) (tl := tl) (N := N) (cd := cdE 0 ln P 0) hN cx (fun k b hk hb => by
        show cd00 P (5 * k + b) = _
        unfold cd00
        rw [show (5 * k + b) / 5 = k by omega, show (5 * k + b) % 5 = b by omega]
        by_cases q : srt P k = 0
        · rw [if_pos q, if_pos q]
          by_cases q2 : ndg b (vlu P k) ≠ vlu P k ∧ ¬ ndg b (vlu P k) < -99 ∧ ¬ 99 < ndg b (vlu P k)
          · rw [if_pos q2, (set_0 hf hsd (by decide) hk q).2, if_pos (show ndO2 b (vlu P k) = true from decide_eq_true q2), q]
          · rw [if_neg q2, if_neg (show ¬ ndO2 b (vlu P k) = true from fun e => q2 (of_decide_eq_true e))]
        · rw [if_neg q, if_neg q]) (fun k x hk q => (set_0 hf hsd (by decide) hk q).1) scS_0
      obtain ⟨x, hx⟩ := outS_94 wS o
      exact ⟨W, J, x, st0 _ (ev_t rfl (hd_439_172 (ev_i rfl (ev_cV e (hd_439_274 (ev_b (rdI hx) rfl)))))), o, hx⟩
    · obtain ⟨W, J, e, o⟩ := r_447 (L := L) (R := R) (tl := tl) (N := N) (cd := cdE 0 ln P 1) hN cx2 (okP_20b ho) (okF_F _ _ ho.1) (fun c => by rw [et]; rfl) scS_0
      rw [lu] at o
      obtain ⟨x, hx⟩ := outS_94 wS o
      exact ⟨W, J, x, st0 _ (ev_f (by decide) (ev_t rfl (ev_i rfl (ev_cV e (hd_439_274 (ev_b (rdI hx) rfl)))))), o, hx⟩
    · obtain ⟨W, J, e, o⟩ := r_449 (L := L) (R := R) (tl := tl) (N := N) (cd := cdE 0 ln P 2) hN cxt (fun c => by rw [et]; rfl) scS_0
      rw [lu] at o
      obtain ⟨x, hx⟩ := outS_94 wS o
      exact ⟨W, J, x, st0 _ (ev_f (by decide) (ev_f (by decide) (ev_t rfl (ev_i rfl (ev_cV e (hd_439_274 (ev_b (rdI hx) rfl))))))), o, hx⟩
    · obtain ⟨W, J, e, o⟩ := r_452 (L := L) (R := R) (tl := tl) (N := N) (cd := cdE 0 ln P 3) hN cxt (fun c => by rw [et]; rfl) scS_0
      rw [lu] at o
      obtain ⟨x, hx⟩ := outS_94 wS o
      exact ⟨W, J, x, st0 _ (ev_f (by decide) (ev_f (by decide) (ev_f (by decide) (ev_t rfl (ev_i rfl (ev_cV e (hd_439_274 (ev_b (rdI hx) rfl)))))))), o, hx⟩
  · obtain ⟨l0, l1, hoI, hv, hj, hX⟩ := hg.2.2.2.1 rfl
    have lu := uTx_len (P := P)
    have et : tI (uTx P) = P := uTx_t (fun k hk => (hoI k hk).1)
    have cx2 : ctxR (vSo V so) I 1 (nI ln) so (tI (uTx P)) := by rw [et]; exact cx
    rcases (by omega : w = 0 ∨ w = 1 ∨ w = 2 ∨ w = 3) with rfl | rfl | rfl | rfl
    · obtain ⟨W, J, e, o⟩ := r_440 (L := L) (R := R) (tl := tl) (N := N) (cd := cdE 1 ln P 0) hN cx (fun k b hk hb => by
        show cd00 P (5 * k + b) = _
        unfold cd00
        rw [show (5 * k + b) / 5 = k by omega, show (5 * k + b) % 5 = b by omega]
        by_cases q : srt P k = 0
        · rw [if_pos q, if_pos q]
          by_cases q2 : ndg b (vlu P k) ≠ vlu P k ∧ ¬ ndg b (vlu P k) < -99 ∧ ¬ 99 < ndg b (vlu P k)
          · rw [if_pos q2, (set_0 hf hsd (by decide) hk q).2, if_pos (show ndO2 b (vlu P k) = true from decide_eq_true q2), q]
          · rw [if_neg q2, if_neg (show ¬ ndO2 b (vlu P k) = true from fun e => q2 (of_decide_eq_true e))]
        · rw [if_neg q, if_neg q]) (fun k x hk q => (set_0 hf hsd (by decide) hk q).1) scS_0
      obtain ⟨x, hx⟩ := outS_94 wS o
      exact ⟨W, J, x, st0 _ (ev_f (by decide) (ev_f (by decide) (ev_f (by decide) (ev_f (by decide) (ev_t rfl (hd_439_172 (ev_i rfl (ev_cV e (hd_439_274 (ev_b (rdI hx) rfl)))))))))), o, hx⟩
    · obtain ⟨W, J, e, o⟩ := r_453 (L := L) (R := R) (tl := tl) (N := N) (cd := cdE 1 ln P 1) hN cx2 (fun k hk => by rw [uTx_s.1]; exact (hoI k (by omega)).2.1) (by rw [et]; exact hf) (by rw [et]; exact hsd) (fun c => by rw [et]; rfl) scS_0
      rw [lu] at o
      obtain ⟨x, hx⟩ := outS_94 wS o
      exact ⟨W, J, x, st0 _ (ev_f (by decide) (ev_f (by decide) (ev_f (by decide) (ev_f (by decide) (ev_f (by decide) (ev_t rfl (ev_i rfl (ev_cV e (hd_439_274 (ev_b (rdI hx) rfl)))))))))), o, hx⟩
    · obtain ⟨W, J, e, o⟩ := r_455 (L := L) (R := R) (tl := tl) (N := N) (cd := cdE 1 ln P 2) hN cx hoI (fun c => rfl) scS_0
      obtain ⟨x, hx⟩ := outS_94 wS o
      exact ⟨W, J, x, st0 _ (ev_f (by decide) (ev_f (by decide) (ev_f (by decide) (ev_f (by decide) (ev_f (by decide) (ev_f (by decide) (ev_t rfl (ev_i rfl (ev_cV e (hd_439_274 (ev_b (rdI hx) rfl))))))))))), o, hx⟩
    · obtain ⟨W, J, e, o⟩ := r_457 (L := L) (R := R) (tl := tl) (N := N) (cd := cdE 1 ln P 3) hN cx hoI hj (fun c => rfl) scS_0
      obtain ⟨x, hx⟩ := outS_94 wS o
      exact ⟨W, J, x, st0 _ (ev_f (by decide) (ev_f (by decide) (ev_f (by decide) (ev_f (by decide) (ev_f (by decide) (ev_f (by decide) (ev_f (by decide) (ev_t rfl (ev_i rfl (ev_cV e (hd_439_274 (ev_b (rdI hx) rfl)))))))))))), o, hx⟩
  · obtain ⟨l0, l1, ho⟩ := hg.2.2.2.2.1 rfl
    rcases (by omega : w = 0 ∨ w = 1 ∨ w = 2 ∨ w = 3) with rfl | rfl | rfl | rfl
    · obtain ⟨W, J, e, o⟩ := r_460 (L := L) (R := R) (tl := tl) (N := N) (cd := cdE 2 ln P 0) hN cx (fun k b hk hb => by
        show cd20 P (5 * k + b) = _
        unfold cd20
        rw [show (5 * k + b) / 5 = k by omega, show (5 * k + b) % 5 = b by omega]
        by_cases q2 : ndg b (srt P k) ≠ srt P k ∧ ¬ ndg b (srt P k) < -99 ∧ ¬ 99 < ndg b (srt P k)
        · have s2 : sndB 2 (P.set k (ndg b (srt P k), vlu P k)) = true := decide_eq_true (by rw [List.length_set]; exact ⟨l1, ho.1⟩)
          rw [if_pos q2, if_pos (show ndO2 b (srt P k) = true from decide_eq_true q2)]
          unfold gS2
          rw [s2]
          rfl
        · rw [if_neg q2, if_neg (show ¬ ndO2 b (srt P k) = true from fun e => q2 (of_decide_eq_true e))]) (fun k x hk => fr_2 (by rw [List.length_set]; exact g2)) scS_0
      obtain ⟨x, hx⟩ := outS_94 wS o
      exact ⟨W, J, x, st0 _ (ev_f (by decide) (ev_f (by decide) (ev_f (by decide) (ev_f (by decide) (ev_f (by decide) (ev_f (by decide) (ev_f (by decide) (ev_f (by decide) (ev_t rfl (ev_i rfl (ev_cV e (hd_439_274 (ev_b (rdI hx) rfl))))))))))))), o, hx⟩
    · obtain ⟨W, J, e, o⟩ := r_462 (L := L) (R := R) (tl := tl) (N := N) (cd := cdE 2 ln P 1) hN cx ⟨l1, ho.1⟩ (fun c => rfl) scS_0
      obtain ⟨x, hx⟩ := outS_94 wS o
      exact ⟨W, J, x, st0 _ (ev_f (by decide) (ev_f (by decide) (ev_f (by decide) (ev_f (by decide) (ev_f (by decide) (ev_f (by decide) (ev_f (by decide) (ev_f (by decide) (ev_f (by decide) (ev_t rfl (ev_i rfl (ev_cV e (hd_439_274 (ev_b (rdI hx) rfl)))))))))))))), o, hx⟩
    · by_cases q : P.length < 6
      · obtain ⟨W, J, e, o⟩ := r_463 (L := L) (R := R) (tl := tl) (N := N) (cd := cdE 2 ln P 2) hN cx ⟨l1, q⟩ (fun k s hk hs => by
          obtain ⟨a, a1, a2⟩ := okM_e ho (e := 4 * k + s) (by omega)
          unfold edg0 at a2
          rw [show (4 * k + s) / 4 = k by omega, show (4 * k + s) % 4 = s by omega] at a2
          exact ⟨a, a1, a2⟩) (fun c => rfl) scS_0
        obtain ⟨x, hx⟩ := outS_94 wS o
        refine ⟨W, J, x, st0 _ (ev_f (by decide) (ev_f (by decide) (ev_f (by decide) (ev_f (by decide) (ev_f (by decide) (ev_f (by decide) (ev_f (by decide) (ev_f (by decide) (ev_f (by decide) (ev_f (by decide) (ev_t rfl (ev_i rfl (ev_cV e (hd_439_274 (ev_b (rdI hx) rfl))))))))))))))), ?_, hx⟩
        show outS _ _ _ _ (if P.length < 6 then 4 * P.length else 0) _ _ _ _
        rw [if_pos q]
        exact o
      · have e := r_463n (L := L) (R := R) (tl := tl) (N := N) (cd := cdE 2 ln P 2) hN cx (by omega) scS_0
        have hx : vSo V so 174 94 = .int 0 := rfl
        refine ⟨_, _, 0, st0 _ (ev_f (by decide) (ev_f (by decide) (ev_f (by decide) (ev_f (by decide) (ev_f (by decide) (ev_f (by decide) (ev_f (by decide) (ev_f (by decide) (ev_f (by decide) (ev_f (by decide) (ev_t rfl (ev_i rfl (ev_cV e (hd_439_274 (ev_b (rdI hx) rfl))))))))))))))), .inr ?_, hx⟩
        show scS _ _ _ _ (if P.length < 6 then 4 * P.length else 0) _ _
        rw [if_neg q]
        exact scS_0
    · obtain ⟨W, J, e, o⟩ := r_464 (L := L) (R := R) (tl := tl) (N := N) (cd := cdE 2 ln P 3) hN cx ⟨l1, ho.1⟩ (fun c => rfl) scS_0
      obtain ⟨x, hx⟩ := outS_94 wS o
      exact ⟨W, J, x, st0 _ (ev_f (by decide) (ev_f (by decide) (ev_f (by decide) (ev_f (by decide) (ev_f (by decide) (ev_f (by decide) (ev_f (by decide) (ev_f (by decide) (ev_f (by decide) (ev_f (by decide) (ev_f (by decide) (ev_t rfl (ev_i rfl (ev_cV e (hd_439_274 (ev_b (rdI hx) rfl)))))))))))))))), o, hx⟩
  · obtain ⟨l2, l8, h40, hv⟩ := hg.2.2.2.2.2 rfl
    rcases (by omega : w = 0 ∨ w = 1 ∨ w = 2 ∨ w = 3) with rfl | rfl | rfl | rfl
    · obtain ⟨W, J, e, o⟩ := r_465 (L := L) (R := R) (tl := tl) (N := N) (cd := cdE 3 ln P 0) hN cx rfl ⟨l2, l8⟩ h40 (fun c => rfl) scS_0
      rw [Nat.mul_comm] at o
      obtain ⟨x, hx⟩ := outS_94 wS o
      exact ⟨W, J, x, st0 _ (ev_f (by decide) (ev_f (by decide) (ev_f (by decide) (ev_f (by decide) (ev_f (by decide) (ev_f (by decide) (ev_f (by decide) (ev_f (by decide) (ev_f (by decide) (ev_f (by decide) (ev_f (by decide) (ev_f (by decide) (ev_t rfl (ev_i rfl (ev_cV e (hd_439_274 (ev_b (rdI hx) rfl))))))))))))))))), o, hx⟩
    · obtain ⟨W, J, e, o⟩ := r_466 (L := L) (R := R) (tl := tl) (N := N) (cd := cdE 3 ln P 1) hN cx h40 (fun c => rfl) scS_0
      rw [Nat.one_mul] at o
      obtain ⟨x, hx⟩ := outS_94 wS o
      exact ⟨W, J, x, st0 _ (ev_f (by decide) (ev_f (by decide) (ev_f (by decide) (ev_f (by decide) (ev_f (by decide) (ev_f (by decide) (ev_f (by decide) (ev_f (by decide) (ev_f (by decide) (ev_f (by decide) (ev_f (by decide) (ev_f (by decide) (ev_f (by decide) (ev_t rfl (ev_i rfl (ev_cV e (hd_439_274 (ev_b (rdI hx) rfl)))))))))))))))))), o, hx⟩
    · by_cases q : P.length < 40
      · obtain ⟨W, J, e, o⟩ := r_467 (L := L) (R := R) (tl := tl) (N := N) (cd := cdE 3 ln P 2) hN cx rfl ⟨l2, l8⟩ h40 (fun c => by
          have s3 : ∀ X : xI, sndB 3 X = decide (X.length ≤ 40) := fun X => rfl
          show cd32 ln P c = _
          unfold cd32 gS2
          rw [s3, if_pos (decide_eq_true (by rw [List.length_append, List.length_cons, List.length_take, List.length_drop]; omega))]) scS_0
        rw [Nat.mul_comm] at o
        obtain ⟨x, hx⟩ := outS_94 wS o
        refine ⟨W, J, x, st0 _ (ev_f (by decide) (ev_f (by decide) (ev_f (by decide) (ev_f (by decide) (ev_f (by decide) (ev_f (by decide) (ev_f (by decide) (ev_f (by decide) (ev_f (by decide) (ev_f (by decide) (ev_f (by decide) (ev_f (by decide) (ev_f (by decide) (ev_f (by decide) (ev_t rfl (ev_i rfl (ev_cV e (hd_439_274 (ev_b (rdI hx) rfl))))))))))))))))))), ?_, hx⟩
        show outS _ _ _ _ (if P.length < 40 then (P.length + 1) * acr ln else 0) _ _ _ _
        rw [if_pos q]
        exact o
      · have a1 := acr_1 ln l8 l2
        obtain ⟨W, J, e, o⟩ := r_467 (L := L) (R := R) (tl := tl) (N := N) (cd := fun c => gS2 3 (P.take (c / acr ln) ++ (cmpI ln (c % acr ln) :: P.drop (c / acr ln)))) hN cx rfl ⟨l2, l8⟩ h40 (fun c => rfl) scS_0
        have nn : ∀ c, gS2 3 (P.take (c / acr ln) ++ (cmpI ln (c % acr ln) :: P.drop (c / acr ln))) = none := fun c => by
          have s3 : ∀ X : xI, sndB 3 X = decide (X.length ≤ 40) := fun X => rfl
          unfold gS2
          rw [s3, if_neg (fun e => by have := of_decide_eq_true e; rw [List.length_append, List.length_cons, List.length_take, List.length_drop] at this; omega)]
        obtain ⟨x, hx⟩ := outS_94 wS o
        refine ⟨W, J, x, st0 _ (ev_f (by decide) (ev_f (by decide) (ev_f (by decide) (ev_f (by decide) (ev_f (by decide) (ev_f (by decide) (ev_f (by decide) (ev_f (by decide) (ev_f (by decide) (ev_f (by decide) (ev_f (by decide) (ev_f (by decide) (ev_f (by decide) (ev_f (by decide) (ev_t rfl (ev_i rfl (ev_cV e (hd_439_274 (ev_b (rdI hx) rfl))))))))))))))))))), ?_, hx⟩
        show outS _ _ _ _ (if P.length < 40 then (P.length + 1) * acr ln else 0) _ _ _ _
        rw [if_neg q]
        rcases o with ⟨o1, o2, c, Q, c1, c2, c3⟩ | ⟨o1, o2, o3, o4⟩
        · exact absurd ((nn c).symm.trans c2) (by simp)
        · rw [cnt_none nn] at o2
          exact .inr ⟨o1, o2, o3, fun i _ _ => Nat.zero_le i⟩
    · obtain ⟨W, J, e, o⟩ := r_468 (L := L) (R := R) (tl := tl) (N := N) (cd := cdE 3 ln P 3) hN cx h40 (fun c => rfl) scS_0
      rw [Nat.one_mul] at o
      obtain ⟨x, hx⟩ := outS_94 wS o
      exact ⟨W, J, x, st0 _ (ev_f (by decide) (ev_f (by decide) (ev_f (by decide) (ev_f (by decide) (ev_f (by decide) (ev_f (by decide) (ev_f (by decide) (ev_f (by decide) (ev_f (by decide) (ev_f (by decide) (ev_f (by decide) (ev_f (by decide) (ev_f (by decide) (ev_f (by decide) (ev_f (by decide) (hd_439_270 (ev_i rfl (ev_cV e (hd_439_274 (ev_b (rdI hx) rfl)))))))))))))))))))), o, hx⟩
