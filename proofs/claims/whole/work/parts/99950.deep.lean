/-! ===== how deep a tree is, in the class ===== -/
theorem hd_75_28 {N : Nat} {s0 : Int32} {h : am_H} {r_ : Option am_O} (k_ : some (.inl (some (.int s0), h)) = r_) : fg_75_28 N s0 h = r_ := k_
theorem hd_75_0 {N : Nat} {x0 : Value} {x1 : Value} {h : am_H} {r_ : Option am_O} (k_ : ((am_vR (am_pG 2560 x0 h)).bind fun v1 => (if am_pOk 7 v1 h then am_cV true (fm_76 N v1 x1 h) (fun h5 => ((am_vI (am_pG 771 x1 h5)).bind fun v7 => (if v7 ≤ 0 then (fg_75_28 N 0 h5) else ((am_vR (am_pG 2560 x0 h5)).bind fun v10 => ((am_vR (am_pG 1794 v10 h5)).bind fun v12 => ((am_pA 0 v12 0 h5).bind fun v14 => (fg_75_28 N v14 h5))))))) else none)) = r_) : fg_75_0 N x0 x1 h = r_ := k_
theorem hm_75 {N : Nat} {y0 : Value} {y1 : Value} {h : am_H} {r_ : Option am_O} (k_ : fg_75_0 N y0 y1 h = r_) : fm_75 N y0 y1 h = r_ := k_

theorem okW_20 : ∀ (l : List (Nat × Nat)) (st : List (Nat × Nat × Nat)), okW st l → ∀ x, x ∈ l → x.1 ≤ 20 := by
  intro l
  induction l with
  | nil => intro st _ x hx; cases hx
  | cons y l ih =>
    intro st ho x hx
    cases st with
    | nil => exact absurd ho id
    | cons c st =>
      cases hx with
      | head => exact ho.1
      | tail _ hx => exact ih _ ho.2.2.2.2.2 x hx
set_option maxRecDepth 100000 in
set_option maxHeartbeats 4000000 in
theorem s75 {V : Nat → Nat → Value} {I : Nat → Nat → Int32} {L : Nat → Nat → Int64} {R : Nat → Nat → Option Nat} {tl : am_H} {N A it : Nat} {S : xT} (hN : 400 < N) (hs : srcP V I tl A it 0 0 S) (hA : A ≠ 132) (hit : it < 132 ∨ 132 + 7 < it) (ho : okW [(0, 1, 0)] (sl S)) (h0 : 0 < S.length) : ∃ J, fm_75 N (.ref 131) (.ref A) (fx V I L R ++ tl) = some (.inl (some (.int (nI (tlL (sl S) 0))), fx (vup V 132 7 (.int (nI S.length))) J L R ++ tl)) ∧ (∀ y, y < 132 + 1 ∨ 132 + 6 < y → J y = I y) := by
  obtain ⟨m, f, p1, p2, p3, p4, p5, p6, p7⟩ := id hs
  rw [← sl_len (P := S)] at p1
  obtain ⟨J, sh, fr, e⟩ := c_76_132w (L := L) (R := R) (N := N) (by omega) p1 hA hit (by rw [sl_len]; exact p3) p4 ho (by rw [sl_len]; exact p7) (fun k x r hd => by
    have hk : k < S.length := by
      have := drop_len hd
      rw [sl_len] at this
      omega
    refine ⟨?_, okW_20 _ _ ho x (List.mem_of_mem_drop (by rw [hd]; exact List.mem_cons_self ..))⟩
    rw [sl_at hk] at hd
    injection hd with h1 h2
    rw [← h1]
    exact (p2 k _ (xS_at hk)).1)
  rw [sl_len] at e
  have s2 : srcP (vup V 132 7 (.int (nI S.length))) J tl A it 0 0 S := srcP_c (fun j => vup_o (fun e => hA e.1)) (fr it (by omega)) hs
  have o2 := (src_ok (L := L) (R := R) s2).2.1
  have t0 : J 135 0 = nI (tlL (sl S) 0) := by
    have := sh 0 (by rw [sl_len]; exact h0)
    first | exact this.2.2.1 | exact this.2.1 | exact this.1
  refine ⟨J, ?_, fr⟩
  apply hm_75
  apply hd_75_0
  refine ev_b (rdR rfl) (ev_i rfl (ev_cV e (ev_b o2 (ev_f (nI_ge (a := 0) h0 (by omega)) (ev_b (rdR rfl) (ev_b (rdR rfl) (ev_b ((qa_135 (k := 0) (by omega)).trans (congrArg some t0)) ?_)))))))
  apply hd_75_28
  rfl
