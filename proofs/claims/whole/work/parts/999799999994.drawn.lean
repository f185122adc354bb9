/-! ===== drawn machines and nets ===== -/
theorem hd_203_38 {N : Nat} {rec_11 : Value → Value → Int32 → Int32 → am_H → Option am_O} {K : Nat} {x0 : Value} {x1 : Value} {x2 : Int32} {x3 : Int32} {x4 : Int32} {h : am_H} {r_ : Option am_O} (k_ : (if 4 ≤ x4 then (rec_11 x0 x1 x2 ((x3 + 1)) h) else ((am_vR (am_pG 2831 x0 h)).bind fun v2 => (if am_pOk 8 x1 h then am_cI true (fm_192 x1 x2 h) (fun v5 h6 => (if am_pOk 3 v2 h6 then am_cV true (fm_51 v2 x3 ((1 + x4)) v5 h6) (fun h10 => (fg_203_38 N rec_11 K x0 x1 x2 x3 ((x4 + 1)) h10)) else none)) else none))) = r_) : fg_203_38 N rec_11 (K + 1) x0 x1 x2 x3 x4 h = r_ := by rw [fg_203_38]; exact k_
theorem hd_203_11 {N : Nat} {K : Nat} {x0 : Value} {x1 : Value} {x2 : Int32} {x3 : Int32} {h : am_H} {r_ : Option am_O} (k_ : (if x2 ≤ x3 then some (.inl (none, h)) else ((am_vR (am_pG 2831 x0 h)).bind fun v2 => (if am_pOk 8 x1 h then am_cI true (fm_192 x1 10 h) (fun v5 h6 => (if am_pOk 8 x1 h6 then am_cI true (fm_192 x1 x2 h6) (fun v9 h10 => (if am_pOk 3 v2 h10 then am_cI true (fm_41 N v2 v5 v9 h10) (fun v13 h14 => (fg_203_38 N (fg_203_11 N K) N x0 x1 x2 x3 1 h14)) else none)) else none)) else none))) = r_) : fg_203_11 N (K + 1) x0 x1 x2 x3 h = r_ := by rw [fg_203_11]; exact k_
theorem hd_203_0 {N : Nat} {x0 : Value} {x1 : Value} {x2 : Int32} {h : am_H} {r_ : Option am_O} (k_ : ((am_vR (am_pG 2831 x0 h)).bind fun v1 => (if am_pOk 3 v1 h then am_cV true (fm_34 v1 2 0 h) (fun h5 => (fg_203_11 N N x0 x1 x2 0 h5)) else none)) = r_) : fg_203_0 N x0 x1 x2 h = r_ := k_
theorem hm_203 {N : Nat} {y0 : Value} {y1 : Value} {y2 : Int32} {h : am_H} {r_ : Option am_O} (k_ : fg_203_0 N y0 y1 y2 h = r_) : fm_203 N y0 y1 y2 h = r_ := k_
theorem hd_204_11 {N : Nat} {K : Nat} {x0 : Value} {x1 : Value} {x2 : Int32} {x3 : Int32} {h : am_H} {r_ : Option am_O} (k_ : (if (2 * x2) ≤ x3 then some (.inl (none, h)) else (if am_pOk 8 x1 h then am_cI true (fm_192 x1 ((x2 - 1)) h) (fun v3 h4 => ((am_vR (am_pG 2831 x0 h4)).bind fun v6 => (if am_pOk 8 x1 h4 then am_cI true (fm_192 x1 (((x2 - 1) - v3)) h4) (fun v9 h10 => (if am_pOk 3 v6 h10 then am_cI true (fm_41 N v6 v3 (((v3 + 1) + v9)) h10) (fun v13 h14 => (fg_204_11 N K x0 x1 x2 ((x3 + 1)) h14)) else none)) else none))) else none)) = r_) : fg_204_11 N (K + 1) x0 x1 x2 x3 h = r_ := by rw [fg_204_11]; exact k_
theorem hd_204_0 {N : Nat} {x0 : Value} {x1 : Value} {x2 : Int32} {h : am_H} {r_ : Option am_O} (k_ : ((am_vR (am_pG 2831 x0 h)).bind fun v1 => (if am_pOk 3 v1 h then am_cV true (fm_34 v1 3 x2 h) (fun h5 => (fg_204_11 N N x0 x1 x2 0 h5)) else none)) = r_) : fg_204_0 N x0 x1 x2 h = r_ := k_
theorem hm_204 {N : Nat} {y0 : Value} {y1 : Value} {y2 : Int32} {h : am_H} {r_ : Option am_O} (k_ : fg_204_0 N y0 y1 y2 h = r_) : fm_204 N y0 y1 y2 h = r_ := k_
theorem hd_492_20 {N : Nat} {rec_2 : Value → Int32 → Int32 → am_H → Option am_O} {K : Nat} {x0 : Value} {x1 : Int32} {x2 : Int32} {x3 : Int32} {x4 : Int32} {x5 : Int32} {h : am_H} {r_ : Option am_O} (k_ : (if 4 ≤ x5 then (if am_pOk 12 x0 h then am_cV true (fm_335 x0 x3 x4 h) (fun h4 => (rec_2 x0 x1 ((x2 + 1)) h4)) else none) else (if am_pOk 12 x0 h then am_cI true (fm_474 x0 x1 h) (fun v7 h8 => am_cI false (fm_353 x4 x5 v7 h8) (fun v10 h11 => (fg_492_20 N rec_2 K x0 x1 x2 x3 v10 ((x5 + 1)) h11))) else none)) = r_) : fg_492_20 N rec_2 (K + 1) x0 x1 x2 x3 x4 x5 h = r_ := by rw [fg_492_20]; exact k_
theorem hd_492_2 {N : Nat} {K : Nat} {x0 : Value} {x1 : Int32} {x2 : Int32} {h : am_H} {r_ : Option am_O} (k_ : (if x1 ≤ x2 then some (.inl (none, h)) else (if am_pOk 12 x0 h then am_cI true (fm_474 x0 10 h) (fun v3 h4 => (fg_492_20 N (fg_492_2 N K) N x0 x1 x2 v3 0 0 h4)) else none)) = r_) : fg_492_2 N (K + 1) x0 x1 x2 h = r_ := by rw [fg_492_2]; exact k_
theorem hd_492_0 {N : Nat} {x0 : Value} {x1 : Int32} {h : am_H} {r_ : Option am_O} (k_ : (fg_492_2 N N x0 x1 0 h) = r_) : fg_492_0 N x0 x1 h = r_ := k_
theorem hm_492 {N : Nat} {y0 : Value} {y1 : Int32} {h : am_H} {r_ : Option am_O} (k_ : fg_492_0 N y0 y1 h = r_) : fm_492 N y0 y1 h = r_ := k_
theorem hd_493_7 {N : Nat} {K : Nat} {x0 : Value} {x1 : Int32} {x2 : Int32} {h : am_H} {r_ : Option am_O} (k_ : (if (2 * x1) ≤ x2 then some (.inl (none, h)) else (if am_pOk 12 x0 h then am_cI true (fm_474 x0 ((x1 - 1)) h) (fun v3 h4 => (if am_pOk 12 x0 h4 then am_cI true (fm_474 x0 (((x1 - 1) - v3)) h4) (fun v7 h8 => (if am_pOk 12 x0 h8 then am_cV true (fm_335 x0 v3 (((v3 + 1) + v7)) h8) (fun h12 => (fg_493_7 N K x0 x1 ((x2 + 1)) h12)) else none)) else none)) else none)) = r_) : fg_493_7 N (K + 1) x0 x1 x2 h = r_ := by rw [fg_493_7]; exact k_
theorem hd_493_0 {N : Nat} {x0 : Value} {x1 : Int32} {h : am_H} {r_ : Option am_O} (k_ : ((am_pP 3087 x0 (.int x1) h).bind fun h1 => (fg_493_7 N N x0 x1 0 h1)) = r_) : fg_493_0 N x0 x1 h = r_ := k_
theorem hm_493 {N : Nat} {y0 : Value} {y1 : Int32} {h : am_H} {r_ : Option am_O} (k_ : fg_493_0 N y0 y1 h = r_) : fm_493 N y0 y1 h = r_ := k_

def itn : Nat → Int64 → Int64
  | 0, s => s
  | j + 1, s => nxt (itn j s)
theorem itn_s {j : Nat} {s : Int64} : itn (j + 1) s = nxt (itn j s) := rfl
theorem itn_1 {s : Int64} : itn 1 s = nxt s := rfl
/-- rows upon rows, each drawn -/
def rpG (row : Int64 → Int32 × Int32) (nx : Int64 → Int64) : Nat → xI → Int64 → xI × Int64
  | 0, Q, st => (Q, st)
  | t + 1, Q, st => rpG row nx t (Q ++ [row st]) (nx st)
theorem rpG_0 {row : Int64 → Int32 × Int32} {nx : Int64 → Int64} {Q : xI} {st : Int64} : rpG row nx 0 Q st = (Q, st) := rfl
theorem rpG_1 {row : Int64 → Int32 × Int32} {nx : Int64 → Int64} {t : Nat} {Q : xI} {st : Int64} : rpG row nx (t + 1) Q st = rpG row nx t (Q ++ [row st]) (nx st) := rfl
theorem rpG_len {row : Int64 → Int32 × Int32} {nx : Int64 → Int64} : ∀ (t : Nat) (Q : xI) (st : Int64), (rpG row nx t Q st).1.length = Q.length + t := by
  intro t
  induction t with
  | zero => intro Q st; rfl
  | succ t ih =>
    intro Q st
    rw [rpG_1, ih, List.length_append]
    show Q.length + 1 + t = _
    omega
theorem rpG_all {row : Int64 → Int32 × Int32} {nx : Int64 → Int64} {P : Int32 × Int32 → Prop} (hr : ∀ st, P (row st)) : ∀ (t : Nat) (Q : xI) (st : Int64), (∀ x, x ∈ Q → P x) → ∀ x, x ∈ (rpG row nx t Q st).1 → P x := by
  intro t
  induction t with
  | zero => intro Q st h; exact h
  | succ t ih =>
    intro Q st h
    rw [rpG_1]
    refine ih _ _ (fun x hx => ?_)
    rcases List.mem_append.mp hx with q | q
    · exact h x q
    · rw [List.mem_singleton.mp q]
      exact hr st
def egM (sz : Nat) (st : Int64) (c : Nat) : Nat := drw (itn (1 + c) st) sz
def rowM (sz : Nat) (st : Int64) : Int32 × Int32 := (nI (drw st 10), nI (egM sz st 0 + 8 * egM sz st 1 + 64 * egM sz st 2 + 512 * egM sz st 3))
def cmpD (sz : Nat) (st : Int64) : Nat × Nat := (drw st (sz - 1), drw st (sz - 1) + 1 + drw (nxt st) (sz - 1 - drw st (sz - 1)))
def rowN (sz : Nat) (st : Int64) : Int32 × Int32 := (nI (cmpD sz st).1, nI (cmpD sz st).2)
def nx2 (st : Int64) : Int64 := nxt (nxt st)
theorem egM_lt {sz c : Nat} {st : Int64} (h : 1 ≤ sz) : egM sz st c < sz := drw_lt h
theorem cmpD_b {sz : Nat} {st : Int64} (h : 2 ≤ sz) : (cmpD sz st).1 < sz - 1 ∧ (cmpD sz st).1 < (cmpD sz st).2 ∧ (cmpD sz st).2 < sz := by
  unfold cmpD
  have h1 := drw_lt (st := st) (m := sz - 1) (by omega)
  have h2 := drw_lt (st := nxt st) (m := sz - 1 - drw st (sz - 1)) (by omega)
  revert h1 h2
  generalize drw (nxt st) (sz - 1 - drw st (sz - 1)) = b
  generalize drw st (sz - 1) = a
  intro h1 h2
  exact ⟨h1, by show a < a + 1 + b; omega, by show a + 1 + b < sz; omega⟩
/-- only the spare program and the stream change -/
def frDd (i : Nat) (V W : Nat → Nat → Value) (I J : Nat → Nat → Int32) : Prop := (∀ a j, a ≠ 167 → a ≠ 42 + 9 * i → W a j = V a j) ∧ (∀ y, y ≠ 168 → J y = I y) ∧ (wt V → wt W)
theorem frDd_t {i : Nat} {U V W : Nat → Nat → Value} {G I J : Nat → Nat → Int32} (f : frDd i U V G I) (g : frDd i V W I J) : frDd i U W G J := ⟨fun a j h k => (g.1 a j h k).trans (f.1 a j h k), fun y h => (g.2.1 y h).trans (f.2.1 y h), fun h => g.2.2 (f.2.2 h)⟩
theorem frDd_r {i : Nat} {V : Nat → Nat → Value} {I : Nat → Nat → Int32} : frDd i V V I I := ⟨fun _ _ _ _ => rfl, fun _ _ => rfl, id⟩
theorem frDd_1 {i : Nat} {V W : Nat → Nat → Value} {I J : Nat → Nat → Int32} (f : fr1 167 V W I J) : frDd i V W I J := ⟨fun a j h _ => f.1 a j h, fun y h => f.2.1 y h, f.2.2⟩
theorem frDd_42 {i : Nat} {V : Nat → Nat → Value} {I : Nat → Nat → Int32} {x : Int64} (hi : i < 4) : frDd i V (vup V (42 + 9 * i) 0 (.long x)) I I := ⟨fun a j _ h => vup_na h, fun _ _ => rfl, wt_42 hi⟩
/-! machines in the class -/
set_option maxRecDepth 100000 in
set_option maxHeartbeats 4000000 in
theorem sMx_34 {V : Nat → Nat → Value} {I : Nat → Nat → Int32} {L : Nat → Nat → Int64} {R : Nat → Nat → Option Nat} {tl : am_H} {G : Nat → Nat → Int32} : ∃ W J, fm_34 (.ref 167) 2 0 (fx V I L R ++ tl) = some (.inl (none, fx W J L R ++ tl)) ∧ hM W J 167 0 G ∧ fr1 167 V W I J := by
  refine ⟨_, _, p34_167 2 0, ⟨rfl, rfl, rfl, rfl, fun k w hk => absurd hk (Nat.not_lt_zero _)⟩, ?_⟩
  exact fr1_t (fr1_v (by decide)) (fr1_t (fr1_v (by decide)) (fr1_t (fr1_v (by decide)) (fr1_v (by decide))))
set_option maxRecDepth 100000 in
set_option maxHeartbeats 4000000 in
theorem sMx_51 {V : Nat → Nat → Value} {I : Nat → Nat → Int32} {L : Nat → Nat → Int64} {R : Nat → Nat → Option Nat} {tl : am_H} {z i j : Nat} {G : Nat → Nat → Int32} {v : Int32} (h : hM V I 167 z G) (hi : i < z) (hj : j < 5) (hz : z ≤ 10) : ∃ J, fm_51 (.ref 167) (nI i) (nI j) v (fx V I L R ++ tl) = some (.inl (none, fx V J L R ++ tl)) ∧ hM V J 167 z (fun k w => if k = i ∧ w = j then v else G k w) ∧ fr1 167 V V I J := by
  obtain ⟨h1, h2, h3, h4, h5⟩ := h
  refine ⟨iup I 168 (upd (I 168) (i * 5 + j) v), ?_, ⟨h1, h2, h3, h4, fun k w hk hw => ?_⟩, fr1_i⟩
  · unfold fm_51 fg_51_0
    refine ev_f (nI_pos (by omega)) (ev_b (rdI h3) (ev_f (nI_ge hi (by omega)) (ev_f (nI_pos (by omega)) (ev_b (rdI h4) (ev_f (nI_ge hj (by omega)) (ev_b (rdR rfl) (ev_b (rdI h4) ?_)))))))
    rw [show nI i * nI 5 + nI j = nI (i * 5 + j) by rw [nI_mm, nI_add]]
    exact ev_b (qs_168 (by omega)) rfl
  · show upd (I 168) (i * 5 + j) v (k * 5 + w) = if k = i ∧ w = j then v else G k w
    by_cases c : k = i ∧ w = j
    · rw [if_pos c, c.1, c.2, upd_eq]
    · rw [if_neg c, upd_ne (by omega)]
      exact h5 k w hk hw
set_option maxRecDepth 100000 in
set_option maxHeartbeats 4000000 in
theorem sMx_41 {V : Nat → Nat → Value} {I : Nat → Nat → Int32} {L : Nat → Nat → Int64} {R : Nat → Nat → Option Nat} {tl : am_H} {N z : Nat} {G : Nat → Nat → Int32} {a b : Int32} (hN : 4 ≤ N) (h : hM V I 167 z G) (hz : z < 10) : ∃ W J, fm_41 N (.ref 167) a b (fx V I L R ++ tl) = some (.inl (some (.int 1), fx W J L R ++ tl)) ∧ hM W J 167 (z + 1) (fun k w => if k < z then G k w else if w = 0 then a else if w = 1 then b else 0) ∧ fr1 167 V W I J := by
  obtain ⟨h1, h2, h3, h4, h5⟩ := h
  refine ⟨_, _, d_41x hN h3 h4 (by omega) a b, ⟨?_, ?_, vup_eq, ?_, fun k w hk hw => ?_⟩, fr1_t (fr1_v (by decide)) fr1_i⟩
  · rw [vup_o (by decide)]; exact h1
  · rw [vup_o (by decide)]; exact h2
  · rw [vup_o (by decide)]; exact h4
  · show iup I 168 _ 168 (k * 5 + w) = if k < z then G k w else if w = 0 then a else if w = 1 then b else 0
    rw [iup_eq]
    by_cases c : k < z
    · rw [upd_ne (by omega), upd_ne (by omega), upd_ne (by omega), upd_ne (by omega), upd_ne (by omega)]
      rw [if_pos c]
      exact h5 k w c hw
    · obtain rfl : k = z := by omega
      rw [if_neg c]
      rcases (by omega : w = 0 ∨ w = 1 ∨ w = 2 ∨ w = 3 ∨ w = 4) with rfl | rfl | rfl | rfl | rfl
      · rw [upd_ne (by omega), show k * 5 + 0 = 5 * k by omega, upd_eq]; rfl
      · rw [show k * 5 + 1 = 5 * k + 1 by omega, upd_eq]; rfl
      · rw [upd_ne (by omega), upd_ne (by omega), upd_ne (by omega), upd_ne (by omega), show k * 5 + 2 = 5 * k + 2 by omega, upd_eq]; rfl
      · rw [upd_ne (by omega), upd_ne (by omega), upd_ne (by omega), show k * 5 + 3 = 5 * k + 3 by omega, upd_eq]; rfl
      · rw [upd_ne (by omega), upd_ne (by omega), show k * 5 + 4 = 5 * k + 4 by omega, upd_eq]; rfl
theorem d_i {V : Nat → Nat → Value} {I : Nat → Nat → Int32} {L : Nat → Nat → Int64} {R : Nat → Nat → Option Nat} {tl : am_H} {i k : Nat} {st : Int64} (hi : i < 4) (hs : V (42 + 9 * i) 0 = .long st) (hk : 1 ≤ k) (hk2 : k < 2 ^ 31) : fm_192 (.ref (42 + 9 * i)) (nI k) (fx V I L R ++ tl) = some (.inl (some (.int (nI (drw st k))), fx (vup V (42 + 9 * i) 0 (.long (nxt st))) I L R ++ tl)) := y_192i hi hs hk hk2
theorem d_r {V : Nat → Nat → Value} {I : Nat → Nat → Int32} {L : Nat → Nat → Int64} {R : Nat → Nat → Option Nat} {tl : am_H} {k : Nat} {st : Int64} (hs : V 174 96 = .long st) (hk : 1 ≤ k) (hk2 : k < 2 ^ 31) : fm_474 (.ref 174) (nI k) (fx V I L R ++ tl) = some (.inl (some (.int (nI (drw st k))), fx (vup V 174 96 (.long (nxt st))) I L R ++ tl)) := x_474 hs hk hk2
theorem hM_42 {V : Nat → Nat → Value} {I : Nat → Nat → Int32} {i z : Nat} {G : Nat → Nat → Int32} {x : Value} (hi : i < 4) (h : hM V I 167 z G) : hM (vup V (42 + 9 * i) 0 x) I 167 z G := by
  obtain ⟨h1, h2, h3, h4, h5⟩ := h
  exact ⟨(vup_na (by omega)).trans h1, (vup_na (by omega)).trans h2, (vup_na (by omega)).trans h3, (vup_na (by omega)).trans h4, h5⟩
set_option maxRecDepth 100000 in
set_option maxHeartbeats 4000000 in
theorem c_m38 {L : Nat → Nat → Int64} {R : Nat → Nat → Option Nat} {tl : am_H} {N i sz k : Nat} {st : Int64} {rc : Value → Value → Int32 → Int32 → am_H → Option am_O} (hi : i < 4) (s1 : 1 ≤ sz) (s6 : sz ≤ 6) (hk : k < 6) : ∀ (t j K : Nat) (V : Nat → Nat → Value) (I : Nat → Nat → Int32) (G : Nat → Nat → Int32), j + t = 4 → t < K → hM V I 167 (k + 1) G → (∀ c, c < j → G k (1 + c) = nI (egM sz st c)) → V (42 + 9 * i) 0 = .long (itn (1 + j) st) → ∃ W J G', fg_203_38 N rc K (.ref 0) (.ref (42 + 9 * i)) (nI sz) (nI k) (nI j) (fx V I L R ++ tl) = rc (.ref 0) (.ref (42 + 9 * i)) (nI sz) (nI (k + 1)) (fx W J L R ++ tl) ∧ hM W J 167 (k + 1) G' ∧ (∀ k' w, k' < k → G' k' w = G k' w) ∧ G' k 0 = G k 0 ∧ (∀ c, c < 4 → G' k (1 + c) = nI (egM sz st c)) ∧ W (42 + 9 * i) 0 = .long (itn 5 st) ∧ frDd i V W I J := by
  intro t
  induction t with
  | zero =>
    intro j K V I G hj hK h hG hs
    obtain ⟨K, rfl⟩ : ∃ k, K = k + 1 := ⟨K - 1, by omega⟩
    obtain rfl : j = 4 := by omega
    refine ⟨V, I, G, ?_, h, fun _ _ _ => rfl, rfl, hG, hs, frDd_r⟩
    apply hd_203_38
    rw [nI_1]
    exact ev_t (nI_le (a := 4) (by omega) (by omega)) rfl
  | succ t ih =>
    intro j K V I G hj hK h hG hs
    obtain ⟨K, rfl⟩ : ∃ k, K = k + 1 := ⟨K - 1, by omega⟩
    have d := d_i (I := I) (L := L) (R := R) (tl := tl) (k := sz) hi hs s1 (by omega)
    rw [show drw (itn (1 + j) st) sz = egM sz st j from rfl] at d
    obtain ⟨J1, e1, h1, f1⟩ := sMx_51 (V := vup V (42 + 9 * i) 0 (.long (nxt (itn (1 + j) st)))) (I := I) (L := L) (R := R) (tl := tl) (i := k) (j := 1 + j) (v := nI (egM sz st j)) (hM_42 hi h) (by omega) (by omega) (by omega)
    obtain ⟨W, J, G', e2, h2, g1, g2, g3, w2, f2⟩ := ih (j + 1) K _ J1 _ (by omega) (by omega) h1 (fun c hc => by
      by_cases q : c = j
      · rw [q]; exact if_pos ⟨rfl, rfl⟩
      · rw [if_neg (by omega)]; exact hG c (by omega)) vup_eq
    refine ⟨W, J, G', ?_, h2, fun k' w hk' => (g1 k' w hk').trans (if_neg (by omega)), g2.trans (if_neg (by omega)), g3, w2, frDd_t (frDd_42 hi) (frDd_t (frDd_1 f1) f2)⟩
    rw [← e2]
    apply hd_203_38
    rw [show (1 : Int32) + nI j = nI (1 + j) from nI_add 1 j]
    refine ev_f (nI_ge (b := 4) (by omega) (by omega)) (ev_b (rdR rfl) (ev_i (yo_8 hi) (ev_cI d (ev_i rfl (ev_cV e1 ?_)))))
    rw [nI_1]
theorem rG_ap1 {Q : xI} {x : Int32 × Int32} {k w : Nat} : rG (Q ++ [x]) k w = if k < Q.length then rG Q k w else if k = Q.length then (if w = 0 then x.1 else pv_367 x.2 (nI (w - 1))) else rG (Q ++ [x]) k w := by
  by_cases c : k < Q.length
  · rw [if_pos c]
    unfold rG srt vlu
    rw [List.getD_eq_getElem?_getD, List.getD_eq_getElem?_getD, List.getElem?_append_left c]
  · rw [if_neg c]
    by_cases d : k = Q.length
    · rw [if_pos d, d]
      unfold rG srt vlu
      rw [List.getD_eq_getElem?_getD, List.getElem?_append_right (Nat.le_refl _), Nat.sub_self]
      rfl
    · rw [if_neg d]
theorem egM_367 {a b c d : Nat} (ha : a < 8) (hb : b < 8) (hc : c < 8) (hd : d < 8) : pv_367 (nI (a + 8 * b + 64 * c + 512 * d)) (nI 0) = nI a ∧ pv_367 (nI (a + 8 * b + 64 * c + 512 * d)) (nI 1) = nI b ∧ pv_367 (nI (a + 8 * b + 64 * c + 512 * d)) (nI 2) = nI c ∧ pv_367 (nI (a + 8 * b + 64 * c + 512 * d)) (nI 3) = nI d := by
  have hx : a + 8 * b + 64 * c + 512 * d < 4096 := by omega
  refine ⟨?_, ?_, ?_, ?_⟩
  · rw [t367 hx (by omega)]; congr 1; omega
  · rw [t367 hx (by omega)]; congr 1; omega
  · rw [t367 hx (by omega)]; congr 1; omega
  · rw [t367 hx (by omega)]; congr 1; omega
set_option maxRecDepth 100000 in
set_option maxHeartbeats 4000000 in
theorem c_m11 {L : Nat → Nat → Int64} {R : Nat → Nat → Option Nat} {tl : am_H} {N i sz : Nat} (hN : 100 < N) (hi : i < 4) (s1 : 1 ≤ sz) (s6 : sz ≤ 6) : ∀ (t k K : Nat) (V : Nat → Nat → Value) (I : Nat → Nat → Int32) (Q : xI) (st : Int64), k + t = sz → t < K → Q.length = k → hM V I 167 k (rG Q) → V (42 + 9 * i) 0 = .long st → ∃ W J, fg_203_11 N K (.ref 0) (.ref (42 + 9 * i)) (nI sz) (nI k) (fx V I L R ++ tl) = some (.inl (none, fx W J L R ++ tl)) ∧ hM W J 167 sz (rG (rpG (rowM sz) (itn 5) t Q st).1) ∧ W (42 + 9 * i) 0 = .long (rpG (rowM sz) (itn 5) t Q st).2 ∧ frDd i V W I J := by
  intro t
  induction t with
  | zero =>
    intro k K V I Q st hk hK hQ h hs
    obtain ⟨K, rfl⟩ : ∃ k, K = k + 1 := ⟨K - 1, by omega⟩
    obtain rfl : k = sz := by omega
    refine ⟨V, I, ?_, h, hs, frDd_r⟩
    apply hd_203_11
    exact ev_t (nI_le (Nat.le_refl k) (by omega)) rfl
  | succ t ih =>
    intro k K V I Q st hk hK hQ h hs
    obtain ⟨K, rfl⟩ : ∃ k, K = k + 1 := ⟨K - 1, by omega⟩
    have d1 := d_i (I := I) (L := L) (R := R) (tl := tl) (k := 10) hi hs (by omega) (by omega)
    have d2 := d_i (V := vup V (42 + 9 * i) 0 (.long (nxt st))) (I := I) (L := L) (R := R) (tl := tl) (k := sz) hi vup_eq s1 (by omega)
    rw [vup_2, show drw (nxt st) sz = egM sz st 0 from rfl] at d2
    obtain ⟨o, eo⟩ : ∃ o, o = drw st 10 := ⟨_, rfl⟩
    rw [← eo] at d1
    obtain ⟨W1, J1, e1, h1, f1⟩ := sMx_41 (V := vup V (42 + 9 * i) 0 (.long (nxt (nxt st)))) (I := I) (L := L) (R := R) (tl := tl) (N := N) (a := nI o) (b := nI (egM sz st 0)) (by omega) (hM_42 hi h) (by omega)
    have w1 : W1 (42 + 9 * i) 0 = .long (itn (1 + 1) st) := (f1.1 _ _ (by omega)).trans vup_eq
    obtain ⟨W2, J2, G', e2, h2, g1, g2, g3, w2, f2⟩ := c_m38 (L := L) (R := R) (tl := tl) (N := N) (sz := sz) (k := k) (st := st) (rc := fg_203_11 N K) hi s1 s6 (by omega) 3 1 N W1 J1 _ (by omega) (by omega) h1 (fun c hc => by
      obtain rfl : c = 0 := by omega
      rw [if_neg (by omega)]
      rfl) w1
    have h3 : hM W2 J2 167 (k + 1) (rG (Q ++ [rowM sz st])) := hM_g h2 (fun k' w hk' hw => by
      rw [rG_ap1, hQ]
      by_cases c : k' < k
      · rw [if_pos c, g1 k' w c, if_pos c]
      · obtain rfl : k' = k := by omega
        rw [if_neg c, if_pos rfl]
        have b0 := egM_lt (c := 0) (st := st) s1
        have b1 := egM_lt (c := 1) (st := st) s1
        have b2 := egM_lt (c := 2) (st := st) s1
        have b3 := egM_lt (c := 3) (st := st) s1
        obtain ⟨p0, p1, p2, p3⟩ := egM_367 (a := egM sz st 0) (b := egM sz st 1) (c := egM sz st 2) (d := egM sz st 3) (by omega) (by omega) (by omega) (by omega)
        rcases (by omega : w = 0 ∨ w = 1 ∨ w = 2 ∨ w = 3 ∨ w = 4) with rfl | rfl | rfl | rfl | rfl
        · rw [g2, if_neg c, if_pos rfl, if_pos rfl, eo]
          rfl
        · rw [if_neg (by decide)]
          exact (g3 0 (by omega)).trans p0.symm
        · rw [if_neg (by decide)]
          exact (g3 1 (by omega)).trans p1.symm
        · rw [if_neg (by decide)]
          exact (g3 2 (by omega)).trans p2.symm
        · rw [if_neg (by decide)]
          exact (g3 3 (by omega)).trans p3.symm)
    obtain ⟨W, J, e3, h4, w4, f3⟩ := ih (k + 1) K W2 J2 (Q ++ [rowM sz st]) (itn 5 st) (by omega) (by omega) (by rw [List.length_append, hQ]; rfl) h3 w2
    refine ⟨W, J, ?_, by rw [rpG_1]; exact h4, by rw [rpG_1]; exact w4, frDd_t (frDd_42 hi) (frDd_t (frDd_1 f1) (frDd_t f2 f3))⟩
    rw [← e3, ← e2]
    apply hd_203_11
    exact ev_f (nI_ge (by omega) (by omega)) (ev_b (rdR rfl) (ev_i (yo_8 hi) (ev_cI d1 (ev_i (yo_8 hi) (ev_cI d2 (ev_i rfl (ev_cI e1 rfl)))))))
/-! machines in the reference -/
def psM (sz : Nat) (st : Int64) : Nat → Nat
  | 0 => 0
  | j + 1 => psM sz st j + egM sz st j * 8 ^ j
theorem psM_s {sz j : Nat} {st : Int64} : psM sz st (j + 1) = psM sz st j + egM sz st j * 8 ^ j := rfl
theorem psM_lt {sz : Nat} {st : Int64} (s1 : 1 ≤ sz) (s6 : sz ≤ 6) : ∀ j, psM sz st j < 8 ^ j := by
  intro j
  induction j with
  | zero => exact Nat.one_pos
  | succ j ih =>
    rw [psM_s, Nat.pow_succ]
    have h := egM_lt (c := j) (st := st) s1
    have h2 : egM sz st j * 8 ^ j ≤ 5 * 8 ^ j := Nat.mul_le_mul_right _ (by omega)
    omega
theorem psM_4 {sz : Nat} {st : Int64} : psM sz st 4 = egM sz st 0 + 8 * egM sz st 1 + 64 * egM sz st 2 + 512 * egM sz st 3 := by
  rw [psM_s, psM_s, psM_s, psM_s]
  show 0 + egM sz st 0 * 1 + egM sz st 1 * 8 + egM sz st 2 * 64 + egM sz st 3 * 512 = _
  omega
/-- only the desk and the stream change -/
def frEe (V W : Nat → Nat → Value) (I J : Nat → Nat → Int32) : Prop := (∀ a j, ¬ (a = 174 ∧ (j = 13 ∨ j = 14 ∨ j = 15 ∨ j = 96)) → W a j = V a j) ∧ (∀ y, y ≠ 186 → y ≠ 187 → J y = I y) ∧ (wt V → wt W)
theorem frEe_t {U V W : Nat → Nat → Value} {G I J : Nat → Nat → Int32} (f : frEe U V G I) (g : frEe V W I J) : frEe U W G J := ⟨fun a j h => (g.1 a j h).trans (f.1 a j h), fun y h k => (g.2.1 y h k).trans (f.2.1 y h k), fun h => g.2.2 (f.2.2 h)⟩
theorem frEe_r {V : Nat → Nat → Value} {I : Nat → Nat → Int32} : frEe V V I I := ⟨fun _ _ _ => rfl, fun _ _ _ => rfl, id⟩
theorem frEe_96 {V : Nat → Nat → Value} {I : Nat → Nat → Int32} {x : Int64} : frEe V (vup V 174 96 (.long x)) I I := ⟨fun a j h => vup_o (by omega), fun _ _ _ => rfl, fun w => wt_lg w (by decide)⟩
theorem frEe_13 {V : Nat → Nat → Value} {I : Nat → Nat → Int32} {x : Int32} : frEe V (vup V 174 13 (.int x)) I I := ⟨fun a j h => vup_o (by omega), fun _ _ _ => rfl, fun w => wt_i w (by decide)⟩
theorem frEe_14 {V : Nat → Nat → Value} {I : Nat → Nat → Int32} {x : Int32} : frEe V (vup V 174 14 (.int x)) I I := ⟨fun a j h => vup_o (by omega), fun _ _ _ => rfl, fun w => wt_i w (by decide)⟩
theorem frEe_15 {V : Nat → Nat → Value} {I : Nat → Nat → Int32} {x : Int32} : frEe V (vup V 174 15 (.int x)) I I := ⟨fun a j h => vup_o (by omega), fun _ _ _ => rfl, fun w => wt_i w (by decide)⟩
theorem frEe_Dk {V W : Nat → Nat → Value} {I J : Nat → Nat → Int32} (f : frDk V W I J) : frEe V W I J := ⟨fun a j h => f.1 a j (by omega), fun y h k => f.2.1 y h k, f.2.2⟩
theorem dkL_96 {V : Nat → Nat → Value} {I : Nat → Nat → Int32} {x : Value} {Q : xI} (h : dkL V I Q) : dkL (vup V 174 96 x) I Q := ⟨(vup_o (by decide)).trans h.1, h.2⟩
set_option maxRecDepth 100000 in
set_option maxHeartbeats 4000000 in
theorem r_m20 {L : Nat → Nat → Int64} {R : Nat → Nat → Option Nat} {tl : am_H} {N sz k : Nat} {st : Int64} {x3 : Int32} {Q : xI} {rc : Value → Int32 → Int32 → am_H → Option am_O} (s1 : 1 ≤ sz) (s6 : sz ≤ 6) (hk : k < 6) (hq : Q.length < 400) : ∀ (t j K : Nat) (V : Nat → Nat → Value) (I : Nat → Nat → Int32), j + t = 4 → t < K → dkL V I Q → V 174 96 = .long (itn (1 + j) st) → ∃ W J, fg_492_20 N rc K (.ref 174) (nI sz) (nI k) x3 (nI (psM sz st j)) (nI j) (fx V I L R ++ tl) = rc (.ref 174) (nI sz) (nI (k + 1)) (fx W J L R ++ tl) ∧ dkL W J (Q ++ [(x3, nI (psM sz st 4))]) ∧ W 174 96 = .long (itn 5 st) ∧ frEe V W I J ∧ W 174 13 = V 174 13 ∧ W 174 15 = V 174 15 := by
  intro t
  induction t with
  | zero =>
    intro j K V I hj hK h hs
    obtain ⟨K, rfl⟩ : ∃ k, K = k + 1 := ⟨K - 1, by omega⟩
    obtain rfl : j = 4 := by omega
    obtain ⟨W, J, e, d, f⟩ := s335 (V := V) (I := I) (L := L) (R := R) (tl := tl) x3 (nI (psM sz st 4)) h hq
    refine ⟨W, J, ?_, d, (f.1 174 96 (by decide)).trans hs, frEe_Dk f, f.1 174 13 (by decide), f.1 174 15 (by decide)⟩
    apply hd_492_20
    rw [nI_1]
    exact ev_t (nI_le (a := 4) (by omega) (by omega)) (ev_i rfl (ev_cV e rfl))
  | succ t ih =>
    intro j K V I hj hK h hs
    obtain ⟨K, rfl⟩ : ∃ k, K = k + 1 := ⟨K - 1, by omega⟩
    have d := d_r (I := I) (L := L) (R := R) (tl := tl) (k := sz) hs s1 (by omega)
    rw [show drw (itn (1 + j) st) sz = egM sz st j from rfl] at d
    obtain ⟨W, J, e1, d1, w1, f1, x1, x2⟩ := ih (j + 1) K _ I (by omega) (by omega) (dkL_96 (x := .long (nxt (itn (1 + j) st))) h) vup_eq
    refine ⟨W, J, ?_, d1, w1, frEe_t frEe_96 f1, x1.trans (vup_o (by decide)), x2.trans (vup_o (by decide))⟩
    rw [← e1, psM_s]
    apply hd_492_20
    refine ev_f (nI_ge (b := 4) (by omega) (by omega)) (ev_i rfl (ev_cI d (ev_cI (pe_353 _ _ _ _) ?_)))
    have := egM_lt (c := j) (st := st) s1
    rw [t353 j (by omega) _ (psM_lt s1 s6 j) _ (by omega), nI_1]
set_option maxRecDepth 100000 in
set_option maxHeartbeats 4000000 in
theorem r_m2 {L : Nat → Nat → Int64} {R : Nat → Nat → Option Nat} {tl : am_H} {N sz : Nat} (hN : 100 < N) (s1 : 1 ≤ sz) (s6 : sz ≤ 6) : ∀ (t k K : Nat) (V : Nat → Nat → Value) (I : Nat → Nat → Int32) (Q : xI) (st : Int64), k + t = sz → t < K → Q.length = k → dkL V I Q → V 174 96 = .long st → ∃ W J, fg_492_2 N K (.ref 174) (nI sz) (nI k) (fx V I L R ++ tl) = some (.inl (none, fx W J L R ++ tl)) ∧ dkL W J (rpG (rowM sz) (itn 5) t Q st).1 ∧ W 174 96 = .long (rpG (rowM sz) (itn 5) t Q st).2 ∧ frEe V W I J ∧ W 174 13 = V 174 13 ∧ W 174 15 = V 174 15 := by
  intro t
  induction t with
  | zero =>
    intro k K V I Q st hk hK hQ h hs
    obtain ⟨K, rfl⟩ : ∃ k, K = k + 1 := ⟨K - 1, by omega⟩
    obtain rfl : k = sz := by omega
    refine ⟨V, I, ?_, h, hs, frEe_r, rfl, rfl⟩
    apply hd_492_2
    exact ev_t (nI_le (Nat.le_refl k) (by omega)) rfl
  | succ t ih =>
    intro k K V I Q st hk hK hQ h hs
    obtain ⟨K, rfl⟩ : ∃ k, K = k + 1 := ⟨K - 1, by omega⟩
    have d1 := d_r (I := I) (L := L) (R := R) (tl := tl) (k := 10) hs (by omega) (by omega)
    obtain ⟨W1, J1, e1, h1, w1, f1, x1, x2⟩ := r_m20 (L := L) (R := R) (tl := tl) (N := N) (sz := sz) (k := k) (st := st) (x3 := nI (drw st 10)) (Q := Q) (rc := fg_492_2 N K) s1 s6 (by omega) (by omega) 4 0 N _ I (by omega) (by omega) (dkL_96 (x := .long (nxt st)) h) vup_eq
    rw [psM_4] at h1
    obtain ⟨W, J, e2, h2, w2, f2, x3, x4⟩ := ih (k + 1) K W1 J1 (Q ++ [rowM sz st]) (itn 5 st) (by omega) (by omega) (by rw [List.length_append, hQ]; rfl) h1 w1
    refine ⟨W, J, ?_, by rw [rpG_1]; exact h2, by rw [rpG_1]; exact w2, frEe_t frEe_96 (frEe_t f1 f2), x3.trans (x1.trans (vup_o (by decide))), x4.trans (x2.trans (vup_o (by decide)))⟩
    rw [← e2, ← e1]
    apply hd_492_2
    exact ev_f (nI_ge (by omega) (by omega)) (ev_i rfl (ev_cI d1 rfl))
/-! nets -/
theorem tI_app1 {Q : xT} {a : Nat} {b : Int32} : tI (Q ++ [(a, b)]) = tI Q ++ [(nI a, b)] := by
  unfold tI
  rw [List.map_append]
  rfl
set_option maxRecDepth 100000 in
set_option maxHeartbeats 4000000 in
theorem c_n11 {L : Nat → Nat → Int64} {R : Nat → Nat → Option Nat} {tl : am_H} {N i sz : Nat} (hN : 100 < N) (hi : i < 4) (s2 : 2 ≤ sz) (s8 : sz ≤ 8) : ∀ (t k K : Nat) (V : Nat → Nat → Value) (I : Nat → Nat → Int32) (Q : xT) (st : Int64), k + t = 2 * sz → t < K → Q.length = k → hold V I 167 3 sz Q → V (42 + 9 * i) 0 = .long st → ∃ W J Q', fg_204_11 N K (.ref 0) (.ref (42 + 9 * i)) (nI sz) (nI k) (fx V I L R ++ tl) = some (.inl (none, fx W J L R ++ tl)) ∧ hold W J 167 3 sz Q' ∧ tI Q' = (rpG (rowN sz) nx2 t (tI Q) st).1 ∧ W (42 + 9 * i) 0 = .long (rpG (rowN sz) nx2 t (tI Q) st).2 ∧ frDd i V W I J := by
  intro t
  induction t with
  | zero =>
    intro k K V I Q st hk hK hQ h hs
    obtain ⟨K, rfl⟩ : ∃ k, K = k + 1 := ⟨K - 1, by omega⟩
    refine ⟨V, I, Q, ?_, h, rfl, hs, frDd_r⟩
    apply hd_204_11
    rw [show (2 : Int32) * nI sz = nI (2 * sz) from (nI_mul 2 sz).symm]
    exact ev_t (nI_le (by omega) (by omega)) rfl
  | succ t ih =>
    intro k K V I Q st hk hK hQ h hs
    obtain ⟨K, rfl⟩ : ∃ k, K = k + 1 := ⟨K - 1, by omega⟩
    have d1 := d_i (I := I) (L := L) (R := R) (tl := tl) (k := sz - 1) hi hs (by omega) (by omega)
    obtain ⟨a, ea⟩ : ∃ a, a = drw st (sz - 1) := ⟨_, rfl⟩
    have la : a < sz - 1 := by rw [ea]; exact drw_lt (by omega)
    rw [← ea] at d1
    have d2 := d_i (V := vup V (42 + 9 * i) 0 (.long (nxt st))) (I := I) (L := L) (R := R) (tl := tl) (k := sz - 1 - a) hi vup_eq (by omega) (by omega)
    rw [vup_2] at d2
    obtain ⟨b, eb⟩ : ∃ b, b = drw (nxt st) (sz - 1 - a) := ⟨_, rfl⟩
    have lb : b < sz - 1 - a := by rw [eb]; exact drw_lt (by omega)
    rw [← eb] at d2
    have er : rowN sz st = (nI a, nI (a + 1 + b)) := by
      unfold rowN cmpD
      rw [← ea, ← eb]
    obtain ⟨W1, J1, e1, h1, f1⟩ := s41_167 (V := vup V (42 + 9 * i) 0 (.long (nxt (nxt st)))) (I := I) (L := L) (R := R) (tl := tl) (N := N) (b := nI (a + 1 + b)) (by omega) (hold_c (V := V) (I := I) (fun j => vup_na (by omega)) rfl h) (by omega) (nI a) rfl
    obtain ⟨W, J, Q', e2, h2, q2, w2, f2⟩ := ih (k + 1) K W1 J1 (Q ++ [(a, nI (a + 1 + b))]) (nx2 st) (by omega) (by omega) (by rw [List.length_append, hQ]; rfl) h1 ((f1.1 _ _ (by omega)).trans vup_eq)
    rw [tI_app1, ← er] at q2 w2
    refine ⟨W, J, Q', ?_, h2, by rw [rpG_1]; exact q2, by rw [rpG_1]; exact w2, frDd_t (frDd_42 hi) (frDd_t (frDd_1 f1) f2)⟩
    rw [← e2]
    apply hd_204_11
    rw [show (2 : Int32) * nI sz = nI (2 * sz) from (nI_mul 2 sz).symm, show nI sz - 1 = nI (sz - 1) from nI_sub (b := 1) (by omega)]
    refine ev_f (nI_ge (by omega) (by omega)) (ev_i (yo_8 hi) (ev_cI d1 (ev_b (rdR rfl) (ev_i (yo_8 hi) ?_))))
    rw [nI_sub (by omega)]
    refine ev_cI d2 (ev_i rfl ?_)
    rw [show nI a + 1 + nI b = nI (a + 1 + b) by rw [nI_1, nI_add]]
    refine ev_cI e1 ?_
    rw [nI_1]
set_option maxRecDepth 100000 in
set_option maxHeartbeats 4000000 in
theorem r_n7 {L : Nat → Nat → Int64} {R : Nat → Nat → Option Nat} {tl : am_H} {N sz : Nat} (hN : 100 < N) (s2 : 2 ≤ sz) (s8 : sz ≤ 8) : ∀ (t k K : Nat) (V : Nat → Nat → Value) (I : Nat → Nat → Int32) (Q : xI) (st : Int64), k + t = 2 * sz → t < K → Q.length = k → dkL V I Q → V 174 96 = .long st → ∃ W J, fg_493_7 N K (.ref 174) (nI sz) (nI k) (fx V I L R ++ tl) = some (.inl (none, fx W J L R ++ tl)) ∧ dkL W J (rpG (rowN sz) nx2 t Q st).1 ∧ W 174 96 = .long (rpG (rowN sz) nx2 t Q st).2 ∧ frEe V W I J ∧ W 174 13 = V 174 13 ∧ W 174 15 = V 174 15 := by
  intro t
  induction t with
  | zero =>
    intro k K V I Q st hk hK hQ h hs
    obtain ⟨K, rfl⟩ : ∃ k, K = k + 1 := ⟨K - 1, by omega⟩
    refine ⟨V, I, ?_, h, hs, frEe_r, rfl, rfl⟩
    apply hd_493_7
    rw [show (2 : Int32) * nI sz = nI (2 * sz) from (nI_mul 2 sz).symm]
    exact ev_t (nI_le (by omega) (by omega)) rfl
  | succ t ih =>
    intro k K V I Q st hk hK hQ h hs
    obtain ⟨K, rfl⟩ : ∃ k, K = k + 1 := ⟨K - 1, by omega⟩
    have d1 := d_r (I := I) (L := L) (R := R) (tl := tl) (k := sz - 1) hs (by omega) (by omega)
    obtain ⟨a, ea⟩ : ∃ a, a = drw st (sz - 1) := ⟨_, rfl⟩
    have la : a < sz - 1 := by rw [ea]; exact drw_lt (by omega)
    rw [← ea] at d1
    have d2 := d_r (V := vup V 174 96 (.long (nxt st))) (I := I) (L := L) (R := R) (tl := tl) (k := sz - 1 - a) vup_eq (by omega) (by omega)
    rw [vup_2] at d2
    obtain ⟨b, eb⟩ : ∃ b, b = drw (nxt st) (sz - 1 - a) := ⟨_, rfl⟩
    have lb : b < sz - 1 - a := by rw [eb]; exact drw_lt (by omega)
    rw [← eb] at d2
    have er : rowN sz st = (nI a, nI (a + 1 + b)) := by
      unfold rowN cmpD
      rw [← ea, ← eb]
    obtain ⟨W1, J1, e1, h1, f1⟩ := s335 (V := vup V 174 96 (.long (nxt (nxt st)))) (I := I) (L := L) (R := R) (tl := tl) (nI a) (nI (a + 1 + b)) (dkL_96 h) (by omega)
    obtain ⟨W, J, e2, h2, w2, f2, x1, x2⟩ := ih (k + 1) K W1 J1 (Q ++ [(nI a, nI (a + 1 + b))]) (nx2 st) (by omega) (by omega) (by rw [List.length_append, hQ]; rfl) h1 ((f1.1 174 96 (by decide)).trans vup_eq)
    rw [← er] at h2 w2
    refine ⟨W, J, ?_, by rw [rpG_1]; exact h2, by rw [rpG_1]; exact w2, frEe_t frEe_96 (frEe_t (frEe_Dk f1) f2), x1.trans ((f1.1 174 13 (by decide)).trans (vup_o (by decide))), x2.trans ((f1.1 174 15 (by decide)).trans (vup_o (by decide)))⟩
    rw [← e2]
    apply hd_493_7
    rw [show (2 : Int32) * nI sz = nI (2 * sz) from (nI_mul 2 sz).symm, show nI sz - 1 = nI (sz - 1) from nI_sub (b := 1) (by omega)]
    refine ev_f (nI_ge (by omega) (by omega)) (ev_i rfl (ev_cI d1 (ev_i rfl ?_)))
    rw [nI_sub (by omega)]
    refine ev_cI d2 (ev_i rfl ?_)
    rw [show nI a + 1 + nI b = nI (a + 1 + b) by rw [nI_1, nI_add]]
    refine ev_cV e1 ?_
    rw [nI_1]
