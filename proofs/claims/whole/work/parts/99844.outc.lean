/-! ===== what a run comes to: fault, steps, number ===== -/
def lsT (sz : Nat) (s : Nat → Int32) : List (Nat × Nat) := (List.range sz).map (fun k => ((s k).toNatClampNeg, 0))
theorem lsT_len {sz : Nat} {s : Nat → Int32} : (lsT sz s).length = sz := by
  unfold lsT
  rw [List.length_map, List.length_range]
theorem okF_map : ∀ (l : List (Nat × Nat)) (st : List (Nat × Nat × Nat)), okF st l → okF st (l.map (fun x => (x.1, 0))) := by
  intro l
  induction l with
  | nil => intro st h; exact h
  | cons x l ih =>
    intro st h
    cases st with
    | nil => exact absurd h (fun e => e)
    | cons c st => exact ⟨h.1, h.2.1, h.2.2.1, h.2.2.2.1, h.2.2.2.2.1, ih _ h.2.2.2.2.2⟩
theorem lsT_eq {sz : Nat} {s : Nat → Int32} {l : List (Nat × Nat)} (hl : l.length = sz) (h : ∀ k x r, l.drop k = x :: r → s k = nI x.1 ∧ x.1 ≤ 20) : lsT sz s = l.map (fun x => (x.1, 0)) := by
  unfold lsT
  refine List.ext_getElem (by rw [List.length_map, List.length_range, List.length_map, hl]) (fun k h1 h2 => ?_)
  have h2' : k < l.length := by rw [List.length_map] at h2; exact h2
  obtain ⟨e1, e2⟩ := h k l[k] (l.drop (k + 1)) (List.drop_eq_getElem_cons h2')
  rw [List.getElem_map, List.getElem_map, List.getElem_range, e1, nI_clamp (by omega)]
theorem lsT_ok {sz : Nat} {s v : Nat → Int32} (h : okT sz s v) : okF [(0, 1, 0)] (lsT sz s) ∧ ∀ k w r, (lsT sz s).drop k = w :: r → s k = nI w.1 ∧ (w.1 = 0 → two (v k)) ∧ (w.1 ≠ 0 → v k = 0) := by
  obtain ⟨l, hl, ho, hx⟩ := h
  have e : lsT sz s = l.map (fun x => (x.1, 0)) := lsT_eq hl (fun k x r hd => ⟨(hx k x r hd).1, (form_at ho hd).1⟩)
  rw [e]
  refine ⟨okF_map l _ ho, fun k w r hd => ?_⟩
  rw [← List.map_drop] at hd
  obtain ⟨x, r2, h1, h2⟩ : ∃ x r2, l.drop k = x :: r2 ∧ w = (x.1, 0) := by
    cases hc : l.drop k with
    | nil => rw [hc] at hd; cases hd
    | cons x r2 => rw [hc, List.map_cons] at hd; exact ⟨x, r2, rfl, (List.cons.inj hd).1.symm⟩
  rw [h2]
  exact hx k x r2 h1
def clN (f : Nat → Int32) (k : Nat) : Nat := (f k).toNatClampNeg
theorem clN_at {f : Nat → Int32} {k m : Nat} (h : f k = nI m) (hm : m < 2 ^ 31) : clN f k = m := by
  unfold clN
  rw [h, nI_clamp hm]
def nxM (v : Nat → Int32) (q c : Nat) : Nat := (pv_367 (v q) (nI c)).toNatClampNeg
def clM (row : Nat → Int32) (k : Nat) : Nat := (row k &&& 3).toNatClampNeg
theorem clM_at (row : Nat → Int32) (k : Nat) : clM row k < 4 ∧ (∀ h, fm_125 (row k) 4 h = some (.inl (some (.int (nI (clM row k))), h))) ∧ row k &&& 3 = nI (clM row k) := by
  obtain ⟨c, h1, h2, h3⟩ := fmod4 (row k)
  have e : clM row k = c := by
    unfold clM
    rw [h3, nI_clamp (by omega)]
  rw [e]
  exact ⟨h1, h2, h3⟩
theorem so_1 {ln sz : Nat} {s v : Nat → Int32} (h : sound 1 ln sz s v) : (∃ ht, cdO sz (clN s) (clN v) v ht) ∧ ∀ k, k < sz → s k = nI (clN s k) ∧ clN s k ≤ 18 := by
  obtain ⟨h1, h2, h3, h4, h5, h6, h7⟩ := h
  obtain ⟨l, a, ht, ⟨t0, -⟩, t1, hk⟩ := h5 rfl
  have el : ∀ k, k < sz → clN s k = l k := fun k hk2 => clN_at (hk k hk2).2.1 (by have := (hk k hk2).1; omega)
  refine ⟨⟨ht, h2, (h3 (by decide)).1, t0, t1, fun k hk2 => ?_⟩, fun k hk2 => ?_⟩
  · obtain ⟨q1, q2, q3, q4, q5, q6, q7, q8, q9⟩ := hk k hk2
    rw [el k hk2]
    refine ⟨q1, q6, q7, q8, fun h17 => ?_⟩
    have ea : clN v k = a k := clN_at (q4 (by omega)).1 (by have := (q4 (by omega)).2; omega)
    rw [ea]
    exact ⟨(q4 (by omega)).1, q9 h17⟩
  · rw [el k hk2]
    exact ⟨(hk k hk2).2.1, (hk k hk2).1⟩
theorem so_2 {ln sz : Nat} {s v : Nat → Int32} (h : sound 2 ln sz s v) : 1 ≤ sz ∧ sz ≤ 6 ∧ ∀ q c, q < sz → c < 4 → pv_367 (v q) (nI c) = nI (nxM v q c) ∧ nxM v q c < sz := by
  obtain ⟨h1, h2, h3, h4, h5, h6, h7⟩ := h
  obtain ⟨z6, hk⟩ := h6 rfl
  refine ⟨(h3 (by decide)).1, z6, fun q c hq hc => ?_⟩
  obtain ⟨e0, e1, e2, e3, l0, l1, l2, l3, ev⟩ := (hk q hq).2
  obtain ⟨d0, d1, d2, d3, m0, m1, m2, m3, p0, p1, p2, p3, ed⟩ := edg_inj (e0 + 8 * e1 + 64 * e2 + 512 * e3) (by omega)
  have a0 : d0 = e0 := by omega
  have a1 : d1 = e1 := by omega
  have a2 : d2 = e2 := by omega
  have a3 : d3 = e3 := by omega
  rw [← ev] at p0 p1 p2 p3
  have key : ∀ d, d < sz → pv_367 (v q) (nI c) = nI d → pv_367 (v q) (nI c) = nI (nxM v q c) ∧ nxM v q c < sz := fun d hd e => by
    have e2 : nxM v q c = d := by
      unfold nxM
      rw [e, nI_clamp (by omega)]
    rw [e2]
    exact ⟨e, hd⟩
  rcases (by omega : c = 0 ∨ c = 1 ∨ c = 2 ∨ c = 3) with rfl | rfl | rfl | rfl
  · exact key d0 (by omega) p0
  · exact key d1 (by omega) p1
  · exact key d2 (by omega) p2
  · exact key d3 (by omega) p3
theorem so_3 {ln sz : Nat} {s v : Nat → Int32} (h : sound 3 ln sz s v) : 2 ≤ ln ∧ ln ≤ 8 ∧ sz ≤ 40 ∧ ∀ c, c < sz → s c = nI (clN s c) ∧ v c = nI (clN v c) ∧ clN s c < clN v c ∧ clN v c < ln := by
  obtain ⟨h1, h2, h3, h4, h5, h6, h7⟩ := h
  obtain ⟨a1, a2, a3, hk⟩ := h7 rfl
  refine ⟨a1, a2, a3, fun c hc => ?_⟩
  obtain ⟨i, j, q1, q2, q3, q4⟩ := hk c hc
  rw [clN_at q3 (by omega), clN_at q4 (by omega)]
  exact ⟨q3, q4, q1, q2⟩
def cut (w f : Int32) (u : Nat) : Int32 × Nat × Int32 := (f, u, if f = 0 then w else 0)
/-- a machine's run, a net's run -/
def eM (lm len : Nat) (row v : Nat → Int32) : Int32 × Nat × Nat := mrun (nxM v) (clM row) lm len 0 1 0
def eN (lm len sz : Nat) (row s v : Nat → Int32) : Int32 × Nat × (Nat → Int32) := nOut (clN s) (clN v) lm sz (fil (fun _ => 0) row len 8)
/-- what a program comes to -/
def rP (kd ln sz : Nat) (s v : Nat → Int32) (lm : Nat) (x y z : Int32) (len : Nat) (row : Nat → Int32) (o : Int32 × Nat × Int32) : Prop :=
  (kd = 0 → o = cut (eT x y z len row lm (lsT sz s) v).1 (eT x y z len row lm (lsT sz s) v).2.1 (eT x y z len row lm (lsT sz s) v).2.2.1) ∧
  (kd = 1 → ∃ ht, cdO sz (clN s) (clN v) v ht ∧ o = cut ((eC x y z len row lm sz (clN s) (clN v) v ht).1 0) (eC x y z len row lm sz (clN s) (clN v) v ht).2.1 (eC x y z len row lm sz (clN s) (clN v) v ht).2.2.1) ∧
  (kd = 2 → o = cut (s (eM lm len row v).2.2) (eM lm len row v).1 (eM lm len row v).2.1) ∧
  (kd = 3 → o = cut ((eN lm len sz row s v).2.2 ((ln - 1) / 2)) (eN lm len sz row s v).1 (eN lm len sz row s v).2.1)
theorem rP_ex {kd ln sz : Nat} {s v : Nat → Int32} (h : sound kd ln sz s v) (lm : Nat) (x y z : Int32) (len : Nat) (row : Nat → Int32) : ∃ o, rP kd ln sz s v lm x y z len row o := by
  have hk := h.1
  rcases (by omega : kd = 0 ∨ kd = 1 ∨ kd = 2 ∨ kd = 3) with rfl | rfl | rfl | rfl
  · exact ⟨_, fun _ => rfl, fun e => absurd e (by decide), fun e => absurd e (by decide), fun e => absurd e (by decide)⟩
  · obtain ⟨⟨ht, ho⟩, -⟩ := so_1 h
    exact ⟨_, fun e => absurd e (by decide), fun _ => ⟨ht, ho, rfl⟩, fun e => absurd e (by decide), fun e => absurd e (by decide)⟩
  · exact ⟨_, fun e => absurd e (by decide), fun e => absurd e (by decide), fun _ => rfl, fun e => absurd e (by decide)⟩
  · exact ⟨_, fun e => absurd e (by decide), fun e => absurd e (by decide), fun e => absurd e (by decide), fun _ => rfl⟩
set_option maxRecDepth 100000 in
set_option maxHeartbeats 1600000 in
theorem k_mach {V : Nat → Nat → Value} {I : Nat → Nat → Int32} {L : Nat → Nat → Int64} {R : Nat → Nat → Option Nat} {tl : am_H} {N a it ln sz m0 lm len : Nat} {fi s v row : Nat → Int32} (hN : 100 < N) (hp : prA V I tl a it 2 ln sz m0 fi) (ha : a ≠ 16) (h4 : V 16 4 = .ref a) (h0 : V 16 0 = .int (nI lm)) (hlo : 10 ≤ lm) (hlm : lm ≤ 2000) (hs : sound 2 ln sz s v) (hi : itm 2 s v sz fi) (hm0 : sz * wdN 2 ≤ m0) (hm1 : m0 ≤ 1000) (h10 : V 16 10 = .int (nI len)) (hlen : len ≤ 8) (hrow : ∀ i, i < len → I 25 i = row i) : ∃ W, fm_124 N (.ref 16) (fx (rsC V 0 0) I L R ++ tl) = some (.inl (some (.int (s (eM lm len row v).2.2)), fx W I L R ++ tl)) ∧ W 16 1 = .int (eM lm len row v).1 ∧ W 16 2 = .int (nI (eM lm len row v).2.1) ∧ frC V W I I := by
  obtain ⟨z1, z6, hnx⟩ := so_2 hs
  have hi' : ∀ k, k < sz → fi (k * 5) = s k ∧ ∀ c, c < 4 → fi (k * 5 + (1 + c)) = pv_367 (v k) (nI c) := hi
  have hq : (mrun (nxM v) (clM row) lm len 0 1 0).2.2 < sz := mrun_q (fun q c h1 h2 => (hnx q c h1 h2).2) (fun k => (clM_at row k).1) len 0 1 0 (by omega)
  have k0 := c_124 (V := V) (I := I) (L := L) (R := R) (tl := tl) (N := N) (nx := nxM v) (cl := clM row) hN hp ha h4 h0 (by omega) hlm z1 z6 hm0 hm1 h10 hlen (fun q c h1 h2 => ⟨((hi' q h1).2 c h2).trans (hnx q c h1 h2).1, (hnx q c h1 h2).2⟩) (fun k hk => ⟨(clM_at row k).1, by rw [hrow k hk]; exact (clM_at row k).2.1⟩) hq
  unfold eM
  rw [(hi' _ hq).1] at k0
  generalize mrun (nxM v) (clM row) lm len 0 1 0 = q at k0 ⊢
  exact ⟨_, k0, rfl, rfl, fun b j hj => rsC_o (hj.imp id (fun e => ⟨e.1, e.2.1⟩)), fun _ _ => rfl, wt_rsC⟩
set_option maxRecDepth 100000 in
set_option maxHeartbeats 1600000 in
theorem k_net {V : Nat → Nat → Value} {I : Nat → Nat → Int32} {L : Nat → Nat → Int64} {R : Nat → Nat → Option Nat} {tl : am_H} {N a it ln sz m0 lm len : Nat} {fi s v row : Nat → Int32} (hN : 100 < N) (hp : prA V I tl a it 3 ln sz m0 fi) (ha : a ≠ 16) (hit : it ≠ 26) (h4 : V 16 4 = .ref a) (h0 : V 16 0 = .int (nI lm)) (hlo : 10 ≤ lm) (hlm : lm ≤ 2000) (hs : sound 3 ln sz s v) (hi : itm 3 s v sz fi) (hm0 : sz * wdN 3 ≤ m0) (hm1 : m0 ≤ 1000) (h10 : V 16 10 = .int (nI len)) (hlen : len ≤ 8) (hrow : ∀ i, i < len → I 25 i = row i) : ∃ W J w, fm_126 N (.ref 16) (fx (rsC V 0 0) I L R ++ tl) = some (.inl (some (.int w), fx W J L R ++ tl)) ∧ W 16 1 = .int (eN lm len sz row s v).1 ∧ W 16 2 = .int (nI (eN lm len sz row s v).2.1) ∧ w = (eN lm len sz row s v).2.2 ((ln - 1) / 2) ∧ frC V W I J := by
  obtain ⟨l2, l8, z40, hk⟩ := so_3 hs
  have hi' : ∀ k, k < sz → fi (k * 2) = s k ∧ fi (k * 2 + 1) = v k := hi
  have k0 := c_126 (V := V) (I := I) (L := L) (R := R) (tl := tl) (N := N) (s := clN s) (v := clN v) hN hp ha hit h4 h0 (by omega) hlm z40 hm0 hm1 l2 l8 (fun c hc => ⟨(hi' c hc).1.trans (hk c hc).1, (hi' c hc).2.trans (hk c hc).2.1, (hk c hc).2.2.1, by have := (hk c hc).2.2.2; omega⟩) h10 hlen
  have c1 := nrun_c (s := clN s) (v := clN v) (lm := lm) (ln := ln) (fun c hc => (hk c hc).2.2) sz 0 1 (fil (I 26) (I 25) len 8) (fil (fun _ => 0) row len 8) (by omega) (fun q hq => by
    unfold fil
    have q8 : q < 8 := by omega
    rw [if_pos q8, if_pos q8]
    by_cases c : q < len
    · rw [if_pos c, if_pos c, hrow q c]
    · rw [if_neg c, if_neg c])
  unfold eN
  unfold nOut at k0 ⊢
  generalize nrun (clN s) (clN v) lm sz 0 1 (fil (I 26) (I 25) len 8) = q at k0 c1
  generalize nrun (clN s) (clN v) lm sz 0 1 (fil (fun _ => 0) row len 8) = q' at c1 ⊢
  obtain ⟨c1, c2, c3⟩ := c1
  refine ⟨_, _, _, k0, ?_, ?_, c3 _ (by omega), fun b j hj => rsC_o (hj.imp id (fun e => ⟨e.1, e.2.1⟩)), fun y hy => iup_na hy, wt_rsC⟩
  · rw [← c1]; rfl
  · rw [← c2]; rfl
/-! ===== perform ===== -/
def pfV (V : Nat → Nat → Value) (x y z : Int32) (len : Nat) : Nat → Nat → Value := vup (vup (vup (vup (vup (vup (vup V 16 1 (.int 0)) 16 2 (.int 0)) 16 3 (.int 0)) 16 6 (.int x)) 16 7 (.int y)) 16 8 (.int z)) 16 10 (.int (nI len))
def pfI (I : Nat → Nat → Int32) (arr fr : Nat) : Nat → Nat → Int32 := iup I 25 (va_cpy (I arr) (I 25) (fr + 7) 0 8)
theorem pfV_o {V : Nat → Nat → Value} {x y z : Int32} {len a j : Nat} (h : a ≠ 16) : pfV V x y z len a j = V a j := by
  unfold pfV
  rw [vup_na h, vup_na h, vup_na h, vup_na h, vup_na h, vup_na h, vup_na h]
theorem wt_pfV {V : Nat → Nat → Value} {x y z : Int32} {len : Nat} (h : wt V) : wt (pfV V x y z len) := wt_i (wt_i (wt_i (wt_i (wt_i (wt_i (wt_i h (by decide)) (by decide)) (by decide)) (by decide)) (by decide)) (by decide)) (by decide)
/-- what a run leaves as it was -/
def frP (V W : Nat → Nat → Value) (I J : Nat → Nat → Int32) : Prop := (∀ a j, a ≠ 16 → W a j = V a j) ∧ W 16 0 = V 16 0 ∧ W 16 4 = V 16 4 ∧ (∀ y, y ≠ 25 → y ≠ 26 → J y = I y) ∧ (wt V → wt W)
/-- a program in the runner -/
def ldC (V : Nat → Nat → Value) (I : Nat → Nat → Int32) (tl : am_H) (a it kd ln sz m0 : Nat) (fi s v : Nat → Int32) (lm : Nat) : Prop := prA V I tl a it kd ln sz m0 fi ∧ (a ≠ 16 ∧ a ≠ 17 ∧ it ≠ 18 ∧ it ≠ 25 ∧ it ≠ 26) ∧ itm kd s v sz fi ∧ sound kd ln sz s v ∧ sz * wdN kd ≤ m0 ∧ m0 ≤ 1000 ∧ V 16 4 = .ref a ∧ V 16 0 = .int (nI lm) ∧ 10 ≤ lm ∧ lm ≤ 2000 ∧ (kd = 0 → V 17 7 = .int (nI sz) ∧ ∀ k, k < sz → I 18 k = nI (enL (lsT sz s) k))
theorem prA_c {V W : Nat → Nat → Value} {I J : Nat → Nat → Int32} {tl : am_H} {a it kd ln sz m0 : Nat} {fi : Nat → Int32} (hv : ∀ j, W a j = V a j) (hi : J it = I it) (h : prA V I tl a it kd ln sz m0 fi) : prA W J tl a it kd ln sz m0 fi := fun W' J' L R h1 h2 => h W' J' L R (fun j => (h1 j).trans (hv j)) (h2.trans hi)
theorem ldC_c {V W : Nat → Nat → Value} {I J : Nat → Nat → Int32} {tl : am_H} {a it kd ln sz m0 lm : Nat} {fi s v : Nat → Int32} (hf : frP V W I J) (h : ldC V I tl a it kd ln sz m0 fi s v lm) : ldC W J tl a it kd ln sz m0 fi s v lm := by
  obtain ⟨f1, f2, f3, f4, f5⟩ := hf
  obtain ⟨hp, ⟨a16, a17, i18, i25, i26⟩, hi, hs, hm0, hm1, h4, h0, hlo, hhi, hT⟩ := h
  refine ⟨prA_c (fun j => f1 a j a16) (f4 it i25 i26) hp, ⟨a16, a17, i18, i25, i26⟩, hi, hs, hm0, hm1, f3.trans h4, f2.trans h0, hlo, hhi, fun e => ?_⟩
  rw [f1 17 7 (by decide), f4 18 (by decide) (by decide)]
  exact hT e
set_option maxRecDepth 100000 in
set_option maxHeartbeats 1600000 in
theorem c_150 {V : Nat → Nat → Value} {I : Nat → Nat → Int32} {L : Nat → Nat → Int64} {R : Nat → Nat → Option Nat} {tl : am_H} {N : Nat} {w f : Int32} (h : V 16 1 = .int f) : fg_116_150 N (.ref 16) w (fx V I L R ++ tl) = some (.inl (none, fx (vup V 16 3 (.int (if f = 0 then w else 0))) I L R ++ tl)) := by
  unfold fg_116_150
  refine ev_b (rdI h) ?_
  by_cases c : f = 0
  · rw [if_pos c]
    refine ev_f (fun e => e c) ?_
    unfold fg_116_164
    exact ev_b qp_16_3 rfl
  · rw [if_neg c]
    refine ev_t c ?_
    unfold fg_116_164
    exact ev_b qp_16_3 rfl
theorem k_fin {V : Nat → Nat → Value} {I : Nat → Nat → Int32} {L : Nat → Nat → Int64} {R : Nat → Nat → Option Nat} {tl : am_H} {N len arr fr : Nat} {x y z : Int32} {o : Int32 × Nat × Int32} {RUN : Option am_O} (h : ∃ W J w, RUN = some (.inl (some (.int w), fx W J L R ++ tl)) ∧ W 16 1 = .int o.1 ∧ W 16 2 = .int (nI o.2.1) ∧ (if o.1 = 0 then w else 0) = o.2.2 ∧ frC (pfV V x y z len) W (pfI I arr fr) J) : ∃ W J, am_cI true RUN (fun v h => fg_116_150 N (.ref 16) v h) = some (.inl (none, fx W J L R ++ tl)) ∧ W 16 1 = .int o.1 ∧ W 16 2 = .int (nI o.2.1) ∧ W 16 3 = .int o.2.2 ∧ frP V W I J := by
  obtain ⟨W, J, w, e, w1, w2, w3, f1, f2, f3⟩ := h
  refine ⟨_, _, ev_cI e (c_150 w1), ?_, ?_, ?_, fun a j ha => ?_, ?_, ?_, fun y h1 h2 => ?_, fun hw => wt_i (f3 (wt_pfV hw)) (by decide)⟩
  · exact (vup_nj (by decide)).trans w1
  · exact (vup_nj (by decide)).trans w2
  · rw [← w3]; exact vup_eq
  · exact (vup_na ha).trans ((f1 a j (.inl ha)).trans (pfV_o ha))
  · exact (vup_nj (by decide)).trans ((f1 16 0 (.inr (by decide))).trans rfl)
  · exact (vup_nj (by decide)).trans ((f1 16 4 (.inr (by decide))).trans rfl)
  · exact (f2 y h2).trans (iup_na h1)
theorem min8 : ∀ n, n < 9 → pv_38 (nI n) 8 = nI n := by decide +kernel
