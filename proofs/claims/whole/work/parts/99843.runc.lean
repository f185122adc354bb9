/-! ===== a run of the class, kind by kind ===== -/
/-- only the runner's own fields changed, and its pile -/
def frC (V W : Nat → Nat → Value) (I J : Nat → Nat → Int32) : Prop := (∀ a j, a ≠ 16 ∨ (j ≠ 1 ∧ j ≠ 2 ∧ j ≠ 11 ∧ j ≠ 12 ∧ j ≠ 14) → W a j = V a j) ∧ (∀ y, y ≠ 26 → J y = I y) ∧ (wt V → wt W)
theorem wt_rsC {V : Nat → Nat → Value} {f : Int32} {u : Nat} (h : wt V) : wt (rsC V f u) := wt_i (wt_i h (by decide)) (by decide)
theorem wt_eW {V : Nat → Nat → Value} {st : eSt} (h : wt V) : wt (eW V st) := wt_rsC (wt_i (wt_i h (by decide)) (by decide))
theorem rsC_o {V : Nat → Nat → Value} {f : Int32} {u a j : Nat} (h : a ≠ 16 ∨ (j ≠ 1 ∧ j ≠ 2)) : rsC V f u a j = V a j := by
  unfold rsC
  rcases h with h | h
  · rw [vup_na h, vup_na h]
  · by_cases c : a = 16
    · subst c
      rw [vup_nj h.2, vup_nj h.1]
    · rw [vup_na c, vup_na c]
theorem eW_o {V : Nat → Nat → Value} {st : eSt} {a j : Nat} (h : a ≠ 16 ∨ (j ≠ 1 ∧ j ≠ 2 ∧ j ≠ 11 ∧ j ≠ 12)) : eW V st a j = V a j := by
  unfold eW
  rw [rsC_o (h.imp id (fun e => ⟨e.1, e.2.1⟩))]
  rcases h with h | h
  · rw [vup_na h, vup_na h]
  · by_cases c : a = 16
    · subst c
      rw [vup_nj h.2.2.2, vup_nj h.2.2.1]
    · rw [vup_na c, vup_na c]
/-- sorts of a tree's list -/
def sL (l : List (Nat × Nat)) (k : Nat) : Nat := (l.getD k (0, 0)).1
theorem sL_at {l r : List (Nat × Nat)} {x : Nat × Nat} {k : Nat} (h : l.drop k = x :: r) : sL l k = x.1 := by
  unfold sL
  rw [drop_get h]
/-- what a tree comes to -/
def eT (x y z : Int32) (len : Nat) (row : Nat → Int32) (lm : Nat) (l : List (Nat × Nat)) (v : Nat → Int32) : Int32 × eSt := evN x y z len row lm (sL l) v (enL l) 12 0 (0, 0, 0, 0)
theorem cx0 {l : List (Nat × Nat)} (ho : okF [(0, 1, 0)] l) : cxK l 0 = (0, 1, 0) ∧ 0 < l.length := by
  obtain ⟨w, r, rfl⟩ := okF_ne ho
  refine ⟨?_, by rw [List.length_cons]; omega⟩
  unfold cxK
  rw [cxl_c]
  rfl
set_option maxRecDepth 100000 in
set_option maxHeartbeats 1600000 in
theorem k_tree {V : Nat → Nat → Value} {I : Nat → Nat → Int32} {L : Nat → Nat → Int64} {R : Nat → Nat → Option Nat} {tl : am_H} {N a it ln m0 lm len : Nat} {fi v row : Nat → Int32} {l : List (Nat × Nat)} {x y z cs ce : Int32} (hN : 100 < N) (hp : prA V I tl a it 0 ln l.length m0 fi) (ha : a ≠ 16) (h4 : V 16 4 = .ref a) (h0 : V 16 0 = .int (nI lm)) (hlm : lm ≤ 2000) (hm0 : l.length * wdN 0 ≤ m0) (hm1 : m0 ≤ 1000) (hl : l.length ≤ 60) (ho : okF [(0, 1, 0)] l) (hfi : ∀ k w r, l.drop k = w :: r → fi (k * 2) = nI w.1 ∧ fi (k * 2 + 1) = v k) (h6 : V 16 6 = .int x) (h7 : V 16 7 = .int y) (h8 : V 16 8 = .int z) (h10 : V 16 10 = .int (nI len)) (hlen : len ≤ 8) (h11 : V 16 11 = .int cs) (h12 : V 16 12 = .int ce) (hrow : ∀ i, i < len → I 25 i = row i) (h17 : V 17 7 = .int (nI l.length)) (hen : ∀ k, k < l.length → I 18 k = nI (enL l k)) : ∃ W, fm_117 N (.ref 16) 0 1 (fx (rsC V 0 0) I L R ++ tl) = some (.inl (some (.int (eT x y z len row lm l v).1), fx W I L R ++ tl)) ∧ W 16 1 = .int (eT x y z len row lm l v).2.1 ∧ W 16 2 = .int (nI (eT x y z len row lm l v).2.2.1) ∧ frC V W I I := by
  have at_ : ∀ k, k < l.length → ∃ w r, l.drop k = w :: r := fun k hk => by
    obtain ⟨w, r, m, hd, -⟩ := isF_at (okF_F l _ ho) hk
    exact ⟨w, r, hd⟩
  have hE : evH V I tl a it ln l.length m0 fi (sL l) v (enL l) x y z len lm := ⟨hp, ha, h4, h0, hlm, hl, hm0, hm1, h6, h7, h8, h10, hlen, h17, hen, fun k hk => by
    obtain ⟨w, r, hd⟩ := at_ k hk
    obtain ⟨f1, f2, f3, f4, f5, f6, f7, -, -⟩ := form_ev ho k w r hd
    obtain ⟨g1, g2⟩ := hfi k w r hd
    rw [sL_at hd]
    exact ⟨g1, g2, f1, fun h => (f5 h).1, fun h => (f6 h).1, fun h => (f7 h).1⟩⟩
  have k0 := c_117 (L := L) (R := R) hN hE 12 40 0 (0, 0, cs, ce) (by omega) (by omega) (cx0 ho).2 (Nat.zero_le _)
  have i1 := evN_i (x := x) (y := y) (z := z) (len := len) (lm := lm) (row := I 25) (v := v) (sN := sL l) ho (fun k w r hd => sL_at hd) 12 0 (0, 0, cs, ce) (0, 0, 0, 0) (cx0 ho).2 (by rw [(cx0 ho).1]) ⟨rfl, rfl⟩
  have e0 : evN x y z len (I 25) lm (sL l) v (enL l) 12 0 (0, 0, 0, 0) = eT x y z len row lm l v := evN_r hlen hrow 12 0 _
  rw [e0] at i1
  have ev : rsC V 0 0 = eW V (0, 0, cs, ce) := by
    unfold eW
    rw [vup_self (V := V) (a := 16) (j := 11) h11, vup_self (V := V) (a := 16) (j := 12) h12]
  generalize evN x y z len (I 25) lm (sL l) v (enL l) 12 0 (0, 0, cs, ce) = q at k0 i1
  refine ⟨eW V q.2, ?_, ?_, ?_, fun b j hj => eW_o (hj.imp id (fun e => ⟨e.1, e.2.1, e.2.2.1, e.2.2.2.1⟩)), fun y _ => rfl, wt_eW⟩
  · rw [ev, ← i1.1]
    exact k0
  · show Value.int q.2.1 = _
    rw [i1.2.1]
  · show Value.int (nI q.2.2.1) = _
    rw [i1.2.2]
/-- what code comes to -/
def eC (x y z : Int32) (len : Nat) (row : Nat → Int32) (lm sz : Nat) (s a : Nat → Nat) (v : Nat → Int32) (ht : Nat → Nat) : (Nat → Int32) × eSt := crun x y z len row lm sz s a v ht sz 0 (fun _ => 0) (0, 0, 0, 0)
set_option maxRecDepth 100000 in
set_option maxHeartbeats 1600000 in
theorem k_code {V : Nat → Nat → Value} {I : Nat → Nat → Int32} {L : Nat → Nat → Int64} {R : Nat → Nat → Option Nat} {tl : am_H} {N a0 it ln sz m0 lm len : Nat} {fi v row : Nat → Int32} {s a ht : Nat → Nat} {x y z cs ce : Int32} (hN : 100 < N) (hE : cdH V I tl a0 it ln sz m0 fi s v x y z len lm) (hO : cdO sz s a v ht) (h11 : V 16 11 = .int cs) (h12 : V 16 12 = .int ce) (hrow : ∀ i, i < len → I 25 i = row i) : ∃ W J w, fm_123 N (.ref 16) (fx (rsC V 0 0) I L R ++ tl) = some (.inl (some (.int w), fx W J L R ++ tl)) ∧ W 16 1 = .int (eC x y z len row lm sz s a v ht).2.1 ∧ W 16 2 = .int (nI (eC x y z len row lm sz s a v ht).2.2.1) ∧ ((eC x y z len row lm sz s a v ht).2.1 = 0 → w = (eC x y z len row lm sz s a v ht).1 0) ∧ frC V W I J := by
  have hlen : len ≤ 8 := hE.2.2.2.2.2.2.2.2.2.2.2.2.1
  obtain ⟨w, T', h1, h2⟩ := c_123 (L := L) (R := R) hN hE hO h11 h12
  have c1 := crun_c (x := x) (y := y) (z := z) (lm := lm) hlen hrow hO sz 0 (I 26) (fun _ => 0) (0, 0, cs, ce) (by omega) (by omega) (fun i hi => by rw [hO.2.2.1] at hi; omega)
  have c2 := crun_i (x := x) (y := y) (z := z) (len := len) (lm := lm) (sz := sz) (row := row) (s := s) (a := a) (v := v) (ht := ht) sz 0 (fun _ => 0) (0, 0, cs, ce) (0, 0, 0, 0) ⟨rfl, rfl⟩
  have e0 : crun x y z len row lm sz s a v ht sz 0 (fun _ => 0) (0, 0, 0, 0) = eC x y z len row lm sz s a v ht := rfl
  rw [e0] at c2
  generalize crun x y z len (I 25) lm sz s a v ht sz 0 (I 26) (0, 0, cs, ce) = q at h1 h2 c1
  generalize crun x y z len row lm sz s a v ht sz 0 (fun _ => 0) (0, 0, cs, ce) = q1 at c1 c2
  refine ⟨hW V T' q.2, iup I 26 q.1, w, h1, ?_, ?_, fun h => ?_, fun b j hj => ?_, fun y hy => iup_na hy, fun hw => wt_eW (wt_i hw (by decide))⟩
  · show Value.int q.2.1 = _
    rw [c1.1, c2.2.1]
  · show Value.int (nI q.2.2.1) = _
    rw [c1.1, c2.2.2]
  · have hq : q.2.1 = 0 := by rw [c1.1, c2.2.1]; exact h
    rw [h2 hq, c1.2 hq, c2.1]
  · unfold hW
    rw [eW_o (hj.imp id (fun e => ⟨e.1, e.2.1, e.2.2.1, e.2.2.2.1⟩))]
    rcases hj with hj | hj
    · exact vup_na hj
    · by_cases c : b = 16
      · subst c; exact vup_nj hj.2.2.2.2
      · exact vup_na c
