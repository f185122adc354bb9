/-! ===== edits: candidates in the class: machines ===== -/
theorem hd_178_0 {x0 : Value} {x1 : Int32} {x2 : Int32} {h : am_H} {r_ : Option am_O} (k_ : ((am_vR (am_pG 5 x0 h)).bind fun v1 => (if am_pOk 3 v1 h then am_cI true (fm_54 v1 ((x1 / 4)) ((1 + (x1 - x1 / 4 * 4))) h) (fun v4 h5 => (if ¬ v4 = x2 then ((am_vR (am_pG 0 x0 h5)).bind fun v8 => ((am_vR (am_pG 5 x0 h5)).bind fun v10 => (if am_pOk 3 v8 h5 then am_cV true (fm_60 v8 v10 h5) (fun h14 => ((am_vR (am_pG 0 x0 h14)).bind fun v16 => (if am_pOk 3 v16 h14 then am_cV true (fm_51 v16 ((x1 / 4)) ((1 + (x1 - x1 / 4 * 4))) x2 h14) (fun h20 => some (.inl (some (.int 1), h20))) else none))) else none))) else some (.inl (some (.int 0), h5)))) else none)) = r_) : fg_178_0 x0 x1 x2 h = r_ := k_
theorem hm_178 {y0 : Value} {y1 : Int32} {y2 : Int32} {h : am_H} {r_ : Option am_O} (k_ : fg_178_0 y0 y1 y2 h = r_) : fm_178 y0 y1 y2 h = r_ := k_
theorem hd_179_0 {x0 : Value} {x1 : Int32} {h : am_H} {r_ : Option am_O} (k_ : ((am_vR (am_pG 5 x0 h)).bind fun v1 => (if am_pOk 3 v1 h then am_cI true (fm_54 v1 ((x1 / 4)) ((1 + (x1 - x1 / 4 * 4))) h) (fun v4 h5 => ((am_vR (am_pG 0 x0 h5)).bind fun v7 => ((am_vR (am_pG 5 x0 h5)).bind fun v9 => (if am_pOk 3 v7 h5 then am_cV true (fm_60 v7 v9 h5) (fun h13 => ((am_vR (am_pG 0 x0 h13)).bind fun v15 => ((am_vR (am_pG 5 x0 h13)).bind fun v17 => (if am_pOk 3 v15 h13 then am_cI true (fm_170 v15 v17 v4 ((v4 + 1)) h13) (fun v20 h21 => (if ¬ v20 = 0 then ((am_vR (am_pG 0 x0 h21)).bind fun v24 => ((am_vR (am_pG 5 x0 h21)).bind fun v26 => ((am_vI (am_pG 771 v26 h21)).bind fun v28 => (if am_pOk 3 v24 h21 then am_cV true (fm_51 v24 ((x1 / 4)) ((1 + (x1 - x1 / 4 * 4))) v28 h21) (fun h32 => some (.inl (some (.int 1), h32))) else none)))) else some (.inl (some (.int 0), h21)))) else none)))) else none)))) else none)) = r_) : fg_179_0 x0 x1 h = r_ := k_
theorem hm_179 {y0 : Value} {y1 : Int32} {h : am_H} {r_ : Option am_O} (k_ : fg_179_0 y0 y1 h = r_) : fm_179 y0 y1 h = r_ := k_
theorem hd_180_109 {N : Nat} {rec_47 : Value → Int32 → Int32 → am_H → Option am_O} {x0 : Value} {x1 : Int32} {x2 : Int32} {s0 : Value} {s1 : Int32} {s2 : Int32} {s3 : Int32} {h : am_H} {r_ : Option am_O} (k_ : (if am_pOk 3 s0 h then am_cV true (fm_51 s0 s1 s2 s3 h) (fun h3 => (rec_47 x0 x1 ((x2 + 1)) h3)) else none) = r_) : fg_180_109 N rec_47 x0 x1 x2 s0 s1 s2 s3 h = r_ := k_
theorem hd_180_47 {N : Nat} {K : Nat} {x0 : Value} {x1 : Int32} {x2 : Int32} {h : am_H} {r_ : Option am_O} (k_ : ((am_vR (am_pG 0 x0 h)).bind fun v1 => ((am_vI (am_pG 771 v1 h)).bind fun v3 => (if (4 * v3) ≤ x2 then some (.inl (some (.int 1), h)) else ((am_vR (am_pG 0 x0 h)).bind fun v6 => (if am_pOk 3 v6 h then am_cI true (fm_54 v6 ((x2 / 4)) ((1 + (x2 - x2 / 4 * 4))) h) (fun v9 h10 => ((am_vR (am_pG 0 x0 h10)).bind fun v12 => (if ¬ v9 = x1 then (if v9 ≤ x1 then (fg_180_109 N (fg_180_47 N K) x0 x1 x2 v12 ((x2 / 4)) ((1 + (x2 - x2 / 4 * 4))) v9 h10) else (fg_180_109 N (fg_180_47 N K) x0 x1 x2 v12 ((x2 / 4)) ((1 + (x2 - x2 / 4 * 4))) ((v9 - 1)) h10)) else (fg_180_109 N (fg_180_47 N K) x0 x1 x2 v12 ((x2 / 4)) ((1 + (x2 - x2 / 4 * 4))) 0 h10)))) else none))))) = r_) : fg_180_47 N (K + 1) x0 x1 x2 h = r_ := by rw [fg_180_47]; exact k_
theorem hd_180_0 {N : Nat} {x0 : Value} {x1 : Int32} {h : am_H} {r_ : Option am_O} (k_ : ((am_vR (am_pG 0 x0 h)).bind fun v1 => (if am_pOk 3 v1 h then am_cV true (fm_34 v1 2 0 h) (fun h5 => ((am_vR (am_pG 0 x0 h5)).bind fun v7 => ((am_vR (am_pG 5 x0 h5)).bind fun v9 => (if am_pOk 3 v7 h5 then am_cI true (fm_170 v7 v9 0 x1 h5) (fun v12 h13 => ((am_vR (am_pG 0 x0 h13)).bind fun v15 => ((am_vR (am_pG 5 x0 h13)).bind fun v17 => ((am_vR (am_pG 5 x0 h13)).bind fun v19 => ((am_vI (am_pG 771 v19 h13)).bind fun v21 => (if am_pOk 3 v15 h13 then am_cI true (fm_170 v15 v17 ((x1 + 1)) v21 h13) (fun v24 h25 => (fg_180_47 N N x0 x1 0 h25)) else none)))))) else none)))) else none)) = r_) : fg_180_0 N x0 x1 h = r_ := k_
theorem hm_180 {N : Nat} {y0 : Value} {y1 : Int32} {h : am_H} {r_ : Option am_O} (k_ : fg_180_0 N y0 y1 h = r_) : fm_180 N y0 y1 h = r_ := k_
theorem hd_181_46 {N : Nat} {rec_11 : Value → Int32 → Int32 → am_H → Option am_O} {x0 : Value} {x1 : Int32} {x2 : Int32} {s0 : Value} {s1 : Value} {h : am_H} {r_ : Option am_O} (k_ : (if am_pOk 3 s0 h then am_cI true (fm_170 s0 s1 x2 ((x2 + 1)) h) (fun v2 h3 => (rec_11 x0 x1 ((x2 + 1)) h3)) else none) = r_) : fg_181_46 N rec_11 x0 x1 x2 s0 s1 h = r_ := k_
theorem hd_181_11 {N : Nat} {K : Nat} {x0 : Value} {x1 : Int32} {x2 : Int32} {h : am_H} {r_ : Option am_O} (k_ : ((am_vR (am_pG 5 x0 h)).bind fun v1 => ((am_vI (am_pG 771 v1 h)).bind fun v3 => (if v3 ≤ x2 then some (.inl (some (.int 1), h)) else ((am_vR (am_pG 0 x0 h)).bind fun v6 => (if ¬ ((x1 >>> (x2 &&& 31)) &&& 1) = 1 then ((am_vR (am_pG 5 x0 h)).bind fun v9 => (fg_181_46 N (fg_181_11 N K) x0 x1 x2 v6 v9 h)) else ((am_vR (am_pG 6 x0 h)).bind fun v11 => (fg_181_46 N (fg_181_11 N K) x0 x1 x2 v6 v11 h))))))) = r_) : fg_181_11 N (K + 1) x0 x1 x2 h = r_ := by rw [fg_181_11]; exact k_
theorem hd_181_0 {N : Nat} {x0 : Value} {x1 : Int32} {h : am_H} {r_ : Option am_O} (k_ : ((am_vR (am_pG 0 x0 h)).bind fun v1 => (if am_pOk 3 v1 h then am_cV true (fm_34 v1 2 0 h) (fun h5 => (fg_181_11 N N x0 x1 0 h5)) else none)) = r_) : fg_181_0 N x0 x1 h = r_ := k_
theorem hm_181 {N : Nat} {y0 : Value} {y1 : Int32} {h : am_H} {r_ : Option am_O} (k_ : fg_181_0 N y0 y1 h = r_) : fm_181 N y0 y1 h = r_ := k_
def rG (P : xI) (k w : Nat) : Int32 := if w = 0 then srt P k else pv_367 (vlu P k) (nI (w - 1))
def hM (V : Nat → Nat → Value) (I : Nat → Nat → Int32) (C z : Nat) (G : Nat → Nat → Int32) : Prop := V C 1 = .int (nI 2) ∧ V C 2 = .int (nI 0) ∧ V C 3 = .int (nI z) ∧ V C 4 = .int (nI 5) ∧ ∀ k w, k < z → w < 5 → I (C + 1) (k * 5 + w) = G k w
def srcM (V : Nat → Nat → Value) (I : Nat → Nat → Int32) (tl : am_H) (A it z : Nat) (G : Nat → Nat → Int32) : Prop := ∃ m f, prA V I tl A it 2 0 z m f ∧ (∀ k w, k < z → w < 5 → f (k * 5 + w) = G k w) ∧ z * 5 ≤ m ∧ m ≤ 1000 ∧ z ≤ 10
theorem srcM_c {V W : Nat → Nat → Value} {I J : Nat → Nat → Int32} {tl : am_H} {A it z : Nat} {G : Nat → Nat → Int32} (hv : ∀ j, W A j = V A j) (hi : J it = I it) (h : srcM V I tl A it z G) : srcM W J tl A it z G := by
  obtain ⟨m, f, p1, p2, p3, p4, p5⟩ := h
  exact ⟨m, f, fun X K L R a b => p1 X K L R (fun j => (a j).trans (hv j)) (b.trans hi), p2, p3, p4, p5⟩
theorem srcM_f {C : Nat} {V W : Nat → Nat → Value} {I J : Nat → Nat → Int32} {tl : am_H} {A it z : Nat} {G : Nat → Nat → Int32} (hf : fr1 C V W I J) (hA : A ≠ C) (hi : it ≠ C + 1) (h : srcM V I tl A it z G) : srcM W J tl A it z G := srcM_c (fun j => hf.1 A j hA) (hf.2.1 it hi) h
theorem sM_get {V : Nat → Nat → Value} {I : Nat → Nat → Int32} {L : Nat → Nat → Int64} {R : Nat → Nat → Option Nat} {tl : am_H} {A it z : Nat} {G : Nat → Nat → Int32} (h : srcM V I tl A it z G) {k w : Nat} (hk : k < z) (hw : w < 5) : fm_54 (.ref A) (nI k) (nI w) (fx V I L R ++ tl) = some (.inl (some (.int (G k w)), fx V I L R ++ tl)) := by
  obtain ⟨m, f, p1, p2, p3, p4, p5⟩ := h
  have hp := p1 V I L R (fun _ => rfl) rfl
  have a := c_54 (k := k) (w := w) hp p3 p4 (by omega) hk hw
  rw [show f (k * wdN 2 + w) = G k w from p2 k w hk hw] at a
  exact a
theorem sM_ok {V : Nat → Nat → Value} {I : Nat → Nat → Int32} {L : Nat → Nat → Int64} {R : Nat → Nat → Option Nat} {tl : am_H} {A it z : Nat} {G : Nat → Nat → Int32} (h : srcM V I tl A it z G) : am_pOk 3 (.ref A) (fx V I L R ++ tl) = true ∧ am_vI (am_pG 771 (.ref A) (fx V I L R ++ tl)) = some (nI z) ∧ z ≤ 10 := by
  obtain ⟨m, f, p1, p2, p3, p4, p5⟩ := h
  obtain ⟨x1, x2, x3, x4, x5, x6, q1, q2⟩ := p1 V I L R (fun _ => rfl) rfl
  exact ⟨ev_ok q1, ev_gI q1 rfl rfl, p5⟩
theorem srcM_90 {V : Nat → Nat → Value} {I : Nat → Nat → Int32} {L : Nat → Nat → Int64} {R : Nat → Nat → Option Nat} {tl : am_H} {z : Nat} {G : Nat → Nat → Int32} (w : wt V) (h : hM V I 90 z G) (hz : z ≤ 10) : srcM V I tl 90 91 z G := ⟨120, I 91, prF_90 (L := fun _ _ => 0) (R := fun _ _ => none) w h.1 h.2.1 h.2.2.1 h.2.2.2.1, h.2.2.2.2, by omega, by omega, hz⟩
theorem hM_g {V : Nat → Nat → Value} {I : Nat → Nat → Int32} {C z : Nat} {G H : Nat → Nat → Int32} (h : hM V I C z G) (e : ∀ k w, k < z → w < 5 → G k w = H k w) : hM V I C z H := ⟨h.1, h.2.1, h.2.2.1, h.2.2.2.1, fun k w hk hw => (h.2.2.2.2 k w hk hw).trans (e k w hk hw)⟩
set_option maxRecDepth 100000 in
set_option maxHeartbeats 4000000 in
theorem sM_34 {V : Nat → Nat → Value} {I : Nat → Nat → Int32} {L : Nat → Nat → Int64} {R : Nat → Nat → Option Nat} {tl : am_H} {G : Nat → Nat → Int32} : ∃ W J, fm_34 (.ref 90) 2 0 (fx V I L R ++ tl) = some (.inl (none, fx W J L R ++ tl)) ∧ hM W J 90 0 G ∧ fr1 90 V W I J := by
  refine ⟨_, _, p34_90 2 0, ⟨rfl, rfl, rfl, rfl, fun k w hk => absurd hk (Nat.not_lt_zero _)⟩, ?_⟩
  exact fr1_t (fr1_v (by decide)) (fr1_t (fr1_v (by decide)) (fr1_t (fr1_v (by decide)) (fr1_v (by decide))))
set_option maxRecDepth 100000 in
set_option maxHeartbeats 4000000 in
theorem sM_60 {V : Nat → Nat → Value} {I : Nat → Nat → Int32} {L : Nat → Nat → Int64} {R : Nat → Nat → Option Nat} {tl : am_H} {A it z : Nat} {G : Nat → Nat → Int32} (hs : srcM V I tl A it z G) (hA : A ≠ 90) : ∃ W J, fm_60 (.ref 90) (.ref A) (fx V I L R ++ tl) = some (.inl (none, fx W J L R ++ tl)) ∧ hM W J 90 z G ∧ fr1 90 V W I J := by
  obtain ⟨m, f, hp, hf, m1, m2, l10⟩ := hs
  refine ⟨_, _, p60_90 hp hA (by omega) m1 m2 (by show z * 5 ≤ 120; omega) (by omega), ⟨rfl, rfl, rfl, rfl, fun k w hk hw => ?_⟩, ?_⟩
  · show va_cpy f (I 91) 0 0 (z * 5) (k * 5 + w) = _
    rw [cpy0 (by omega)]
    exact hf k w hk hw
  · exact fr1_t (fr1_v (by decide)) (fr1_t (fr1_v (by decide)) (fr1_t (fr1_v (by decide)) (fr1_t (fr1_v (by decide)) (fr1_t (fr1_v (by decide)) fr1_i))))
set_option maxRecDepth 100000 in
set_option maxHeartbeats 4000000 in
theorem sM_170 {V : Nat → Nat → Value} {I : Nat → Nat → Int32} {L : Nat → Nat → Int64} {R : Nat → Nat → Option Nat} {tl : am_H} {A it z y i j : Nat} {G H : Nat → Nat → Int32} (hs : srcM V I tl A it y H) (h : hM V I 90 z G) (hij : i ≤ j) (hj : j ≤ y) (hz : z + (j - i) ≤ 10) (a b : Int32) (ha : a = nI i) (hb : b = nI j) : ∃ W J, fm_170 (.ref 90) (.ref A) a b (fx V I L R ++ tl) = some (.inl (some (.int 1), fx W J L R ++ tl)) ∧ hM W J 90 (z + (j - i)) (fun k w => if k < z then G k w else H (i + (k - z)) w) ∧ fr1 90 V W I J := by
  subst ha
  subst hb
  obtain ⟨m, f, hp, hf, m1, m2, l10⟩ := hs
  obtain ⟨x1, x2, x3, x4, x5, x6, p1, p2⟩ := hp V I L R (fun _ => rfl) rfl
  refine ⟨_, _, p170_90 (wd := 5) p1 p2 h.2.2.1 h.2.2.2.1 hij hj (by omega) (by omega) m1 m2 (by omega) (by omega), ⟨h.1, h.2.1, rfl, h.2.2.2.1, fun k w hk hw => ?_⟩, fr1_t (fr1_v (by decide)) fr1_i⟩
  show va_cpy f (I 91) (i * 5) (z * 5) ((j - i) * 5) (k * 5 + w) = if k < z then G k w else H (i + (k - z)) w
  unfold va_cpy
  by_cases c : k < z
  · rw [if_neg (by omega), if_pos c]
    exact h.2.2.2.2 k w c hw
  · rw [if_pos (by omega), if_neg c, show i * 5 + (k * 5 + w - z * 5) = (i + (k - z)) * 5 + w by omega]
    exact hf _ w (by omega) hw
set_option maxRecDepth 100000 in
set_option maxHeartbeats 4000000 in
theorem sM_51 {V : Nat → Nat → Value} {I : Nat → Nat → Int32} {L : Nat → Nat → Int64} {R : Nat → Nat → Option Nat} {tl : am_H} {z i j : Nat} {G : Nat → Nat → Int32} {v : Int32} (h : hM V I 90 z G) (hi : i < z) (hj : j < 5) (hz : z ≤ 10) : ∃ W J, fm_51 (.ref 90) (nI i) (nI j) v (fx V I L R ++ tl) = some (.inl (none, fx W J L R ++ tl)) ∧ hM W J 90 z (fun k w => if k = i ∧ w = j then v else G k w) ∧ fr1 90 V W I J := by
  obtain ⟨h1, h2, h3, h4, h5⟩ := h
  refine ⟨V, iup I 91 (upd (I 91) (i * 5 + j) v), ?_, ⟨h1, h2, h3, h4, fun k w hk hw => ?_⟩, fr1_i⟩
  · unfold fm_51 fg_51_0
    refine ev_f (nI_pos (by omega)) (ev_b (rdI h3) (ev_f (nI_ge hi (by omega)) (ev_f (nI_pos (by omega)) (ev_b (rdI h4) (ev_f (nI_ge hj (by omega)) (ev_b (rdR rfl) (ev_b (rdI h4) ?_)))))))
    rw [show nI i * nI 5 + nI j = nI (i * 5 + j) by rw [nI_mm, nI_add]]
    exact ev_b (qs_91 (by omega)) rfl
  · show upd (I 91) (i * 5 + j) v (k * 5 + w) = if k = i ∧ w = j then v else G k w
    by_cases c : k = i ∧ w = j
    · rw [if_pos c, c.1, c.2, upd_eq]
    · rw [if_neg c, upd_ne (by omega)]
      exact h5 k w hk hw
/-- the changer with a machine as its base -/
def cxM (V : Nat → Nat → Value) (I : Nat → Nat → Int32) (tl : am_H) (A it rc ac : Nat) (P : xI) : Prop := V 89 5 = .ref A ∧ V 89 7 = .int (nI rc) ∧ V 89 8 = .int (nI ac) ∧ 1 ≤ ac ∧ ac < 10000 ∧ srcM V I tl A it P.length (rG P) ∧ 130 < A ∧ 130 < it
theorem cxM_f {V W : Nat → Nat → Value} {I J : Nat → Nat → Int32} {tl : am_H} {A it rc ac : Nat} {P : xI} (h : cxM V I tl A it rc ac P) (f : frM V W I J) : cxM W J tl A it rc ac P := by
  obtain ⟨a, b, c, d, e, s, g, k⟩ := h
  exact ⟨(f.1 89 5 (by decide) (by decide) (by decide) (by decide)).trans a, (f.1 89 7 (by decide) (by decide) (by decide) (by decide)).trans b, (f.1 89 8 (by decide) (by decide) (by decide) (by decide)).trans c, d, e, srcM_c (fun j => f.1 A j (by omega) (by omega) (by omega) (by omega)) (f.2.1 it (by omega) (by omega) (by omega)) s, g, k⟩
def outN (W : Nat → Nat → Value) (J : Nat → Nat → Int32) (o : Option xI) (b : Bool) : Prop := (b = true ↔ o.isSome = true) ∧ ∀ Q, o = some Q → hM W J 90 Q.length (rG Q) ∧ Q.length ≤ 6
theorem outN_n {W : Nat → Nat → Value} {J : Nat → Nat → Int32} {o : Option xI} (h : o = none) : outN W J o false := ⟨by rw [h]; exact ⟨fun e => Bool.noConfusion e, fun e => Bool.noConfusion e⟩, fun Q e => by rw [h] at e; cases e⟩
theorem outN_y {W : Nat → Nat → Value} {J : Nat → Nat → Int32} {o : Option xI} {Q : xI} {z : Nat} (h : o = some Q) (hz : Q.length = z) (hd : hM W J 90 z (rG Q)) (hl : z ≤ 6) : outN W J o true := ⟨by rw [h]; exact ⟨fun _ => rfl, fun _ => rfl⟩, fun R e => by rw [h] at e; rw [← Option.some.inj e, hz]; exact ⟨hd, hl⟩⟩
theorem srt_stm {P : xI} {k i : Nat} {a b : Int32} (hk : k < P.length) : srt (P.set k (a, b)) i = (if i = k then a else srt P i) ∧ vlu (P.set k (a, b)) i = (if i = k then b else vlu P i) := by
  unfold srt vlu
  rw [List.getD_eq_getElem?_getD, List.getD_eq_getElem?_getD, List.getElem?_set]
  by_cases c : k = i
  · subst c
    rw [if_pos rfl, if_pos hk, if_pos rfl, if_pos rfl]
    exact ⟨rfl, rfl⟩
  · rw [if_neg c, if_neg (fun e => c e.symm), if_neg (fun e => c e.symm)]
    exact ⟨rfl, rfl⟩
theorem rG_set {P : xI} {k i w : Nat} {a b : Int32} (hk : k < P.length) : rG (P.set k (a, b)) i w = if i = k then (if w = 0 then a else pv_367 b (nI (w - 1))) else rG P i w := by
  unfold rG
  rw [(srt_stm hk).1, (srt_stm hk).2]
  by_cases c : i = k
  · rw [if_pos c, if_pos c, if_pos c]
  · rw [if_neg c, if_neg c, if_neg c]
set_option maxRecDepth 100000 in
set_option maxHeartbeats 4000000 in
theorem m_10 {V : Nat → Nat → Value} {I : Nat → Nat → Int32} {L : Nat → Nat → Int64} {R : Nat → Nat → Option Nat} {tl : am_H} {N A it ac c : Nat} {P : xI} (hx : cxM V I tl A it 10 ac P) (hl : P.length ≤ 6) (hc : c < 5 * P.length) : ∃ W J b, fm_163 N (.ref 89) (nI c) (fx V I L R ++ tl) = some (.inl (some (.int (bI b)), fx W J L R ++ tl)) ∧ outN W J (cd20 P c) b ∧ frM V W I J := by
  obtain ⟨h5, h7, h8, h1, h2, hs, hA, hi⟩ := hx
  obtain ⟨o1, o2, -⟩ := sM_ok (L := L) (R := R) hs
  have hk : c / 5 < P.length := by omega
  have d5 : nI c / 5 = nI (c / 5) := nI_dv (b := 5) (by omega) (by omega)
  have m5 : nI c - nI c / 5 * 5 = nI (c % 5) := nI_md (b := 5) (by omega) (by omega)
  have rb : am_vR (am_pG 5 (.ref 89) (fx V I L R ++ tl)) = some (.ref A) := rVR qv_89_5 h5
  obtain ⟨k, ek⟩ : ∃ k, k = c / 5 := ⟨_, rfl⟩
  obtain ⟨b, eb⟩ : ∃ b, b = c % 5 := ⟨_, rfl⟩
  have b5 : b < 5 := by omega
  rw [← ek] at d5 hk
  rw [← eb] at m5
  have gv : fm_54 (.ref A) (nI k) 0 (fx V I L R ++ tl) = some (.inl (some (.int (srt P k)), fx V I L R ++ tl)) := sM_get (L := L) (R := R) hs hk (w := 0) (by decide)
  have ecd : cd20 P c = if ndO2 b (srt P k) = true then some (P.set k (ndg b (srt P k), vlu P k)) else none := by unfold cd20; rw [← ek, ← eb]
  have st0 : ∀ (W : Nat → Nat → Value) (J : Nat → Nat → Int32) (d : Bool), fm_164 (.ref 89) (nI k) 0 (nI b) (fx V I L R ++ tl) = some (.inl (some (.int (bI d)), fx W J L R ++ tl)) → fm_163 N (.ref 89) (nI c) (fx V I L R ++ tl) = some (.inl (some (.int (bI d)), fx W J L R ++ tl)) := fun W J d e => by
    have e : fm_164 (.ref 89) (nI c / 5) 0 (nI c - nI c / 5 * 5) (fx V I L R ++ tl) = some (.inl (some (.int (bI d)), fx W J L R ++ tl)) := by rw [m5, d5]; exact e
    apply hm_163
    apply hd_163_0
    exact ev_b (rdI h8) (ev_t (nI_le (a := 1) h1 (by omega)) (ev_b (rdI h7) (ev_f (by decide) (ev_f (by decide) (ev_f (by decide) (ev_f (by decide) (ev_f (by decide) (ev_f (by decide) (ev_f (by decide) (ev_f (by decide) (ev_f (by decide) (ev_f (by decide) (ev_t rfl (ev_i rfl (ev_cI e (ev_i (bI_fit d) rfl))))))))))))))))
  have key : ∀ x, ndg b (srt P k) = x → ∃ W J d, fg_164_63 (.ref 89) (nI k) 0 (srt P k) x (fx V I L R ++ tl) = some (.inl (some (.int (bI d)), fx W J L R ++ tl)) ∧ d = ndO2 b (srt P k) ∧ (d = true → hM W J 90 P.length (fun i w => if i = k ∧ w = 0 then x else rG P i w)) ∧ fr1 90 V W I J := fun x hx => by
    have eo : ndO2 b (srt P k) = decide (x ≠ srt P k ∧ ¬ x < -99 ∧ ¬ 99 < x) := by unfold ndO2; rw [hx]
    rw [eo]
    have no : ¬ (x ≠ srt P k ∧ ¬ x < -99 ∧ ¬ 99 < x) → fg_164_63 (.ref 89) (nI k) 0 (srt P k) x (fx V I L R ++ tl) = some (.inl (some (.int 0), fx V I L R ++ tl)) → ∃ W J d, fg_164_63 (.ref 89) (nI k) 0 (srt P k) x (fx V I L R ++ tl) = some (.inl (some (.int (bI d)), fx W J L R ++ tl)) ∧ d = decide (x ≠ srt P k ∧ ¬ x < -99 ∧ ¬ 99 < x) ∧ (d = true → hM W J 90 P.length (fun i w => if i = k ∧ w = 0 then x else rG P i w)) ∧ fr1 90 V W I J := fun n e => ⟨V, I, false, e, (decide_eq_false n).symm, fun e => Bool.noConfusion e, fr1_r⟩
    by_cases c1 : x = srt P k
    · exact no (fun e => e.1 c1) (hd_164_63 (ev_t c1 rfl))
    by_cases c2 : x < -99
    · exact no (fun e => e.2.1 c2) (hd_164_63 (ev_f c1 (ev_t c2 rfl)))
    by_cases c3 : 99 < x
    · exact no (fun e => e.2.2 c3) (hd_164_63 (ev_f c1 (ev_f c2 (ev_f (Int32.not_le.mpr c3) rfl))))
    obtain ⟨W1, J1, e1, d1, f1⟩ := sM_60 (L := L) (R := R) hs (by omega)
    obtain ⟨W2, J2, e2, d2, f2⟩ := sM_51 (L := L) (R := R) (tl := tl) (v := x) (j := 0) d1 hk (by omega) (by omega)
    refine ⟨W2, J2, true, ?_, (decide_eq_true ⟨c1, c2, c3⟩).symm, fun _ => d2, fr1_t f1 f2⟩
    apply hd_164_63
    exact ev_f c1 (ev_f c2 (ev_t (Int32.not_lt.mp c3) (ev_b (rdR rfl) (ev_b rb (ev_i rfl (ev_cV e1 (ev_b (rdR rfl) (ev_i rfl (ev_cV e2 rfl)))))))))
  obtain ⟨W, J, d, e, e2, e3, f⟩ := key _ rfl
  have e : fm_164 (.ref 89) (nI k) 0 (nI b) (fx V I L R ++ tl) = some (.inl (some (.int (bI d)), fx W J L R ++ tl)) := by
    apply hm_164
    apply hd_164_0
    refine ev_b rb (ev_i o1 (ev_cI gv ?_))
    rcases (by omega : b = 0 ∨ b = 1 ∨ b = 2 ∨ b = 3 ∨ b = 4) with rfl | rfl | rfl | rfl | rfl
    · exact ev_f (fun h => h rfl) e
    · exact ev_t (by decide) (ev_f (fun h => h rfl) e)
    · exact ev_t (by decide) (ev_t (by decide) (ev_f (fun h => h rfl) e))
    · exact ev_t (by decide) (ev_t (by decide) (ev_t (by decide) (ev_f (fun h => h rfl) e)))
    · exact ev_t (by decide) (ev_t (by decide) (ev_t (by decide) (ev_t (by decide) e)))
  rw [← e2] at ecd
  cases d with
  | false => exact ⟨W, J, false, st0 W J false e, outN_n (by rw [ecd]; rfl), frM_9 f⟩
  | true =>
    refine ⟨W, J, true, st0 W J true e, outN_y (by rw [ecd]; rfl) (List.length_set ..) (hM_g (e3 rfl) (fun i w _ _ => ?_)) hl, frM_9 f⟩
    rw [rG_set hk]
    by_cases q : i = k
    · rw [if_pos q]
      by_cases q2 : w = 0
      · rw [if_pos ⟨q, q2⟩, if_pos q2]
      · rw [if_neg (fun e => q2 e.2), if_neg q2]; unfold rG; rw [if_neg q2, q]
    · rw [if_neg q, if_neg (fun e => q e.1)]
theorem z353 : ∀ a, a < 64 → ∀ b, b < 64 → ∀ c, c < 4 → pv_353 (nI (64 * a + b)) (nI c) 0 = nI (64 * a + b - (64 * a + b) / 8 ^ c % 8 * 8 ^ c) := by decide +kernel
theorem y353 : ∀ c, c < 4 → ∀ h, h < 8 ^ (3 - c) → ∀ l, l < 8 ^ c → ∀ x, x < 8 → pv_353 (nI (h * 8 ^ (c + 1) + l)) (nI c) (nI x) = nI (h * 8 ^ (c + 1) + l + x * 8 ^ c) := by decide +kernel
theorem a353 (v c x : Int32) : pv_353 v c x = pv_353 (pv_353 v c 0) c x := by
  unfold pv_353
  rw [Int32.zero_shiftLeft, Int32.or_zero, Int32.and_assoc, Int32.and_self]
theorem w353 {v x c : Nat} (hv : v < 4096) (hc : c < 4) (hx : x < 8) : ∃ v', pv_353 (nI v) (nI c) (nI x) = nI v' ∧ v' < 4096 ∧ ∀ d, d < 4 → v' / 8 ^ d % 8 = if d = c then x else v / 8 ^ d % 8 := by
  have z := z353 (v / 64) (by omega) (v % 64) (by omega) c hc
  rw [show 64 * (v / 64) + v % 64 = v by omega] at z
  refine ⟨v - v / 8 ^ c % 8 * 8 ^ c + x * 8 ^ c, ?_, ?_, ?_⟩
  · rw [a353, z]
    rcases (by omega : c = 0 ∨ c = 1 ∨ c = 2 ∨ c = 3) with rfl | rfl | rfl | rfl
    · have := y353 0 (by omega) (v / 8) (by omega) 0 (by omega) x hx
      rw [show v / 8 * 8 ^ (0 + 1) + 0 = v - v / 8 ^ 0 % 8 * 8 ^ 0 by omega] at this
      exact this
    · have := y353 1 (by omega) (v / 64) (by omega) (v % 8) (by omega) x hx
      rw [show v / 64 * 8 ^ (1 + 1) + v % 8 = v - v / 8 ^ 1 % 8 * 8 ^ 1 by omega] at this
      exact this
    · have := y353 2 (by omega) (v / 512) (by omega) (v % 64) (by omega) x hx
      rw [show v / 512 * 8 ^ (2 + 1) + v % 64 = v - v / 8 ^ 2 % 8 * 8 ^ 2 by omega] at this
      exact this
    · have := y353 3 (by omega) (v / 4096) (by omega) (v % 512) (by omega) x hx
      rw [show v / 4096 * 8 ^ (3 + 1) + v % 512 = v - v / 8 ^ 3 % 8 * 8 ^ 3 by omega] at this
      exact this
  · rcases (by omega : c = 0 ∨ c = 1 ∨ c = 2 ∨ c = 3) with rfl | rfl | rfl | rfl <;> omega
  · intro d hd
    rcases (by omega : c = 0 ∨ c = 1 ∨ c = 2 ∨ c = 3) with rfl | rfl | rfl | rfl <;> rcases (by omega : d = 0 ∨ d = 1 ∨ d = 2 ∨ d = 3) with rfl | rfl | rfl | rfl <;> simp <;> omega
theorem e353 {v x c d : Nat} (hv : v < 4096) (hc : c < 4) (hx : x < 8) (hd : d < 4) : pv_367 (pv_353 (nI v) (nI c) (nI x)) (nI d) = if d = c then nI x else pv_367 (nI v) (nI d) := by
  obtain ⟨v', e1, e2, e3⟩ := w353 hv hc hx
  rw [e1, t367 e2 hd, e3 d hd, t367 hv hd]
  split <;> rfl
/-- a machine's rows are sound -/
def okMl (P : xI) : Prop := P.length ≤ 6 ∧ ∀ k, k < P.length → two (srt P k) ∧ ∃ v, v < 4096 ∧ vlu P k = nI v ∧ ∀ c, c < 4 → v / 8 ^ c % 8 < P.length
theorem okM_e {P : xI} (h : okMl P) {e : Nat} (he : e < 4 * P.length) : ∃ a, a < P.length ∧ edg0 P e = nI a := by
  obtain ⟨-, v, v1, v2, v3⟩ := h.2 (e / 4) (by omega)
  refine ⟨_, v3 (e % 4) (by omega), ?_⟩
  unfold edg0
  rw [v2, t367 v1 (by omega)]
theorem rG_wEd {P : xI} (h : okMl P) {e x : Nat} (he : e < 4 * P.length) (hx : x < 8) {i w : Nat} (hw : w < 5) : rG (wEd P e (nI x)) i w = if i = e / 4 ∧ w = 1 + e % 4 then nI x else rG P i w := by
  obtain ⟨-, v, v1, v2, v3⟩ := h.2 (e / 4) (by omega)
  unfold wEd
  rw [rG_set (by omega)]
  by_cases q : i = e / 4
  · rw [if_pos q]
    by_cases q2 : w = 0
    · rw [if_pos q2, if_neg (by omega)]
      unfold rG
      rw [if_pos q2, q]
    · rw [if_neg q2, v2, e353 v1 (by omega) hx (by omega)]
      by_cases q3 : w - 1 = e % 4
      · rw [if_pos q3, if_pos (by omega)]
      · rw [if_neg q3, if_neg (by omega)]
        unfold rG
        rw [if_neg q2, q, v2]
  · rw [if_neg q, if_neg (fun e => q e.1)]
theorem e_dm {e : Nat} (he : e < 100) : nI e / 4 = nI (e / 4) ∧ 1 + (nI e - nI e / 4 * 4) = nI (1 + e % 4) := ⟨nI_dv (b := 4) (by omega) (by omega), (congrArg (fun z => (1 : Int32) + z) (nI_md (b := 4) (by omega) (by omega))).trans (nI_add 1 (e % 4))⟩
set_option maxRecDepth 100000 in
set_option maxHeartbeats 4000000 in
theorem m_11 {V : Nat → Nat → Value} {I : Nat → Nat → Int32} {L : Nat → Nat → Int64} {R : Nat → Nat → Option Nat} {tl : am_H} {N A it c : Nat} {P : xI} (hx : cxM V I tl A it 11 P.length P) (ho : okMl P) (hc : c < 4 * P.length * P.length) : ∃ W J b, fm_163 N (.ref 89) (nI c) (fx V I L R ++ tl) = some (.inl (some (.int (bI b)), fx W J L R ++ tl)) ∧ outN W J (cd21 P c) b ∧ frM V W I J := by
  obtain ⟨h5, h7, h8, h1, h2, hs, hA, hi⟩ := hx
  obtain ⟨o1, o2, -⟩ := sM_ok (L := L) (R := R) hs
  have l6 := ho.1
  have rb : ∀ (W : Nat → Nat → Value) (J : Nat → Nat → Int32), fr1 90 V W I J → am_vR (am_pG 5 (.ref 89) (fx W J L R ++ tl)) = some (.ref A) := fun W J f => rVR qv_89_5 ((f.1 89 5 (by decide)).trans h5)
  have c2 : c < 24 * 6 := Nat.lt_of_lt_of_le hc (Nat.mul_le_mul (by omega) l6)
  have hk : c / P.length < 4 * P.length := Nat.div_lt_of_lt_mul (by rw [Nat.mul_comm]; exact hc)
  have d5 : nI c / nI P.length = nI (c / P.length) := nI_dv (by omega) (by omega)
  have m5 : nI c - nI c / nI P.length * nI P.length = nI (c % P.length) := nI_md (by omega) (by omega)
  have mlt : c % P.length < P.length := Nat.mod_lt _ h1
  have n0 : nI P.length ≠ 0 := fun e => by have := (nI_eq (b := 0) (by omega) (by decide)).mp e; omega
  obtain ⟨e, ee⟩ : ∃ k, k = c / P.length := ⟨_, rfl⟩
  obtain ⟨t, et⟩ : ∃ y, y = c % P.length := ⟨_, rfl⟩
  rw [← ee] at d5 hk
  rw [← et] at m5 mlt
  obtain ⟨q1, q2⟩ := e_dm (e := e) (by omega)
  have g : fm_54 (.ref A) (nI e / 4) (1 + (nI e - nI e / 4 * 4)) (fx V I L R ++ tl) = some (.inl (some (.int (edg0 P e)), fx V I L R ++ tl)) := by
    rw [q2, q1]
    have := sM_get (L := L) (R := R) hs (k := e / 4) (w := 1 + e % 4) (by omega) (by omega)
    rw [show rG P (e / 4) (1 + e % 4) = edg0 P e by unfold rG edg0; rw [if_neg (by omega), show 1 + e % 4 - 1 = e % 4 by omega]] at this
    exact this
  have ecd : cd21 P c = if edg0 P e = nI t then none else some (wEd P e (nI t)) := by unfold cd21; rw [← ee, ← et]
  have st0 : ∀ (W : Nat → Nat → Value) (J : Nat → Nat → Int32) (d : Bool), fm_178 (.ref 89) (nI e) (nI t) (fx V I L R ++ tl) = some (.inl (some (.int (bI d)), fx W J L R ++ tl)) → fm_163 N (.ref 89) (nI c) (fx V I L R ++ tl) = some (.inl (some (.int (bI d)), fx W J L R ++ tl)) := fun W J d e' => by
    have e' : fm_178 (.ref 89) (nI c / nI P.length) (nI c - nI c / nI P.length * nI P.length) (fx V I L R ++ tl) = some (.inl (some (.int (bI d)), fx W J L R ++ tl)) := by rw [m5, d5]; exact e'
    apply hm_163
    apply hd_163_0
    exact ev_b (rdI h8) (ev_t (nI_le (a := 1) h1 (by omega)) (ev_b (rdI h7) (ev_f (by decide) (ev_f (by decide) (ev_f (by decide) (ev_f (by decide) (ev_f (by decide) (ev_f (by decide) (ev_f (by decide) (ev_f (by decide) (ev_f (by decide) (ev_f (by decide) (ev_f (by decide) (ev_t rfl (ev_b (rdI h8) (ev_t n0 (ev_b (rdI h8) (ev_t n0 (ev_i rfl (ev_cI e' (ev_i (bI_fit d) rfl)))))))))))))))))))))
  by_cases q : edg0 P e = nI t
  · refine ⟨V, I, false, st0 V I false ?_, outN_n (by rw [ecd, if_pos q]), frM_r⟩
    apply hm_178
    apply hd_178_0
    exact ev_b (rb V I fr1_r) (ev_i o1 (ev_cI g (ev_f (fun e => e q) rfl)))
  rw [if_neg q] at ecd
  obtain ⟨W1, J1, e1, d1, f1⟩ := sM_60 (L := L) (R := R) hs (by omega)
  obtain ⟨W2, J2, e2, d2, f2⟩ := sM_51 (L := L) (R := R) (tl := tl) (v := nI t) (i := e / 4) (j := 1 + e % 4) d1 (by omega) (by omega) (by omega)
  rw [← q2, ← q1] at e2
  refine ⟨W2, J2, true, st0 W2 J2 true ?_, outN_y ecd (by unfold wEd; exact List.length_set ..) (hM_g d2 (fun i w _ hw => (rG_wEd ho hk (by omega) hw).symm)) l6, frM_9 (fr1_t f1 f2)⟩
  apply hm_178
  apply hd_178_0
  exact ev_b (rb V I fr1_r) (ev_i o1 (ev_cI g (ev_t q (ev_b (rdR rfl) (ev_b (rb V I fr1_r) (ev_i rfl (ev_cV e1 (ev_b (rdR rfl) (ev_i rfl (ev_cV e2 rfl))))))))))
theorem rG_app {P Q : xI} {k w : Nat} : rG (P ++ Q) k w = if k < P.length then rG P k w else rG Q (k - P.length) w := by
  unfold rG srt vlu
  rw [List.getD_eq_getElem?_getD, List.getD_eq_getElem?_getD, List.getD_eq_getElem?_getD]
  by_cases c : k < P.length
  · rw [if_pos c, List.getElem?_append_left c]
  · rw [if_neg c, List.getElem?_append_right (by omega)]
set_option maxRecDepth 100000 in
set_option maxHeartbeats 4000000 in
theorem m_12 {V : Nat → Nat → Value} {I : Nat → Nat → Int32} {L : Nat → Nat → Int64} {R : Nat → Nat → Option Nat} {tl : am_H} {N A it ac c : Nat} {P : xI} (hx : cxM V I tl A it 12 ac P) (ho : okMl P) (h6 : P.length < 6) (hc : c < 4 * P.length) : ∃ W J b, fm_163 N (.ref 89) (nI c) (fx V I L R ++ tl) = some (.inl (some (.int (bI b)), fx W J L R ++ tl)) ∧ outN W J (cd22 P c) b ∧ frM V W I J := by
  obtain ⟨h5, h7, h8, h1, h2, hs, hA, hi⟩ := hx
  obtain ⟨o1, o2, -⟩ := sM_ok (L := L) (R := R) hs
  have rb : ∀ (W : Nat → Nat → Value) (J : Nat → Nat → Int32), fr1 90 V W I J → am_vR (am_pG 5 (.ref 89) (fx W J L R ++ tl)) = some (.ref A) := fun W J f => rVR qv_89_5 ((f.1 89 5 (by decide)).trans h5)
  obtain ⟨q1, q2⟩ := e_dm (e := c) (by omega)
  obtain ⟨a, al, ae⟩ := okM_e ho hc
  have g : fm_54 (.ref A) (nI c / 4) (1 + (nI c - nI c / 4 * 4)) (fx V I L R ++ tl) = some (.inl (some (.int (nI a)), fx V I L R ++ tl)) := by
    rw [q2, q1]
    have := sM_get (L := L) (R := R) hs (k := c / 4) (w := 1 + c % 4) (by omega) (by omega)
    rw [show rG P (c / 4) (1 + c % 4) = edg0 P c by unfold rG edg0; rw [if_neg (by omega), show 1 + c % 4 - 1 = c % 4 by omega], ae] at this
    exact this
  have sa : sN (nI a) = a := sN_n (by omega)
  obtain ⟨W1, J1, e1, d1, f1⟩ := sM_60 (L := L) (R := R) hs (by omega)
  have s1 := srcM_f f1 (by omega) (by omega) hs
  obtain ⟨W2, J2, e2, d2, f2⟩ := sM_170 (L := L) (R := R) (i := a) (j := a + 1) s1 d1 (by omega) (by omega) (by omega) (nI a) (nI a + 1) rfl (nI_1 a)
  have f12 := fr1_t f1 f2
  have s2 := srcM_f f12 (by omega) (by omega) hs
  have o2' := (sM_ok (L := L) (R := R) s2).2.1
  obtain ⟨W3, J3, e3, d3, f3⟩ := sM_51 (L := L) (R := R) (tl := tl) (v := nI P.length) (i := c / 4) (j := 1 + c % 4) d2 (by omega) (by omega) (by omega)
  rw [← q2, ← q1] at e3
  rw [show P.length + (a + 1 - a) = P.length + 1 by omega] at d3
  have lw : (wEd P c (nI P.length)).length = P.length := by unfold wEd; exact List.length_set ..
  have ecd : cd22 P c = some (wEd P c (nI P.length) ++ [(srt P a, vlu P a)]) := by unfold cd22; rw [ae, sa]
  refine ⟨W3, J3, true, ?_, outN_y ecd (by rw [List.length_append, lw]; rfl) (hM_g d3 (fun i w hi hw => ?_)) (by omega), frM_9 (fr1_t f12 f3)⟩
  · have e : fm_179 (.ref 89) (nI c) (fx V I L R ++ tl) = some (.inl (some (.int (bI true)), fx W3 J3 L R ++ tl)) := by
      apply hm_179
      apply hd_179_0
      exact ev_b (rb V I fr1_r) (ev_i o1 (ev_cI g (ev_b (rdR rfl) (ev_b (rb V I fr1_r) (ev_i rfl (ev_cV e1 (ev_b (rdR rfl) (ev_b (rb W1 J1 f1) (ev_i rfl (ev_cI e2 (ev_t (by decide) (ev_b (rdR rfl) (ev_b (rb W2 J2 f12) (ev_b o2' (ev_i rfl (ev_cV e3 rfl))))))))))))))))
    apply hm_163
    apply hd_163_0
    exact ev_b (rdI h8) (ev_t (nI_le (a := 1) h1 (by omega)) (ev_b (rdI h7) (ev_f (by decide) (ev_f (by decide) (ev_f (by decide) (ev_f (by decide) (ev_f (by decide) (ev_f (by decide) (ev_f (by decide) (ev_f (by decide) (ev_f (by decide) (ev_f (by decide) (ev_f (by decide) (ev_f (by decide) (ev_t rfl (ev_i rfl (ev_cI e (ev_i (bI_fit true) rfl))))))))))))))))))
  · rw [rG_app, lw]
    by_cases q : i < P.length
    · rw [if_pos q, if_pos q, rG_wEd ho hc (by omega) hw]
    · rw [if_neg q, if_neg q, if_neg (by omega), show i - P.length = 0 by omega, Nat.add_zero]
      rfl
