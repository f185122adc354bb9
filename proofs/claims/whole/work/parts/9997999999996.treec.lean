/-! ===== read: trees, class ===== -/
theorem hd_35_132 {N : Nat} {rc_35 : Value → Int32 → Int32 → Int32 → am_H → Option am_O} {rc_40 : Value → Int32 → Int32 → Int32 → am_H → Option am_O} {h : am_H} {r_ : Option am_O} (k_ : some (.inl (none, h)) = r_) : fg_35_132 N rc_35 rc_40 h = r_ := k_
theorem hd_35_90 {N : Nat} {rc_35 : Value → Int32 → Int32 → Int32 → am_H → Option am_O} {rc_40 : Value → Int32 → Int32 → Int32 → am_H → Option am_O} {x0 : Value} {x5 : Int32} {h : am_H} {r_ : Option am_O} (k_ : (if x5 ≤ 0 then ((am_vR (am_pG 2308 x0 h)).bind fun v2 => (if am_pOk 9 x0 h then am_cI true (fm_43 N x0 h) (fun v5 h6 => (if am_pOk 3 v2 h6 then am_cI true (fm_41 N v2 0 v5 h6) (fun v9 h10 => (fg_35_132 N rc_35 rc_40 h10)) else none)) else none)) else ((am_vI (am_pG 2306 x0 h)).bind fun v12 => ((am_pP 2306 x0 (.int (v12 + 1)) h).bind fun h14 => ((am_vR (am_pG 2308 x0 h14)).bind fun v16 => (if am_pOk 3 v16 h14 then am_cI true (fm_41 N v16 x5 0 h14) (fun v19 h20 => (fg_35_132 N rc_35 rc_40 h20)) else none))))) = r_) : fg_35_90 N rc_35 rc_40 x0 x5 h = r_ := k_
theorem hd_35_83 {N : Nat} {rc_35 : Value → Int32 → Int32 → Int32 → am_H → Option am_O} {rc_40 : Value → Int32 → Int32 → Int32 → am_H → Option am_O} {x0 : Value} {h : am_H} {r_ : Option am_O} (k_ : (if am_pOk 9 x0 h then am_cV true (fm_39 x0 h) (fun h3 => (fg_35_132 N rc_35 rc_40 h3)) else none) = r_) : fg_35_83 N rc_35 rc_40 x0 h = r_ := k_
theorem hd_35_35 {N : Nat} {rc_35 : Value → Int32 → Int32 → Int32 → am_H → Option am_O} {rc_40 : Value → Int32 → Int32 → Int32 → am_H → Option am_O} {x0 : Value} {h : am_H} {r_ : Option am_O} (k_ : (if am_pOk 9 x0 h then am_cV true (fm_39 x0 h) (fun h3 => (fg_35_132 N rc_35 rc_40 h3)) else none) = r_) : fg_35_35 N rc_35 rc_40 x0 h = r_ := k_
theorem hd_35_0 {N : Nat} {rc_35 : Value → Int32 → Int32 → Int32 → am_H → Option am_O} {rc_40 : Value → Int32 → Int32 → Int32 → am_H → Option am_O} {x0 : Value} {x1 : Int32} {x2 : Int32} {x3 : Int32} {h : am_H} {r_ : Option am_O} (k_ : (if am_pOk 9 x0 h then am_cI true (fm_36 x0 h) (fun v2 h3 => ((am_vR (am_pG 2308 x0 h3)).bind fun v5 => ((am_vI (am_pG 771 v5 h3)).bind fun v7 => (if 60 ≤ v7 then (fg_35_35 N rc_35 rc_40 x0 h3) else (if x2 ≤ 12 then (if ¬ v2 = 40 then (if ¬ x1 = 0 then (fg_35_83 N rc_35 rc_40 x0 h3) else (if ((am_ixF v2 (am_txt 3) 0) + 1) < 5 then (fg_35_90 N rc_35 rc_40 x0 (((am_ixF v2 (am_txt 3) 0) + 1)) h3) else (if ¬ x3 = 0 then (fg_35_90 N rc_35 rc_40 x0 (((am_ixF v2 (am_txt 3) 0) + 1)) h3) else (fg_35_83 N rc_35 rc_40 x0 h3)))) else ((am_vI (am_pG 2306 x0 h3)).bind fun v15 => ((am_pP 2306 x0 (.int (v15 + 1)) h3).bind fun h17 => (if am_pOk 9 x0 h17 then am_cV true (rc_40 x0 x1 x2 x3 h17) (fun h21 => (fg_35_132 N rc_35 rc_40 h21)) else none)))) else (fg_35_35 N rc_35 rc_40 x0 h3)))))) else none) = r_) : fg_35_0 N rc_35 rc_40 x0 x1 x2 x3 h = r_ := k_
theorem hm_35 {N : Nat} {y0 : Value} {y1 : Int32} {y2 : Int32} {y3 : Int32} {h : am_H} {r_ : Option am_O} (k_ : gr_35 N 40 35 [y0, .int y1, .int y2, .int y3] h = r_) : fm_35 N y0 y1 y2 y3 h = r_ := k_
theorem hd_40_133 {N : Nat} {rc_35 : Value → Int32 → Int32 → Int32 → am_H → Option am_O} {rc_40 : Value → Int32 → Int32 → Int32 → am_H → Option am_O} {x0 : Value} {h : am_H} {r_ : Option am_O} (k_ : (if am_pOk 9 x0 h then am_cI true (fm_42 x0 41 h) (fun v2 h3 => some (.inl (none, h3))) else none) = r_) : fg_40_133 N rc_35 rc_40 x0 h = r_ := k_
theorem hd_40_124 {N : Nat} {rc_35 : Value → Int32 → Int32 → Int32 → am_H → Option am_O} {rc_40 : Value → Int32 → Int32 → Int32 → am_H → Option am_O} {rec_72 : Value → Int32 → Int32 → Int32 → Int32 → am_H → Option am_O} {x0 : Value} {x2 : Int32} {x3 : Int32} {x5 : Int32} {x6 : Int32} {s0 : Value} {s1 : Int32} {s2 : Int32} {s3 : Int32} {h : am_H} {r_ : Option am_O} (k_ : (if am_pOk 9 s0 h then am_cV true (rc_35 s0 s1 s2 s3 h) (fun h3 => (rec_72 x0 x2 x3 x5 ((x6 + 1)) h3)) else none) = r_) : fg_40_124 N rc_35 rc_40 rec_72 x0 x2 x3 x5 x6 s0 s1 s2 s3 h = r_ := k_
theorem hd_40_123 {N : Nat} {rc_35 : Value → Int32 → Int32 → Int32 → am_H → Option am_O} {rc_40 : Value → Int32 → Int32 → Int32 → am_H → Option am_O} {rec_72 : Value → Int32 → Int32 → Int32 → Int32 → am_H → Option am_O} {x0 : Value} {x2 : Int32} {x3 : Int32} {x5 : Int32} {x6 : Int32} {s0 : Value} {s1 : Int32} {s2 : Int32} {h : am_H} {r_ : Option am_O} (k_ : (fg_40_124 N rc_35 rc_40 rec_72 x0 x2 x3 x5 x6 s0 s1 s2 0 h) = r_) : fg_40_123 N rc_35 rc_40 rec_72 x0 x2 x3 x5 x6 s0 s1 s2 h = r_ := k_
theorem hd_40_119 {N : Nat} {rc_35 : Value → Int32 → Int32 → Int32 → am_H → Option am_O} {rc_40 : Value → Int32 → Int32 → Int32 → am_H → Option am_O} {rec_72 : Value → Int32 → Int32 → Int32 → Int32 → am_H → Option am_O} {x0 : Value} {x2 : Int32} {x3 : Int32} {x5 : Int32} {x6 : Int32} {s0 : Value} {s1 : Int32} {s2 : Int32} {h : am_H} {r_ : Option am_O} (k_ : (fg_40_124 N rc_35 rc_40 rec_72 x0 x2 x3 x5 x6 s0 s1 s2 1 h) = r_) : fg_40_119 N rc_35 rc_40 rec_72 x0 x2 x3 x5 x6 s0 s1 s2 h = r_ := k_
theorem hd_40_72 {N : Nat} {rc_35 : Value → Int32 → Int32 → Int32 → am_H → Option am_O} {rc_40 : Value → Int32 → Int32 → Int32 → am_H → Option am_O} {K : Nat} {x0 : Value} {x2 : Int32} {x3 : Int32} {x5 : Int32} {x6 : Int32} {h : am_H} {r_ : Option am_O} (k_ : am_cI false (fm_14 x5 h) (fun v1 h2 => (if v1 ≤ x6 then (fg_40_133 N rc_35 rc_40 x0 h2) else (if am_pOk 9 x0 h2 then am_cI true (fm_42 x0 32 h2) (fun v6 h7 => (if v6 = 0 then (fg_40_133 N rc_35 rc_40 x0 h7) else am_cI false (fm_13 x5 x6 h7) (fun v10 h11 => (if ¬ x3 = 0 then (fg_40_119 N rc_35 rc_40 (fg_40_72 N rc_35 rc_40 K) x0 x2 x3 x5 x6 x0 v10 ((x2 + 1)) h11) else (if ¬ x5 = 19 then (fg_40_123 N rc_35 rc_40 (fg_40_72 N rc_35 rc_40 K) x0 x2 x3 x5 x6 x0 v10 ((x2 + 1)) h11) else (if ¬ x6 = 1 then (fg_40_123 N rc_35 rc_40 (fg_40_72 N rc_35 rc_40 K) x0 x2 x3 x5 x6 x0 v10 ((x2 + 1)) h11) else (fg_40_119 N rc_35 rc_40 (fg_40_72 N rc_35 rc_40 K) x0 x2 x3 x5 x6 x0 v10 ((x2 + 1)) h11))))))) else none))) = r_) : fg_40_72 N rc_35 rc_40 (K + 1) x0 x2 x3 x5 x6 h = r_ := by rw [fg_40_72]; exact k_
theorem hd_40_48 {N : Nat} {rc_35 : Value → Int32 → Int32 → Int32 → am_H → Option am_O} {rc_40 : Value → Int32 → Int32 → Int32 → am_H → Option am_O} {x0 : Value} {x2 : Int32} {x3 : Int32} {x5 : Int32} {h : am_H} {r_ : Option am_O} (k_ : ((am_vI (am_pG 2306 x0 h)).bind fun v1 => ((am_pP 2306 x0 (.int (v1 + 1)) h).bind fun h3 => ((am_vR (am_pG 2308 x0 h3)).bind fun v5 => (if am_pOk 3 v5 h3 then am_cI true (fm_41 N v5 x5 0 h3) (fun v8 h9 => (fg_40_72 N rc_35 rc_40 N x0 x2 x3 x5 0 h9)) else none)))) = r_) : fg_40_48 N rc_35 rc_40 x0 x2 x3 x5 h = r_ := k_
theorem hd_40_43 {N : Nat} {rc_35 : Value → Int32 → Int32 → Int32 → am_H → Option am_O} {rc_40 : Value → Int32 → Int32 → Int32 → am_H → Option am_O} {x0 : Value} {h : am_H} {r_ : Option am_O} (k_ : (if am_pOk 9 x0 h then am_cV true (fm_39 x0 h) (fun h3 => some (.inl (none, h3))) else none) = r_) : fg_40_43 N rc_35 rc_40 x0 h = r_ := k_
theorem hd_40_0 {N : Nat} {rc_35 : Value → Int32 → Int32 → Int32 → am_H → Option am_O} {rc_40 : Value → Int32 → Int32 → Int32 → am_H → Option am_O} {x0 : Value} {x1 : Int32} {x2 : Int32} {x3 : Int32} {h : am_H} {r_ : Option am_O} (k_ : (if am_pOk 9 x0 h then am_cI true (fm_36 x0 h) (fun v2 h3 => (if (am_ixF v2 (am_txt 4) 0) < 0 then (fg_40_43 N rc_35 rc_40 x0 h3) else am_cI false (fm_11 (((am_ixF v2 (am_txt 4) 0) + 7)) h3) (fun v6 h7 => (if ¬ v6 = x1 then (fg_40_43 N rc_35 rc_40 x0 h7) else (if ¬ ((am_ixF v2 (am_txt 4) 0) + 7) = 19 then (fg_40_48 N rc_35 rc_40 x0 x2 x3 (((am_ixF v2 (am_txt 4) 0) + 7)) h7) else (if x3 = 0 then (fg_40_48 N rc_35 rc_40 x0 x2 x3 (((am_ixF v2 (am_txt 4) 0) + 7)) h7) else (fg_40_43 N rc_35 rc_40 x0 h7))))))) else none) = r_) : fg_40_0 N rc_35 rc_40 x0 x1 x2 x3 h = r_ := k_
theorem hm_40 {N : Nat} {y0 : Value} {y1 : Int32} {y2 : Int32} {y3 : Int32} {h : am_H} {r_ : Option am_O} (k_ : gr_35 N 40 40 [y0, .int y1, .int y2, .int y3] h = r_) : fm_40 N y0 y1 y2 y3 h = r_ := k_

def sgL : List Nat := [126, 35, 33, 43, 45, 42, 47, 37, 60, 61, 38, 124, 64, 63]
def sgT (c : Nat) : Nat := sgL.idxOf c + 7
def lfL : List Nat := [120, 121, 122, 110, 115, 101]
def lfT (c : Nat) : Nat := if lfL.idxOf c < 6 then lfL.idxOf c + 1 else 0
theorem ix4 : ∀ c, c < 256 → am_ixF (nI c) (am_txt 4) 0 = if sgT c < 21 then nI (sgT c - 7) else -1 := by decide +kernel
theorem ix3 : ∀ c, c < 256 → am_ixF (nI c) (am_txt 3) 0 + 1 = nI (lfT c) := by decide +kernel
theorem sg_b : ∀ c, c < 256 → 7 ≤ sgT c ∧ sgT c ≤ 21 ∧ lfT c ≤ 6 := by decide +kernel
theorem sgz_0 : sgT 0 = 21 ∧ lfT 0 = 0 := by decide +kernel
def pK (T : Nat → Nat) (f : Nat → Nat → Nat → xT → Nat ⊕ (Nat × xT)) (s inn : Nat) : Nat → Nat → Nat → xT → Nat ⊕ (Nat × xT)
  | 0, _, p, Q => if T p = 41 then .inr (p + 1, Q) else .inl p
  | mm + 1, k, p, Q => if T p = 32 then (match f (twN s k) (if s = 19 ∧ k = 1 then 1 else inn) (p + 1) Q with
    | .inl e => .inl e
    | .inr (q, Q') => pK T f s inn mm (k + 1) q Q') else .inl p
def pN (T : Nat → Nat) : Nat → Nat → Nat → Nat → xT → Nat ⊕ (Nat × xT)
  | 0, _, _, p, _ => .inl p
  | d + 1, tr, inn, p, Q => if 60 ≤ Q.length then .inl p else if T p = 40 then (if sgT (T (p + 1)) < 21 ∧ truN (sgT (T (p + 1))) = tr ∧ ¬ (sgT (T (p + 1)) = 19 ∧ inn ≠ 0) then pK T (pN T d) (sgT (T (p + 1))) inn (arN (sgT (T (p + 1)))) 0 (p + 2) (Q ++ [(sgT (T (p + 1)), 0)]) else .inl (p + 1)) else if tr ≠ 0 ∨ (5 ≤ lfT (T p) ∧ inn = 0) then .inl p else if 1 ≤ lfT (T p) then .inr (p + 1, Q ++ [(lfT (T p), 0)]) else match csT T p with
    | .inl e => .inl e
    | .inr (q, x) => .inr (q, Q ++ [(0, x)])
theorem tI_ap2 {Q : xT} {a : Nat × Int32} : tI (Q ++ [a]) = tI Q ++ [(nI a.1, a.2)] := by
  unfold tI
  rw [List.map_append]
  rfl
theorem tw_le1 {s k : Nat} : twN s k ≤ 1 := by unfold twN; split <;> omega
theorem c_40b {V : Nat → Nat → Value} {I : Nat → Nat → Int32} {L : Nat → Nat → Int64} {R : Nat → Nat → Option Nat} {tl : am_H} {T : Nat → Nat} {m p : Nat} {N : Nat} {r35 r40 : Value → Int32 → Int32 → Int32 → am_H → Option am_O} {w s k J : Nat} {x2 x3 : Int32} (hs : s < 21) (h : stC V I T m p (nI w)) (hw : w ≤ m) : fg_40_72 N r35 r40 (J + 1) (.ref 2) x2 x3 (nI s) (nI k) (fx V I L R ++ tl) = some (.inl (none, fx V I L R ++ tl)) := by
  apply hd_40_72
  refine ev_cI (p14 hs _) ?_
  by_cases c : nI (arN s) ≤ nI k
  · exact ev_t c (hd_40_133 (ev_i rfl (ev_cI (c_42b h hw) rfl)))
  · exact ev_f c (ev_i rfl (ev_cI (c_42b h hw) (ev_t rfl (hd_40_133 (ev_i rfl (ev_cI (c_42b h hw) rfl))))))
set_option maxRecDepth 100000 in
set_option maxHeartbeats 4000000 in
theorem c_40l {L : Nat → Nat → Int64} {R : Nat → Nat → Option Nat} {tl : am_H} {T : Nat → Nat} {m N dd s inn : Nat} {r35 r40 : Value → Int32 → Int32 → Int32 → am_H → Option am_O} {F : Nat → Nat → Nat → xT → Nat ⊕ (Nat × xT)} (hs : s < 21) (hinn : inn ≤ 1) (hI : ∀ (V : Nat → Nat → Value) (I : Nat → Nat → Int32) (p : Nat) (Q : xT) (tr inn : Nat), tr ≤ 1 → inn ≤ 1 → p ≤ m → stC V I T m p (-1) → prC V I (tI Q) → Q.length ≤ 60 → ∃ W J, r35 (.ref 2) (nI tr) (nI (dd + 1)) (nI inn) (fx V I L R ++ tl) = some (.inl (none, fx W J L R ++ tl)) ∧ frCp V W I J ∧ resC (F tr inn p Q) W J T m (fun Q' => prC W J (tI Q') ∧ Q'.length ≤ 60)) : ∀ (mm k K : Nat) (V : Nat → Nat → Value) (I : Nat → Nat → Int32) (p : Nat) (Q : xT), k + mm = arN s → mm + 1 < K → p ≤ m → stC V I T m p (-1) → prC V I (tI Q) → Q.length ≤ 60 → ∃ W J, fg_40_72 N r35 r40 K (.ref 2) (nI dd) (nI inn) (nI s) (nI k) (fx V I L R ++ tl) = some (.inl (none, fx W J L R ++ tl)) ∧ frCp V W I J ∧ resC (pK T F s inn mm k p Q) W J T m (fun Q' => prC W J (tI Q') ∧ Q'.length ≤ 60) := by
  intro mm
  induction mm with
  | zero =>
    intro k K V I p Q hk hK hp h hP hl
    obtain ⟨K, rfl⟩ : ∃ k, K = k + 1 := ⟨K - 1, by omega⟩
    have e := c_42 (V := V) (I := I) (L := L) (R := R) (tl := tl) (c := 41) (by omega) (x := 41) rfl h hp
    rw [pK]
    by_cases c : T p = 41
    · rw [if_pos c] at e ⊢
      have pm := tq_m h.2.2.2.2 (p := p) (by omega)
      refine ⟨vup V 2 2 (.int (nI (p + 1))), I, ?_, frCp_2 (.inl rfl), by omega, stC_a h, prC_f (fun j => vup_na (by decide)) hP, hl⟩
      apply hd_40_72
      exact ev_cI (p14 hs _) (ev_t (nI_le (by omega) (by have := ar_le s; omega)) (hd_40_133 (ev_i rfl (ev_cI e rfl))))
    · rw [if_neg c] at e ⊢
      refine ⟨vup V 2 3 (.int (nI p)), I, ?_, frCp_2 (.inr rfl), hp, p, hp, stC_w h⟩
      apply hd_40_72
      exact ev_cI (p14 hs _) (ev_t (nI_le (by omega) (by have := ar_le s; omega)) (hd_40_133 (ev_i rfl (ev_cI e rfl))))
  | succ mm ih =>
    intro k K V I p Q hk hK hp h hP hl
    obtain ⟨K, rfl⟩ : ∃ k, K = k + 1 + 1 := ⟨K - 2, by omega⟩
    have a3 := ar_le s
    have e := c_42 (V := V) (I := I) (L := L) (R := R) (tl := tl) (c := 32) (by omega) (x := 32) rfl h hp
    have m240 := h.2.2.2.2.1
    rw [pK]
    by_cases c : T p = 32
    · rw [if_pos c] at e ⊢
      have pm := tq_m h.2.2.2.2 (p := p) (by omega)
      obtain ⟨V1, eV1⟩ : ∃ X, X = vup V 2 2 (.int (nI (p + 1))) := ⟨_, rfl⟩
      rw [← eV1] at e
      have s1 : stC V1 I T m (p + 1) (-1) := by rw [eV1]; exact stC_a h
      have f1 : frCp V V1 I I := by rw [eV1]; exact frCp_2 (.inl rfl)
      have P1 : prC V1 I (tI Q) := prC_f (fun j => by rw [eV1]; exact vup_na (by decide)) hP
      obtain ⟨W, J, e2, f2, r2⟩ := hI V1 I (p + 1) Q (twN s k) (if s = 19 ∧ k = 1 then 1 else inn) tw_le1 (by split <;> omega) (by omega) s1 P1 hl
      -- to the next part
      have go : ∀ o, fg_40_72 N r35 r40 (K + 1) (.ref 2) (nI dd) (nI inn) (nI s) (nI (k + 1)) (fx W J L R ++ tl) = o → fg_40_72 N r35 r40 (K + 1 + 1) (.ref 2) (nI dd) (nI inn) (nI s) (nI k) (fx V I L R ++ tl) = o := fun o k_ => by
        apply hd_40_72
        refine ev_cI (p14 hs _) (ev_f (nI_ge (by omega) (by omega)) (ev_i rfl (ev_cI e (ev_f (by decide) (ev_cI (p13 hs (by omega) _) ?_)))))
        by_cases c3 : inn = 0
        · subst c3
          refine ev_f (fun q => q rfl) ?_
          by_cases c4 : s = 19
          · refine ev_f (fun q => q (by rw [c4]; rfl)) ?_
            by_cases c5 : k = 1
            · rw [if_pos ⟨c4, c5⟩] at e2
              refine ev_f (fun q => q (by rw [c5]; rfl)) (hd_40_119 (hd_40_124 (ev_i rfl ?_)))
              rw [nI_1, nI_1]
              exact ev_cV e2 k_
            · rw [if_neg (fun q => c5 q.2)] at e2
              refine ev_t (fun q => c5 ((nI_eq (b := 1) (by omega) (by omega)).mp q)) (hd_40_123 (hd_40_124 (ev_i rfl ?_)))
              rw [nI_1, nI_1]
              exact ev_cV e2 k_
          · rw [if_neg (fun q => c4 q.1)] at e2
            refine ev_t (fun q => c4 ((nI_eq (b := 19) (by omega) (by omega)).mp q)) (hd_40_123 (hd_40_124 (ev_i rfl ?_)))
            rw [nI_1, nI_1]
            exact ev_cV e2 k_
        · obtain rfl : inn = 1 := by omega
          rw [show (if s = 19 ∧ k = 1 then 1 else 1) = 1 by split <;> rfl] at e2
          refine ev_t (by decide) (hd_40_119 (hd_40_124 (ev_i rfl ?_)))
          rw [nI_1, nI_1]
          exact ev_cV e2 k_
      cases q : F (twN s k) (if s = 19 ∧ k = 1 then 1 else inn) (p + 1) Q with
      | inl w =>
        rw [q] at r2
        obtain ⟨w1, p', p1, s2⟩ := r2
        exact ⟨W, J, go _ (c_40b hs s2 w1), frCp_t f1 f2, w1, p', p1, s2⟩
      | inr a =>
        rw [q] at r2
        obtain ⟨q1, s2, P2, l2⟩ := r2
        obtain ⟨W', J', e3, f3, r3⟩ := ih (k + 1) (K + 1) W J a.1 a.2 (by omega) (by omega) q1 s2 P2 l2
        exact ⟨W', J', go _ e3, frCp_t f1 (frCp_t f2 f3), r3⟩
    · rw [if_neg c] at e ⊢
      have s1 := stC_w (x := nI p) h
      refine ⟨vup V 2 3 (.int (nI p)), I, ?_, frCp_2 (.inr rfl), hp, p, hp, s1⟩
      apply hd_40_72
      exact ev_cI (p14 hs _) (ev_f (nI_ge (by omega) (by omega)) (ev_i rfl (ev_cI e (ev_t rfl (hd_40_133 (ev_i rfl (ev_cI (c_42b s1 hp) rfl)))))))
set_option maxRecDepth 100000 in
set_option maxHeartbeats 4000000 in
theorem c_35 {L : Nat → Nat → Int64} {R : Nat → Nat → Option Nat} {tl : am_H} {T : Nat → Nat} {m N : Nat} (hN : 10 < N) : ∀ (d K : Nat) (V : Nat → Nat → Value) (I : Nat → Nat → Int32) (p : Nat) (Q : xT) (tr inn : Nat), d ≤ 12 → 2 * d + 1 ≤ K → tr ≤ 1 → inn ≤ 1 → p ≤ m → stC V I T m p (-1) → prC V I (tI Q) → Q.length ≤ 60 → ∃ W J, gr_35 N K 35 [.ref 2, .int (nI tr), .int (nI (13 - d)), .int (nI inn)] (fx V I L R ++ tl) = some (.inl (none, fx W J L R ++ tl)) ∧ frCp V W I J ∧ resC (pN T d tr inn p Q) W J T m (fun Q' => prC W J (tI Q') ∧ Q'.length ≤ 60) := by
  intro d
  induction d with
  | zero =>
    intro K V I p Q tr inn hd hK htr hinn hp h hP hl
    obtain ⟨K, rfl⟩ : ∃ k, K = k + 1 := ⟨K - 1, by omega⟩
    have hl3 : V 167 3 = .int (nI Q.length) := by rw [← tI_len (P := Q)]; exact hP.1
    refine ⟨vup V 2 3 (.int (nI p)), I, ?_, frCp_2 (.inr rfl), hp, p, hp, stC_w h⟩
    show fo_35 N _ _ (.ref 2) (nI tr) (nI 13) (nI inn) (fx V I L R ++ tl) = _
    unfold fo_35
    apply hd_35_0
    refine ev_i rfl (ev_cI (c_36 h hp) (ev_b (a := Value.ref 167) (rVR qv_2_4 h.2.2.2.1) (ev_b (rdI hl3) ?_)))
    by_cases c : 60 ≤ Q.length
    · exact ev_t (nI_le (a := 60) c (by omega)) (hd_35_35 (ev_i rfl (ev_cV (c_39 h) (hd_35_132 rfl))))
    · exact ev_f (nI_ge (b := 60) (by omega) (by omega)) (ev_f (by decide) (hd_35_35 (ev_i rfl (ev_cV (c_39 h) (hd_35_132 rfl)))))
  | succ d ih =>
    intro K V I p Q tr inn hd hK htr hinn hp h hP hl
    obtain ⟨K, rfl⟩ : ∃ k, K = k + 1 + 1 := ⟨K - 2, by omega⟩
    have hl3 : V 167 3 = .int (nI Q.length) := by rw [← tI_len (P := Q)]; exact hP.1
    have t0 := tq_256 h.2.2.2.2 p
    have t1 := tq_256 h.2.2.2.2 (p + 1)
    have m240 := h.2.2.2.2.1
    have lQ := tI_len (P := Q)
    have pre : ∀ o, (if 60 ≤ nI Q.length then (fg_35_35 N (fun y0 y1 y2 y3 h => gr_35 N (K + 1) 35 [y0, .int y1, .int y2, .int y3] h) (fun y0 y1 y2 y3 h => gr_35 N (K + 1) 40 [y0, .int y1, .int y2, .int y3] h) (.ref 2) (fx V I L R ++ tl)) else (if nI (13 - (d + 1)) ≤ 12 then (if ¬ nI (T p) = 40 then (if ¬ nI tr = 0 then (fg_35_83 N (fun y0 y1 y2 y3 h => gr_35 N (K + 1) 35 [y0, .int y1, .int y2, .int y3] h) (fun y0 y1 y2 y3 h => gr_35 N (K + 1) 40 [y0, .int y1, .int y2, .int y3] h) (.ref 2) (fx V I L R ++ tl)) else (if nI (lfT (T p)) < 5 then (fg_35_90 N (fun y0 y1 y2 y3 h => gr_35 N (K + 1) 35 [y0, .int y1, .int y2, .int y3] h) (fun y0 y1 y2 y3 h => gr_35 N (K + 1) 40 [y0, .int y1, .int y2, .int y3] h) (.ref 2) (nI (lfT (T p))) (fx V I L R ++ tl)) else (if ¬ nI inn = 0 then (fg_35_90 N (fun y0 y1 y2 y3 h => gr_35 N (K + 1) 35 [y0, .int y1, .int y2, .int y3] h) (fun y0 y1 y2 y3 h => gr_35 N (K + 1) 40 [y0, .int y1, .int y2, .int y3] h) (.ref 2) (nI (lfT (T p))) (fx V I L R ++ tl)) else (fg_35_83 N (fun y0 y1 y2 y3 h => gr_35 N (K + 1) 35 [y0, .int y1, .int y2, .int y3] h) (fun y0 y1 y2 y3 h => gr_35 N (K + 1) 40 [y0, .int y1, .int y2, .int y3] h) (.ref 2) (fx V I L R ++ tl))))) else ((am_vI (am_pG 2306 (.ref 2) (fx V I L R ++ tl))).bind fun v15 => ((am_pP 2306 (.ref 2) (.int (v15 + 1)) (fx V I L R ++ tl)).bind fun h17 => (if am_pOk 9 (.ref 2) h17 then am_cV true (gr_35 N (K + 1) 40 [.ref 2, .int (nI tr), .int (nI (13 - (d + 1))), .int (nI inn)] h17) (fun h21 => (fg_35_132 N (fun y0 y1 y2 y3 h => gr_35 N (K + 1) 35 [y0, .int y1, .int y2, .int y3] h) (fun y0 y1 y2 y3 h => gr_35 N (K + 1) 40 [y0, .int y1, .int y2, .int y3] h) h21)) else none)))) else (fg_35_35 N (fun y0 y1 y2 y3 h => gr_35 N (K + 1) 35 [y0, .int y1, .int y2, .int y3] h) (fun y0 y1 y2 y3 h => gr_35 N (K + 1) 40 [y0, .int y1, .int y2, .int y3] h) (.ref 2) (fx V I L R ++ tl)))) = o → gr_35 N (K + 1 + 1) 35 [.ref 2, .int (nI tr), .int (nI (13 - (d + 1))), .int (nI inn)] (fx V I L R ++ tl) = o := fun o k_ => by
      show fo_35 N _ _ (.ref 2) (nI tr) (nI (13 - (d + 1))) (nI inn) (fx V I L R ++ tl) = _
      unfold fo_35
      apply hd_35_0
      refine ev_i rfl (ev_cI (c_36 h hp) (ev_b (a := Value.ref 167) (rVR qv_2_4 h.2.2.2.1) (ev_b (rdI hl3) ?_)))
      rw [ix3 _ t0]
      exact k_
    rw [pN]
    by_cases c : 60 ≤ Q.length
    · rw [if_pos c]
      exact ⟨vup V 2 3 (.int (nI p)), I, pre _ (ev_t (nI_le (a := 60) c (by omega)) (hd_35_35 (ev_i rfl (ev_cV (c_39 h) (hd_35_132 rfl))))), frCp_2 (.inr rfl), hp, p, hp, stC_w h⟩
    · rw [if_neg c]
      have n60 : ¬ (60 : Int32) ≤ nI Q.length := nI_ge (b := 60) (by omega) (by omega)
      have d12 : nI (13 - (d + 1)) ≤ 12 := nI_le (b := 12) (by omega) (by omega)
      by_cases c4 : T p = 40
      · rw [if_pos c4]
        have pm := tq_m h.2.2.2.2 (p := p) (by omega)
        obtain ⟨s, es⟩ : ∃ s, s = sgT (T (p + 1)) := ⟨_, rfl⟩
        obtain ⟨b7, b21, -⟩ := sg_b (T (p + 1)) t1
        rw [← es] at b7 b21 ⊢
        obtain ⟨V1, eV1⟩ : ∃ X, X = vup V 2 2 (.int (nI (p + 1))) := ⟨_, rfl⟩
        have s1 : stC V1 I T m (p + 1) (-1) := by rw [eV1]; exact stC_a h
        have f1 : frCp V V1 I I := by rw [eV1]; exact frCp_2 (.inl rfl)
        have P1 : prC V1 I (tI Q) := prC_f (fun j => by rw [eV1]; exact vup_na (by decide)) hP
        have pr2 : ∀ W J, gr_35 N (K + 1) 40 [.ref 2, .int (nI tr), .int (nI (13 - (d + 1))), .int (nI inn)] (fx V1 I L R ++ tl) = some (.inl (none, fx W J L R ++ tl)) → gr_35 N (K + 1 + 1) 35 [.ref 2, .int (nI tr), .int (nI (13 - (d + 1))), .int (nI inn)] (fx V I L R ++ tl) = some (.inl (none, fx W J L R ++ tl)) := fun W J e => by
          refine pre _ (ev_f n60 (ev_t d12 (ev_f (fun q => q (by rw [c4]; rfl)) (ev_b (rdI h.2.1) (ev_b (a := fx V1 I L R ++ tl) (by rw [eV1, nI_1]; exact qp_2_2) (ev_i rfl (ev_cV e (hd_35_132 rfl))))))))
        have pr3 : ∀ o, (if (if s < 21 then nI (s - 7) else (-1 : Int32)) < 0 then (fg_40_43 N (fun y0 y1 y2 y3 h => gr_35 N K 35 [y0, .int y1, .int y2, .int y3] h) (fun y0 y1 y2 y3 h => gr_35 N K 40 [y0, .int y1, .int y2, .int y3] h) (.ref 2) (fx V1 I L R ++ tl)) else am_cI false (fm_11 ((if s < 21 then nI (s - 7) else (-1 : Int32)) + 7) (fx V1 I L R ++ tl)) (fun v6 h7 => (if ¬ v6 = nI tr then (fg_40_43 N (fun y0 y1 y2 y3 h => gr_35 N K 35 [y0, .int y1, .int y2, .int y3] h) (fun y0 y1 y2 y3 h => gr_35 N K 40 [y0, .int y1, .int y2, .int y3] h) (.ref 2) h7) else (if ¬ ((if s < 21 then nI (s - 7) else (-1 : Int32)) + 7) = 19 then (fg_40_48 N (fun y0 y1 y2 y3 h => gr_35 N K 35 [y0, .int y1, .int y2, .int y3] h) (fun y0 y1 y2 y3 h => gr_35 N K 40 [y0, .int y1, .int y2, .int y3] h) (.ref 2) (nI (13 - (d + 1))) (nI inn) ((if s < 21 then nI (s - 7) else (-1 : Int32)) + 7) h7) else (if nI inn = 0 then (fg_40_48 N (fun y0 y1 y2 y3 h => gr_35 N K 35 [y0, .int y1, .int y2, .int y3] h) (fun y0 y1 y2 y3 h => gr_35 N K 40 [y0, .int y1, .int y2, .int y3] h) (.ref 2) (nI (13 - (d + 1))) (nI inn) ((if s < 21 then nI (s - 7) else (-1 : Int32)) + 7) h7) else (fg_40_43 N (fun y0 y1 y2 y3 h => gr_35 N K 35 [y0, .int y1, .int y2, .int y3] h) (fun y0 y1 y2 y3 h => gr_35 N K 40 [y0, .int y1, .int y2, .int y3] h) (.ref 2) h7)))))) = o → gr_35 N (K + 1) 40 [.ref 2, .int (nI tr), .int (nI (13 - (d + 1))), .int (nI inn)] (fx V1 I L R ++ tl) = o := fun o k_ => by
          show fo_40 N _ _ (.ref 2) (nI tr) (nI (13 - (d + 1))) (nI inn) (fx V1 I L R ++ tl) = _
          unfold fo_40
          apply hd_40_0
          refine ev_i rfl (ev_cI (c_36 s1 (by omega)) ?_)
          rw [ix4 _ t1, ← es]
          exact k_
        have bad : ∀ r35 r40 : Value → Int32 → Int32 → Int32 → am_H → Option am_O, fg_40_43 N r35 r40 (.ref 2) (fx V1 I L R ++ tl) = some (.inl (none, fx (vup V1 2 3 (.int (nI (p + 1)))) I L R ++ tl)) := fun r35 r40 => hd_40_43 (ev_i rfl (ev_cV (c_39 s1) rfl))
        have badR : ∃ W J, some (.inl (none, fx (vup V1 2 3 (.int (nI (p + 1)))) I L R ++ tl)) = (some (.inl (none, fx W J L R ++ tl)) : Option am_O) ∧ frCp V W I J ∧ resC (.inl (p + 1) : Nat ⊕ (Nat × xT)) W J T m (fun Q' => prC W J (tI Q') ∧ Q'.length ≤ 60) := ⟨_, _, rfl, frCp_t f1 (frCp_2 (.inr rfl)), by omega, p + 1, by omega, stC_w s1⟩
        by_cases c21 : s < 21
        · rw [if_pos c21] at pr3
          have e7 : nI (s - 7) + 7 = nI s := by
            rw [show nI (s - 7) + 7 = nI (s - 7 + 7) from nI_add (s - 7) 7, show s - 7 + 7 = s by omega]
          rw [e7] at pr3
          have nn : ¬ nI (s - 7) < 0 := Int32.not_lt.mpr (nI_pos' (by omega))
          by_cases ct : truN s = tr
          · by_cases cf : s = 19 ∧ inn ≠ 0
            · rw [if_neg (fun q => q.2.2 cf)]
              obtain ⟨W, J, e, f, r⟩ := badR
              refine ⟨W, J, pr2 W J (pr3 _ (ev_f nn (ev_cI (p11 c21 _) (ev_f (fun q => q (by rw [ct])) (ev_f (fun q => q (by rw [cf.1]; rfl)) (ev_f (fun q => cf.2 ((nI_eq (b := 0) (by omega) (by omega)).mp q)) ((bad _ _).trans e))))))), f, r⟩
            · rw [if_pos ⟨c21, ct, cf⟩]
              -- the branch is laid
              obtain ⟨V2, eV2⟩ : ∃ X, X = vup V1 2 2 (.int (nI (p + 2))) := ⟨_, rfl⟩
              have pm2 : p + 1 < m := by
                refine tq_m h.2.2.2.2 (fun z => ?_)
                rw [z, sgz_0.1] at es
                omega
              have s2 : stC V2 I T m (p + 2) (-1) := by rw [eV2]; exact stC_a s1
              have f2 : frCp V1 V2 I I := by rw [eV2]; exact frCp_2 (.inl rfl)
              have P2 : prC V2 I (tI Q) := prC_f (fun j => by rw [eV2]; exact vup_na (by decide)) P1
              obtain ⟨V3, J3, e3, f3, s3, P3, -⟩ := c_41p (V := V2) (I := I) (L := L) (R := R) (tl := tl) (N := N) (by omega) P2 (by omega) s2 (nI s) 0
              rw [← tI_ap2 (a := (s, 0))] at P3
              obtain ⟨W, J, e4, f4, r4⟩ := c_40l (L := L) (R := R) (tl := tl) (T := T) (m := m) (N := N) (dd := 12 - d) (s := s) (inn := inn) (r35 := fun y0 y1 y2 y3 h => gr_35 N K 35 [y0, .int y1, .int y2, .int y3] h) (r40 := fun y0 y1 y2 y3 h => gr_35 N K 40 [y0, .int y1, .int y2, .int y3] h) (F := pN T d) c21 hinn (fun V I p Q tr inn a1 a2 a3 a4 a5 a6 => by
                have := ih K V I p Q tr inn (by omega) (by omega) a1 a2 a3 a4 a5 a6
                rw [show 13 - d = 12 - d + 1 by omega] at this
                exact this) (arN s) 0 N V3 J3 (p + 2) (Q ++ [(s, 0)]) (by omega) (by have := ar_le s; omega) (by omega) s3 P3 (by rw [List.length_append]; show Q.length + 1 ≤ 60; omega)
              have e48 : ∀ h, fg_40_48 N (fun y0 y1 y2 y3 h => gr_35 N K 35 [y0, .int y1, .int y2, .int y3] h) (fun y0 y1 y2 y3 h => gr_35 N K 40 [y0, .int y1, .int y2, .int y3] h) (.ref 2) (nI (13 - (d + 1))) (nI inn) (nI s) (fx V1 I L R ++ tl) = h ↔ some (.inl (none, fx W J L R ++ tl)) = h := fun o => by
                have e : fg_40_48 N (fun y0 y1 y2 y3 h => gr_35 N K 35 [y0, .int y1, .int y2, .int y3] h) (fun y0 y1 y2 y3 h => gr_35 N K 40 [y0, .int y1, .int y2, .int y3] h) (.ref 2) (nI (13 - (d + 1))) (nI inn) (nI s) (fx V1 I L R ++ tl) = some (.inl (none, fx W J L R ++ tl)) := by
                  apply hd_40_48
                  refine ev_b (rdI s1.2.1) (ev_b (a := fx V2 I L R ++ tl) (by rw [eV2, nI_1]; exact qp_2_2) (ev_b (a := Value.ref 167) (rVR qv_2_4 s2.2.2.2.1) (ev_i rfl (ev_cI e3 ?_))))
                  rw [show 13 - (d + 1) = 12 - d by omega]
                  exact e4
                rw [e]
              refine ⟨W, J, pr2 W J (pr3 _ (ev_f nn (ev_cI (p11 c21 _) (ev_f (fun q => q (by rw [ct])) ?_)))), frCp_t f1 (frCp_t f2 (frCp_t f3 f4)), r4⟩
              by_cases c19 : s = 19
              · have z0 : inn = 0 := by
                  by_cases z : inn = 0
                  · exact z
                  · exact absurd ⟨c19, z⟩ cf
                exact ev_f (fun q => q (by rw [c19]; rfl)) (ev_t (by rw [z0]; rfl) ((e48 _).mpr rfl))
              · exact ev_t (fun q => c19 ((nI_eq (b := 19) (by omega) (by omega)).mp q)) ((e48 _).mpr rfl)
          · rw [if_neg (fun q => ct q.2.1)]
            obtain ⟨W, J, e, f, r⟩ := badR
            have tr1 : truN s ≤ 1 := by unfold truN; split <;> omega
            exact ⟨W, J, pr2 W J (pr3 _ (ev_f nn (ev_cI (p11 c21 _) (ev_t (fun q => ct ((nI_eq (by omega) (by omega)).mp q)) ((bad _ _).trans e))))), f, r⟩
        · rw [if_neg c21] at pr3
          rw [if_neg (fun q => c21 q.1)]
          obtain ⟨W, J, e, f, r⟩ := badR
          exact ⟨W, J, pr2 W J (pr3 _ (ev_t (by decide) ((bad _ _).trans e))), f, r⟩
      · rw [if_neg c4]
        have n40 : ¬ nI (T p) = 40 := fun q => c4 ((nI_eq (b := 40) (by omega) (by omega)).mp q)
        obtain ⟨-, -, l6⟩ := sg_b (T p) t0
        have b83 : ∀ r35 r40 : Value → Int32 → Int32 → Int32 → am_H → Option am_O, fg_35_83 N r35 r40 (.ref 2) (fx V I L R ++ tl) = some (.inl (none, fx (vup V 2 3 (.int (nI p))) I L R ++ tl)) := fun r35 r40 => hd_35_83 (ev_i rfl (ev_cV (c_39 h) (hd_35_132 rfl)))
        by_cases ct : tr = 0
        · subst ct
          have pr4 : ∀ W J, ((5 ≤ lfT (T p) ∧ inn = 0) → some (.inl (none, fx (vup V 2 3 (.int (nI p))) I L R ++ tl)) = (some (.inl (none, fx W J L R ++ tl)) : Option am_O)) → (¬ (5 ≤ lfT (T p) ∧ inn = 0) → fg_35_90 N (fun y0 y1 y2 y3 h => gr_35 N (K + 1) 35 [y0, .int y1, .int y2, .int y3] h) (fun y0 y1 y2 y3 h => gr_35 N (K + 1) 40 [y0, .int y1, .int y2, .int y3] h) (.ref 2) (nI (lfT (T p))) (fx V I L R ++ tl) = some (.inl (none, fx W J L R ++ tl))) → gr_35 N (K + 1 + 1) 35 [.ref 2, .int (nI 0), .int (nI (13 - (d + 1))), .int (nI inn)] (fx V I L R ++ tl) = some (.inl (none, fx W J L R ++ tl)) := fun W J ha hb => by
            refine pre _ (ev_f n60 (ev_t d12 (ev_t n40 (ev_f (fun q => q rfl) ?_))))
            by_cases c5 : 5 ≤ lfT (T p)
            · refine ev_f (nI_nlt (b := 5) c5 (by omega)) ?_
              by_cases ci : inn = 0
              · rw [ci]
                exact ev_f (fun q => q rfl) ((b83 _ _).trans (ha ⟨c5, ci⟩))
              · exact ev_t (fun q => ci ((nI_eq (b := 0) (by omega) (by omega)).mp q)) (hb (fun q => ci q.2))
            · exact ev_t (nI_lt (b := 5) (by omega) (by omega)) (hb (fun q => c5 q.1))
          by_cases cx : 5 ≤ lfT (T p) ∧ inn = 0
          · rw [if_pos (.inr cx)]
            exact ⟨_, _, pr4 _ _ (fun _ => rfl) (fun q => absurd cx q), frCp_2 (.inr rfl), hp, p, hp, stC_w h⟩
          · rw [if_neg (fun q => q.elim (fun z => z rfl) cx)]
            by_cases c1 : 1 ≤ lfT (T p)
            · rw [if_pos c1]
              have pm : p < m := by
                refine tq_m h.2.2.2.2 (fun z => ?_)
                rw [z, sgz_0.2] at c1
                omega
              obtain ⟨V2, eV2⟩ : ∃ X, X = vup V 2 2 (.int (nI (p + 1))) := ⟨_, rfl⟩
              have s2 : stC V2 I T m (p + 1) (-1) := by rw [eV2]; exact stC_a h
              have f2 : frCp V V2 I I := by rw [eV2]; exact frCp_2 (.inl rfl)
              have P2 : prC V2 I (tI Q) := prC_f (fun j => by rw [eV2]; exact vup_na (by decide)) hP
              obtain ⟨V3, J3, e3, f3, s3, P3, -⟩ := c_41p (V := V2) (I := I) (L := L) (R := R) (tl := tl) (N := N) (by omega) P2 (by omega) s2 (nI (lfT (T p))) 0
              rw [← tI_ap2 (a := (lfT (T p), 0))] at P3
              refine ⟨V3, J3, pr4 _ _ (fun q => absurd q cx) (fun _ => ?_), frCp_t f2 f3, by omega, s3, P3, by rw [List.length_append]; show Q.length + 1 ≤ 60; omega⟩
              apply hd_35_90
              exact ev_f (nI_ge (a := 0) (by omega) (by omega)) (ev_b (rdI h.2.1) (ev_b (a := fx V2 I L R ++ tl) (by rw [eV2, nI_1]; exact qp_2_2) (ev_b (a := Value.ref 167) (rVR qv_2_4 s2.2.2.2.1) (ev_i rfl (ev_cI e3 (hd_35_132 rfl))))))
            · rw [if_neg c1]
              have z0 : lfT (T p) = 0 := by omega
              obtain ⟨x, W, e3, f3, g3, r3⟩ := c_43 (V := V) (I := I) (L := L) (R := R) (tl := tl) (N := N) (by omega) h hp
              have P3 : prC W I (tI Q) := prC_f g3 hP
              have e90 : ∀ W4 J4, fm_41 N (.ref 167) 0 x (fx W I L R ++ tl) = some (.inl (some (.int 1), fx W4 J4 L R ++ tl)) → ∀ r35 r40 : Value → Int32 → Int32 → Int32 → am_H → Option am_O, fg_35_90 N r35 r40 (.ref 2) (nI (lfT (T p))) (fx V I L R ++ tl) = some (.inl (none, fx W4 J4 L R ++ tl)) := fun W4 J4 e r35 r40 => by
                apply hd_35_90
                rw [z0]
                exact ev_t (by decide) (ev_b (a := Value.ref 167) (rVR qv_2_4 h.2.2.2.1) (ev_i rfl (ev_cI e3 (ev_i rfl (ev_cI e (hd_35_132 rfl))))))
              cases q : csT T p with
              | inl e =>
                rw [q] at r3
                obtain ⟨r1, p', r2, s3⟩ := r3
                obtain ⟨V4, J4, e4, f4, s4, P4, -⟩ := c_41p (V := W) (I := I) (L := L) (R := R) (tl := tl) (N := N) (by omega) P3 (by omega) s3 0 x
                exact ⟨V4, J4, pr4 _ _ (fun q => absurd q cx) (fun _ => e90 _ _ e4 _ _), frCp_t f3 f4, r1, p', r2, s4⟩
              | inr a =>
                rw [q] at r3
                obtain ⟨r1, s3, r4, r5⟩ := r3
                obtain ⟨V4, J4, e4, f4, s4, P4, -⟩ := c_41p (V := W) (I := I) (L := L) (R := R) (tl := tl) (N := N) (by omega) P3 (by omega) s3 0 x
                rw [r4] at P4
                exact ⟨V4, J4, pr4 _ _ (fun q => absurd q cx) (fun _ => e90 _ _ e4 _ _), frCp_t f3 f4, r1, s4, by rw [tI_ap2]; exact P4, by rw [List.length_append]; show Q.length + 1 ≤ 60; omega⟩
        · rw [if_pos (.inl ct)]
          exact ⟨_, _, pre _ (ev_f n60 (ev_t d12 (ev_t n40 (ev_t (fun q => ct ((nI_eq (b := 0) (by omega) (by omega)).mp q)) (b83 _ _))))), frCp_2 (.inr rfl), hp, p, hp, stC_w h⟩
