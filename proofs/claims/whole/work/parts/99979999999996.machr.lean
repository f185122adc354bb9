/-! ===== read: machines, lost edges and the reference ===== -/
theorem hd_351_116 {N : Nat} {h : am_H} {r_ : Option am_O} (k_ : some (.inl (none, h)) = r_) : fg_351_116 N h = r_ := k_
theorem hd_351_110 {N : Nat} {rec_63 : Value → Int32 → am_H → Option am_O} {x0 : Value} {x2 : Int32} {h : am_H} {r_ : Option am_O} (k_ : (rec_63 x0 ((x2 + 1)) h) = r_) : fg_351_110 N rec_63 x0 x2 h = r_ := k_
theorem hd_351_63 {N : Nat} {K : Nat} {x0 : Value} {x2 : Int32} {h : am_H} {r_ : Option am_O} (k_ : ((am_vI (am_pG 3086 x0 h)).bind fun v1 => (if (4 * v1) ≤ x2 then (fg_351_116 N h) else ((am_vI (am_pG 3142 x0 h)).bind fun v4 => (if 0 ≤ v4 then (fg_351_116 N h) else ((am_vR (am_pG 3100 x0 h)).bind fun v7 => ((am_pA 0 v7 x2 h).bind fun v9 => ((am_vI (am_pG 3086 x0 h)).bind fun v11 => (if v9 < v11 then (fg_351_110 N (fg_351_63 N K) x0 x2 h) else ((am_vR (am_pG 3143 x0 h)).bind fun v14 => ((am_pA 0 v14 (x2 / 4) h).bind fun v16 => (if am_pOk 12 x0 h then am_cI true (fm_331 x0 ((v16 + (x2 - x2 / 4 * 4))) h) (fun v19 h20 => (fg_351_110 N (fg_351_63 N K) x0 x2 h20)) else none))))))))))) = r_) : fg_351_63 N (K + 1) x0 x2 h = r_ := by rw [fg_351_63]; exact k_
theorem hd_351_61 {N : Nat} {x0 : Value} {h : am_H} {r_ : Option am_O} (k_ : (fg_351_63 N N x0 0 h) = r_) : fg_351_61 N x0 h = r_ := k_
theorem hd_351_57 {N : Nat} {rec_2 : Value → Int32 → am_H → Option am_O} {x0 : Value} {s0 : Int32} {h : am_H} {r_ : Option am_O} (k_ : (rec_2 x0 s0 h) = r_) : fg_351_57 N rec_2 x0 s0 h = r_ := k_
theorem hd_351_56 {N : Nat} {rec_2 : Value → Int32 → am_H → Option am_O} {x0 : Value} {h : am_H} {r_ : Option am_O} (k_ : (fg_351_57 N rec_2 x0 0 h) = r_) : fg_351_56 N rec_2 x0 h = r_ := k_
theorem hd_351_41 {N : Nat} {rec_2 : Value → Int32 → am_H → Option am_O} {x0 : Value} {x1 : Int32} {h : am_H} {r_ : Option am_O} (k_ : (if x1 = 0 then (fg_351_56 N rec_2 x0 h) else ((am_vI (am_pG 3142 x0 h)).bind fun v2 => (if 0 ≤ v2 then (fg_351_56 N rec_2 x0 h) else (fg_351_57 N rec_2 x0 1 h)))) = r_) : fg_351_41 N rec_2 x0 x1 h = r_ := k_
theorem hd_351_29 {N : Nat} {rec_2 : Value → Int32 → am_H → Option am_O} {x0 : Value} {s0 : Int32} {h : am_H} {r_ : Option am_O} (k_ : (if s0 = 0 then (fg_351_41 N rec_2 x0 s0 h) else (if am_pOk 12 x0 h then am_cI true (fm_336 x0 59 h) (fun v3 h4 => (fg_351_41 N rec_2 x0 s0 h4)) else none)) = r_) : fg_351_29 N rec_2 x0 s0 h = r_ := k_
theorem hd_351_2 {N : Nat} {K : Nat} {x0 : Value} {x1 : Int32} {h : am_H} {r_ : Option am_O} (k_ : (if x1 = 0 then (fg_351_61 N x0 h) else (if am_pOk 12 x0 h then am_cI true (fm_352 N x0 h) (fun v3 h4 => (if v3 = 0 then (fg_351_61 N x0 h4) else ((am_vI (am_pG 3141 x0 h4)).bind fun v7 => ((am_vI (am_pG 3140 x0 h4)).bind fun v9 => (if v9 ≤ v7 then (fg_351_29 N (fg_351_2 N K) x0 0 h4) else (fg_351_29 N (fg_351_2 N K) x0 1 h4)))))) else none)) = r_) : fg_351_2 N (K + 1) x0 x1 h = r_ := by rw [fg_351_2]; exact k_
theorem hd_351_0 {N : Nat} {x0 : Value} {h : am_H} {r_ : Option am_O} (k_ : (fg_351_2 N N x0 1 h) = r_) : fg_351_0 N x0 h = r_ := k_
theorem hm_351 {N : Nat} {y0 : Value} {h : am_H} {r_ : Option am_O} (k_ : fg_351_0 N y0 h = r_) : fm_351 N y0 h = r_ := k_
theorem hd_352_60 {N : Nat} {K : Nat} {x0 : Value} {x1 : Int32} {x2 : Int32} {x3 : Int32} {h : am_H} {r_ : Option am_O} (k_ : (if 4 ≤ x3 then (if am_pOk 12 x0 h then am_cV true (fm_335 x0 x1 x2 h) (fun h4 => some (.inl (some (.int 1), h4))) else none) else ((am_vI (am_pG 3141 x0 h)).bind fun v6 => (if am_pOk 12 x0 h then am_cI true (fm_339 x0 v6 h) (fun v9 h10 => (if ¬ v9 = 0 then ((am_vR (am_pG 3100 x0 h10)).bind fun v13 => ((am_vI (am_pG 3086 x0 h10)).bind fun v15 => ((am_vR (am_pG 3139 x0 h10)).bind fun v17 => ((am_vI (am_pG 3141 x0 h10)).bind fun v19 => ((am_pA 0 v17 v19 h10).bind fun v21 => ((am_pS 0 v13 ((4 * v15) + x3) (v21 - 48) h10).bind fun h23 => ((am_vR (am_pG 3139 x0 h23)).bind fun v25 => ((am_vI (am_pG 3141 x0 h23)).bind fun v27 => ((am_pA 0 v25 v27 h23).bind fun v29 => am_cI false (fm_353 x2 x3 (((v29 - 48) &&& 7)) h23) (fun v31 h32 => ((am_vI (am_pG 3141 x0 h32)).bind fun v34 => ((am_pP 3141 x0 (.int (v34 + 1)) h32).bind fun h36 => (fg_352_60 N K x0 x1 v31 ((x3 + 1)) h36))))))))))))) else ((am_vI (am_pG 3141 x0 h10)).bind fun v38 => (if am_pOk 12 x0 h10 then am_cI true (fm_331 x0 v38 h10) (fun v41 h42 => (if am_rfit (some FieldType.boolean) v41 then some (.inl (some (.int v41), h42)) else none)) else none)))) else none))) = r_) : fg_352_60 N (K + 1) x0 x1 x2 x3 h = r_ := by rw [fg_352_60]; exact k_
theorem hd_352_0 {N : Nat} {x0 : Value} {h : am_H} {r_ : Option am_O} (k_ : ((am_vI (am_pG 3086 x0 h)).bind fun v1 => (if ¬ v1 = 6 then (if am_pOk 12 x0 h then am_cI true (fm_340 x0 h) (fun v5 h6 => (if ¬ v5 = 0 then ((am_vI (am_pG 3144 x0 h6)).bind fun v9 => (if am_pOk 12 x0 h6 then am_cI true (fm_336 x0 58 h6) (fun v12 h13 => (if ¬ v12 = 0 then ((am_vR (am_pG 3143 x0 h13)).bind fun v16 => ((am_vI (am_pG 3086 x0 h13)).bind fun v18 => ((am_vI (am_pG 3141 x0 h13)).bind fun v20 => ((am_pS 0 v16 v18 v20 h13).bind fun h22 => (fg_352_60 N N x0 v9 0 0 h22))))) else some (.inl (some (.int 0), h13)))) else none)) else some (.inl (some (.int 0), h6)))) else none) else ((am_vI (am_pG 3141 x0 h)).bind fun v24 => (if am_pOk 12 x0 h then am_cI true (fm_331 x0 v24 h) (fun v27 h28 => (if am_rfit (some FieldType.boolean) v27 then some (.inl (some (.int v27), h28)) else none)) else none)))) = r_) : fg_352_0 N x0 h = r_ := k_
theorem hm_352 {N : Nat} {y0 : Value} {h : am_H} {r_ : Option am_O} (k_ : fg_352_0 N y0 h = r_) : fm_352 N y0 h = r_ := k_

def plM (Q : xM) (k : Nat) : Nat := (Q.getD (k / 4) (0, 0)).2 + k % 4
def lstE (T : Nat → Nat) (sz : Nat) (Q : xM) : Nat → Nat → Option Nat
  | 0, _ => none
  | n + 1, k => if T (plM Q k) - 48 < sz then lstE T sz Q n (k + 1) else some (plM Q k)
theorem dv4 : ∀ k, k < 24 → nI k / 4 = nI (k / 4) ∧ nI k - nI k / 4 * 4 = nI (k % 4) := by decide +kernel
theorem and7d : ∀ d, d < 10 → nI d &&& 7 = nI (d % 8) := by decide +kernel
theorem gDm {Q : xM} {k : Nat} (h : k < Q.length) : Q[k]? = some (Q.getD k (0, 0)) := by
  rw [List.getD_eq_getElem?_getD, List.getElem?_eq_getElem h]
  rfl
theorem c_54m {V : Nat → Nat → Value} {I : Nat → Nat → Int32} {L : Nat → Nat → Int64} {R : Nat → Nat → Option Nat} {tl : am_H} {s i j : Nat} (h3 : V 167 3 = .int (nI s)) (h4 : V 167 4 = .int 5) (hi : i < s) (hs : s ≤ 6) (hj : j < 5) : fm_54 (.ref 167) (nI i) (nI j) (fx V I L R ++ tl) = some (.inl (some (.int (I 168 (5 * i + j))), fx V I L R ++ tl)) := by
  have g : am_pA 0 (.ref 168) (nI i * 5 + nI j) (fx V I L R ++ tl) = some (I 168 (5 * i + j)) := by
    rw [show nI i * 5 + nI j = nI (5 * i + j) by rw [show nI i * 5 = nI (i * 5) from (nI_mul i 5).symm, nI_add, show i * 5 + j = 5 * i + j by omega]]
    exact qa_168 (by omega)
  unfold fm_54 fg_54_0
  exact ev_f (Int32.not_lt.mpr (nI_pos' (by omega))) (ev_b (rdI h3) (ev_f (nI_ge hi (by omega)) (ev_f (Int32.not_lt.mpr (nI_pos' (by omega))) (ev_b (rdI h4) (ev_f (nI_ge (b := 5) hj (by omega)) (ev_b (rdR rfl) (ev_b (rdI h4) (ev_b g rfl))))))))
theorem c_58 {V : Nat → Nat → Value} {I : Nat → Nat → Int32} {L : Nat → Nat → Int64} {R : Nat → Nat → Option Nat} {tl : am_H} {T : Nat → Nat} {N : Nat} {Q : xM} (h24 : V 2 4 = .ref 167) (hP : prM V I T Q) (hS : stE (I 4) Q) (hT : ∀ p, T p < 256) (l6 : Q.length ≤ 6) : ∀ (n k K : Nat), k + n = 4 * Q.length → n < K → fg_58_2 N K (.ref 2) (nI k) (fx V I L R ++ tl) = some (.inl (some (.int (match lstE T Q.length Q n k with | none => -1 | some e => nI e)), fx V I L R ++ tl)) := by
  intro n
  induction n with
  | zero =>
    intro k K hk hK
    obtain ⟨K, rfl⟩ : ∃ k, K = k + 1 := ⟨K - 1, by omega⟩
    apply hd_58_2
    refine ev_b (a := Value.ref 167) (rVR qv_2_4 h24) (ev_b (rdI hP.1) ?_)
    rw [show (4 : Int32) * nI Q.length = nI (4 * Q.length) from (nI_mul 4 _).symm]
    exact ev_t (nI_le (by omega) (by omega)) rfl
  | succ n ih =>
    intro k K hk hK
    obtain ⟨K, rfl⟩ : ∃ k, K = k + 1 := ⟨K - 1, by omega⟩
    obtain ⟨q1, q2⟩ := dv4 k (by omega)
    have hg := gDm (Q := Q) (k := k / 4) (by omega)
    obtain ⟨y1, y2⟩ := hP.2.2 _ _ hg
    have y3 := y2 (k % 4) (by omega)
    have y4 := hS _ _ hg (k % 4) (by omega)
    rw [show 4 * (k / 4) + k % 4 = k by omega] at y4
    have t := hT (plM Q k)
    have e54 := c_54m (V := V) (I := I) (L := L) (R := R) (tl := tl) (i := k / 4) (j := 1 + k % 4) hP.1 hP.2.1 (by omega) l6 (by omega)
    rw [show 5 * (k / 4) + (1 + k % 4) = 5 * (k / 4) + 1 + k % 4 by omega, y3] at e54
    apply hd_58_2
    refine ev_b (a := Value.ref 167) (rVR qv_2_4 h24) (ev_b (rdI hP.1) ?_)
    rw [show (4 : Int32) * nI Q.length = nI (4 * Q.length) from (nI_mul 4 _).symm]
    refine ev_f (nI_ge (by omega) (by omega)) (ev_b (a := Value.ref 167) (rVR qv_2_4 h24) (ev_i rfl ?_))
    rw [q2, q1, show (1 : Int32) + nI (k % 4) = nI (1 + k % 4) from nI_add 1 _]
    refine ev_cI e54 (ev_b (a := Value.ref 167) (rVR qv_2_4 h24) (ev_b (rdI hP.1) ?_))
    rw [lstE]
    have hpl : plM Q k = (Q.getD (k / 4) (0, 0)).2 + k % 4 := rfl
    by_cases c : T (plM Q k) - 48 < Q.length
    · rw [if_pos c]
      refine ev_t (nI_lt (by rw [← hpl]; exact c) (by omega)) ?_
      rw [nI_1]
      exact ih (k + 1) K (by omega) (by omega)
    · rw [if_neg c]
      exact ev_f (nI_nlt (by rw [← hpl]; omega) (by rw [← hpl]; omega)) (ev_b (rdR rfl) (ev_b ((qa_4 (by omega)).trans (congrArg some y4)) rfl))
/-! the reference -/
def vsum (T : Nat → Nat) (b : Nat) : Nat → Nat
  | 0 => 0
  | c + 1 => vsum T b c + (T (b + c) - 48) % 8 * 8 ^ c
theorem vsum_b {T : Nat → Nat} {b : Nat} : ∀ c, c < 5 → vsum T b c < 8 ^ c := by
  intro c hc
  have h0 : (T b - 48) % 8 < 8 := Nat.mod_lt _ (by omega)
  have h1 : (T (b + 1) - 48) % 8 < 8 := Nat.mod_lt _ (by omega)
  have h2 : (T (b + 2) - 48) % 8 < 8 := Nat.mod_lt _ (by omega)
  have h3 : (T (b + 3) - 48) % 8 < 8 := Nat.mod_lt _ (by omega)
  rcases (by omega : c = 0 ∨ c = 1 ∨ c = 2 ∨ c = 3 ∨ c = 4) with rfl | rfl | rfl | rfl | rfl
  · exact Nat.one_pos
  · show 0 + (T b - 48) % 8 * 1 < 8
    omega
  · show 0 + (T b - 48) % 8 * 1 + (T (b + 1) - 48) % 8 * 8 < 64
    omega
  · show 0 + (T b - 48) % 8 * 1 + (T (b + 1) - 48) % 8 * 8 + (T (b + 2) - 48) % 8 * 64 < 512
    omega
  · show 0 + (T b - 48) % 8 * 1 + (T (b + 1) - 48) % 8 * 8 + (T (b + 2) - 48) % 8 * 64 + (T (b + 3) - 48) % 8 * 512 < 4096
    omega
set_option maxRecDepth 100000 in
set_option maxHeartbeats 4000000 in
theorem r_352l {L : Nat → Nat → Int64} {R : Nat → Nat → Option Nat} {tl : am_H} {T : Nat → Nat} {m N : Nat} {k b : Nat} {out : Int32} {P : xI} (hk : k < 6) (hl : P.length = k) : ∀ (t c K : Nat) (V : Nat → Nat → Value) (I : Nat → Nat → Int32) (p : Nat), c + t = 4 → t < K → p ≤ m → p = b + c → stR V I T m p (-1) → dkL V I P → ∃ x W J, fg_352_60 N K (.ref 174) out (nI (vsum T b c)) (nI c) (fx V I L R ++ tl) = some (.inl (some (.int x), fx W J L R ++ tl)) ∧ frRd V W I J ∧ J 219 = I 219 ∧ resR (eg4 T t p) W J T m x (fun _ => dkL W J (P ++ [(out, nI (vsum T b 4))]) ∧ (∀ i, i < 4 * k + c → J 194 i = I 194 i) ∧ ∀ c', c ≤ c' → c' < 4 → J 194 (4 * k + c') = nI (T (b + c') - 48)) := by
  intro t
  induction t with
  | zero =>
    intro c K V I p hc hK hp hb h hd
    obtain ⟨K, rfl⟩ : ∃ k, K = k + 1 := ⟨K - 1, by omega⟩
    obtain rfl : c = 4 := by omega
    obtain ⟨V1, J1, e1, f1, v1, j1, s1, d1⟩ := dkL_ap (V := V) (I := I) (L := L) (R := R) (tl := tl) hd (by omega) h out (nI (vsum T b 4))
    exact ⟨1, V1, J1, hd_352_60 (ev_t (by decide) (ev_i rfl (ev_cV e1 rfl))), f1, j1 219 (by decide) (by decide), hp, rfl, s1, d1, fun i _ => by rw [j1 194 (by decide) (by decide)], fun c' a b => absurd b (by omega)⟩
  | succ t ih =>
    intro c K V I p hc hK hp hb h hd
    obtain ⟨K, rfl⟩ : ∃ k, K = k + 1 := ⟨K - 1, by omega⟩
    have m240 := h.2.2.2.1
    have t0 := tq_256 h.2.2.2 p
    have h14 : V 174 14 = .int (nI k) := by rw [← hl]; exact hd.1
    rw [eg4]
    by_cases d : dgB (T p) = true
    · rw [if_pos d]
      obtain ⟨d1, d2⟩ := dgB_t.mp d
      have pm := tq_m h.2.2.2 (p := p) (by omega)
      have g : ∀ J : Nat → Nat → Int32, J 218 = I 218 → am_pA 0 (.ref 218) (nI p) (fx V J L R ++ tl) = some (nI (T p)) := fun J e => (qa_218 (by omega)).trans (congrArg some (by rw [e]; exact (h.2.2.2.2.1 p pm).1))
      obtain ⟨I1, eI1⟩ : ∃ X, X = iup I 194 (upd (I 194) (4 * k + c) (nI (T p - 48))) := ⟨_, rfl⟩
      have s1 : stR (vup V 174 69 (.int (nI (p + 1)))) I1 T m (p + 1) (-1) := by
        have := stR_a (q := p + 1) h
        exact ⟨this.1, this.2.1, this.2.2.1, by rw [eI1, iup_na (by decide)]; exact this.2.2.2⟩
      have dk1 : dkL (vup V 174 69 (.int (nI (p + 1)))) I1 P := ⟨(vup_o (by decide)).trans hd.1, by rw [eI1, iup_na (by decide), iup_na (by decide)]; exact hd.2⟩
      obtain ⟨x, W, J, e, f, b2, r⟩ := ih (c + 1) K (vup V 174 69 (.int (nI (p + 1)))) I1 (p + 1) (by omega) (by omega) (by omega) (by omega) s1 dk1
      have f1 : frRd V (vup V 174 69 (.int (nI (p + 1)))) I I1 := frRd_t (frRd_v (by decide)) ⟨fun _ _ _ => rfl, fun y q => by rw [eI1]; exact iup_na (by omega), id⟩
      refine ⟨x, W, J, ?_, frRd_t f1 f, b2.trans (by rw [eI1]; exact iup_na (by decide)), ?_⟩
      · apply hd_352_60
        refine ev_f (nI_ge (b := 4) (by omega) (by omega)) (ev_b (rdI h.2.1) (ev_i rfl (ev_cI (r_339 h (by omega)) (ev_t (dI_nz d) (ev_b (rdR rfl) (ev_b (rdI h14) (ev_b (rdR rfl) (ev_b (rdI h.2.1) (ev_b (g I rfl) ?_)))))))))
        rw [nI_48 d1 t0, show (4 : Int32) * nI k + nI c = nI (4 * k + c) by rw [show (4 : Int32) * nI k = nI (4 * k) from (nI_mul 4 _).symm, nI_add]]
        refine ev_b (a := fx V I1 L R ++ tl) (by rw [eI1]; exact qs_194 (by omega)) (ev_b (rdR rfl) (ev_b (rdI h.2.1) (ev_b (g I1 (by rw [eI1]; exact iup_na (by decide))) ?_)))
        rw [nI_48 d1 t0, and7d _ (by omega)]
        refine ev_cI (pe_353 _ _ _ _) (ev_b (rdI h.2.1) (ev_b (a := fx (vup V 174 69 (.int (nI (p + 1)))) I1 L R ++ tl) (by rw [nI_1]; exact qp_174_69) ?_))
        rw [t353 c (by omega) _ (vsum_b c (by omega)) _ (Nat.mod_lt _ (by omega)), nI_1]
        have ev : vsum T b (c + 1) = vsum T b c + (T p - 48) % 8 * 8 ^ c := by rw [hb]; rfl
        rw [← ev]
        exact e
      · cases q : eg4 T t (p + 1) with
        | inl w => rw [q] at r; exact r
        | inr a =>
          rw [q] at r
          obtain ⟨r1, r2, r3, r4, r5, r6⟩ := r
          refine ⟨r1, r2, r3, r4, fun i hi => by rw [r5 i (by omega), eI1, iup_eq, upd_ne (by omega)], fun c' a1 a2 => ?_⟩
          by_cases z : c' = c
          · rw [z, r5 (4 * k + c) (by omega), eI1, iup_eq, upd_eq, ← hb]
          · exact r6 c' (by omega) a2
    · rw [if_neg d]
      have d' : dgB (T p) = false := by rw [← Bool.not_eq_true]; exact d
      refine ⟨0, vup V 174 70 (.int (nI p)), I, ?_, frRd_v (by decide), rfl, hp, rfl, p, hp, stR_w h⟩
      apply hd_352_60
      exact ev_f (nI_ge (b := 4) (by omega) (by omega)) (ev_b (rdI h.2.1) (ev_i rfl (ev_cI (r_339 h (by omega)) (ev_f (fun q => q (dI_z d')) (ev_b (rdI h.2.1) (ev_i rfl (ev_cI (r_331 h) (ev_i rfl rfl))))))))
def mIx (T : Nat → Nat) (Q : xM) : xI := Q.map (fun x => (x.1, nI (vsum T x.2 4)))
def plR (I : Nat → Nat → Int32) (T : Nat → Nat) (Q : xM) : Prop := ∀ k x, Q[k]? = some x → I 219 k = nI x.2 ∧ ∀ c, c < 4 → I 194 (4 * k + c) = nI (T (x.2 + c) - 48)
theorem mIx_ap {T : Nat → Nat} {Q : xM} {a : Int32 × Nat} : mIx T (Q ++ [a]) = mIx T Q ++ [(a.1, nI (vsum T a.2 4))] := by
  unfold mIx
  rw [List.map_append]
  rfl
set_option maxRecDepth 100000 in
set_option maxHeartbeats 4000000 in
theorem r_352 {V : Nat → Nat → Value} {I : Nat → Nat → Int32} {L : Nat → Nat → Int64} {R : Nat → Nat → Option Nat} {tl : am_H} {T : Nat → Nat} {m p N : Nat} {Q : xM} (hN : 10 < N) (h : stR V I T m p (-1)) (hp : p ≤ m) (hk : Q.length < 6) (hd : dkL V I (mIx T Q)) (hS : plR I T Q) : ∃ x W J, fm_352 N (.ref 174) (fx V I L R ++ tl) = some (.inl (some (.int x), fx W J L R ++ tl)) ∧ frRd V W I J ∧ resR (mcTx T p) W J T m x (fun y => dkL W J (mIx T (Q ++ [y])) ∧ plR J T (Q ++ [y])) := by
  have m240 := h.2.2.2.1
  have lm : (mIx T Q).length = Q.length := List.length_map ..
  have h14 : V 174 14 = .int (nI Q.length) := by rw [← lm]; exact hd.1
  obtain ⟨x, W, e1, f1, g1, r1⟩ := r_340 (V := V) (I := I) (L := L) (R := R) (tl := tl) h hp
  have n6 : ¬ nI Q.length = 6 := fun q => by have := (nI_eq (b := 6) (by omega) (by omega)).mp q; omega
  unfold mcTx
  cases q : csT T p with
  | inl e =>
    rw [q] at r1
    obtain ⟨r2, rfl, p', r3, s1⟩ := r1
    exact ⟨0, W, I, hm_352 (hd_352_0 (ev_b (rdI h14) (ev_t n6 (ev_i rfl (ev_cI e1 (ev_f (fun u => u rfl) rfl)))))), f1, r2, rfl, p', r3, s1⟩
  | inr a =>
    rw [q] at r1
    obtain ⟨r2, rfl, s1, r4, r5⟩ := r1
    have e := r_336 (V := W) (I := I) (L := L) (R := R) (tl := tl) (c := 58) (by omega) (by omega) (x := 58) rfl s1 r2
    show ∃ x W J, _ ∧ _ ∧ resR (if T a.1 = 58 then sMt (eg4 T 4 (a.1 + 1)) (fun r _ => .inr (r, (a.2, a.1 + 1))) else .inl a.1) W J T m x _
    by_cases c : T a.1 = 58
    · rw [if_pos c] at e ⊢
      have pm := tq_m h.2.2.2 (p := a.1) (by omega)
      obtain ⟨I1, eI1⟩ : ∃ X, X = iup I 219 (upd (I 219) Q.length (nI (a.1 + 1))) := ⟨_, rfl⟩
      have s2 : stR (vup W 174 69 (.int (nI (a.1 + 1)))) I1 T m (a.1 + 1) (-1) := by
        have := stR_a (q := a.1 + 1) s1
        exact ⟨this.1, this.2.1, this.2.2.1, by rw [eI1, iup_na (by decide)]; exact this.2.2.2⟩
      have h14' : vup W 174 69 (.int (nI (a.1 + 1))) 174 14 = .int (nI Q.length) := (vup_o (by decide)).trans ((g1 14 (by omega)).trans h14)
      have dk1 : dkL (vup W 174 69 (.int (nI (a.1 + 1)))) I1 (mIx T Q) := ⟨by rw [lm]; exact h14', by rw [eI1, iup_na (by decide), iup_na (by decide)]; exact hd.2⟩
      obtain ⟨x3, W3, J3, e3, f3, b3, r3⟩ := r_352l (L := L) (R := R) (tl := tl) (T := T) (m := m) (N := N) (k := Q.length) (b := a.1 + 1) (out := a.2) hk lm 4 0 N (vup W 174 69 (.int (nI (a.1 + 1)))) I1 (a.1 + 1) (by omega) (by omega) (by omega) rfl s2 dk1
      refine ⟨x3, W3, J3, hm_352 (hd_352_0 (ev_b (rdI h14) (ev_t n6 (ev_i rfl (ev_cI e1 (ev_t (by decide) (ev_b (rdI r4) (ev_i rfl (ev_cI e (ev_t (by decide) (ev_b (rdR rfl) (ev_b (rdI h14') (ev_b (rdI ((stR_a (q := a.1 + 1) s1).2.1)) (ev_b (a := fx (vup W 174 69 (.int (nI (a.1 + 1)))) I1 L R ++ tl) (by rw [eI1]; exact qs_219 (by omega)) e3)))))))))))))), frRd_t f1 (frRd_t (frRd_v (j := 69) (x := nI (a.1 + 1)) (by decide)) (frRd_t (I := I1) ⟨fun _ _ _ => rfl, fun y u => by rw [eI1]; exact iup_na (by omega), id⟩ f3)), ?_⟩
      cases q2 : eg4 T 4 (a.1 + 1) with
      | inl w => rw [q2] at r3; exact r3
      | inr b =>
        rw [q2] at r3
        obtain ⟨t1, t2, t3, t4, t5, t6⟩ := r3
        refine ⟨t1, t2, t3, by show dkL _ _ (mIx T (Q ++ [_])); rw [mIx_ap]; exact t4, fun i y hi => ?_⟩
        by_cases z : i < Q.length
        · rw [List.getElem?_append_left z] at hi
          obtain ⟨y1, y2⟩ := hS i y hi
          refine ⟨?_, fun c' hc' => ?_⟩
          · rw [b3, eI1, iup_eq, upd_ne (by omega)]
            exact y1
          · rw [t5 _ (by omega), eI1, iup_na (by decide)]
            exact y2 c' hc'
        · rw [List.getElem?_append_right (by omega)] at hi
          obtain ⟨d, ed⟩ : ∃ d, d = i - Q.length := ⟨_, rfl⟩
          rw [← ed] at hi
          cases d with
          | succ d => exact absurd hi (by simp)
          | zero =>
            obtain rfl : i = Q.length := by omega
            rw [← Option.some.inj hi]
            exact ⟨by rw [b3, eI1, iup_eq]; exact upd_eq, fun c' hc' => t6 c' (by omega) hc'⟩
    · rw [if_neg c] at e ⊢
      exact ⟨0, _, I, hm_352 (hd_352_0 (ev_b (rdI h14) (ev_t n6 (ev_i rfl (ev_cI e1 (ev_t (by decide) (ev_b (rdI r4) (ev_i rfl (ev_cI e (ev_f (fun u => u rfl) rfl)))))))))), frRd_t f1 (frRd_v (by decide)), r2, rfl, a.1, r2, stR_w s1⟩
