/-! ===== birth(b, what) ===== -/
theorem isF_tk : ∀ (l : List (Nat × Nat)) (n : Nat), isF n l → tk n l = l.length := by
  intro l
  induction l with
  | nil =>
    intro n h
    cases n with
    | zero => exact tk_0 _
    | succ n => exact absurd h (fun e => e)
  | cons x l ih =>
    intro n h
    cases n with
    | zero => exact absurd h (fun e => e)
    | succ n => rw [tk_c, ih _ h, List.length_cons]; omega
theorem okF_len : ∀ (l : List (Nat × Nat)) (st : List (Nat × Nat × Nat)), okF st l → st.length ≤ l.length := by
  intro l
  induction l with
  | nil =>
    intro st h
    cases st with
    | nil => exact Nat.le_refl _
    | cons c st => exact absurd h (fun e => e)
  | cons x l ih =>
    intro st h
    cases st with
    | nil => exact Nat.zero_le _
    | cons c st =>
      have := ih _ h.2.2.2.2.2
      rw [List.length_append, kid_len] at this
      rw [List.length_cons, List.length_cons]
      omega
set_option maxRecDepth 100000 in
set_option maxHeartbeats 1600000 in
theorem r_371i {V : Nat → Nat → Value} {I : Nat → Nat → Int32} {L : Nat → Nat → Int64} {R : Nat → Nat → Option Nat} {tl : am_H} {N k B h0 d x : Nat} {rc : Value → Int32 → Int32 → Int32 → am_H → Option am_O} (hk : k < 400) (hx : x ≤ 20) (hs : I 186 k = nI x) (hh : h0 + arN x ≤ 300) : ∀ (q p K : Nat) (g : Nat → Int32), p + q = arN x → q < K → ∃ G, (∀ j, h0 + p ≤ j → j < h0 + arN x → G j = nI (d + 1)) ∧ (∀ j, j < h0 + p → G j = g j) ∧ fg_371_55 N rc K (.ref 174) (nI B) (nI (h0 + p)) (nI k) (nI d) (nI p) (fx V (iup I 194 g) L R ++ tl) = rc (.ref 174) (nI B) (nI (h0 + arN x)) (nI (k + 1)) (fx V (iup I 194 G) L R ++ tl) := by
  have ar3 := ar_le x
  have rd : ∀ g : Nat → Int32, am_pA 0 (.ref 186) (nI k) (fx V (iup I 194 g) L R ++ tl) = some (nI x) := fun g => (qa_186 hk).trans (congrArg some hs)
  intro q
  induction q with
  | zero =>
    intro p K g hp hK
    obtain ⟨K, rfl⟩ : ∃ k, K = k + 1 := ⟨K - 1, by omega⟩
    refine ⟨g, fun j h1 h2 => by omega, fun _ _ => rfl, ?_⟩
    rw [fg_371_55]
    refine ev_b (a := Value.ref 186) rfl (ev_b (rd g) (ev_cI (pe_343 _ _) ?_))
    rw [ar_eq x (by omega), nI_1, show h0 + p = h0 + arN x by omega]
    exact ev_t (nI_le (by omega) (by omega)) rfl
  | succ q ih =>
    intro p K g hp hK
    obtain ⟨K, rfl⟩ : ∃ k, K = k + 1 := ⟨K - 1, by omega⟩
    obtain ⟨G, h1, h2, h3⟩ := ih (p + 1) K (upd g (h0 + p) (nI (d + 1))) (by omega) (by omega)
    refine ⟨G, fun j j1 j2 => ?_, fun j j1 => ?_, ?_⟩
    · by_cases c : j = h0 + p
      · rw [h2 j (by omega), c, upd_eq]
      · exact h1 j (by omega) j2
    · rw [h2 j (by omega), upd_ne (by omega)]
    · rw [fg_371_55]
      refine ev_b (a := Value.ref 186) rfl (ev_b (rd g) (ev_cI (pe_343 _ _) ?_))
      rw [ar_eq x (by omega), nI_1, nI_1, nI_1, nI_1]
      refine ev_f (nI_ge (by omega) (by omega)) (ev_b (a := Value.ref 194) rfl (ev_b (a := fx V (iup I 194 (upd g (h0 + p) (nI (d + 1)))) L R ++ tl) ((qs_194 (by omega)).trans (by rw [iup_eq, iup_iup])) ?_))
      exact h3
set_option maxRecDepth 100000 in
set_option maxHeartbeats 1600000 in
theorem r_371o {V : Nat → Nat → Value} {I : Nat → Nat → Int32} {L : Nat → Nat → Int64} {R : Nat → Nat → Option Nat} {tl : am_H} {N : Nat} {l : List (Nat × Nat)} (hN : 100 < N) (ho : okF [(0, 1, 0)] l) (hl : l.length ≤ 60) (h14 : V 174 14 = .int (nI l.length)) (hS : ∀ k x r, l.drop k = x :: r → I 186 k = nI x.1) : ∀ (lst : List (Nat × Nat)) (st : List (Nat × Nat × Nat)) (k K : Nat) (g : Nat → Int32), l.drop k = lst → k ≤ l.length → okF st lst → (cxl [(0, 1, 0)] l).drop k = cxl st lst → lst.length < K → (∀ i c, st[i]? = some c → g (st.length - 1 - i) = nI c.2.1) → ∃ G, fg_371_19 N K (.ref 174) (nI (mxR (dpL l) 0 k)) (nI st.length) (nI k) (fx V (iup I 194 g) L R ++ tl) = some (.inl (some (.int (nI (mxR (dpL l) 0 l.length))), fx V (iup I 194 G) L R ++ tl)) := by
  intro lst
  induction lst with
  | nil =>
    intro st k K g hd hk hst hcx hK hg
    obtain ⟨K, rfl⟩ : ∃ k, K = k + 1 := ⟨K - 1, by omega⟩
    have lk : k = l.length := by
      have := congrArg List.length hd
      rw [List.length_drop, List.length_nil] at this
      omega
    refine ⟨g, ?_⟩
    rw [fg_371_19, lk]
    exact ev_b (rdI h14) (ev_t (nI_le (by omega) (by omega)) rfl)
  | cons x r ih =>
    intro st k K g hd hk hst hcx hK hg
    obtain ⟨K, rfl⟩ : ∃ k, K = k + 1 := ⟨K - 1, by omega⟩
    rw [List.length_cons] at hK
    have len := drop_len hd
    have sl := okF_len _ _ hst
    rw [List.length_cons] at sl
    cases st with
    | nil => exact absurd hst (fun e => e)
    | cons c st =>
      rw [List.length_cons] at sl
      rw [cxl_c] at hcx
      have ck : cxK l k = c := drop_get hcx
      have dk : dpL l k = c.2.1 := by unfold dpL; rw [ck]
      have d12 := tl_b ho hl (show k < l.length by omega)
      have m12 := mx_b ho hl (k := 0) (m := k) (by omega)
      have w1 := hg 0 c rfl
      rw [List.length_cons, show st.length + 1 - 1 - 0 = st.length by omega] at w1
      have ar3 := ar_le x.1
      have x20 : x.1 ≤ 20 := hst.1
      have d1 : l.drop (k + 1) = r := by
        have := drop_s hd 0
        rw [List.drop_zero] at this
        exact this
      obtain ⟨B, hB⟩ : ∃ B, B = mxR (dpL l) 0 (k + 1) := ⟨_, rfl⟩
      have hB2 : B = max (mxR (dpL l) 0 k) c.2.1 := by
        rw [hB, ← dk]
        show max (mxR (dpL l) 0 k) (dpL l (0 + k)) = _
        rw [Nat.zero_add]
      obtain ⟨G1, g1, g2, g3⟩ := r_371i (V := V) (I := I) (L := L) (R := R) (tl := tl) (N := N) (k := k) (B := B) (h0 := st.length) (d := c.2.1) (x := x.1) (rc := fg_371_19 N K) (by omega) x20 (hS k x r hd) (by omega) (arN x.1) 0 N g (by omega) (by omega)
      rw [Nat.add_zero] at g1 g2 g3
      obtain ⟨G2, e2⟩ := ih (kid x.1 c ++ st) (k + 1) K G1 d1 (by omega) hst.2.2.2.2.2 (by rw [← List.drop_drop, hcx, List.drop_succ_cons, List.drop_zero]) (by omega) (fun i y hy => by
        have kl : (kid x.1 c ++ st).length = arN x.1 + st.length := by rw [List.length_append, kid_len]
        have il : i < arN x.1 + st.length := by rw [← kl]; exact (List.getElem?_eq_some_iff.mp hy).1
        rw [kl]
        by_cases ci : i < arN x.1
        · rw [List.getElem?_append_left (by rw [kid_len]; exact ci)] at hy
          obtain ⟨-, rfl⟩ := kid_get hy
          exact g1 _ (by omega) (by omega)
        · rw [List.getElem?_append_right (by rw [kid_len]; omega), kid_len] at hy
          have z := hg (i - arN x.1 + 1) y (by rw [List.getElem?_cons_succ]; exact hy)
          rw [List.length_cons, show st.length + 1 - 1 - (i - arN x.1 + 1) = arN x.1 + st.length - 1 - i by omega] at z
          rw [g2 _ (by omega)]
          exact z)
      rw [← hB, List.length_append, kid_len, Nat.add_comm (arN x.1)] at e2
      refine ⟨G2, ?_⟩
      rw [fg_371_19, List.length_cons]
      dsimp only
      rw [nI_m1]
      refine ev_b (rdI h14) (ev_f (nI_ge (by omega) (by omega)) (ev_b (a := Value.ref 194) rfl (ev_b (a := nI c.2.1) ((qa_194 (by omega)).trans (congrArg some w1)) ?_)))
      by_cases cc : c.2.1 ≤ mxR (dpL l) 0 k
      · refine ev_t (nI_le cc (by omega)) ?_
        unfold fg_371_51
        rw [Nat.max_eq_left cc] at hB2
        rw [← hB2]
        exact g3.trans e2
      · refine ev_f (nI_ge (by omega) (by omega)) ?_
        unfold fg_371_51
        rw [Nat.max_eq_right (by omega)] at hB2
        rw [hB2] at g3 e2
        exact g3.trans e2
set_option maxRecDepth 100000 in
set_option maxHeartbeats 1600000 in
theorem r_371 {V : Nat → Nat → Value} {I : Nat → Nat → Int32} {L : Nat → Nat → Int64} {R : Nat → Nat → Option Nat} {tl : am_H} {N b ln : Nat} {l : List (Nat × Nat)} (hN : 100 < N) (hb : b < 600) (ho : okF [(0, 1, 0)] l) (hl : l.length ≤ 60) (q1 : I 175 b = nI 0) (q2 : I 176 b = nI l.length) (q3 : I 177 b = nI ln) (hS : ∀ k x r, l.drop k = x :: r → I 184 (60 * b + k) = nI x.1) : ∃ G, fm_371 N (.ref 174) (nI b) (fx V I L R ++ tl) = some (.inl (some (.int (nI (mxR (dpL l) 0 l.length))), fx (dkV V 0 ln l.length) (iup (dkI I b l.length) 194 G) L R ++ tl)) := by
  have h0 := (cx0 ho).2
  obtain ⟨G, e⟩ := r_371o (V := dkV V 0 ln l.length) (I := dkI I b l.length) (L := L) (R := R) (tl := tl) (N := N) hN ho hl (by show vup _ 174 15 _ 174 14 = _; rw [vup_v (by omega), vup_eq]) (fun k x r hd => (ldr_at (by have := drop_len hd; omega)).trans (hS k x r hd)) l [(0, 1, 0)] 0 N (upd (dkI I b l.length 194) 0 1) List.drop_zero (by omega) ho List.drop_zero (by omega) (fun i c hc => by
    cases i with
    | zero =>
      obtain rfl : (0, 1, 0) = c := Option.some.inj hc
      show upd _ 0 1 0 = _
      rw [upd_eq]
      rfl
    | succ i => cases hc)
  refine ⟨G, ?_⟩
  unfold fm_371 fg_371_0
  exact ev_i rfl (ev_cV (r_359 hN hb hl q1 q2 q3) (ev_b (a := Value.ref 194) rfl (ev_b (a := fx (dkV V 0 ln l.length) (iup (dkI I b l.length) 194 (upd (dkI I b l.length 194) 0 1)) L R ++ tl) (qs_194 (k := 0) (by omega)) e)))
theorem in_9n {a : Int32} (h : a < 0 ∨ nI 9 ≤ a) : pv_327 a.toInt64 0 8 = 0 := by
  rcases h with h | h
  · exact in_lo (w64lt h)
  · exact in_hi (Int64.lt_of_lt_of_le (show (8 : Int64) < Int32.toInt64 9 by decide) (w64le h))
theorem in_9 : ∀ w, w < 9 → pv_327 (nI w).toInt64 0 8 = 1 := by decide
theorem wt_c {V W : Nat → Nat → Value} {x : Int32} {a j : Nat} (h : W = vup V a j (.int x)) (hl : ¬ j ∈ fL a) (w : wt V) : wt W := by rw [h]; exact wt_i w hl
/-- a birth's scalars -/
def bV (I : Nat → Nat → Int32) (b w : Nat) : Int32 := if w = 0 then I 175 b else if w = 1 then I 176 b else if w = 2 then I 178 b else if w = 3 then I 179 b else if w = 4 then I 180 b else if w = 5 then I 181 b else if w = 6 then I 182 b else I 177 b
set_option maxRecDepth 100000 in
set_option maxHeartbeats 1600000 in
theorem c_74s {V : Nat → Nat → Value} {I : Nat → Nat → Int32} {L : Nat → Nat → Int64} {R : Nat → Nat → Option Nat} {tl : am_H} {N n b w kd ln sz a it : Nat} (hb : V 0 1 = .int (nI n)) (hn : n ≤ 600) (hbn : b < n) (hR : R 1 b = some (269 + a)) (q1 : I 175 b = nI kd) (q2 : I 176 b = nI sz) (q3 : I 177 b = nI ln) (q5 : tl[a]? = some (.inr (3, [.ref (269 + it), .int (nI kd), .int (nI ln), .int (nI sz), .int (nI (wdN kd)), .int (I 178 b), .int (I 179 b), .int (I 180 b), .int (I 181 b), .int (I 182 b), .long (L 183 b)]))) (hw : w < 8) : fm_74 N (.ref 0) (nI b) (nI w) (fx V I L R ++ tl) = some (.inl (some (.int (bV I b w)), fx V I L R ++ tl)) := by
  have p1 : (fx V I L R ++ tl)[269 + a]? = _ := tl_at.trans q5
  unfold fm_74 fg_74_0
  refine ev_i rfl (ev_cR (c_63 hb hn hbn hR) rfl ?_)
  rcases (by omega : w = 0 ∨ w = 1 ∨ w = 2 ∨ w = 3 ∨ w = 4 ∨ w = 5 ∨ w = 6 ∨ w = 7) with rfl | rfl | rfl | rfl | rfl | rfl | rfl | rfl
  · exact ev_t rfl (ev_b (ev_gI p1 rfl rfl) (by rw [← q1]; rfl))
  · exact ev_f (by decide) (ev_t rfl (ev_b (ev_gI p1 rfl rfl) (by rw [← q2]; rfl)))
  · exact ev_f (by decide) (ev_f (by decide) (ev_t rfl (ev_b (ev_gI p1 rfl rfl) rfl)))
  · exact ev_f (by decide) (ev_f (by decide) (ev_f (by decide) (ev_t rfl (ev_b (ev_gI p1 rfl rfl) rfl))))
  · exact ev_f (by decide) (ev_f (by decide) (ev_f (by decide) (ev_f (by decide) (ev_t rfl (ev_b (ev_gI p1 rfl rfl) rfl)))))
  · exact ev_f (by decide) (ev_f (by decide) (ev_f (by decide) (ev_f (by decide) (ev_f (by decide) (ev_t rfl (ev_b (ev_gI p1 rfl rfl) rfl))))))
  · exact ev_f (by decide) (ev_f (by decide) (ev_f (by decide) (ev_f (by decide) (ev_f (by decide) (ev_f (by decide) (ev_t rfl (ev_b (ev_gI p1 rfl rfl) rfl)))))))
  · exact ev_f (by decide) (ev_f (by decide) (ev_f (by decide) (ev_f (by decide) (ev_f (by decide) (ev_f (by decide) (ev_f (by decide) (ev_t rfl (ev_b (ev_gI p1 rfl rfl) (by rw [← q3]; rfl)))))))))
set_option maxRecDepth 100000 in
set_option maxHeartbeats 1600000 in
theorem r_370h {V : Nat → Nat → Value} {I : Nat → Nat → Int32} {L : Nat → Nat → Int64} {R : Nat → Nat → Option Nat} {tl : am_H} {N n b w : Nat} {o : Option am_O} (hb : V 174 1 = .int (nI n)) (hn : n ≤ 600) (h : b < n) (hw : w < 9) (ho : fg_370_30 N (.ref 174) (nI b) (nI w) (.ref 174) 0 (fx V I L R ++ tl) = o) : fm_370 N (.ref 174) (nI b) (nI w) (fx V I L R ++ tl) = o := by
  unfold fm_370 fg_370_0
  refine ev_i rfl (ev_cI (r_358 hb hn h) (ev_t (by decide) (ev_cI (pe_327 _ _ _ _) ?_)))
  rw [in_9 w hw]
  exact ev_t (by decide) ho
set_option maxRecDepth 100000 in
set_option maxHeartbeats 1600000 in
theorem r_370s {V : Nat → Nat → Value} {I : Nat → Nat → Int32} {L : Nat → Nat → Int64} {R : Nat → Nat → Option Nat} {tl : am_H} {N n b w : Nat} (hb : V 174 1 = .int (nI n)) (hn : n ≤ 600) (h : b < n) (hw : w < 8) : fm_370 N (.ref 174) (nI b) (nI w) (fx V I L R ++ tl) = some (.inl (some (.int (bV I b w)), fx (vup V 174 0 (.int 0)) I L R ++ tl)) := by
  refine r_370h hb hn h (by omega) ?_
  unfold fg_370_30
  refine ev_b qp_174_0 (ev_b (a := 0) rfl (ev_t (by decide) ?_))
  rcases (by omega : w = 0 ∨ w = 1 ∨ w = 2 ∨ w = 3 ∨ w = 4 ∨ w = 5 ∨ w = 6 ∨ w = 7) with rfl | rfl | rfl | rfl | rfl | rfl | rfl | rfl
  · exact ev_t rfl (ev_b (a := Value.ref 175) rfl (ev_b (qa_175 (by omega)) rfl))
  · exact ev_f (by decide) (ev_t rfl (ev_b (a := Value.ref 176) rfl (ev_b (qa_176 (by omega)) rfl)))
  · exact ev_f (by decide) (ev_f (by decide) (ev_t rfl (ev_b (a := Value.ref 178) rfl (ev_b (qa_178 (by omega)) rfl))))
  · exact ev_f (by decide) (ev_f (by decide) (ev_f (by decide) (ev_t rfl (ev_b (a := Value.ref 179) rfl (ev_b (qa_179 (by omega)) rfl)))))
  · exact ev_f (by decide) (ev_f (by decide) (ev_f (by decide) (ev_f (by decide) (ev_t rfl (ev_b (a := Value.ref 180) rfl (ev_b (qa_180 (by omega)) rfl))))))
  · exact ev_f (by decide) (ev_f (by decide) (ev_f (by decide) (ev_f (by decide) (ev_f (by decide) (ev_t rfl (ev_b (a := Value.ref 181) rfl (ev_b (qa_181 (by omega)) rfl)))))))
  · exact ev_f (by decide) (ev_f (by decide) (ev_f (by decide) (ev_f (by decide) (ev_f (by decide) (ev_f (by decide) (ev_t rfl (ev_b (a := Value.ref 182) rfl (ev_b (qa_182 (by omega)) rfl))))))))
  · exact ev_f (by decide) (ev_f (by decide) (ev_f (by decide) (ev_f (by decide) (ev_f (by decide) (ev_f (by decide) (ev_f (by decide) (ev_t rfl (ev_b (a := Value.ref 177) rfl (ev_b (qa_177 (by omega)) rfl)))))))))
set_option maxRecDepth 100000 in
set_option maxHeartbeats 1600000 in
theorem r_370d {V : Nat → Nat → Value} {I : Nat → Nat → Int32} {L : Nat → Nat → Int64} {R : Nat → Nat → Option Nat} {tl : am_H} {N n b : Nat} {o : Option am_O} (hb : V 174 1 = .int (nI n)) (hn : n ≤ 600) (h : b < n) (ho : ((am_vR (am_pG 3074 (.ref 174) (fx (vup V 174 0 (.int 0)) I L R ++ tl))).bind fun v46 => ((am_pA 0 v46 (nI b) (fx (vup V 174 0 (.int 0)) I L R ++ tl)).bind fun v48 => (if ¬ v48 = 0 then (fg_370_162 N 0 (fx (vup V 174 0 (.int 0)) I L R ++ tl)) else (if am_pOk 12 (.ref 174) (fx (vup V 174 0 (.int 0)) I L R ++ tl) then am_cI true (fm_371 N (.ref 174) (nI b) (fx (vup V 174 0 (.int 0)) I L R ++ tl)) (fun v52 h53 => (fg_370_162 N v52 h53)) else none)))) = o) : fm_370 N (.ref 174) (nI b) (nI 8) (fx V I L R ++ tl) = o := by
  refine r_370h hb hn h (by omega) ?_
  unfold fg_370_30
  exact ev_b qp_174_0 (ev_b (a := 0) rfl (ev_t (by decide) (ev_f (by decide) (ev_f (by decide) (ev_f (by decide) (ev_f (by decide) (ev_f (by decide) (ev_f (by decide) (ev_f (by decide) (ev_f (by decide) ho))))))))))
set_option maxRecDepth 100000 in
set_option maxHeartbeats 1600000 in
theorem u_5 {V : Nat → Nat → Value} {I : Nat → Nat → Int32} {L : Nat → Nat → Int64} {R : Nat → Nat → Option Nat} {tl : am_H} {n p j : Nat} (hr : rel V I L R tl n p) (hm : room tl n p j) {N : Nat} (hN : 5000 < N) (a1 a2 : Int32) : ∃ h', opBI (fm_73 N (.ref 0) a1 a2 (.ref 268) (fx V I L R ++ tl)) (fun h1 => fm_370 N (.ref 174) a1 a2 h1) vfI h' ∧ invW (j + 1) h' := by
  obtain ⟨b1, b2, b3⟩ := hr.1
  rcases dich a1 (n := n) (by omega) with hn | ⟨b, hb, rfl⟩
  · refine ⟨_, opBI_err (c := 1) (b := 0) (by decide) (tl := tl ++ [am_dummy]) ?_ ?_, inv_mk (rel_thr 1 (rel_dum hr)) (room_dum hm)⟩
    · have e : fm_74 N (.ref 0) a1 a2 (fx V I L R ++ tl) = some (.inr (2, (fx V I L R ++ (tl ++ [am_dummy])))) := by
        unfold fm_74 fg_74_0
        refine ev_i rfl ?_
        rw [c_63n b2 hn]
        rfl
      unfold fm_73 fg_73_0
      refine ev_i rfl ?_
      rw [e]
      rfl
    · show fm_370 N (.ref 174) a1 a2 (fx V I L R ++ (tl ++ [am_dummy])) = _
      unfold fm_370 fg_370_0
      refine ev_i rfl (ev_cI (r_358n b3 b1 hn) (ev_f (fun e => e rfl) ?_))
      unfold fg_370_30
      exact ev_b qp_174_0 (ev_b (a := 1) rfl (ev_f (by decide) rfl))
  · obtain ⟨kd, ln, sz, a, it, f, q1, q2, q3, q4, q5, q6, q7, q8, q9⟩ := hr.2.1 b hb
    have p1 : (fx V I L R ++ tl)[269 + a]? = _ := tl_at.trans q5
    rcases dich a2 (n := 9) (by omega) with hn | ⟨w, hw, rfl⟩
    · refine ⟨_, opBI_err (c := 2) (b := 0) (by decide) (tl := tl ++ [am_dummy]) ?_ ?_, inv_mk (rel_thr 2 (rel_dum hr)) (room_dum hm)⟩
      · have ne : ∀ w, w < 9 → ¬ a2 = nI w := fun w hw e => by
          rw [e] at hn
          rcases hn with h | h
          · exact nI_pos (by omega) h
          · exact nI_ge hw (by omega) h
        have e : fm_74 N (.ref 0) (nI b) a2 (fx V I L R ++ tl) = some (.inr (0, (fx V I L R ++ (tl ++ [am_dummy])))) := by
          rw [← List.append_assoc]
          unfold fm_74 fg_74_0
          exact ev_i rfl (ev_cR (c_63 b2 b1 hb q4) rfl (ev_f (ne 0 (by omega)) (ev_f (ne 1 (by omega)) (ev_f (ne 2 (by omega)) (ev_f (ne 3 (by omega)) (ev_f (ne 4 (by omega)) (ev_f (ne 5 (by omega)) (ev_f (ne 6 (by omega)) (ev_f (ne 7 (by omega)) (ev_f (ne 8 (by omega)) rfl))))))))))
        unfold fm_73 fg_73_0
        refine ev_i rfl ?_
        rw [e]
        rfl
      · show fm_370 N (.ref 174) (nI b) a2 (fx V I L R ++ (tl ++ [am_dummy])) = _
        unfold fm_370 fg_370_0
        refine ev_i rfl (ev_cI (r_358 b3 b1 hb) (ev_t (by decide) (ev_cI (pe_327 _ _ _ _) ?_)))
        rw [in_9n hn]
        refine ev_f (fun e => e rfl) ?_
        unfold fg_370_30
        exact ev_b qp_174_0 (ev_b (a := 2) rfl (ev_f (by decide) rfl))
    · by_cases h8 : w < 8
      · have e1 := c_74s (V := V) (I := I) (L := L) (R := R) (tl := tl) (N := N) b2 b1 hb q4 q1 q2 q3 q5 h8
        obtain ⟨x, hx⟩ : ∃ x, x = bV I b w := ⟨_, rfl⟩
        rw [← hx] at e1
        have e2 := r_370s (V := V) (I := I) (L := outL L x.toInt64) (R := R) (tl := tl) (N := N) b3 b1 hb h8
        rw [← hx] at e2
        refine ⟨_, opBI_g (v := x) (W := V) (J := I) (M := outL L x.toInt64) (R1 := R) (t1 := tl) (W' := vup V 174 0 (.int 0)) (J' := I) (M' := outL L x.toInt64) (R2 := R) (t2 := tl) ?_ e2 vup_eq outL_at, inv_mk (rel_thr 0 (rel_ol _ hr)) (room_up hm)⟩
        unfold fm_73 fg_73_0
        refine ev_i rfl ?_
        rw [e1]
        exact ev_b out_s rfl
      · obtain rfl : w = 8 := by omega
        by_cases ck : kd = 0
        · subst ck
          obtain ⟨l, l1, l2, l3⟩ := q8.2.2.2.1 rfl
          subst l1
          have hl := q8.2.1
          have h0 := (cx0 l2).2
          have qi := q7
          unfold itm at qi
          rw [if_neg (by decide)] at qi
          have hS : ∀ k x r, l.drop k = x :: r → f (k * 2) = nI x.1 ∧ x.1 ≤ 20 := fun k x r hd => ⟨(qi k (by have := drop_len hd; omega)).1.trans (l3 k x r hd).1, (form_at l2 hd).1⟩
          have hp : prA V I tl (269 + a) (269 + it) 0 ln l.length (l.length * wdN 0) f := prA_tl ⟨_, _, _, _, _, _, p1, tl_at.trans q6⟩
          obtain ⟨J, s1, s2, e1⟩ := c_76_132 (V := V) (I := I) (L := L) (R := R) (tl := tl) (N := N) (by omega) hp (by omega) (.inr (by omega)) (Nat.le_refl _) (by show l.length * 2 ≤ 1000; omega) l2 hl hS
          obtain ⟨D, hD⟩ : ∃ D, D = nI (mxR (dpL l) 0 l.length) := ⟨_, rfl⟩
          have tD : tlL l 0 = mxR (dpL l) 0 l.length := by
            unfold tlL
            rw [List.drop_zero, isF_tk l 1 (okF_F l _ l2), show dpL l 0 = 1 by unfold dpL; rw [(cx0 l2).1]]
            omega
          have j135 : J 135 0 = D := by
            have := (s1 0 h0).2.2.1
            rw [tD, ← hD] at this
            exact this
          have j175 : ∀ y, 175 ≤ y → J y = I y := fun y hy => s2 y (.inr (by omega))
          obtain ⟨G, e2⟩ := r_371 (V := vup (vup V 132 7 (.int (nI l.length))) 174 0 (.int 0)) (I := J) (L := outL L D.toInt64) (R := R) (tl := tl) (N := N) (b := b) (ln := ln) (l := l) (by omega) (by omega) l2 hl (by rw [j175 175 (by omega)]; exact q1) (by rw [j175 176 (by omega)]; exact q2) (by rw [j175 177 (by omega)]; exact q3) (fun k x r hd => by rw [j175 184 (by omega)]; exact (l3 k x r hd).1)
          rw [← hD] at e2
          have kJ : keep V (vup V 132 7 (.int (nI l.length))) I J := by
            refine ⟨fun a' j' hj' => ?_, fun y hy => ?_, fun w => wt_i w (by decide)⟩
            · by_cases c : a' = 132
              · subst c; exact absurd hj' (fun e => by cases e)
              · exact vup_na c
            · refine s2 y ?_
              by_cases c : 133 ≤ y ∧ y ≤ 138
              · rcases (by omega : y = 133 ∨ y = 134 ∨ y = 135 ∨ y = 136 ∨ y = 137 ∨ y = 138) with rfl | rfl | rfl | rfl | rfl | rfl <;> exact absurd hy (by decide)
              · omega
          refine ⟨_, opBI_g (v := D) (W := vup V 132 7 (.int (nI l.length))) (J := J) (M := outL L D.toInt64) (R1 := R) (t1 := tl) (W' := dkV (vup (vup V 132 7 (.int (nI l.length))) 174 0 (.int 0)) 0 ln l.length) (J' := iup (dkI J b l.length) 194 G) (M' := outL L D.toInt64) (R2 := R) (t2 := tl) ?_ ?_ ?_ outL_at, inv_mk (rel_k (keep_i (by decide)) (rel_dk (rel_thr 0 (rel_ol _ (rel_k kJ hr))))) (room_up hm)⟩
          · have p1' : (fx (vup V 132 7 (.int (nI l.length))) J L R ++ tl)[269 + a]? = _ := tl_at.trans q5
            have e : fm_74 N (.ref 0) (nI b) (nI 8) (fx V I L R ++ tl) = some (.inl (some (.int D), fx (vup V 132 7 (.int (nI l.length))) J L R ++ tl)) := by
              unfold fm_74 fg_74_0
              refine ev_i rfl (ev_cR (c_63 b2 b1 hb q4) rfl (ev_f (by decide) (ev_f (by decide) (ev_f (by decide) (ev_f (by decide) (ev_f (by decide) (ev_f (by decide) (ev_f (by decide) (ev_f (by decide) (ev_t rfl (ev_b (ev_gI p1 rfl rfl) (ev_f (fun e => e rfl) (ev_b (a := Value.ref 131) rfl (ev_i rfl (ev_cI (v := D) (h1 := fx (vup V 132 7 (.int (nI l.length))) J L R ++ tl) ?_ rfl)))))))))))))))
              unfold fm_75 fg_75_0
              exact ev_b (a := Value.ref 132) rfl (ev_i rfl (ev_cV e1 (ev_b (ev_gI p1' rfl rfl) (ev_f (nI_nle (by omega) (by omega)) (ev_b (a := Value.ref 132) rfl (ev_b (a := Value.ref 135) rfl (ev_b ((qa_135 (k := 0) (by omega)).trans (congrArg some j135)) rfl)))))))
            unfold fm_73 fg_73_0
            refine ev_i rfl ?_
            rw [e]
            exact ev_b out_s rfl
          · show fm_370 N (.ref 174) (nI b) (nI 8) (fx (vup V 132 7 (.int (nI l.length))) J (outL L D.toInt64) R ++ tl) = _
            refine r_370d (n := n) ((vup_na (by decide)).trans b3) b1 hb ?_
            exact ev_b (a := Value.ref 175) rfl (ev_b (a := nI 0) ((qa_175 (by omega)).trans (by rw [j175 175 (by omega), q1])) (ev_f (fun e => e rfl) (ev_i rfl (ev_cI e2 rfl))))
          · show vup (vup (vup (vup _ 174 0 (.int 0)) 174 13 _) 174 14 _) 174 15 _ 174 0 = _
            rw [vup_v (by omega), vup_v (by omega), vup_v (by omega), vup_eq]
        · have k3 := q8.1
          refine ⟨_, opBI_g (v := 0) (W := V) (J := I) (M := outL L (0 : Int32).toInt64) (R1 := R) (t1 := tl) (W' := vup V 174 0 (.int 0)) (J' := I) (M' := outL L (0 : Int32).toInt64) (R2 := R) (t2 := tl) ?_ ?_ vup_eq outL_at, inv_mk (rel_thr 0 (rel_ol _ hr)) (room_up hm)⟩
          · have e : fm_74 N (.ref 0) (nI b) (nI 8) (fx V I L R ++ tl) = some (.inl (some (.int 0), fx V I L R ++ tl)) := by
              unfold fm_74 fg_74_0
              exact ev_i rfl (ev_cR (c_63 b2 b1 hb q4) rfl (ev_f (by decide) (ev_f (by decide) (ev_f (by decide) (ev_f (by decide) (ev_f (by decide) (ev_f (by decide) (ev_f (by decide) (ev_f (by decide) (ev_t rfl (ev_b (ev_gI p1 rfl rfl) (ev_t (fun e => ck ((nI_eq (b := 0) (by omega) (by omega)).mp e)) rfl))))))))))))
            unfold fm_73 fg_73_0
            refine ev_i rfl ?_
            rw [e]
            exact ev_b out_s rfl
          · show fm_370 N (.ref 174) (nI b) (nI 8) (fx V I (outL L (0 : Int32).toInt64) R ++ tl) = _
            refine r_370d (n := n) b3 b1 hb ?_
            exact ev_b (a := Value.ref 175) rfl (ev_b (a := nI kd) ((qa_175 (by omega)).trans (congrArg some q1)) (ev_t (fun e => ck ((nI_eq (b := 0) (by omega) (by omega)).mp e)) rfl))
