/-! ===== told, put, type, add ===== -/
set_option maxRecDepth 100000 in
set_option maxHeartbeats 4000000 in
theorem c_108n {V : Nat → Nat → Value} {I : Nat → Nat → Int32} {L : Nat → Nat → Int64} {R : Nat → Nat → Option Nat} {tl : am_H} {m : Nat} {a : Int32} (hb : V 14 1 = .int (nI m)) (h : a < 0 ∨ nI m ≤ a) : fm_108 (.ref 0) a (fx V I L R ++ tl) = some (.inr (2, (fx V I L R ++ (tl ++ [am_dummy])))) := by
  rw [← List.append_assoc]
  unfold fm_108 fg_108_0
  by_cases c : a < 0
  · exact ev_t c rfl
  · exact ev_f c (ev_b (a := Value.ref 14) rfl (ev_b (rdI hb) (ev_f (Int32.not_lt.mpr (h.resolve_left c)) rfl)))
set_option maxRecDepth 100000 in
set_option maxHeartbeats 4000000 in
theorem c_108 {V : Nat → Nat → Value} {I : Nat → Nat → Int32} {L : Nat → Nat → Int64} {R : Nat → Nat → Option Nat} {tl : am_H} {m k : Nat} (hb : V 14 1 = .int (nI m)) (hm : m ≤ 24) (hk : k < m) : fm_108 (.ref 0) (nI k) (fx V I L R ++ tl) = some (.inl (none, (fx V I L R ++ tl))) := by
  unfold fm_108 fg_108_0
  exact ev_f (nI_pos (by omega)) (ev_b (a := Value.ref 14) rfl (ev_b (rdI hb) (ev_t (nI_lt hk (by omega)) rfl)))
set_option maxRecDepth 100000 in
set_option maxHeartbeats 4000000 in
theorem r_398n {V : Nat → Nat → Value} {I : Nat → Nat → Int32} {L : Nat → Nat → Int64} {R : Nat → Nat → Option Nat} {tl : am_H} {m : Nat} {a : Int32} (hb : V 174 31 = .int (nI m)) (hm : m ≤ 24) (h : a < 0 ∨ nI m ≤ a) : fm_398 (.ref 174) a (fx V I L R ++ tl) = some (.inl (some (.int 0), (fx V I L R ++ tl))) := by
  unfold fm_398 fg_398_0
  refine ev_b (rdI hb) (ev_cI (pe_327 _ _ _ _) ?_)
  rw [in_b (by omega) h]
  rfl
set_option maxRecDepth 100000 in
set_option maxHeartbeats 4000000 in
theorem r_398 {V : Nat → Nat → Value} {I : Nat → Nat → Int32} {L : Nat → Nat → Int64} {R : Nat → Nat → Option Nat} {tl : am_H} {m k : Nat} (hb : V 174 31 = .int (nI m)) (hm : m ≤ 24) (h : k < m) : fm_398 (.ref 174) (nI k) (fx V I L R ++ tl) = some (.inl (some (.int 1), (fx V I L R ++ tl))) := by
  unfold fm_398 fg_398_0
  refine ev_b (rdI hb) (ev_cI (pe_327 _ _ _ _) ?_)
  rw [in_n h (by omega)]
  rfl
set_option maxRecDepth 100000 in
set_option maxHeartbeats 4000000 in
theorem c_112 {V : Nat → Nat → Value} {I : Nat → Nat → Int32} {L : Nat → Nat → Int64} {R : Nat → Nat → Option Nat} {tl : am_H} {k w : Nat} (hk : k < 24) (hw : w < 15) : fm_112 (.ref 14) (nI k) (nI w) (fx V I L R ++ tl) = some (.inl (some (.int (I 15 (15 * k + w))), (fx V I L R ++ tl))) := by
  have e : nI k * 15 + nI w = nI (15 * k + w) := by
    rw [Nat.mul_comm]
    show nI k * nI 15 + nI w = nI (k * 15 + w)
    rw [← nI_mul, nI_add]
  unfold fm_112 fg_112_0
  rw [e]
  exact ev_f (nI_pos (by omega)) (ev_b (a := Value.ref 15) rfl (ev_b (a := nI 360) rfl (ev_f (nI_ge (by omega) (by omega)) (ev_b (a := Value.ref 15) rfl (ev_b (qa_15 (by omega)) rfl)))))
set_option maxRecDepth 100000 in
set_option maxHeartbeats 4000000 in
theorem r_400 {V : Nat → Nat → Value} {I : Nat → Nat → Int32} {L : Nat → Nat → Int64} {R : Nat → Nat → Option Nat} {tl : am_H} {m k w : Nat} (hc : V 174 31 = .int (nI m)) (hm : m ≤ 24) (hk : k < m) (hw : w < 15) (cO : cOk I k) : fm_400 (.ref 174) (nI k) (nI w) (fx V I L R ++ tl) = some (.inl (some (.int (I 15 (15 * k + w))), fx (vup V 174 0 (.int 0)) I L R ++ tl)) := by
  obtain ⟨o0, o1, o2, o3, ⟨g, t1, t2, t3, t4⟩, ⟨d, d1, d2, d3⟩, ⟨s, s1, s2, s3⟩, o7⟩ := cO
  unfold fm_400 fg_400_0
  refine ev_i rfl (ev_cI (r_398 hc hm hk) (ev_t (by decide) (ev_cI (pe_327 _ _ _ _) ?_)))
  rw [in_15 hw]
  refine ev_t (by decide) ?_
  unfold fg_400_30
  refine ev_b qp_174_0 (ev_b (a := 0) rfl (ev_t (by decide) ?_))
  rcases (by omega : w = 0 ∨ w = 1 ∨ w = 2 ∨ w = 3 ∨ w = 4 ∨ w = 5 ∨ w = 6 ∨ 7 ≤ w) with rfl | rfl | rfl | rfl | rfl | rfl | rfl | h7
  · rw [Nat.add_zero, o0]
    exact ev_t rfl (ev_b (a := Value.ref 197) rfl (ev_b (qa_197 (by omega)) rfl))
  · rw [o1]
    exact ev_f (by decide) (ev_t rfl (ev_b (a := Value.ref 198) rfl (ev_b (qa_198 (by omega)) rfl)))
  · rw [o2]
    exact ev_f (by decide) (ev_f (by decide) (ev_t rfl (ev_b (a := Value.ref 199) rfl (ev_b (qa_199 (by omega)) rfl))))
  · rw [o3]
    exact ev_f (by decide) (ev_f (by decide) (ev_f (by decide) (ev_t rfl (ev_b (a := Value.ref 200) rfl (ev_b (qa_200 (by omega)) rfl)))))
  · rw [t4, ← t3]
    exact ev_f (by decide) (ev_f (by decide) (ev_f (by decide) (ev_f (by decide) (ev_t rfl (ev_b (a := Value.ref 201) rfl (ev_b (qa_201 (by omega)) rfl))))))
  · rw [d3]
    refine ev_f (by decide) (ev_f (by decide) (ev_f (by decide) (ev_f (by decide) (ev_f (by decide) (ev_t rfl (ev_b (a := Value.ref 202) rfl (ev_b (a := nI d) ((qa_202 (by omega)).trans (by rw [← d2])) ?_)))))))
    rcases (by omega : d = 0 ∨ d = 1) with rfl | rfl
    · exact ev_t rfl rfl
    · exact ev_f (by decide) rfl
  · rw [s3, ← s2]
    exact ev_f (by decide) (ev_f (by decide) (ev_f (by decide) (ev_f (by decide) (ev_f (by decide) (ev_f (by decide) (ev_t rfl (ev_b (a := Value.ref 203) rfl (ev_b (qa_203 (by omega)) rfl))))))))
  · obtain ⟨i, rfl⟩ : ∃ i, w = 7 + i := ⟨w - 7, by omega⟩
    rw [o7 i (by omega)]
    have ne : ∀ b, b < 7 → ¬ nI (7 + i) = nI b := fun b hb e => absurd ((nI_eq (by omega) (by omega)).mp e) (by omega)
    refine ev_f (ne 0 (by omega)) (ev_f (ne 1 (by omega)) (ev_f (ne 2 (by omega)) (ev_f (ne 3 (by omega)) (ev_f (ne 4 (by omega)) (ev_f (ne 5 (by omega)) (ev_f (ne 6 (by omega)) (ev_b (a := Value.ref 204) rfl ?_)))))))
    rw [show (8 : Int32) * nI k + nI (7 + i) - 7 = nI (8 * k + i) by
      show nI 8 * nI k + nI (7 + i) - nI 7 = nI (8 * k + i)
      rw [nI_add' k 8 (7 + i), nI_sub (by omega), show 8 * k + (7 + i) - 7 = 8 * k + i by omega]]
    exact ev_b (qa_204 (by omega)) rfl
set_option maxRecDepth 100000 in
set_option maxHeartbeats 4000000 in
theorem u_16 {V : Nat → Nat → Value} {I : Nat → Nat → Int32} {L : Nat → Nat → Int64} {R : Nat → Nat → Option Nat} {tl : am_H} {n p j : Nat} (hr : rel V I L R tl n p) (hm : room tl n p j) (a1 a2 : Int32) : ∃ h', opBI (fm_110 (.ref 0) a1 a2 (.ref 268) (fx V I L R ++ tl)) (fun h1 => fm_400 (.ref 174) a1 a2 h1) vfI h' ∧ invW (j + 1) h' := by
  obtain ⟨m, b1, b2, b3, b4⟩ := hr.2.2.2.1
  rcases dich a1 (n := m) (by omega) with hn | ⟨k, hk, rfl⟩
  · refine ⟨_, opBI_err (c := 1) (b := 0) (by decide) (tl := tl ++ [am_dummy]) ?_ ?_, inv_mk (rel_thr 1 (rel_dum hr)) (room_dum hm)⟩
    · have e : fm_111 (.ref 0) a1 a2 (fx V I L R ++ tl) = some (.inr (2, (fx V I L R ++ (tl ++ [am_dummy])))) := by
        unfold fm_111 fg_111_0
        refine ev_i rfl ?_
        rw [c_108n b2 hn]
        rfl
      unfold fm_110 fg_110_0
      refine ev_i rfl ?_
      rw [e]
      rfl
    · show fm_400 (.ref 174) a1 a2 (fx V I L R ++ (tl ++ [am_dummy])) = _
      unfold fm_400 fg_400_0
      exact ev_i rfl (ev_cI (r_398n b3 b1 hn) (ev_f (fun e => e rfl) (ev_b qp_174_0 (ev_b (a := 1) rfl (ev_f (by decide) rfl)))))
  · rcases t14 a2 with hn | ⟨w, hw, rfl⟩
    · refine ⟨_, opBI_err (c := 2) (b := 0) (by decide) (tl := tl ++ [am_dummy]) ?_ ?_, inv_mk (rel_thr 2 (rel_dum hr)) (room_dum hm)⟩
      · have e : fm_111 (.ref 0) (nI k) a2 (fx V I L R ++ tl) = some (.inr (0, (fx V I L R ++ (tl ++ [am_dummy])))) := by
          rw [← List.append_assoc]
          unfold fm_111 fg_111_0
          refine ev_i rfl (ev_cV (c_108 b2 b1 hk) ?_)
          by_cases c : a2 < 0
          · exact ev_t c rfl
          · exact ev_f c (ev_f (Int32.not_lt.mpr (hn.resolve_left c)) rfl)
        unfold fm_110 fg_110_0
        refine ev_i rfl ?_
        rw [e]
        rfl
      · show fm_400 (.ref 174) (nI k) a2 (fx V I L R ++ (tl ++ [am_dummy])) = _
        unfold fm_400 fg_400_0
        refine ev_i rfl (ev_cI (r_398 b3 b1 hk) (ev_t (by decide) (ev_cI (pe_327 _ _ _ _) ?_)))
        rw [in_15n hn]
        exact ev_f (fun e => e rfl) (ev_b qp_174_0 (ev_b (a := 2) rfl (ev_f (by decide) rfl)))
    · refine ⟨_, opBI_rd (v := I 15 (15 * k + w)) ?_ ?_, inv_mk (rel_thr 0 (rel_ol _ hr)) (room_up hm)⟩
      · have e : fm_111 (.ref 0) (nI k) (nI w) (fx V I L R ++ tl) = some (.inl (some (.int (I 15 (15 * k + w))), (fx V I L R ++ tl))) := by
          unfold fm_111 fg_111_0
          exact ev_i rfl (ev_cV (c_108 b2 b1 hk) (ev_f (nI_pos (by omega)) (ev_t (nI_lt (b := 15) hw (by omega)) (ev_b (a := Value.ref 14) rfl (ev_i rfl (ev_cI (c_112 (by omega) hw) rfl))))))
        unfold fm_110 fg_110_0
        refine ev_i rfl ?_
        rw [e]
        exact ev_b out_s rfl
      · show fm_400 (.ref 174) (nI k) (nI w) (fx V I (outL L (I 15 (15 * k + w)).toInt64) R ++ tl) = _
        exact r_400 b3 b1 hk hw (b4 k hk)
/-! put(v) -/
set_option maxRecDepth 100000 in
set_option maxHeartbeats 4000000 in
theorem u_12 {V : Nat → Nat → Value} {I : Nat → Nat → Int32} {L : Nat → Nat → Int64} {R : Nat → Nat → Option Nat} {tl : am_H} {n p j : Nat} (hr : rel V I L R tl n p) (hm : room tl n p j) (a1 : Int32) : ∃ h', opA (fm_24 (.ref 0) a1 (fx V I L R ++ tl)) (fun h1 => fm_395 (.ref 174) a1 h1) h' ∧ invW (j + 1) h' := by
  obtain ⟨z1, z2, z3, z4, ⟨s, s1, s2, s3, s4, s5⟩, z6, z7, z8, z9, z10, z11, z12, w⟩ := hr
  have hr : rel V I L R tl n p := ⟨z1, z2, z3, z4, ⟨s, s1, s2, s3, s4, s5⟩, z6, z7, z8, z9, z10, z11, z12, w⟩
  by_cases c : s < 8
  · refine ⟨_, ⟨nI (s + 1), fx V (iup (iup I 164 (upd (I 164) (7 + s) a1)) 164 (upd (upd (I 164) (7 + s) a1) 6 (nI (s + 1)))) L R ++ tl, ?_, rfl, ?_⟩, inv_mk (V := vup (vup V 174 0 (.int 0)) 174 40 (.int (nI (s + 1)))) (I := iup (iup (iup I 164 (upd (I 164) (7 + s) a1)) 164 (upd (upd (I 164) (7 + s) a1) 6 (nI (s + 1)))) 205 (upd (I 205) s a1)) ⟨z1, z2, z3, z4, ⟨s + 1, by omega, rfl, rfl, fun i hi => ?_, fun i hi hi8 => ?_⟩, z6, z7, z8, z9, z10, z11, z12, wt_i (wt_i w (by decide)) (by decide)⟩ (room_up hm)⟩
    · unfold fm_24 fg_24_0
      refine ev_b (a := Value.ref 164) rfl (ev_b (a := nI s) ((qa_164 (k := 6) (by omega)).trans (by rw [s2])) (ev_t (nI_lt (b := 8) c (by omega)) (ev_b (a := Value.ref 164) rfl ?_)))
      rw [show (7 : Int32) + nI s = nI (7 + s) from nI_add 7 s, nI_1]
      exact ev_b (qs_164 (by omega)) (ev_b (a := Value.ref 164) rfl (ev_b (qs_164 (k := 6) (by omega)) rfl))
    · show fm_395 (.ref 174) a1 (fx V (iup (iup I 164 (upd (I 164) (7 + s) a1)) 164 (upd (upd (I 164) (7 + s) a1) 6 (nI (s + 1)))) L R ++ tl) = _
      unfold fm_395 fg_395_0
      refine ev_b qp_174_0 (ev_b (rdI s3) (ev_t (fun e => absurd ((nI_eq (b := 8) (by omega) (by decide)).mp e) (by omega)) (ev_b (a := Value.ref 205) rfl (ev_b (rdI s3) (ev_b (qs_205 c) (ev_b (rdI s3) ?_))))))
      rw [nI_1]
      exact ev_b qp_174_40 (ev_b (a := nI (s + 1)) rfl rfl)
    · show (upd (upd (I 164) (7 + s) a1) 6 (nI (s + 1))) (7 + i) = (upd (I 205) s a1) i
      rw [upd_ne (by omega)]
      by_cases d : i = s
      · rw [d, upd_eq, upd_eq]
      · rw [upd_ne (by omega), upd_ne d]
        exact s4 i (by omega)
    · show (upd (upd (I 164) (7 + s) a1) 6 (nI (s + 1))) (7 + i) = 0
      rw [upd_ne (by omega), upd_ne (by omega)]
      exact s5 i (by omega) hi8
  · obtain rfl : s = 8 := by omega
    refine ⟨_, ⟨-1, (fx V I L R ++ tl), ?_, rfl, ?_⟩, inv_mk (rel_thr 0 hr) (room_up hm)⟩
    · unfold fm_24 fg_24_0
      exact ev_b (a := Value.ref 164) rfl (ev_b (a := nI 8) ((qa_164 (k := 6) (by omega)).trans (by rw [s2])) (ev_f (by decide) rfl))
    · show fm_395 (.ref 174) a1 (fx V I L R ++ tl) = _
      unfold fm_395 fg_395_0
      exact ev_b qp_174_0 (ev_b (rdI s3) (ev_f (fun e => e rfl) rfl))
/-! type(eight) -/
theorem and255 (a : Int64) : ∃ c : Nat, c < 256 ∧ a &&& 255 = lN c := by
  refine ⟨(a &&& 255).toBitVec.toNat, ?_, ?_⟩
  · rw [Int64.toBitVec_and, BitVec.toNat_and]
    exact Nat.lt_of_le_of_lt Nat.and_le_right (by decide)
  · apply Int64.toBitVec_inj.mp
    show _ = BitVec.ofNat 64 (a &&& 255).toBitVec.toNat
    apply BitVec.eq_of_toNat_eq
    rw [BitVec.toNat_ofNat, Nat.mod_eq_of_lt (BitVec.isLt _)]
theorem ch256 : ∀ c, c < 256 → (Int32.toUInt32 (nI c) % 65536).toInt32 = nI c := by decide +kernel
theorem ty_ch (x : Int64) (k : Nat) (hk : k < 8) : ∃ c, c < 256 ∧ chC x k = nI c ∧ Int64.toInt32 (byR x k) = nI c := by
  obtain ⟨c, h1, h2⟩ := and255 ((Int64.toUInt64 x >>> (Int64.toUInt64 (Int32.toInt64 (8 * nI k)) &&& Int64.toUInt64 63)).toInt64)
  have e : byC x k = lN c := h2
  refine ⟨c, h1, ?_, ?_⟩
  · unfold chC
    rw [e, lN_i]
    exact ch256 c h1
  · rw [← by_eq x k hk, e, lN_i]
theorem ty_eq {x : Int64} {f g : Nat → Int32} {l : Nat} (h0 : ∀ j, j < l → g j = f j ∧ ∃ c, c < 256 ∧ f j = nI c) : ∀ k, k ≤ 8 → ∀ j, j < l + k → tyr x g l k j = tyc x f l k j ∧ ∃ c, c < 256 ∧ tyc x f l k j = nI c := by
  intro k
  induction k with
  | zero => intro _ j hj; exact h0 j (by omega)
  | succ k ih =>
    intro hk j hj
    show upd (tyr x g l k) (l + k) (Int64.toInt32 (byR x k)) j = upd (tyc x f l k) (l + k) (chC x k) j ∧ ∃ c, c < 256 ∧ upd (tyc x f l k) (l + k) (chC x k) j = nI c
    by_cases e : j = l + k
    · obtain ⟨c, c1, c2, c3⟩ := ty_ch x k (by omega)
      rw [e, upd_eq, upd_eq, c2, c3]
      exact ⟨rfl, c, c1, rfl⟩
    · rw [upd_ne e, upd_ne e]
      exact ih (by omega) j (by omega)
set_option maxRecDepth 100000 in
set_option maxHeartbeats 4000000 in
theorem u_0 {V : Nat → Nat → Value} {I : Nat → Nat → Int32} {L : Nat → Nat → Int64} {R : Nat → Nat → Option Nat} {tl : am_H} {n p j : Nat} (hr : rel V I L R tl n p) (hm : room tl n p j) {N : Nat} (hN : 20 < N) (x : Int64) : ∃ h', opA (fm_21 N (.ref 0) x (fx V I L R ++ tl)) (fun h1 => fm_325 N (.ref 174) x h1) h' ∧ invW (j + 1) h' := by
  obtain ⟨z1, z2, ⟨m, m1, m2, m3, m4⟩, z4, z5, z6, z7, z8, z9, z10, z11, z12, w⟩ := hr
  have hr : rel V I L R tl n p := ⟨z1, z2, ⟨m, m1, m2, m3, m4⟩, z4, z5, z6, z7, z8, z9, z10, z11, z12, w⟩
  have hn := tyN_le (byC x) 8 0
  have e : tyN (byR x) 8 0 = tyN (byC x) 8 0 := (tyN_eq 8 0 (fun j _ h2 => by_eq x j (by omega))).symm
  generalize hq : tyN (byC x) 8 0 = q at hn e
  have s22 : ∀ o, fg_22_29 N (.ref 2) x (nI q) (fx V I L R ++ tl) = some (.inl o) → (∃ v h1, o = (some (.int v), h1)) → fm_21 N (.ref 0) x (fx V I L R ++ tl) = some (.inl o) := by
    rintro o ho ⟨v, h1, rfl⟩
    unfold fm_21 fg_21_0
    refine ev_b (a := Value.ref 2) rfl (ev_i rfl (ev_cI (v := v) (h1 := h1) ?_ rfl))
    unfold fm_22 fg_22_0
    refine (e_22n (v := .ref 2) (x := x) (h := (fx V I L R ++ tl)) 8 0 N rfl (by omega)).trans ?_
    rw [hq]
    exact ho
  by_cases c : m + q ≤ 240
  · have k1 := e_22w (V := V) (I := I) (L := L) (R := R) (tl := tl) (N := N) (n := q) (l := m) (x := x) c q 0 N (by omega) (by omega)
    have v1 : vup V 2 1 (.int (nI (m + 0))) = V := vup_self m2
    have i1 : iup I 3 (tyc x (I 3) m 0) = I := iup_self
    rw [v1, i1] at k1
    have k2 := e_325w (V := vup (vup V 2 1 (.int (nI (m + q)))) 174 0 (.int 0)) (I := iup I 3 (tyc x (I 3) m q)) (L := L) (R := R) (tl := tl) (N := N) (n := q) (l := m) (x := x) m3 c q 0 N (by omega) (by omega)
    have i2 : iup (iup I 3 (tyc x (I 3) m q)) 218 (tyr x ((iup I 3 (tyc x (I 3) m q)) 218) m 0) = iup I 3 (tyc x (I 3) m q) := iup_self
    rw [i2] at k2
    refine ⟨_, ⟨nI (m + q), fx (vup V 2 1 (.int (nI (m + q)))) (iup I 3 (tyc x (I 3) m q)) L R ++ tl, s22 _ ?_ ⟨_, _, rfl⟩, rfl, ?_⟩, inv_mk (V := vup (vup (vup V 2 1 (.int (nI (m + q)))) 174 0 (.int 0)) 174 68 (.int (nI (m + q)))) (I := iup (iup I 3 (tyc x (I 3) m q)) 218 (tyr x (I 218) m q)) ⟨z1, z2, ⟨m + q, c, rfl, rfl, ty_eq m4 q (by omega)⟩, z4, z5, z6, z7, z8, z9, z10, z11, z12, wt_i (wt_i (wt_i w (by decide)) (by decide)) (by decide)⟩ (room_up hm)⟩
    · unfold fg_22_29
      refine ev_b (rdI m2) ?_
      rw [nI_add]
      exact ev_t (nI_le (b := 240) c (by decide)) k1
    · show fm_325 N (.ref 174) x (fx (vup V 2 1 (.int (nI (m + q)))) (iup I 3 (tyc x (I 3) m q)) L R ++ tl) = _
      unfold fm_325 fg_325_0
      refine ev_b qp_174_0 ?_
      refine (e_325n (v := .ref 174) (x := x) 8 0 N rfl (by omega)).trans ?_
      rw [e]
      unfold fg_325_34
      refine ev_b (rdI m3) ?_
      rw [nI_add]
      exact ev_t (nI_le (b := 240) c (by decide)) k2
  · refine ⟨_, ⟨-1, (fx V I L R ++ tl), s22 _ ?_ ⟨_, _, rfl⟩, rfl, ?_⟩, inv_mk (rel_thr 0 hr) (room_up hm)⟩
    · unfold fg_22_29
      refine ev_b (rdI m2) ?_
      rw [nI_add]
      exact ev_f (nI_ge (a := 240) (by omega) (by omega)) rfl
    · show fm_325 N (.ref 174) x (fx V I L R ++ tl) = _
      unfold fm_325 fg_325_0
      refine ev_b qp_174_0 ?_
      refine (e_325n (v := .ref 174) (x := x) 8 0 N rfl (by omega)).trans ?_
      rw [e]
      unfold fg_325_34
      refine ev_b (rdI m3) ?_
      rw [nI_add]
      exact ev_f (nI_ge (a := 240) (by omega) (by omega)) rfl
