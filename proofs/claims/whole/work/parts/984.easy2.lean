/-! ===== islands' members, told, witness, put ===== -/
theorem nI_add' (i m k : Nat) : nI m * nI i + nI k = nI (m * i + k) := by rw [← nI_mul, nI_add]
theorem in_15 {k : Nat} (h : k < 15) : pv_327 (nI k).toInt64 0 14 = 1 := by
  rw [nI_l (by omega)]
  exact in_ok ((lN_le (a := 0) (by omega) (by omega)).mpr (by omega)) ((lN_le (b := 14) (by omega) (by omega)).mpr (by omega))
theorem in_15n {a : Int32} (h : a < 0 ∨ 15 ≤ a) : pv_327 a.toInt64 0 14 = 0 := by
  rcases h with h | h
  · exact in_lo (w64lt h)
  · exact in_hi (Int64.lt_of_lt_of_le (show (14 : Int64) < Int32.toInt64 15 by decide) (w64le h))
set_option maxRecDepth 100000 in
set_option maxHeartbeats 4000000 in
/-- how a call that threw is put together -/
theorem opBI_err {V : Nat → Nat → Value} {I : Nat → Nat → Int32} {L : Nat → Nat → Int64} {R : Nat → Nat → Option Nat} {tl : am_H} {w : Option am_O} {r : am_H → Option am_O} {vf : Value → Int64} {c b : Int32} (hc : c ≠ 0) (hw : w = some (.inl (some (.int c), (fx V I L R ++ tl)))) (hr : r (fx V I L R ++ tl) = some (.inl (some (.int b), fx (vup V 174 0 (.int c)) I L R ++ tl))) : opBI w r vf (fx (vup V 174 0 (.int c)) I L R ++ tl) := ⟨c, _, b, 0, hw, rfl, hr, rfl, rfl, fun e => absurd e hc⟩
/-- the answer that the class's call leaves -/
def outL (L : Nat → Nat → Int64) (x : Int64) : Nat → Nat → Int64 := lup L 268 (vp_updL (L 268) 0 x)
theorem rel_ol {V : Nat → Nat → Value} {I : Nat → Nat → Int32} {L : Nat → Nat → Int64} {R : Nat → Nat → Option Nat} {tl : am_H} {n p : Nat} (x : Int64) (h : rel V I L R tl n p) : rel V I (outL L x) R tl n p := rel_out _ h
set_option maxRecDepth 100000 in
set_option maxHeartbeats 4000000 in
/-- how a call that only read is put together -/
theorem opBI_rd {V : Nat → Nat → Value} {I : Nat → Nat → Int32} {L : Nat → Nat → Int64} {R : Nat → Nat → Option Nat} {tl : am_H} {w : Option am_O} {r : am_H → Option am_O} {v : Int32} (hw : w = some (.inl (some (.int 0), fx V I (outL L v.toInt64) R ++ tl))) (hr : r (fx V I (outL L v.toInt64) R ++ tl) = some (.inl (some (.int v), fx (vup V 174 0 (.int 0)) I (outL L v.toInt64) R ++ tl))) : opBI w r vfI (fx (vup V 174 0 (.int 0)) I (outL L v.toInt64) R ++ tl) := ⟨0, _, v, v.toInt64, hw, rfl, hr, rfl, rfl, fun _ => ⟨out_a (V := vup V 174 0 (.int 0)) (M := L), rfl⟩⟩
set_option maxRecDepth 100000 in
set_option maxHeartbeats 4000000 in
theorem c_201 {V : Nat → Nat → Value} {I : Nat → Nat → Int32} {L : Nat → Nat → Int64} {R : Nat → Nat → Option Nat} {tl : am_H} {i : Nat} (hi : i < 4) : fm_201 (.ref 0) (nI i) (fx V I L R ++ tl) = some (.inl (some (.ref (40 + 9 * i)), (fx V I L R ++ tl))) := by
  rcases (by omega : i = 0 ∨ i = 1 ∨ i = 2 ∨ i = 3) with rfl | rfl | rfl | rfl <;> rfl
set_option maxRecDepth 100000 in
set_option maxHeartbeats 4000000 in
theorem c_201n {V : Nat → Nat → Value} {I : Nat → Nat → Int32} {L : Nat → Nat → Int64} {R : Nat → Nat → Option Nat} {tl : am_H} {a : Int32} (h : a < 0 ∨ 4 ≤ a) : fm_201 (.ref 0) a (fx V I L R ++ tl) = some (.inr (2, (fx V I L R ++ (tl ++ [am_dummy])))) := by
  rw [← List.append_assoc]
  unfold fm_201 fg_201_0
  by_cases c : a < 0
  · exact ev_t c rfl
  · exact ev_f c (ev_b (a := Value.ref 39) rfl (ev_b (a := 4) rfl (ev_f (Int32.not_lt.mpr (h.resolve_left c)) rfl)))
theorem rIs_at {V : Nat → Nat → Value} {I : Nat → Nat → Int32} {L : Nat → Nat → Int64} {n i : Nat} (h : rIs V I L n) (hi : i < 4) : sOk V I L n i := by
  rcases (by omega : i = 0 ∨ i = 1 ∨ i = 2 ∨ i = 3) with rfl | rfl | rfl | rfl
  · exact h.1
  · exact h.2.1
  · exact h.2.2.1
  · exact h.2.2.2
set_option maxRecDepth 100000 in
set_option maxHeartbeats 4000000 in
theorem is_c {V : Nat → Nat → Value} {I : Nat → Nat → Int32} {L : Nat → Nat → Int64} {R : Nat → Nat → Option Nat} {tl : am_H} {i : Nat} (hi : i < 4) : am_pG 256 (.ref (40 + 9 * i)) (fx V I L R ++ tl) = some (V (40 + 9 * i) 0) := by
  rcases (by omega : i = 0 ∨ i = 1 ∨ i = 2 ∨ i = 3) with rfl | rfl | rfl | rfl <;> rfl
set_option maxRecDepth 100000 in
set_option maxHeartbeats 4000000 in
theorem is_b {V : Nat → Nat → Value} {I : Nat → Nat → Int32} {L : Nat → Nat → Int64} {R : Nat → Nat → Option Nat} {tl : am_H} {i : Nat} (hi : i < 4) : am_pG 257 (.ref (40 + 9 * i)) (fx V I L R ++ tl) = some (.ref (41 + 9 * i)) := by
  rcases (by omega : i = 0 ∨ i = 1 ∨ i = 2 ∨ i = 3) with rfl | rfl | rfl | rfl <;> rfl
set_option maxRecDepth 100000 in
set_option maxHeartbeats 4000000 in
theorem is_a {V : Nat → Nat → Value} {I : Nat → Nat → Int32} {L : Nat → Nat → Int64} {R : Nat → Nat → Option Nat} {tl : am_H} {i k : Nat} (hi : i < 4) (hk : k < 16) : am_pA 0 (.ref (41 + 9 * i)) (nI k) (fx V I L R ++ tl) = some (I (41 + 9 * i) k) := by
  rcases (by omega : i = 0 ∨ i = 1 ∨ i = 2 ∨ i = 3) with rfl | rfl | rfl | rfl
  · exact qa_41 hk
  · exact qa_50 hk
  · exact qa_59 hk
  · exact qa_68 hk
/-! members(island) -/
set_option maxRecDepth 100000 in
set_option maxHeartbeats 4000000 in
theorem u_33 {V : Nat → Nat → Value} {I : Nat → Nat → Int32} {L : Nat → Nat → Int64} {R : Nat → Nat → Option Nat} {tl : am_H} {n p j : Nat} (hr : rel V I L R tl n p) (hm : room tl n p j) (a1 : Int32) : ∃ h', opBI (fm_210 (.ref 0) a1 (.ref 268) (fx V I L R ++ tl)) (fun h1 => fm_499 (.ref 174) a1 h1) vfI h' ∧ invW (j + 1) h' := by
  rcases dich a1 (n := 4) (by omega) with hn | ⟨i, hi, rfl⟩
  · refine ⟨_, opBI_err (c := 1) (b := 0) (by decide) (tl := tl ++ [am_dummy]) ?_ ?_, inv_mk (rel_thr 1 (rel_dum hr)) (room_dum hm)⟩
    · have e : fm_211 (.ref 0) a1 (fx V I L R ++ tl) = some (.inr (2, (fx V I L R ++ (tl ++ [am_dummy])))) := by
        unfold fm_211 fg_211_0
        refine ev_i rfl ?_
        rw [c_201n hn]
        rfl
      unfold fm_210 fg_210_0
      refine ev_i rfl ?_
      rw [e]
      rfl
    · show fm_499 (.ref 174) a1 (fx V I L R ++ (tl ++ [am_dummy])) = _
      unfold fm_499 fg_499_0
      exact ev_i rfl (ev_cI (t489n hn) (ev_t rfl (ev_b qp_174_0 (ev_b (a := 1) rfl (ev_f (by decide) rfl)))))
  · obtain ⟨c, kd, s1, s2, s3, s4, s5⟩ := rIs_at hr.2.2.2.2.2.2.1 hi
    refine ⟨_, opBI_rd (v := nI c) ?_ ?_, inv_mk (rel_thr 0 (rel_ol _ hr)) (room_up hm)⟩
    · have e : fm_211 (.ref 0) (nI i) (fx V I L R ++ tl) = some (.inl (some (.int (nI c)), (fx V I L R ++ tl))) := by
        unfold fm_211 fg_211_0
        refine ev_i rfl (ev_cR (c_201 hi) rfl ?_)
        refine ev_b (a := nI c) ?_ rfl
        rw [is_c hi, s2]
        rfl
      unfold fm_210 fg_210_0
      refine ev_i rfl ?_
      rw [e]
      exact ev_b out_s rfl
    · show fm_499 (.ref 174) (nI i) (fx V I (outL L (nI c).toInt64) R ++ tl) = _
      unfold fm_499 fg_499_0
      refine ev_i rfl (ev_cI (t489v hi) (ev_f (by decide) (ev_b qp_174_0 (ev_b (a := 0) rfl (ev_t (by decide) (ev_b (a := Value.ref 233) rfl (ev_b (qa_233 hi) ?_)))))))
      rw [s3]
      rfl
/-! member(island, place) -/
set_option maxRecDepth 100000 in
set_option maxHeartbeats 4000000 in
theorem c_214n {V : Nat → Nat → Value} {I : Nat → Nat → Int32} {L : Nat → Nat → Int64} {R : Nat → Nat → Option Nat} {tl : am_H} {i c : Nat} {a : Int32} (hi : i < 4) (s2 : V (40 + 9 * i) 0 = .int (nI c)) (h : a < 0 ∨ nI c ≤ a) : fm_214 (.ref 0) (.ref (40 + 9 * i)) a (fx V I L R ++ tl) = some (.inr (2, (fx V I L R ++ (tl ++ [am_dummy])))) := by
  rw [← List.append_assoc]
  unfold fm_214 fg_214_0
  by_cases d : a < 0
  · exact ev_t d rfl
  · refine ev_f d (ev_b (a := nI c) ?_ (ev_f (Int32.not_lt.mpr (h.resolve_left d)) rfl))
    rw [is_c hi, s2]
    rfl
set_option maxRecDepth 100000 in
set_option maxHeartbeats 4000000 in
theorem c_214 {V : Nat → Nat → Value} {I : Nat → Nat → Int32} {L : Nat → Nat → Int64} {R : Nat → Nat → Option Nat} {tl : am_H} {i c k : Nat} (hi : i < 4) (hc : c ≤ 16) (s2 : V (40 + 9 * i) 0 = .int (nI c)) (hk : k < c) : fm_214 (.ref 0) (.ref (40 + 9 * i)) (nI k) (fx V I L R ++ tl) = some (.inl (some (.int (I (41 + 9 * i) k)), (fx V I L R ++ tl))) := by
  unfold fm_214 fg_214_0
  refine ev_f (nI_pos (by omega)) (ev_b (a := nI c) ?_ (ev_t (nI_lt hk (by omega)) ?_))
  · rw [is_c hi, s2]
    rfl
  · refine ev_b (a := Value.ref (41 + 9 * i)) ?_ (ev_b (is_a hi (by omega)) rfl)
    rw [is_b hi]
    rfl
set_option maxRecDepth 100000 in
set_option maxHeartbeats 4000000 in
theorem r_501 {V : Nat → Nat → Value} {I : Nat → Nat → Int32} {L : Nat → Nat → Int64} {R : Nat → Nat → Option Nat} {tl : am_H} {i c : Nat} {a : Int32} {w : Int32} (hi : i < 4) (s3 : I 233 i = nI c) (hw : pv_327 a.toInt64 0 ((nI c).toInt64 - 1) = w) (h01 : w = 0 ∨ w = 1) : fm_501 (.ref 174) (nI i) a (fx V I L R ++ tl) = some (.inl (some (.int w), (fx V I L R ++ tl))) := by
  unfold fm_501 fg_501_0
  refine ev_i rfl (ev_cI (t489v hi) (ev_f (by decide) (ev_b (a := Value.ref 233) rfl (ev_i rfl (ev_cI (t489v hi) (ev_f (by decide) ?_))))))
  unfold fg_501_28
  refine ev_b (a := nI c) ((qa_233 hi).trans (by rw [s3])) (ev_cI (pe_327 _ _ _ _) ?_)
  rw [hw]
  rcases h01 with rfl | rfl
  · exact ev_t rfl rfl
  · exact ev_f (by decide) rfl
set_option maxRecDepth 100000 in
set_option maxHeartbeats 4000000 in
theorem r_501n {V : Nat → Nat → Value} {I : Nat → Nat → Int32} {L : Nat → Nat → Int64} {R : Nat → Nat → Option Nat} {tl : am_H} {a1 a : Int32} (hn : a1 < 0 ∨ 4 ≤ a1) : fm_501 (.ref 174) a1 a (fx V I L R ++ tl) = some (.inl (some (.int 0), (fx V I L R ++ tl))) := by
  unfold fm_501 fg_501_0
  exact ev_i rfl (ev_cI (t489n hn) (ev_t rfl rfl))
set_option maxRecDepth 100000 in
set_option maxHeartbeats 4000000 in
theorem u_34 {V : Nat → Nat → Value} {I : Nat → Nat → Int32} {L : Nat → Nat → Int64} {R : Nat → Nat → Option Nat} {tl : am_H} {n p j : Nat} (hr : rel V I L R tl n p) (hm : room tl n p j) (a1 a2 : Int32) : ∃ h', opBI (fm_212 (.ref 0) a1 a2 (.ref 268) (fx V I L R ++ tl)) (fun h1 => fm_500 (.ref 174) a1 a2 h1) vfI h' ∧ invW (j + 1) h' := by
  rcases dich a1 (n := 4) (by omega) with hn | ⟨i, hi, rfl⟩
  · refine ⟨_, opBI_err (c := 1) (b := 0) (by decide) (tl := tl ++ [am_dummy]) ?_ ?_, inv_mk (rel_thr 1 (rel_dum hr)) (room_dum hm)⟩
    · have e : fm_213 (.ref 0) a1 a2 (fx V I L R ++ tl) = some (.inr (2, (fx V I L R ++ (tl ++ [am_dummy])))) := by
        unfold fm_213 fg_213_0
        refine ev_i rfl ?_
        rw [c_201n hn]
        rfl
      unfold fm_212 fg_212_0
      refine ev_i rfl ?_
      rw [e]
      rfl
    · show fm_500 (.ref 174) a1 a2 (fx V I L R ++ (tl ++ [am_dummy])) = _
      unfold fm_500 fg_500_0
      exact ev_i rfl (ev_cI (r_501n hn) (ev_t rfl (ev_b qp_174_0 (ev_b (a := 1) rfl (ev_f (by decide) rfl)))))
  · obtain ⟨c, kd, s1, s2, s3, s4, s5⟩ := rIs_at hr.2.2.2.2.2.2.1 hi
    rcases dich a2 (n := c) (by omega) with hn | ⟨k, hk, rfl⟩
    · refine ⟨_, opBI_err (c := 1) (b := 0) (by decide) (tl := tl ++ [am_dummy]) ?_ ?_, inv_mk (rel_thr 1 (rel_dum hr)) (room_dum hm)⟩
      · have e : fm_213 (.ref 0) (nI i) a2 (fx V I L R ++ tl) = some (.inr (2, (fx V I L R ++ (tl ++ [am_dummy])))) := by
          unfold fm_213 fg_213_0
          refine ev_i rfl (ev_cR (c_201 hi) rfl (ev_i rfl ?_))
          rw [c_214n hi s2 hn]
          rfl
        unfold fm_212 fg_212_0
        refine ev_i rfl ?_
        rw [e]
        rfl
      · show fm_500 (.ref 174) (nI i) a2 (fx V I L R ++ (tl ++ [am_dummy])) = _
        unfold fm_500 fg_500_0
        exact ev_i rfl (ev_cI (r_501 hi s3 (in_b (by omega) hn) (.inl rfl)) (ev_t rfl (ev_b qp_174_0 (ev_b (a := 1) rfl (ev_f (by decide) rfl)))))
    · obtain ⟨b, z1, z2, z3, z4⟩ := s5 k hk
      refine ⟨_, opBI_rd (v := nI b) ?_ ?_, inv_mk (rel_thr 0 (rel_ol _ hr)) (room_up hm)⟩
      · have e : fm_213 (.ref 0) (nI i) (nI k) (fx V I L R ++ tl) = some (.inl (some (.int (nI b)), (fx V I L R ++ tl))) := by
          unfold fm_213 fg_213_0
          refine ev_i rfl (ev_cR (c_201 hi) rfl (ev_i rfl (ev_cI (c_214 hi s1 s2 hk) ?_)))
          rw [z2]
        unfold fm_212 fg_212_0
        refine ev_i rfl ?_
        rw [e]
        exact ev_b out_s rfl
      · show fm_500 (.ref 174) (nI i) (nI k) (fx V I (outL L (nI b).toInt64) R ++ tl) = _
        unfold fm_500 fg_500_0
        refine ev_i rfl (ev_cI (r_501 hi s3 (in_n hk (by omega)) (.inr rfl)) (ev_f (by decide) (ev_b qp_174_0 (ev_b (a := 0) rfl (ev_t (by decide) (ev_b (a := Value.ref 234) rfl ?_))))))
        rw [show (16 : Int32) * nI i + nI k = nI (16 * i + k) from nI_add' i 16 k]
        refine ev_b (qa_234 (by omega)) ?_
        rw [z3]
        rfl
/-! witness(what) -/
set_option maxRecDepth 100000 in
set_option maxHeartbeats 4000000 in
theorem u_52 {V : Nat → Nat → Value} {I : Nat → Nat → Int32} {L : Nat → Nat → Int64} {R : Nat → Nat → Option Nat} {tl : am_H} {n p j : Nat} (hr : rel V I L R tl n p) (hm : room tl n p j) (a1 : Int32) : ∃ h', opBI (fm_299 (.ref 0) a1 (.ref 268) (fx V I L R ++ tl)) (fun h1 => fm_576 (.ref 174) a1 h1) vfI h' ∧ invW (j + 1) h' := by
  rcases t14 a1 with hn | ⟨k, hk, rfl⟩
  · refine ⟨_, opBI_err (c := 1) (b := 0) (by decide) (tl := tl ++ [am_dummy]) ?_ ?_, inv_mk (rel_thr 1 (rel_dum hr)) (room_dum hm)⟩
    · have e : fm_300 (.ref 0) a1 (fx V I L R ++ tl) = some (.inr (0, (fx V I L R ++ (tl ++ [am_dummy])))) := by
        rw [← List.append_assoc]
        unfold fm_300 fg_300_0
        by_cases c : a1 < 0
        · exact ev_t c rfl
        · exact ev_f c (ev_b (a := Value.ref 166) rfl (ev_b (a := 15) rfl (ev_f (Int32.not_lt.mpr (hn.resolve_left c)) rfl)))
      unfold fm_299 fg_299_0
      refine ev_i rfl ?_
      rw [e]
      rfl
    · show fm_576 (.ref 174) a1 (fx V I L R ++ (tl ++ [am_dummy])) = _
      unfold fm_576 fg_576_0
      refine ev_cI (pe_327 _ _ _ _) ?_
      rw [in_15n hn]
      exact ev_t rfl (ev_b qp_174_0 (ev_b (a := 1) rfl (ev_f (by decide) rfl)))
  · have e0 := hr.2.2.2.2.2.2.2.2.1.1 k hk
    refine ⟨_, opBI_rd (v := I 254 k) ?_ ?_, inv_mk (rel_thr 0 (rel_ol _ hr)) (room_up hm)⟩
    · have e : fm_300 (.ref 0) (nI k) (fx V I L R ++ tl) = some (.inl (some (.int (I 254 k)), (fx V I L R ++ tl))) := by
        unfold fm_300 fg_300_0
        refine ev_f (nI_pos (by omega)) (ev_b (a := Value.ref 166) rfl (ev_b (a := nI 15) rfl (ev_t (nI_lt hk (by omega)) (ev_b (a := Value.ref 166) rfl (ev_b (qa_166 hk) ?_)))))
        rw [e0]
      unfold fm_299 fg_299_0
      refine ev_i rfl ?_
      rw [e]
      exact ev_b out_s rfl
    · show fm_576 (.ref 174) (nI k) (fx V I (outL L (I 254 k).toInt64) R ++ tl) = _
      unfold fm_576 fg_576_0
      refine ev_cI (pe_327 _ _ _ _) ?_
      rw [in_15 hk]
      exact ev_f (by decide) (ev_b qp_174_0 (ev_b (a := 0) rfl (ev_t (by decide) (ev_b (a := Value.ref 254) rfl (ev_b (qa_254 hk) rfl)))))
