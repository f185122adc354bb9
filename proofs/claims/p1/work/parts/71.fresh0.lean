/-! ===== the fresh objects: calls that ask for a birth ===== -/
/-- the reference's fields behind thrown -/
def rfs : List Value := [.int 0, .ref 175, .ref 176, .ref 177, .ref 178, .ref 179, .ref 180, .ref 181, .ref 182, .ref 183, .ref 184, .ref 185, .int 0, .int 0, .int 0, .ref 186, .ref 187, .int 0, .int 0, .int 0, .ref 188, .ref 189, .int 0, .ref 190, .ref 191, .ref 192, .ref 193, .ref 194, .ref 195, .ref 196, .int 0, .ref 197, .ref 198, .ref 199, .ref 200, .ref 201, .ref 202, .ref 203, .ref 204, .int 0, .ref 205, .ref 206, .ref 207, .ref 208, .ref 209, .ref 210, .ref 211, .int 0, .int 0, .int 0, .int 0, .int 0, .int 0, .int 0, .ref 212, .int 0, .int 0, .int 0, .int 0, .ref 213, .ref 214, .ref 215, .ref 216, .ref 217, .int 0, .int 0, .ref 218, .int 0, .int 0, .int 0, .ref 219, .int 0, .int 0, .ref 220, .ref 221, .ref 222, .int 0, .int 0, .ref 223, .int 0, .ref 224, .ref 225, .ref 226, .ref 227, .ref 228, .ref 229, .ref 230, .int 0, .ref 231, .ref 232, .long 0, .long 0, .int 0, .int 0, .int 0, .long 0, .int 0, .ref 233, .ref 234, .ref 235, .ref 236, .ref 237, .ref 238, .ref 239, .int 0, .ref 240, .ref 241, .int 0, .ref 242, .ref 243, .ref 244, .ref 245, .ref 246, .ref 247, .int 0, .ref 248, .ref 249, .ref 250, .ref 251, .ref 252, .int 0, .ref 253, .ref 254, .ref 255, .ref 256, .ref 257, .ref 258, .ref 259, .ref 260, .ref 261, .int 0, .ref 262, .ref 263, .ref 264, .ref 265, .ref 266, .ref 267]
def fits (h : am_H) : Prop := h.length ≤ 600002 ∧ am_sz h ≤ 7301098
def szl : List Nat := [20, 600, 9, 240, 60, 8, 60, 60, 60, 60, 60, 60, 61, 240, 6, 360, 15, 8, 60, 60, 60, 60, 60, 60, 61, 8, 8, 15, 8, 60, 60, 60, 60, 60, 60, 61, 8, 8, 5, 4, 10, 16, 1, 16, 16, 16, 384, 24, 24, 10, 16, 1, 16, 16, 16, 384, 24, 24, 10, 16, 1, 16, 16, 16, 384, 24, 24, 10, 16, 1, 16, 16, 16, 384, 24, 24, 9, 1638, 78, 8, 60, 60, 60, 60, 60, 60, 61, 24, 24, 13, 11, 120, 11, 120, 8, 60, 60, 60, 60, 60, 60, 61, 8, 60, 60, 60, 60, 60, 60, 61, 8, 60, 60, 60, 60, 60, 60, 61, 7, 60, 60, 8, 60, 60, 60, 60, 60, 60, 61, 11, 120, 11, 8, 60, 60, 60, 60, 60, 60, 61, 8, 11, 120, 36, 6, 36, 36, 8, 11, 120, 11, 120, 11, 120, 11, 120, 11, 120, 11, 120, 11, 120, 11, 120, 15, 15, 15, 11, 120, 11, 120, 600, 16, 1, 138, 600, 600, 600, 600, 600, 600, 600, 600, 600, 36000, 36000, 400, 400, 400, 400, 400, 400, 400, 400, 400, 400, 400, 24, 24, 24, 24, 24, 24, 24, 192, 8, 5, 400, 400, 400, 400, 130, 8, 130, 130, 130, 130, 400, 240, 61, 64, 64, 64, 800, 84, 819, 6, 40, 40, 40, 40, 13, 13, 4, 64, 4, 16, 16, 16, 16, 384, 24, 16, 16, 16, 3, 600, 600, 400, 400, 1152, 1152, 9, 61, 15, 36, 36, 36, 36, 40, 60, 60, 6, 6, 6, 6, 40, 8, 1]
theorem fits_of {h : am_H} (l : List Nat) (hm : h.map am_sz1 = l) (hs : (Nat.ble l.sum 7301098 && Nat.ble l.length 600002) = true) : fits h := by
  rw [Bool.and_eq_true] at hs
  refine ⟨?_, ?_⟩
  · have e := congrArg List.length hm
    rw [List.length_map] at e
    rw [e]
    exact Nat.le_of_ble_eq_true hs.2
  · show (h.map am_sz1).sum ≤ _
    rw [hm]
    exact Nat.le_of_ble_eq_true hs.1
def szE : List Nat := [20, 600, 9, 240, 60, 8, 60, 60, 60, 60, 60, 60, 61, 240, 6, 360, 15, 8, 60, 60, 60, 60, 60, 60, 61, 8, 8, 15, 8, 60, 60, 60, 60, 60, 60, 61, 8, 8, 5, 4, 10, 16, 1, 16, 16, 16, 384, 24, 24, 10, 16, 1, 16, 16, 16, 384, 24, 24, 10, 16, 1, 16, 16, 16, 384, 24, 24, 10, 16, 1, 16, 16, 16, 384, 24, 24, 9, 1638, 78, 8, 60, 60, 60, 60, 60, 60, 61, 24, 24, 13, 11, 120, 11, 120, 8, 60, 60, 60, 60, 60, 60, 61, 8, 60, 60, 60, 60, 60, 60, 61, 8, 60, 60, 60, 60, 60, 60, 61, 7, 60, 60, 8, 60, 60, 60, 60, 60, 60, 61, 11, 120, 11, 8, 60, 60, 60, 60, 60, 60, 61, 8, 11, 120, 36, 6, 36, 36, 8, 11, 120, 11, 120, 11, 120, 11, 120, 11, 120, 11, 120, 11, 120, 11, 120, 15, 15, 15, 11, 120, 11, 120, 600, 16, 1, 138, 600, 600, 600, 600, 600, 600, 600, 600, 600, 36000, 36000, 400, 400, 400, 400, 400, 400, 400, 400, 400, 400, 400, 24, 24, 24, 24, 24, 24, 24, 192, 8, 5, 400, 400, 400, 400, 130, 8, 130, 130, 130, 130, 400, 240, 61, 64, 64, 64, 800, 84, 819, 6, 40, 40, 40, 40, 13, 13, 4, 64, 4, 16, 16, 16, 16, 384, 24, 16, 16, 16, 3, 600, 600, 400, 400, 1152, 1152, 9, 61, 15, 36, 36, 36, 36, 40, 60, 60, 6, 6, 6, 6, 40, 8, 1, 6]
def hpE (q : rkQ) : am_H := hp0 q ++ [am_dummy]
def hpT (q : rkQ) (c : Int32) : am_H := (hpE q).set 174 (.inr (12, .int c :: rfs))
set_option maxRecDepth 100000 in
set_option maxHeartbeats 4000000 in
theorem hpT_fits (q : rkQ) (c : Int32) : fits (hpT q c) := fits_of szE rfl (by decide)
set_option maxRecDepth 100000 in
set_option maxHeartbeats 4000000 in
theorem t63 (q : rkQ) (b : Int32) : fm_63 (.ref 0) b (hp0 q) = some (.inr (2, hpE q)) := by
  unfold fm_63 fg_63_0
  by_cases c : b < 0
  · rw [if_pos c]; rfl
  · rw [if_neg c]
    refine ev_b (a := 0) rfl ?_
    exact ev_t (Int32.not_lt.mp c) rfl
set_option maxRecDepth 100000 in
set_option maxHeartbeats 4000000 in
theorem t108 (q : rkQ) (b : Int32) : fm_108 (.ref 0) b (hp0 q) = some (.inr (2, hpE q)) := by
  unfold fm_108 fg_108_0
  by_cases c : b < 0
  · rw [if_pos c]; rfl
  · rw [if_neg c]
    refine ev_b (a := .ref 14) rfl ?_
    refine ev_b (a := 0) rfl ?_
    exact ev_f c rfl
set_option maxRecDepth 100000 in
set_option maxHeartbeats 4000000 in
theorem in_lo {x a b : Int64} (h : x < a) : pv_327 x a b = 0 := if_pos ((lg_cmp_lt _ _).mpr h)
set_option maxRecDepth 100000 in
set_option maxHeartbeats 4000000 in
theorem in_hi {x a b : Int64} (h : b < x) : pv_327 x a b = 0 := by
  unfold pv_327
  split
  · rfl
  · exact if_pos ((lg_cmp_gt _ _).mpr h)
set_option maxRecDepth 100000 in
set_option maxHeartbeats 4000000 in
theorem in_ok {x a b : Int64} (h : a ≤ x) (h2 : x ≤ b) : pv_327 x a b = 1 := by
  unfold pv_327
  rw [if_neg (fun e => absurd ((lg_cmp_lt _ _).mp e) (Int64.not_lt.mpr h)), if_neg (fun e => absurd ((lg_cmp_gt _ _).mp e) (Int64.not_lt.mpr h2))]
set_option maxRecDepth 100000 in
set_option maxHeartbeats 4000000 in
theorem in_none (x : Int64) : pv_327 x 0 ((Int32.toInt64 0) - 1) = 0 := by
  by_cases c : x < 0
  · exact in_lo c
  · exact in_hi (Int64.lt_of_lt_of_le (show (Int32.toInt64 0) - 1 < (0 : Int64) by decide) (Int64.not_lt.mp c))
set_option maxRecDepth 100000 in
set_option maxHeartbeats 4000000 in
theorem t358 (q : rkQ) (b : Int32) : fm_358 (.ref 174) b (hpE q) = some (.inl (some (.int 0), hpE q)) := by
  unfold fm_358 fg_358_0
  refine ev_b (a := 0) rfl ?_
  refine ev_cI (pe_327 _ _ _ _) ?_
  rw [in_none]
  rfl
set_option maxRecDepth 100000 in
set_option maxHeartbeats 4000000 in
theorem t398 (q : rkQ) (b : Int32) : fm_398 (.ref 174) b (hpE q) = some (.inl (some (.int 0), hpE q)) := by
  unfold fm_398 fg_398_0
  refine ev_b (a := 0) rfl ?_
  refine ev_cI (pe_327 _ _ _ _) ?_
  rw [in_none]
  rfl

