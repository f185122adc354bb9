/-! ===== an island's rows, whichever it is ===== -/
set_option maxRecDepth 100000 in
set_option maxHeartbeats 1600000 in
theorem ir_1 {V : Nat → Nat → Value} {I : Nat → Nat → Int32} {L : Nat → Nat → Int64} {R : Nat → Nat → Option Nat} {tl : am_H} {i : Nat} (hi : i < 4) : am_vR (am_pG 257 (.ref (40 + 9 * i)) (fx V I L R ++ tl)) = some (.ref (41 + 9 * i)) := by
  rcases (by omega : i = 0 ∨ i = 1 ∨ i = 2 ∨ i = 3) with rfl | rfl | rfl | rfl <;> rfl
set_option maxRecDepth 100000 in
set_option maxHeartbeats 1600000 in
theorem ir_2 {V : Nat → Nat → Value} {I : Nat → Nat → Int32} {L : Nat → Nat → Int64} {R : Nat → Nat → Option Nat} {tl : am_H} {i : Nat} (hi : i < 4) : am_vR (am_pG 258 (.ref (40 + 9 * i)) (fx V I L R ++ tl)) = some (.ref (42 + 9 * i)) := by
  rcases (by omega : i = 0 ∨ i = 1 ∨ i = 2 ∨ i = 3) with rfl | rfl | rfl | rfl <;> rfl
set_option maxRecDepth 100000 in
set_option maxHeartbeats 1600000 in
theorem ir_4 {V : Nat → Nat → Value} {I : Nat → Nat → Int32} {L : Nat → Nat → Int64} {R : Nat → Nat → Option Nat} {tl : am_H} {i : Nat} (hi : i < 4) : am_vR (am_pG 260 (.ref (40 + 9 * i)) (fx V I L R ++ tl)) = some (.ref (43 + 9 * i)) := by
  rcases (by omega : i = 0 ∨ i = 1 ∨ i = 2 ∨ i = 3) with rfl | rfl | rfl | rfl <;> rfl
set_option maxRecDepth 100000 in
set_option maxHeartbeats 1600000 in
theorem ir_5 {V : Nat → Nat → Value} {I : Nat → Nat → Int32} {L : Nat → Nat → Int64} {R : Nat → Nat → Option Nat} {tl : am_H} {i : Nat} (hi : i < 4) : am_vR (am_pG 261 (.ref (40 + 9 * i)) (fx V I L R ++ tl)) = some (.ref (44 + 9 * i)) := by
  rcases (by omega : i = 0 ∨ i = 1 ∨ i = 2 ∨ i = 3) with rfl | rfl | rfl | rfl <;> rfl
set_option maxRecDepth 100000 in
set_option maxHeartbeats 1600000 in
theorem ir_6 {V : Nat → Nat → Value} {I : Nat → Nat → Int32} {L : Nat → Nat → Int64} {R : Nat → Nat → Option Nat} {tl : am_H} {i : Nat} (hi : i < 4) : am_vR (am_pG 262 (.ref (40 + 9 * i)) (fx V I L R ++ tl)) = some (.ref (45 + 9 * i)) := by
  rcases (by omega : i = 0 ∨ i = 1 ∨ i = 2 ∨ i = 3) with rfl | rfl | rfl | rfl <;> rfl
set_option maxRecDepth 100000 in
set_option maxHeartbeats 1600000 in
theorem ir_7 {V : Nat → Nat → Value} {I : Nat → Nat → Int32} {L : Nat → Nat → Int64} {R : Nat → Nat → Option Nat} {tl : am_H} {i : Nat} (hi : i < 4) : am_vR (am_pG 263 (.ref (40 + 9 * i)) (fx V I L R ++ tl)) = some (.ref (46 + 9 * i)) := by
  rcases (by omega : i = 0 ∨ i = 1 ∨ i = 2 ∨ i = 3) with rfl | rfl | rfl | rfl <;> rfl
set_option maxRecDepth 100000 in
set_option maxHeartbeats 1600000 in
theorem ir_8 {V : Nat → Nat → Value} {I : Nat → Nat → Int32} {L : Nat → Nat → Int64} {R : Nat → Nat → Option Nat} {tl : am_H} {i : Nat} (hi : i < 4) : am_vR (am_pG 264 (.ref (40 + 9 * i)) (fx V I L R ++ tl)) = some (.ref (47 + 9 * i)) := by
  rcases (by omega : i = 0 ∨ i = 1 ∨ i = 2 ∨ i = 3) with rfl | rfl | rfl | rfl <;> rfl
set_option maxRecDepth 100000 in
set_option maxHeartbeats 1600000 in
theorem ir_9 {V : Nat → Nat → Value} {I : Nat → Nat → Int32} {L : Nat → Nat → Int64} {R : Nat → Nat → Option Nat} {tl : am_H} {i : Nat} (hi : i < 4) : am_vR (am_pG 265 (.ref (40 + 9 * i)) (fx V I L R ++ tl)) = some (.ref (48 + 9 * i)) := by
  rcases (by omega : i = 0 ∨ i = 1 ∨ i = 2 ∨ i = 3) with rfl | rfl | rfl | rfl <;> rfl
set_option maxRecDepth 100000 in
set_option maxHeartbeats 1600000 in
theorem io_1 {V : Nat → Nat → Value} {I : Nat → Nat → Int32} {L : Nat → Nat → Int64} {R : Nat → Nat → Option Nat} {tl : am_H} {i : Nat} (hi : i < 4) : am_pOk 1 (.ref (40 + 9 * i)) (fx V I L R ++ tl) = true := by
  rcases (by omega : i = 0 ∨ i = 1 ∨ i = 2 ∨ i = 3) with rfl | rfl | rfl | rfl <;> rfl
set_option maxRecDepth 100000 in
set_option maxHeartbeats 1600000 in
theorem iv_0 {V : Nat → Nat → Value} {I : Nat → Nat → Int32} {L : Nat → Nat → Int64} {R : Nat → Nat → Option Nat} {tl : am_H} {i : Nat} {x : Int32} (hi : i < 4) (h : V (40 + 9 * i) 0 = .int x) : am_vI (am_pG 256 (.ref (40 + 9 * i)) (fx V I L R ++ tl)) = some x := by
  rw [is_c hi, h]
  rfl
set_option maxRecDepth 100000 in
set_option maxHeartbeats 1600000 in
theorem iv_3 {V : Nat → Nat → Value} {I : Nat → Nat → Int32} {L : Nat → Nat → Int64} {R : Nat → Nat → Option Nat} {tl : am_H} {i : Nat} {x : Int32} (hi : i < 4) (h : V (40 + 9 * i) 3 = .int x) : am_vI (am_pG 259 (.ref (40 + 9 * i)) (fx V I L R ++ tl)) = some x := by
  have e : am_pG 259 (.ref (40 + 9 * i)) (fx V I L R ++ tl) = some (V (40 + 9 * i) 3) := by
    rcases (by omega : i = 0 ∨ i = 1 ∨ i = 2 ∨ i = 3) with rfl | rfl | rfl | rfl <;> rfl
  rw [e, h]
  rfl
set_option maxRecDepth 100000 in
set_option maxHeartbeats 1600000 in
theorem ip_3 {V : Nat → Nat → Value} {I : Nat → Nat → Int32} {L : Nat → Nat → Int64} {R : Nat → Nat → Option Nat} {tl : am_H} {i : Nat} {x : Int32} (hi : i < 4) : am_pP 259 (.ref (40 + 9 * i)) (.int x) (fx V I L R ++ tl) = some (fx (vup V (40 + 9 * i) 3 (.int x)) I L R ++ tl) := by
  rcases (by omega : i = 0 ∨ i = 1 ∨ i = 2 ∨ i = 3) with rfl | rfl | rfl | rfl
  · exact qp_40_3
  · exact qp_49_3
  · exact qp_58_3
  · exact qp_67_3
set_option maxRecDepth 100000 in
set_option maxHeartbeats 1600000 in
theorem il_47 {V : Nat → Nat → Value} {I : Nat → Nat → Int32} {L : Nat → Nat → Int64} {R : Nat → Nat → Option Nat} {tl : am_H} {i : Nat} (hi : i < 4) : am_pLen (.ref (47 + 9 * i)) (fx V I L R ++ tl) = some (nI 24) := by
  rcases (by omega : i = 0 ∨ i = 1 ∨ i = 2 ∨ i = 3) with rfl | rfl | rfl | rfl <;> rfl
set_option maxRecDepth 100000 in
set_option maxHeartbeats 1600000 in
theorem ia_41 {V : Nat → Nat → Value} {I : Nat → Nat → Int32} {L : Nat → Nat → Int64} {R : Nat → Nat → Option Nat} {tl : am_H} {i k : Nat} (hi : i < 4) (hk : k < 16) : am_pA 0 (.ref (41 + 9 * i)) (nI k) (fx V I L R ++ tl) = some (I (41 + 9 * i) k) := by
  rcases (by omega : i = 0 ∨ i = 1 ∨ i = 2 ∨ i = 3) with rfl | rfl | rfl | rfl
  · exact qa_41 hk
  · exact qa_50 hk
  · exact qa_59 hk
  · exact qa_68 hk
set_option maxRecDepth 100000 in
set_option maxHeartbeats 1600000 in
theorem ij_41 {V : Nat → Nat → Value} {I : Nat → Nat → Int32} {L : Nat → Nat → Int64} {R : Nat → Nat → Option Nat} {tl : am_H} {i k : Nat} {x : Int32} (hi : i < 4) (hk : k < 16) : am_pS 0 (.ref (41 + 9 * i)) (nI k) x (fx V I L R ++ tl) = some (fx V (iup I (41 + 9 * i) (upd (I (41 + 9 * i)) k x)) L R ++ tl) := by
  rcases (by omega : i = 0 ∨ i = 1 ∨ i = 2 ∨ i = 3) with rfl | rfl | rfl | rfl
  · exact qs_41 hk
  · exact qs_50 hk
  · exact qs_59 hk
  · exact qs_68 hk
set_option maxRecDepth 100000 in
set_option maxHeartbeats 1600000 in
theorem ia_43 {V : Nat → Nat → Value} {I : Nat → Nat → Int32} {L : Nat → Nat → Int64} {R : Nat → Nat → Option Nat} {tl : am_H} {i k : Nat} (hi : i < 4) (hk : k < 16) : am_pA 0 (.ref (43 + 9 * i)) (nI k) (fx V I L R ++ tl) = some (I (43 + 9 * i) k) := by
  rcases (by omega : i = 0 ∨ i = 1 ∨ i = 2 ∨ i = 3) with rfl | rfl | rfl | rfl
  · exact qa_43 hk
  · exact qa_52 hk
  · exact qa_61 hk
  · exact qa_70 hk
set_option maxRecDepth 100000 in
set_option maxHeartbeats 1600000 in
theorem ij_43 {V : Nat → Nat → Value} {I : Nat → Nat → Int32} {L : Nat → Nat → Int64} {R : Nat → Nat → Option Nat} {tl : am_H} {i k : Nat} {x : Int32} (hi : i < 4) (hk : k < 16) : am_pS 0 (.ref (43 + 9 * i)) (nI k) x (fx V I L R ++ tl) = some (fx V (iup I (43 + 9 * i) (upd (I (43 + 9 * i)) k x)) L R ++ tl) := by
  rcases (by omega : i = 0 ∨ i = 1 ∨ i = 2 ∨ i = 3) with rfl | rfl | rfl | rfl
  · exact qs_43 hk
  · exact qs_52 hk
  · exact qs_61 hk
  · exact qs_70 hk
set_option maxRecDepth 100000 in
set_option maxHeartbeats 1600000 in
theorem ia_44 {V : Nat → Nat → Value} {I : Nat → Nat → Int32} {L : Nat → Nat → Int64} {R : Nat → Nat → Option Nat} {tl : am_H} {i k : Nat} (hi : i < 4) (hk : k < 16) : am_pAL (.ref (44 + 9 * i)) (nI k) (fx V I L R ++ tl) = some (L (44 + 9 * i) k) := by
  rcases (by omega : i = 0 ∨ i = 1 ∨ i = 2 ∨ i = 3) with rfl | rfl | rfl | rfl
  · exact qa_44 hk
  · exact qa_53 hk
  · exact qa_62 hk
  · exact qa_71 hk
set_option maxRecDepth 100000 in
set_option maxHeartbeats 1600000 in
theorem ij_44 {V : Nat → Nat → Value} {I : Nat → Nat → Int32} {L : Nat → Nat → Int64} {R : Nat → Nat → Option Nat} {tl : am_H} {i k : Nat} {x : Int64} (hi : i < 4) (hk : k < 16) : am_pSL (.ref (44 + 9 * i)) (nI k) x (fx V I L R ++ tl) = some (fx V I (lup L (44 + 9 * i) (vp_updL (L (44 + 9 * i)) k x)) R ++ tl) := by
  rcases (by omega : i = 0 ∨ i = 1 ∨ i = 2 ∨ i = 3) with rfl | rfl | rfl | rfl
  · exact qs_44 hk
  · exact qs_53 hk
  · exact qs_62 hk
  · exact qs_71 hk
set_option maxRecDepth 100000 in
set_option maxHeartbeats 1600000 in
theorem ia_45 {V : Nat → Nat → Value} {I : Nat → Nat → Int32} {L : Nat → Nat → Int64} {R : Nat → Nat → Option Nat} {tl : am_H} {i k : Nat} (hi : i < 4) (hk : k < 16) : am_pA 0 (.ref (45 + 9 * i)) (nI k) (fx V I L R ++ tl) = some (I (45 + 9 * i) k) := by
  rcases (by omega : i = 0 ∨ i = 1 ∨ i = 2 ∨ i = 3) with rfl | rfl | rfl | rfl
  · exact qa_45 hk
  · exact qa_54 hk
  · exact qa_63 hk
  · exact qa_72 hk
set_option maxRecDepth 100000 in
set_option maxHeartbeats 1600000 in
theorem ij_45 {V : Nat → Nat → Value} {I : Nat → Nat → Int32} {L : Nat → Nat → Int64} {R : Nat → Nat → Option Nat} {tl : am_H} {i k : Nat} {x : Int32} (hi : i < 4) (hk : k < 16) : am_pS 0 (.ref (45 + 9 * i)) (nI k) x (fx V I L R ++ tl) = some (fx V (iup I (45 + 9 * i) (upd (I (45 + 9 * i)) k x)) L R ++ tl) := by
  rcases (by omega : i = 0 ∨ i = 1 ∨ i = 2 ∨ i = 3) with rfl | rfl | rfl | rfl
  · exact qs_45 hk
  · exact qs_54 hk
  · exact qs_63 hk
  · exact qs_72 hk
set_option maxRecDepth 100000 in
set_option maxHeartbeats 1600000 in
theorem ia_46 {V : Nat → Nat → Value} {I : Nat → Nat → Int32} {L : Nat → Nat → Int64} {R : Nat → Nat → Option Nat} {tl : am_H} {i k : Nat} (hi : i < 4) (hk : k < 384) : am_pA 0 (.ref (46 + 9 * i)) (nI k) (fx V I L R ++ tl) = some (I (46 + 9 * i) k) := by
  rcases (by omega : i = 0 ∨ i = 1 ∨ i = 2 ∨ i = 3) with rfl | rfl | rfl | rfl
  · exact qa_46 hk
  · exact qa_55 hk
  · exact qa_64 hk
  · exact qa_73 hk
set_option maxRecDepth 100000 in
set_option maxHeartbeats 1600000 in
theorem ij_46 {V : Nat → Nat → Value} {I : Nat → Nat → Int32} {L : Nat → Nat → Int64} {R : Nat → Nat → Option Nat} {tl : am_H} {i k : Nat} {x : Int32} (hi : i < 4) (hk : k < 384) : am_pS 0 (.ref (46 + 9 * i)) (nI k) x (fx V I L R ++ tl) = some (fx V (iup I (46 + 9 * i) (upd (I (46 + 9 * i)) k x)) L R ++ tl) := by
  rcases (by omega : i = 0 ∨ i = 1 ∨ i = 2 ∨ i = 3) with rfl | rfl | rfl | rfl
  · exact qs_46 hk
  · exact qs_55 hk
  · exact qs_64 hk
  · exact qs_73 hk
set_option maxRecDepth 100000 in
set_option maxHeartbeats 1600000 in
theorem ia_47 {V : Nat → Nat → Value} {I : Nat → Nat → Int32} {L : Nat → Nat → Int64} {R : Nat → Nat → Option Nat} {tl : am_H} {i k : Nat} (hi : i < 4) (hk : k < 24) : am_pA 0 (.ref (47 + 9 * i)) (nI k) (fx V I L R ++ tl) = some (I (47 + 9 * i) k) := by
  rcases (by omega : i = 0 ∨ i = 1 ∨ i = 2 ∨ i = 3) with rfl | rfl | rfl | rfl
  · exact qa_47 hk
  · exact qa_56 hk
  · exact qa_65 hk
  · exact qa_74 hk
set_option maxRecDepth 100000 in
set_option maxHeartbeats 1600000 in
theorem ij_47 {V : Nat → Nat → Value} {I : Nat → Nat → Int32} {L : Nat → Nat → Int64} {R : Nat → Nat → Option Nat} {tl : am_H} {i k : Nat} {x : Int32} (hi : i < 4) (hk : k < 24) : am_pS 0 (.ref (47 + 9 * i)) (nI k) x (fx V I L R ++ tl) = some (fx V (iup I (47 + 9 * i) (upd (I (47 + 9 * i)) k x)) L R ++ tl) := by
  rcases (by omega : i = 0 ∨ i = 1 ∨ i = 2 ∨ i = 3) with rfl | rfl | rfl | rfl
  · exact qs_47 hk
  · exact qs_56 hk
  · exact qs_65 hk
  · exact qs_74 hk
set_option maxRecDepth 100000 in
set_option maxHeartbeats 1600000 in
theorem ia_48 {V : Nat → Nat → Value} {I : Nat → Nat → Int32} {L : Nat → Nat → Int64} {R : Nat → Nat → Option Nat} {tl : am_H} {i k : Nat} (hi : i < 4) (hk : k < 24) : am_pA 0 (.ref (48 + 9 * i)) (nI k) (fx V I L R ++ tl) = some (I (48 + 9 * i) k) := by
  rcases (by omega : i = 0 ∨ i = 1 ∨ i = 2 ∨ i = 3) with rfl | rfl | rfl | rfl
  · exact qa_48 hk
  · exact qa_57 hk
  · exact qa_66 hk
  · exact qa_75 hk
set_option maxRecDepth 100000 in
set_option maxHeartbeats 1600000 in
theorem ij_48 {V : Nat → Nat → Value} {I : Nat → Nat → Int32} {L : Nat → Nat → Int64} {R : Nat → Nat → Option Nat} {tl : am_H} {i k : Nat} {x : Int32} (hi : i < 4) (hk : k < 24) : am_pS 0 (.ref (48 + 9 * i)) (nI k) x (fx V I L R ++ tl) = some (fx V (iup I (48 + 9 * i) (upd (I (48 + 9 * i)) k x)) L R ++ tl) := by
  rcases (by omega : i = 0 ∨ i = 1 ∨ i = 2 ∨ i = 3) with rfl | rfl | rfl | rfl
  · exact qs_48 hk
  · exact qs_57 hk
  · exact qs_66 hk
  · exact qs_75 hk
theorem wt_is {V : Nat → Nat → Value} {i : Nat} {x : Int32} (hi : i < 4) (h : wt V) : wt (vup V (40 + 9 * i) 3 (.int x)) := by
  rcases (by omega : i = 0 ∨ i = 1 ∨ i = 2 ∨ i = 3) with rfl | rfl | rfl | rfl <;> exact wt_i h (by decide)
theorem lup_na {L : Nat → Nat → Int64} {a b : Nat} {f : Nat → Int64} (h : b ≠ a) : lup L a f b = L b := if_neg h
theorem lup_eq {L : Nat → Nat → Int64} {a : Nat} {f : Nat → Int64} : lup L a f a = f := if_pos rfl
theorem iup_eq {I : Nat → Nat → Int32} {a : Nat} {f : Nat → Int32} : iup I a f a = f := if_pos rfl
theorem updL_eq {f : Nat → Int64} {i : Nat} {v : Int64} : vp_updL f i v i = v := if_pos rfl
theorem updL_ne {f : Nat → Int64} {i j : Nat} {v : Int64} (h : j ≠ i) : vp_updL f i v j = f j := if_neg h
/-! ===== the seen cases ===== -/
def seN (I0 : Nat → Nat → Int32) (j : Nat) : Nat := if I0 202 j = 0 then 1 else 0
def snN (I0 : Nat → Nat → Int32) (m : Nat) : Nat := suN (seN I0) m
theorem snN_le {I0 : Nat → Nat → Int32} (m : Nat) : snN I0 m ≤ m := by
  have := suN_le (g := seN I0) (c := 1) m (fun k _ => by
    unfold seN
    by_cases c : I0 202 k = 0
    · rw [if_pos c]; exact Nat.le_refl _
    · rw [if_neg c]; exact Nat.zero_le _)
  unfold snN
  omega
theorem snN_p {I0 : Nat → Nat → Int32} {m : Nat} (h : I0 202 m = 0) : snN I0 (m + 1) = snN I0 m + 1 := by
  show snN I0 m + seN I0 m = _
  unfold seN
  rw [if_pos h]
theorem snN_n {I0 : Nat → Nat → Int32} {m : Nat} (h : ¬ I0 202 m = 0) : snN I0 (m + 1) = snN I0 m := by
  show snN I0 m + seN I0 m = _
  unfold seN
  rw [if_neg h]
  rfl
/-- each number below is a seen case's -/
theorem sn_inv {I0 : Nat → Nat → Int32} : ∀ (m q : Nat), q < snN I0 m → ∃ j, j < m ∧ I0 202 j = 0 ∧ snN I0 j = q := by
  intro m
  induction m with
  | zero => intro q hq; exact absurd hq (Nat.not_lt_zero _)
  | succ m ih =>
    intro q hq
    by_cases c : I0 202 m = 0
    · rw [snN_p c] at hq
      by_cases d : q = snN I0 m
      · exact ⟨m, by omega, c, d.symm⟩
      · obtain ⟨j, j1, j2, j3⟩ := ih q (by omega)
        exact ⟨j, by omega, j2, j3⟩
    · rw [snN_n c] at hq
      obtain ⟨j, j1, j2, j3⟩ := ih q hq
      exact ⟨j, by omega, j2, j3⟩
/-- the numbers of the seen cases, in a row -/
def scK (I0 : Nat → Nat → Int32) (m : Nat) (F : Nat → Int32) : Prop := ∀ j, j < m → I0 202 j = 0 → F (snN I0 j) = nI j
theorem sc_at {I0 : Nat → Nat → Int32} {m : Nat} {F : Nat → Int32} {q : Nat} (h : scK I0 m F) (hm : m ≤ 24) (hq : q < snN I0 m) : clN F q < m ∧ I0 202 (clN F q) = 0 ∧ F q = nI (clN F q) ∧ snN I0 (clN F q) = q := by
  obtain ⟨j, j1, j2, j3⟩ := sn_inv m q hq
  have e : F q = nI j := by rw [← j3]; exact h j j1 j2
  have e2 : clN F q = j := clN_at e (by omega)
  rw [e2]
  exact ⟨j1, j2, e, j3⟩
theorem sum_seen {I0 : Nat → Nat → Int32} {F : Nat → Int32} {g : Nat → Nat} : ∀ m, m ≤ 24 → scK I0 m F → suN (fun r => g (clN F r)) (snN I0 m) = suN (fun j => if I0 202 j = 0 then g j else 0) m := by
  intro m
  induction m with
  | zero => intro _ _; rfl
  | succ m ih =>
    intro hm h
    have h1 := ih (by omega) (fun j hj e => h j (by omega) e)
    by_cases c : I0 202 m = 0
    · rw [snN_p c]
      show suN (fun r => g (clN F r)) (snN I0 m) + g (clN F (snN I0 m)) = suN (fun j => if I0 202 j = 0 then g j else 0) m + (if I0 202 m = 0 then g m else 0)
      rw [h1, if_pos c, clN_at (h m (by omega) c) (by omega)]
    · rw [snN_n c]
      show _ = suN (fun j => if I0 202 j = 0 then g j else 0) m + (if I0 202 m = 0 then g m else 0)
      rw [h1, if_neg c]
      rfl
set_option maxRecDepth 100000 in
set_option maxHeartbeats 1600000 in
theorem c_219l {L : Nat → Nat → Int64} {R : Nat → Nat → Option Nat} {tl : am_H} {I0 : Nat → Nat → Int32} {V : Nat → Nat → Value} {N m i : Nat} (hi : i < 4) : ∀ (q k K : Nat) (I : Nat → Nat → Int32), k + q = m → q < K → csK V I I0 m → scK I0 k (I (47 + 9 * i)) → ∃ F, fg_219_4 N K (.ref 14) (.ref (47 + 9 * i)) (nI (snN I0 k)) (nI k) (fx V I L R ++ tl) = some (.inl (some (.int (nI (snN I0 m))), fx V (iup I (47 + 9 * i) F) L R ++ tl)) ∧ scK I0 m F := by
  intro q
  induction q with
  | zero =>
    intro k K I hk hK hc hs
    obtain ⟨K, rfl⟩ : ∃ k, K = k + 1 := ⟨K - 1, by omega⟩
    obtain rfl : k = m := by omega
    refine ⟨I (47 + 9 * i), ?_, hs⟩
    rw [fg_219_4, iup_self]
    exact ev_b (rdI hc.1) (ev_t (nI_le (Nat.le_refl _) (by have := hc.2.2.1; omega)) rfl)
  | succ q ih =>
    intro k K I hk hK hc hs
    obtain ⟨K, rfl⟩ : ∃ k, K = k + 1 := ⟨K - 1, by omega⟩
    have hc' := hc
    obtain ⟨v1, v2, m24, i15, i197, cok⟩ := hc
    have sl := snN_le (I0 := I0) k
    have e41 := c_141 (V := V) (I := I) (L := L) (R := R) (tl := tl) (k := k) (h := 0) (by omega) (cOk_c i15 i197 (cok k (by omega))) (.inl rfl)
    rw [i197 202 (by omega) (by omega)] at e41
    by_cases c : I0 202 k = 0
    · rw [if_pos c] at e41
      have hc2 : csK V (iup I (47 + 9 * i) (upd (I (47 + 9 * i)) (snN I0 k) (nI k))) I0 m := ⟨v1, v2, m24, (iup_na (by omega)).trans i15, fun y h1 h2 => (iup_na (by omega)).trans (i197 y h1 h2), cok⟩
      obtain ⟨F, e, g⟩ := ih (k + 1) K (iup I (47 + 9 * i) (upd (I (47 + 9 * i)) (snN I0 k) (nI k))) (by omega) (by omega) hc2 (fun j hj ej => by
        rw [iup_eq]
        by_cases d : j = k
        · subst d; exact upd_eq
        · have hj2 : snN I0 j < snN I0 k := by
            have mono : ∀ a b, a ≤ b → snN I0 a ≤ snN I0 b := fun a b hab => by
              obtain ⟨t, rfl⟩ : ∃ t, b = a + t := ⟨b - a, by omega⟩
              clear hab
              induction t with
              | zero => exact Nat.le_refl _
              | succ t iht =>
                show snN I0 a ≤ snN I0 (a + t) + seN I0 (a + t)
                omega
            have := mono (j + 1) k (by omega)
            rw [snN_p ej] at this
            omega
          rw [upd_ne (by omega)]
          exact hs j (by omega) ej)
      rw [iup_iup, snN_p c] at e
      refine ⟨F, ?_, g⟩
      rw [fg_219_4]
      refine ev_b (rdI v1) (ev_f (nI_ge (by omega) (by omega)) (ev_b (il_47 hi) (ev_f (nI_ge (by omega) (by omega)) (ev_i rfl (ev_cI e41 (ev_f (by decide) (ev_b (ij_47 hi (by omega)) ?_)))))))
      unfold fg_219_34
      rw [nI_1, nI_1]
      exact e
    · rw [if_neg c] at e41
      obtain ⟨F, e, g⟩ := ih (k + 1) K I (by omega) (by omega) hc' (fun j hj ej => hs j (by
        by_cases d : j = k
        · subst d; exact absurd ej c
        · omega) ej)
      rw [snN_n c] at e
      refine ⟨F, ?_, g⟩
      rw [fg_219_4]
      refine ev_b (rdI v1) (ev_f (nI_ge (by omega) (by omega)) (ev_b (il_47 hi) (ev_f (nI_ge (by omega) (by omega)) (ev_i rfl (ev_cI e41 (ev_t rfl ?_))))))
      unfold fg_219_34
      rw [nI_1]
      exact e
theorem c_219 {V : Nat → Nat → Value} {I : Nat → Nat → Int32} {L : Nat → Nat → Int64} {R : Nat → Nat → Option Nat} {tl : am_H} {I0 : Nat → Nat → Int32} {N m i : Nat} (hN : 100 < N) (hi : i < 4) (hc : csK V I I0 m) : ∃ F, fm_219 N (.ref 14) (.ref (47 + 9 * i)) (fx V I L R ++ tl) = some (.inl (some (.int (nI (snN I0 m))), fx V (iup I (47 + 9 * i) F) L R ++ tl)) ∧ scK I0 m F := by
  unfold fm_219 fg_219_0
  exact c_219l hi m 0 N I (by omega) (by have := hc.2.2.1; omega) hc (fun j hj => absurd hj (by omega))
