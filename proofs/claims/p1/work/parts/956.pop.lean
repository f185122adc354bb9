/-! ===== populate, the fresh objects; code (kind 1) as premises ===== -/
def pLo (k : Int32) : Int32 := if k = 3 then 2 else 1
def pHi (k : Int32) : Int32 := if k = 2 then 6 else if k = 3 then 8 else 9
def pGood (k n z : Int32) : Prop := ¬ k < 0 ∧ ¬ 3 < k ∧ ¬ n < 1 ∧ ¬ 16 < n ∧ ¬ z < pLo k ∧ z ≤ pHi k
theorem c_200h {N : Nat} {a2 a3 a4 : Int32} {x : Int64} {i : Int32} {a : Nat} {h h1 : am_H} {o : Option am_O} (h0 : am_pOk 11 (.ref 0) h = true) (h201 : fm_201 (.ref 0) i h = some (.inl (some (.ref a), h1))) (ho : fg_200_41 N (.ref 0) a2 a3 a4 x (.ref a) (pLo a2) (pHi a2) h1 = o) : fm_200 N (.ref 0) i a2 a3 a4 x h = o := by
  unfold fm_200 fg_200_0
  refine ev_i h0 ?_
  refine ev_cR h201 rfl ?_
  unfold pLo pHi at ho
  unfold fg_200_17
  by_cases c3 : a2 = 3
  · rw [if_pos c3, if_neg (by rw [c3]; decide), if_pos c3] at ho
    refine ev_f (fun e => e c3) ?_
    refine ev_t (by rw [c3]; decide) ?_
    exact ev_f (fun e => e c3) ho
  · rw [if_neg c3, if_neg c3] at ho
    refine ev_t c3 ?_
    by_cases c2 : a2 = 2
    · rw [if_pos c2] at ho
      exact ev_f (fun e => e c2) ho
    · rw [if_neg c2] at ho
      refine ev_t c2 ?_
      exact ev_t c3 ho
theorem c_200b {N : Nat} {a2 a3 a4 : Int32} {x : Int64} {v : Value} {h : am_H} (hb : ¬ pGood a2 a3 a4) : fg_200_41 N (.ref 0) a2 a3 a4 x v (pLo a2) (pHi a2) h = some (.inr (0, h ++ [am_dummy])) := by
  unfold fg_200_41
  by_cases c1 : a2 < 0
  · exact ev_t c1 rfl
  · refine ev_f c1 ?_
    by_cases c2 : 3 < a2
    · exact ev_t c2 rfl
    · refine ev_f c2 ?_
      by_cases c3 : a3 < 1
      · exact ev_t c3 rfl
      · refine ev_f c3 ?_
        by_cases c4 : 16 < a3
        · exact ev_t c4 rfl
        · refine ev_f c4 ?_
          by_cases c5 : a4 < pLo a2
          · exact ev_t c5 rfl
          · refine ev_f c5 ?_
            exact ev_f (fun c6 => hb ⟨c1, c2, c3, c4, c5, c6⟩) rfl
theorem t490 {a2 a4 : Int32} {h : am_H} : fm_490 a2 a4 h = some (.inl (some (.int (pv_327 a4.toInt64 (pLo a2).toInt64 (pHi a2).toInt64)), h)) := by
  have hr : ∀ {x y z : Int64}, am_rfit (some FieldType.boolean) (pv_327 x y z) = true := by
    intro x y z
    unfold pv_327
    split
    · rfl
    · split <;> rfl
  unfold fm_490 fg_490_0 pLo pHi
  by_cases c2 : a2 = 2
  · subst c2
    refine ev_f (fun e => e rfl) ?_
    refine ev_cI (pe_327 _ _ _ _) ?_
    exact ev_i hr rfl
  · refine ev_t c2 ?_
    rw [if_neg c2]
    by_cases c3 : a2 = 3
    · subst c3
      refine ev_f (fun e => e rfl) ?_
      refine ev_cI (pe_327 _ _ _ _) ?_
      exact ev_i hr rfl
    · refine ev_t c3 ?_
      rw [if_neg c3, if_neg c3]
      refine ev_cI (pe_327 _ _ _ _) ?_
      exact ev_i hr rfl
