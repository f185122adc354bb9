theorem t489v {i : Nat} {h : am_H} (hi : i < 4) : fm_489 (.ref 174) (nI i) h = some (.inl (some (.int 1), h)) := by
  unfold fm_489 fg_489_0
  refine ev_cI (pe_327 _ _ _ _) ?_
  rw [show pv_327 (nI i).toInt64 0 3 = 1 from in_ok (w64le (a := 0) (nI_pos' (by omega))) (w64le (b := 3) (nI_le (b := 3) (by omega) (by decide)))]
  rfl
set_option maxRecDepth 100000 in
set_option maxHeartbeats 4000000 in
theorem r_46 {q : rkQ} {N : Nat} {a1 a2 a3 a4 : Int32} {x : Int64} : fg_488_46 N (.ref 174) a1 a2 a3 a4 x (.ref 174) (hpE q) = some (.inl (some (.int 0), hpT q 2)) := by
  unfold fg_488_46 fg_488_67
  refine ev_b (a := hpT q 2) rfl ?_
  refine ev_b (a := 2) rfl ?_
  exact ev_f (by decide) rfl
set_option maxRecDepth 100000 in
theorem r_488b {q : rkQ} {N i : Nat} {a2 a3 a4 : Int32} {x : Int64} (hi : i < 4) (hb : ¬ pGood a2 a3 a4) : fm_488 N (.ref 174) (nI i) a2 a3 a4 x (hpE q) = some (.inl (some (.int 0), hpT q 2)) := by
  unfold fm_488 fg_488_0
  refine ev_i rfl ?_
  refine ev_cI (t489v hi) ?_
  refine ev_t (by decide) ?_
  refine ev_cI (pe_327 _ _ _ _) ?_
  by_cases c1 : a2 < 0
  · rw [show pv_327 a2.toInt64 0 3 = 0 from in_lo (w64lt (b := 0) c1)]
    exact ev_t rfl r_46
  · by_cases c2 : 3 < a2
    · rw [show pv_327 a2.toInt64 0 3 = 0 from in_hi (w64lt (a := 3) c2)]
      exact ev_t rfl r_46
    · rw [show pv_327 a2.toInt64 0 3 = 1 from in_ok (w64le (a := 0) (Int32.not_lt.mp c1)) (w64le (b := 3) (Int32.not_lt.mp c2))]
      refine ev_f (by decide) ?_
      refine ev_cI (pe_327 _ _ _ _) ?_
      by_cases c3 : a3 < 1
      · rw [show pv_327 a3.toInt64 1 16 = 0 from in_lo (w64lt (b := 1) c3)]
        exact ev_t rfl r_46
      · by_cases c4 : 16 < a3
        · rw [show pv_327 a3.toInt64 1 16 = 0 from in_hi (w64lt (a := 16) c4)]
          exact ev_t rfl r_46
        · rw [show pv_327 a3.toInt64 1 16 = 1 from in_ok (w64le (a := 1) (Int32.not_lt.mp c3)) (w64le (b := 16) (Int32.not_lt.mp c4))]
          refine ev_f (by decide) ?_
          refine ev_cI t490 ?_
          by_cases c5 : a4 < pLo a2
          · rw [in_lo (w64lt c5)]
            exact ev_f (fun e => e rfl) r_46
          · rw [in_hi (w64lt (Int32.not_le.mp (fun c6 => hb ⟨c1, c2, c3, c4, c5, c6⟩)))]
            exact ev_f (fun e => e rfl) r_46
set_option maxRecDepth 100000 in
set_option maxHeartbeats 4000000 in
theorem c_201v (q : rkQ) {i : Nat} (hi : i < 4) : fm_201 (.ref 0) (nI i) (hp0 q) = some (.inl (some (.ref (40 + 9 * i)), hp0 q)) := by
  rcases (by omega : i = 0 ∨ i = 1 ∨ i = 2 ∨ i = 3) with rfl | rfl | rfl | rfl <;> rfl
theorem isI_i {i : Nat} (hi : i < 4) : isI (40 + 9 * i) := by
  rcases (by omega : i = 0 ∨ i = 1 ∨ i = 2 ∨ i = 3) with rfl | rfl | rfl | rfl
  · exact .inl rfl
  · exact .inr (.inl rfl)
  · exact .inr (.inr (.inl rfl))
  · exact .inr (.inr (.inr rfl))
set_option maxRecDepth 100000 in
set_option maxHeartbeats 4000000 in
theorem i_put {V : Nat → Nat → Value} {I : Nat → Nat → Int32} {L : Nat → Nat → Int64} {R : Nat → Nat → Option Nat} {tl : am_H} {a : Nat} (h : isI a) (v : Int32) : am_pP 256 (.ref a) (.int v) (fx V I L R ++ tl) = some (fx (vup V a 0 (.int v)) I L R ++ tl) := by
  rcases h with rfl | rfl | rfl | rfl
  · exact ev_p rfl rfl rfl rfl
  · exact ev_p rfl rfl rfl rfl
  · exact ev_p rfl rfl rfl rfl
  · exact ev_p rfl rfl rfl rfl
set_option maxRecDepth 100000 in
set_option maxHeartbeats 4000000 in
theorem s_put {V : Nat → Nat → Value} {I : Nat → Nat → Int32} {L : Nat → Nat → Int64} {R : Nat → Nat → Option Nat} {tl : am_H} {a : Nat} (h : isS a) (v : Int64) : am_pP 2048 (.ref a) (.long v) (fx V I L R ++ tl) = some (fx (vup V a 0 (.long v)) I L R ++ tl) := by
  rcases h with rfl | rfl | rfl | rfl
  · exact ev_p rfl rfl rfl rfl
  · exact ev_p rfl rfl rfl rfl
  · exact ev_p rfl rfl rfl rfl
  · exact ev_p rfl rfl rfl rfl
set_option maxRecDepth 100000 in
set_option maxHeartbeats 4000000 in
theorem c_200g {q : rkQ} {N i kd z n : Nat} {x : Int64} (hN : 100 < N) (hi : i < 4) (hg : pGood (nI kd) (nI n) (nI z)) (hn : n ≤ 16) (hD : dOk N (L0 q) kd z) : ∃ V' I' R' tl', fm_200 N (.ref 0) (nI i) (nI kd) (nI n) (nI z) x (hp0 q) = some (.inl (some (.int 0), fx V' I' (L0 q) R' ++ tl')) ∧ (∀ j, V' 174 j = V0 174 j) ∧ (∀ y, 174 ≤ y → I' y = I0 y) ∧ tl'.length ≤ 32 ∧ am_sz tl' ≤ 3200 := by
  have hI := isI_i hi
  obtain ⟨V', I', R', tl', r1, r2, r3, r4, r5⟩ := c_200l (N := N) (a := 40 + 9 * i) (kd := kd) (z := z) (n := n) (x10 := 0) hI hn hD n 0 N (vup (vup V0 (40 + 9 * i + 2) 0 (.long x)) (40 + 9 * i) 0 (.int (nI n))) I0 R0 [] x (by omega) (by omega) (by rw [vup_ne (by omega), vup_ne (by omega)]; rfl) (by rw [vup_ne (by omega), vup_eq]) rfl (Nat.zero_le _)
  refine ⟨V', I', R', tl', ?_, fun j => by rw [r2 j, vup_ne (by omega), vup_ne (by omega)], r3, r4, r5⟩
  refine c_200h rfl (c_201v q hi) ?_
  obtain ⟨g1, g2, g3, g4, g5, g6⟩ := hg
  unfold fg_200_41
  refine ev_f g1 ?_
  refine ev_f g2 ?_
  refine ev_f g3 ?_
  refine ev_f g4 ?_
  refine ev_f g5 ?_
  refine ev_t g6 ?_
  refine ev_i rfl ?_
  have h32 : fm_32 (.ref 0) (nI n) (hp0 q) = some (.inl (none, hp0 q)) := by
    unfold fm_32 fg_32_0
    refine ev_b (a := nI 0) rfl ?_
    rw [nI_add]
    exact ev_t (nI_le (b := 600) (by omega) (by decide)) rfl
  refine ev_cV h32 ?_
  refine ev_b (a := 0) rfl ?_
  refine ev_b (show am_vR (am_pG 258 (.ref (40 + 9 * i)) (fx V0 I0 (L0 q) R0 ++ [])) = _ from i_258 hI) ?_
  refine ev_b (show am_pP 2048 (.ref (40 + 9 * i + 2)) (.long x) (fx V0 I0 (L0 q) R0 ++ []) = _ from s_put (isI_S hI) x) ?_
  refine ev_b (i_put hI (nI n)) ?_
  exact r1
