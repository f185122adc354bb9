/-! ===== the fresh objects: witness, add, front, read ===== -/
set_option maxRecDepth 100000 in
set_option maxHeartbeats 4000000 in
theorem t14 (a : Int32) : (a < 0 ∨ 15 ≤ a) ∨ ∃ k, k < 15 ∧ a = nI k := by
  by_cases c : a < 0
  · exact .inl (.inl c)
  · by_cases c2 : 15 ≤ a
    · exact .inl (.inr c2)
    · obtain ⟨k, hk, rfl⟩ := nI_of c
      exact .inr ⟨k, Nat.not_le.mp (fun h9 => c2 ((nI_leI (by decide) hk).mpr h9)), rfl⟩
set_option maxRecDepth 100000 in
set_option maxHeartbeats 4000000 in
theorem p_52 (q : rkQ) (a1 : Int32) : ∃ h', opBI (fm_299 (.ref 0) a1 (.ref 268) (hp0 q)) (fun h1 => fm_576 (.ref 174) a1 h1) vfI h' ∧ fits h' := by
  rcases t14 a1 with hn | ⟨k, hk, rfl⟩
  · refine ⟨hpT q 1, ⟨1, hpE q, 0, 0, ?_, rfl, ?_, rfl, rfl, fun e => absurd e (by decide)⟩, hpT_fits q 1⟩
    · have hz : fm_300 (.ref 0) a1 (hp0 q) = some (.inr (0, hpE q)) := by
        unfold fm_300 fg_300_0
        by_cases c : a1 < 0
        · exact ev_t c rfl
        · refine ev_f c ?_
          refine ev_b (a := .ref 166) rfl ?_
          refine ev_b (a := 15) rfl ?_
          exact ev_f (Int32.not_lt.mpr (hn.resolve_left c)) rfl
      simp only [fm_299, fg_299_0, hz]
      rfl
    · unfold fm_576 fg_576_0
      refine ev_cI (pe_327 _ _ _ _) ?_
      rw [show pv_327 a1.toInt64 0 14 = 0 from hn.elim (fun h9 => in_lo (w64lt h9)) (fun h9 => in_hi (Int64.lt_of_lt_of_le (show (14 : Int64) < Int32.toInt64 15 by decide) (w64le h9)))]
      rfl
  · refine ⟨((hp0 q).set 268 (.inl (1, 1, .inr (.inl (vp_updL (fun _ => 0) 0 0))))).set 174 (.inr (12, .int 0 :: rfs)), ⟨0, (hp0 q).set 268 (.inl (1, 1, .inr (.inl (vp_updL (fun _ => 0) 0 0)))), 0, 0, ?_, rfl, ?_, rfl, rfl, fun _ => ⟨rfl, rfl⟩⟩, fits_of szl rfl (by decide)⟩
    · have hz : fm_300 (.ref 0) (nI k) (hp0 q) = some (.inl (some (.int 0), hp0 q)) := by
        unfold fm_300 fg_300_0
        refine ev_f (nI_pos (by omega)) ?_
        refine ev_b (a := .ref 166) rfl ?_
        refine ev_b (a := 15) rfl ?_
        refine ev_t (nI_lt hk (by decide)) ?_
        refine ev_b (a := .ref 166) rfl ?_
        exact ev_b (ev_a (f := fun _ => 0) (n := 15) rfl (am_inb_n hk (by omega))) rfl
      simp only [fm_299, fg_299_0, hz]
      rfl
    · unfold fm_576 fg_576_0
      refine ev_cI (pe_327 _ _ _ _) ?_
      rw [show pv_327 (nI k).toInt64 0 14 = 1 from in_ok (w64le (a := 0) (nI_pos' (by omega))) (w64le (b := 14) (nI_le (b := 14) (by omega) (by omega)))]
      refine ev_f (by decide) ?_
      unfold fg_576_18
      refine ev_b (a := ((hp0 q).set 268 (.inl (1, 1, .inr (.inl (vp_updL (fun _ => 0) 0 0))))).set 174 (.inr (12, .int 0 :: rfs))) rfl ?_
      refine ev_b (a := 0) rfl ?_
      refine ev_t (by decide) ?_
      refine ev_b (a := .ref 254) rfl ?_
      exact ev_b (ev_a (f := fun _ => 0) (n := 15) rfl (am_inb_n hk (by omega))) rfl
/-- the same of two calls, as a test -/
def opBb (w : Option am_O) (r : am_H → Option am_O) : Bool := match w with
  | some (.inl (some (.int c), h1)) => am_pOk 12 (.ref 174) h1 && (match r h1 with
    | some (.inl (some (.int b), h')) => am_pOk 12 (.ref 174) h' && (match am_vI (am_pG 3072 (.ref 174) h') with
      | some c1 => c1 == c
      | none => false) && (!(c == 0) || (match am_pAL (.ref 268) 0 h' with
      | some o => o == b.toInt64
      | none => false)) && Nat.ble h'.length 600002 && Nat.ble (am_sz h') 7301098
    | _ => false)
  | _ => false
theorem opBb_ok {w : Option am_O} {r : am_H → Option am_O} (h : opBb w r = true) : ∃ h', opBI w r vfI h' ∧ fits h' := by
  unfold opBb at h
  split at h
  · rename_i c h1
    rw [Bool.and_eq_true] at h
    obtain ⟨a1, a2⟩ := h
    split at a2
    · rename_i b h' hr
      rw [Bool.and_eq_true, Bool.and_eq_true, Bool.and_eq_true, Bool.and_eq_true] at a2
      obtain ⟨⟨⟨⟨b1, b2⟩, b3⟩, b4⟩, b5⟩ := a2
      refine ⟨h', ⟨c, h1, b, b.toInt64, rfl, a1, hr, b1, ?_, fun c0 => ⟨?_, rfl⟩⟩, ⟨Nat.le_of_ble_eq_true b4, Nat.le_of_ble_eq_true b5⟩⟩
      · split at b2
        · rename_i c1 hc; rw [hc, eq_of_beq b2]
        · cases b2
      · rw [Bool.or_eq_true] at b3
        have b6 := b3.resolve_left (fun e => by subst c0; cases e)
        split at b6
        · rename_i o ho; rw [ho, eq_of_beq b6]
        · cases b6
    · cases a2
  · cases h
set_option maxRecDepth 100000 in
set_option maxHeartbeats 4000000 in
theorem p_1_0 : opBb (fm_30 1000 (.ref 0) 0 (.ref 268) (hp0 rkAll)) (fun h1 => fm_326 1000 (.ref 174) 0 h1) = true := by decide +kernel
set_option maxRecDepth 100000 in
set_option maxHeartbeats 4000000 in
theorem p_1_1 : opBb (fm_30 1000 (.ref 0) 1 (.ref 268) (hp0 rkAll)) (fun h1 => fm_326 1000 (.ref 174) 1 h1) = true := by decide +kernel
set_option maxRecDepth 100000 in
set_option maxHeartbeats 4000000 in
theorem p_1_2 : opBb (fm_30 1000 (.ref 0) 2 (.ref 268) (hp0 rkAll)) (fun h1 => fm_326 1000 (.ref 174) 2 h1) = true := by decide +kernel
set_option maxRecDepth 100000 in
set_option maxHeartbeats 4000000 in
theorem p_1_3 : opBb (fm_30 1000 (.ref 0) 3 (.ref 268) (hp0 rkAll)) (fun h1 => fm_326 1000 (.ref 174) 3 h1) = true := by decide +kernel
set_option maxRecDepth 100000 in
set_option maxHeartbeats 4000000 in
theorem p_1 (a1 : Int32) : ∃ h', opBI (fm_30 1000 (.ref 0) a1 (.ref 268) (hp0 rkAll)) (fun h1 => fm_326 1000 (.ref 174) a1 h1) vfI h' ∧ fits h' := by
  rcases isl a1 with (rfl | rfl | rfl | rfl) | hn
  · exact opBb_ok p_1_0
  · exact opBb_ok p_1_1
  · exact opBb_ok p_1_2
  · exact opBb_ok p_1_3
  · refine ⟨hpT rkAll 1, ⟨1, hpE rkAll, 0, 0, ?_, rfl, ?_, rfl, rfl, fun e => absurd e (by decide)⟩, hpT_fits rkAll 1⟩
    · have hz : fm_31 1000 (.ref 0) a1 (hp0 rkAll) = some (.inr (0, hpE rkAll)) := by
        unfold fm_31 fg_31_0
        by_cases c : a1 < 0
        · exact ev_t c rfl
        · refine ev_f c ?_
          exact ev_f (Int32.not_le.mpr (Int32.lt_of_lt_of_le (by decide : (3 : Int32) < 4) (hn.resolve_left c))) rfl
      simp only [fm_30, fg_30_0, hz]
      rfl
    · unfold fm_326 fg_326_0
      refine ev_cI (pe_327 _ _ _ _) ?_
      rw [show pv_327 a1.toInt64 0 3 = 0 from hn.elim (fun h9 => in_lo (w64lt h9)) (fun h9 => in_hi (Int64.lt_of_lt_of_le (show (3 : Int64) < Int32.toInt64 4 by decide) (w64le h9)))]
      rfl
/-! front -/
def ho (q : rkQ) (v : Int64) : am_H := (hp0 q).set 268 (.inl (1, 1, .inr (.inl (vp_updL (fun _ => 0) 0 v))))
def hoT (q : rkQ) (v : Int64) : am_H := (ho q v).set 174 (.inr (12, .int 0 :: rfs))
set_option maxRecDepth 100000 in
set_option maxHeartbeats 4000000 in
theorem hoT_fits (q : rkQ) (v : Int64) : fits (hoT q v) := fits_of szl rfl (by decide)
set_option maxRecDepth 100000 in
set_option maxHeartbeats 4000000 in
theorem p_38 (q : rkQ) (M : Nat) (a1 a2 : Int32) : ∃ h', opBI (fm_236 (M + 300) (.ref 0) a1 a2 (.ref 268) (hp0 q)) (fun h1 => fm_520 (M + 300) (.ref 174) a1 a2 h1) vfI h' ∧ fits h' := by
  rcases isl a1 with (rfl | rfl | rfl | rfl) | hn
  · refine ⟨hoT q (-1), ⟨0, ho q (-1), -1, -1, ?_, rfl, ?_, rfl, rfl, fun _ => ⟨rfl, rfl⟩⟩, hoT_fits q (-1)⟩
    · have hz : fm_237 (M + 300) (.ref 0) 0 a2 (hp0 q) = some (.inl (some (.int (-1)), hp0 q)) := by
        unfold fm_237 fg_237_0
        refine ev_i rfl ?_
        refine ev_cR (v := .ref 40) (h1 := hp0 q) rfl rfl ?_
        refine ev_b (a := .ref 1) rfl ?_
        refine ev_b (a := .ref 14) rfl ?_
        refine ev_i rfl ?_
        refine ev_cV (h1 := hp0 q) rfl ?_
        by_cases c : 0 ≤ a2
        · refine ev_t c ?_
          refine ev_i rfl ?_
          refine ev_cI (v := -1) (h1 := hp0 q) rfl ?_
          rfl
        · exact ev_f c rfl
      simp only [fm_236, fg_236_0, hz]
      rfl
    · show fm_520 (M + 300) (.ref 174) 0 a2 (ho q (-1)) = _
      unfold fm_520 fg_520_0
      refine ev_i rfl ?_
      refine ev_cI (v := 1) (h1 := ho q (-1)) rfl ?_
      refine ev_f (by decide) ?_
      unfold fg_520_14
      refine ev_b (a := hoT q (-1)) rfl ?_
      refine ev_b (a := 0) rfl ?_
      refine ev_t (by decide) ?_
      refine ev_i rfl ?_
      refine ev_cV (h1 := hoT q (-1)) rfl ?_
      by_cases c : 0 ≤ a2
      · refine ev_t c ?_
        refine ev_i rfl ?_
        refine ev_cI (v := -1) (h1 := hoT q (-1)) rfl ?_
        rfl
      · exact ev_f c rfl
  · refine ⟨hoT q (-1), ⟨0, ho q (-1), -1, -1, ?_, rfl, ?_, rfl, rfl, fun _ => ⟨rfl, rfl⟩⟩, hoT_fits q (-1)⟩
    · have hz : fm_237 (M + 300) (.ref 0) 1 a2 (hp0 q) = some (.inl (some (.int (-1)), hp0 q)) := by
        unfold fm_237 fg_237_0
        refine ev_i rfl ?_
        refine ev_cR (v := .ref 49) (h1 := hp0 q) rfl rfl ?_
        refine ev_b (a := .ref 1) rfl ?_
        refine ev_b (a := .ref 14) rfl ?_
        refine ev_i rfl ?_
        refine ev_cV (h1 := hp0 q) rfl ?_
        by_cases c : 0 ≤ a2
        · refine ev_t c ?_
          refine ev_i rfl ?_
          refine ev_cI (v := -1) (h1 := hp0 q) rfl ?_
          rfl
        · exact ev_f c rfl
      simp only [fm_236, fg_236_0, hz]
      rfl
    · show fm_520 (M + 300) (.ref 174) 1 a2 (ho q (-1)) = _
      unfold fm_520 fg_520_0
      refine ev_i rfl ?_
      refine ev_cI (v := 1) (h1 := ho q (-1)) rfl ?_
      refine ev_f (by decide) ?_
      unfold fg_520_14
      refine ev_b (a := hoT q (-1)) rfl ?_
      refine ev_b (a := 0) rfl ?_
      refine ev_t (by decide) ?_
      refine ev_i rfl ?_
      refine ev_cV (h1 := hoT q (-1)) rfl ?_
      by_cases c : 0 ≤ a2
      · refine ev_t c ?_
        refine ev_i rfl ?_
        refine ev_cI (v := -1) (h1 := hoT q (-1)) rfl ?_
        rfl
      · exact ev_f c rfl
  · refine ⟨hoT q (-1), ⟨0, ho q (-1), -1, -1, ?_, rfl, ?_, rfl, rfl, fun _ => ⟨rfl, rfl⟩⟩, hoT_fits q (-1)⟩
    · have hz : fm_237 (M + 300) (.ref 0) 2 a2 (hp0 q) = some (.inl (some (.int (-1)), hp0 q)) := by
        unfold fm_237 fg_237_0
        refine ev_i rfl ?_
        refine ev_cR (v := .ref 58) (h1 := hp0 q) rfl rfl ?_
        refine ev_b (a := .ref 1) rfl ?_
        refine ev_b (a := .ref 14) rfl ?_
        refine ev_i rfl ?_
        refine ev_cV (h1 := hp0 q) rfl ?_
        by_cases c : 0 ≤ a2
        · refine ev_t c ?_
          refine ev_i rfl ?_
          refine ev_cI (v := -1) (h1 := hp0 q) rfl ?_
          rfl
        · exact ev_f c rfl
      simp only [fm_236, fg_236_0, hz]
      rfl
    · show fm_520 (M + 300) (.ref 174) 2 a2 (ho q (-1)) = _
      unfold fm_520 fg_520_0
      refine ev_i rfl ?_
      refine ev_cI (v := 1) (h1 := ho q (-1)) rfl ?_
      refine ev_f (by decide) ?_
      unfold fg_520_14
      refine ev_b (a := hoT q (-1)) rfl ?_
      refine ev_b (a := 0) rfl ?_
      refine ev_t (by decide) ?_
      refine ev_i rfl ?_
      refine ev_cV (h1 := hoT q (-1)) rfl ?_
      by_cases c : 0 ≤ a2
      · refine ev_t c ?_
        refine ev_i rfl ?_
        refine ev_cI (v := -1) (h1 := hoT q (-1)) rfl ?_
        rfl
      · exact ev_f c rfl
  · refine ⟨hoT q (-1), ⟨0, ho q (-1), -1, -1, ?_, rfl, ?_, rfl, rfl, fun _ => ⟨rfl, rfl⟩⟩, hoT_fits q (-1)⟩
    · have hz : fm_237 (M + 300) (.ref 0) 3 a2 (hp0 q) = some (.inl (some (.int (-1)), hp0 q)) := by
        unfold fm_237 fg_237_0
        refine ev_i rfl ?_
        refine ev_cR (v := .ref 67) (h1 := hp0 q) rfl rfl ?_
        refine ev_b (a := .ref 1) rfl ?_
        refine ev_b (a := .ref 14) rfl ?_
        refine ev_i rfl ?_
        refine ev_cV (h1 := hp0 q) rfl ?_
        by_cases c : 0 ≤ a2
        · refine ev_t c ?_
          refine ev_i rfl ?_
          refine ev_cI (v := -1) (h1 := hp0 q) rfl ?_
          rfl
        · exact ev_f c rfl
      simp only [fm_236, fg_236_0, hz]
      rfl
    · show fm_520 (M + 300) (.ref 174) 3 a2 (ho q (-1)) = _
      unfold fm_520 fg_520_0
      refine ev_i rfl ?_
      refine ev_cI (v := 1) (h1 := ho q (-1)) rfl ?_
      refine ev_f (by decide) ?_
      unfold fg_520_14
      refine ev_b (a := hoT q (-1)) rfl ?_
      refine ev_b (a := 0) rfl ?_
      refine ev_t (by decide) ?_
      refine ev_i rfl ?_
      refine ev_cV (h1 := hoT q (-1)) rfl ?_
      by_cases c : 0 ≤ a2
      · refine ev_t c ?_
        refine ev_i rfl ?_
        refine ev_cI (v := -1) (h1 := hoT q (-1)) rfl ?_
        rfl
      · exact ev_f c rfl
  · refine ⟨hpT q 1, ⟨1, hpE q, 0, 0, ?_, rfl, ?_, rfl, rfl, fun e => absurd e (by decide)⟩, hpT_fits q 1⟩
    · have hz : fm_237 (M + 300) (.ref 0) a1 a2 (hp0 q) = some (.inr (2, hpE q)) := by
        simp only [fm_237, fg_237_0, t201n hn]
        rfl
      simp only [fm_236, fg_236_0, hz]
      rfl
    · simp only [fm_520, fg_520_0, fg_520_14, t489n hn]
      rfl
