/-! ===== search, the fresh objects ===== -/
theorem t15 (a : Int32) : (a < 1 ∨ 5 < a) ∨ ∃ n, 1 ≤ n ∧ n ≤ 5 ∧ a = nI n := by
  by_cases c : a < 1
  · exact .inl (.inl c)
  · by_cases c2 : 5 < a
    · exact .inl (.inr c2)
    · obtain ⟨k, hk, rfl⟩ := nI_of (x := a) (fun h9 => c (Int32.lt_trans h9 (by decide)))
      exact .inr ⟨k, Nat.not_lt.mp (fun h9 => c ((nI_ltI hk (by decide)).mpr h9)), Nat.not_lt.mp (fun h9 => c2 ((nI_ltI (by decide) hk).mpr h9)), rfl⟩
def V46 : Nat → Nat → Value := vup (vup (vup V0 76 7 (.ref 14)) 76 6 (.int 0)) 76 8 (.int 1)
set_option maxRecDepth 100000 in
set_option maxHeartbeats 4000000 in
theorem c_262_1 (q : rkQ) (X : am_X) (M : Nat) : fm_262 X (M + 300) (.ref 76) (.ref 14) 1 (hp0 q) = some (.inl (some (.int 0), fx V46 I0 (L0 q) R0 ++ [])) := rfl
set_option maxRecDepth 100000 in
set_option maxHeartbeats 4000000 in
theorem c_262_2 (q : rkQ) (X : am_X) (M : Nat) : fm_262 X (M + 300) (.ref 76) (.ref 14) 2 (hp0 q) = some (.inl (some (.int 0), fx V46 I0 (L0 q) R0 ++ [])) := rfl
set_option maxRecDepth 100000 in
set_option maxHeartbeats 4000000 in
theorem c_262_3 (q : rkQ) (X : am_X) (M : Nat) : fm_262 X (M + 300) (.ref 76) (.ref 14) 3 (hp0 q) = some (.inl (some (.int 0), fx V46 I0 (L0 q) R0 ++ [])) := rfl
set_option maxRecDepth 100000 in
set_option maxHeartbeats 4000000 in
theorem c_262_4 (q : rkQ) (X : am_X) (M : Nat) : fm_262 X (M + 300) (.ref 76) (.ref 14) 4 (hp0 q) = some (.inl (some (.int 0), fx V46 I0 (L0 q) R0 ++ [])) := rfl
set_option maxRecDepth 100000 in
set_option maxHeartbeats 4000000 in
theorem c_262_5 (q : rkQ) (X : am_X) (M : Nat) : fm_262 X (M + 300) (.ref 76) (.ref 14) 5 (hp0 q) = some (.inl (some (.int 0), fx V46 I0 (L0 q) R0 ++ [])) := rfl
theorem c_262 (q : rkQ) (X : am_X) (M n : Nat) (h1 : 1 ≤ n) (h : n ≤ 5) : fm_262 X (M + 300) (.ref 76) (.ref 14) (nI n) (hp0 q) = some (.inl (some (.int 0), fx V46 I0 (L0 q) R0 ++ [])) := by
  rcases (by omega : n = 1 ∨ n = 2 ∨ n = 3 ∨ n = 4 ∨ n = 5) with rfl | rfl | rfl | rfl | rfl
  · exact c_262_1 q X M
  · exact c_262_2 q X M
  · exact c_262_3 q X M
  · exact c_262_4 q X M
  · exact c_262_5 q X M
def V46b : Nat → Nat → Value := vup (vup (vup (vup (vup (vup (vup V46 76 3 (.ref 167)) 167 1 (.int 0)) 167 2 (.int 0)) 167 3 (.int 0)) 167 4 (.int 2)) 167 3 (.int (nI 1))) 0 1 (.int (nI (0 + 1)))
def I46 : Nat → Nat → Int32 := iup I0 168 (wrt (I0 168) 0 (un 4 1 0))
def T46 : am_H := [] ++ [.inr (3, [.ref (269 + ([] : am_H).length + 1), .int 0, .int 0, .int (nI 1), .int (nI 2), .int 1, .int (-1), .int (-1), .int (-1), .int (-1), .long 0]), .inl (0, 1 * 2, .inl (va_cpy ((iup I0 168 (wrt (I0 168) 0 (un 4 1 0))) 168) (fun _ => 0) 0 0 (1 * 2)))]
set_option maxRecDepth 100000 in
set_option maxHeartbeats 4000000 in
theorem c_261 {X : am_X} {M n : Nat} (n1 : 1 ≤ n) (n2 : n ≤ 5) : fm_261 X (M + 300) (.ref 0) (nI n) (hp0 (tW, tT)) = some (.inl (some (.int (nI 0)), fx V46b I46 (L0 (tW, tT)) (rup R0 1 (va_up (R0 1) 0 (some (269 + ([] : am_H).length)))) ++ T46)) := by
  have q1 := x_91 (V := V46) (I := I0) (L := L0 (tW, tT)) (R := R0) (tl := []) (N := M + 300) (c := 4) (n := 1) (P := 0) (by omega) rfl rfl (by omega) (by omega) (by omega) (by decide)
  have q2 := x_59 (V := vup (vup (vup (vup (vup (vup V46 76 3 (.ref 167)) 167 1 (.int 0)) 167 2 (.int 0)) 167 3 (.int 0)) 167 4 (.int 2)) 167 3 (.int (nI 1))) (I := iup I0 168 (wrt (I0 168) 0 (un 4 1 0))) (L := L0 (tW, tT)) (R := R0) (tl := []) (s := 1) (wd := 2) (m := 0) (kd := 0) (ln := 0) rfl rfl rfl rfl (by decide) (by omega) (by omega) (by omega) rfl (by omega) 1 (-1) (-1) (-1) (-1) 0
  unfold fm_261 fg_261_0
  refine ev_f (nI_nlt (b := 1) n1 (by omega)) ?_
  refine ev_t (nI_le (b := 5) n2 (by decide)) ?_
  refine ev_i rfl ?_
  refine ev_cV (h1 := hp0 (tW, tT)) rfl ?_
  refine ev_b (a := .ref 76) rfl ?_
  refine ev_b (a := .ref 14) rfl ?_
  refine ev_i rfl ?_
  refine ev_cI (c_262 (tW, tT) X M n n1 n2) ?_
  refine ev_t (by decide) ?_
  refine ev_b (a := .ref 76) rfl ?_
  refine ev_b (a := .ref 76) rfl ?_
  refine ev_b (a := 1) rfl ?_
  refine ev_b (a := .ref 167) rfl ?_
  refine ev_i rfl ?_
  refine ev_cV (show fm_91 (M + 300) (.ref 76) 4 1 (Int32.toInt64 0) (.ref 167) (fx V46 I0 (L0 (tW, tT)) R0 ++ []) = _ from q1) ?_
  refine ev_b (a := .ref 167) rfl ?_
  refine ev_i rfl ?_
  exact ev_cI q2 rfl
set_option maxRecDepth 100000 in
set_option maxHeartbeats 4000000 in
theorem r_533 {V : Nat → Nat → Value} {I : Nat → Nat → Int32} {L : Nat → Nat → Int64} {R : Nat → Nat → Option Nat} {tl : am_H} {N m k0 : Nat} {nt : Int32} (hN : 100 < N) (h80 : V 174 80 = .int 0) (l4 : L 224 = fun _ => 0) (l5 : L 225 = fun _ => 0) (hm : V 174 1 = .int (nI m)) (hm6 : m < 600) (h15 : V 174 15 = .int nt) (h88 : V 174 88 = .int (nI k0)) (h31 : V 174 31 = .int 0) {n : Nat} (n1 : 1 ≤ n) (n2 : n ≤ 5) :
    ∃ V' I' L', fm_533 N (.ref 174) (nI n) (fx V I L R ++ tl) = some (.inl (some (.int (nI m)), fx V' I' L' R ++ tl)) ∧ V' 174 0 = .int 0 ∧ L' 268 = L 268 := by
  obtain ⟨Y1, q⟩ := x_377 (V := vup V 174 0 (.int 0)) (I := I) (L := L) (R := R) (tl := tl) (N := N) (by omega) h80 l4 l5
  have h383 : fm_383 (.ref 174) 2 0 1 (fx (vup (vup V 174 0 (.int 0)) 174 80 (.int 1)) I (lup (lup (lup L 224 tC) 225 tS) 226 Y1) R ++ tl) = some (.inl (some (.long (lN (uT 4 1))), fx (vup (vup V 174 0 (.int 0)) 174 80 (.int 1)) I (lup (lup (lup L 224 tC) 225 tS) 226 Y1) R ++ tl)) := x_383 (w := 2) (t := 0) (n := 1) rfl (by omega) (by omega) (by omega)
  have hu : uT 4 1 = 14 := by decide
  have hin : pv_327 (nI n).toInt64 1 5 = 1 := in_ok (w64le (a := 1) (nI_le (a := 1) n1 (by omega))) (w64le (b := 5) (nI_le (b := 5) n2 (by decide)))
  obtain ⟨c', d', e', p', g⟩ := g_386 (V := vup (vup (vup V 174 0 (.int 0)) 174 80 (.int 1)) 174 13 (.int 0)) (I := I) (L := lup (lup (lup L 224 tC) 225 tS) 226 Y1) (R := R) (tl := tl) rfl rfl rfl (N := N) (w := 2) (t := 0) (n := 1) (P := 0) (s0 := 0) (k0 := k0) (a := I 186) (b := I 187) (c := I 227) (d := I 228) (e := I 229) (p := L 230) (by omega) (by omega) (by omega) (by omega) (by omega) (by decide) (by omega)
  have b := x_356 (V := vup (vup (vup (vup (vup V 174 0 (.int 0)) 174 80 (.int 1)) 174 13 (.int 0)) 174 14 (.int (nI (0 + 1)))) 174 88 (.int (nI 0))) (I := iup (iup (iup (iup (iup I 186 (wA (I 186) 0 (un (2 * 2 + 0) 1 0))) 187 (wB (I 187) 0 (un (2 * 2 + 0) 1 0))) 227 c') 228 d') 229 e') (L := lup (lup (lup (lup L 224 tC) 225 tS) 226 Y1) 230 p') (R := R) (tl := tl) (N := N) (s := 0 + 1) (m := m) (kd := 0) (nt := nt) (by show V 174 1 = _; exact hm) rfl rfl (by show V 174 15 = _; exact h15) hm6 (by omega) (by omega) 1 (-1) (-1) (-1) (-1) 0
  obtain ⟨V', I', L', hb, hv, hl⟩ : ∃ V' I' L', fm_356 N (.ref 174) 1 (-1) (-1) (-1) (-1) 0 (gS (vup (vup (vup V 174 0 (.int 0)) 174 80 (.int 1)) 174 13 (.int 0)) I (lup (lup (lup L 224 tC) 225 tS) 226 Y1) R tl (0 + 1) 0 (wA (I 186) 0 (un (2 * 2 + 0) 1 0)) (wB (I 187) 0 (un (2 * 2 + 0) 1 0)) c' d' e' p') = some (.inl (some (.int (nI m)), fx V' I' L' R ++ tl)) ∧ V' 174 0 = .int 0 ∧ L' 268 = L 268 := ⟨_, _, _, b, rfl, rfl⟩
  refine ⟨V', I', L', ?_, hv, hl⟩
  obtain ⟨N, rfl⟩ : ∃ k, N = k + 1 := ⟨N - 1, by omega⟩
  unfold fm_533 fg_533_0
  refine ev_cI (pe_327 _ _ _ _) ?_
  rw [hin]
  refine ev_t (by decide) ?_
  refine ev_b (a := nI m) (by show am_vI (some (V 174 1)) = _; rw [hm]; rfl) ?_
  refine ev_t (fun e => absurd ((nI_eq (b := 600) (by omega) (by decide)).mp e) (by omega)) ?_
  unfold fg_533_32
  refine ev_b (a := fx (vup V 174 0 (.int 0)) I L R ++ tl) (ev_p rfl rfl rfl rfl) ?_
  refine ev_b (a := 0) rfl ?_
  refine ev_t (by decide) ?_
  refine ev_i rfl ?_
  refine ev_cV q ?_
  rw [fg_533_50]
  refine ev_f (nI_nlt (b := 1) n1 (by omega)) ?_
  rw [fg_533_57]
  refine ev_i rfl ?_
  refine ev_cL h383 ?_
  rw [hu]
  refine ev_f (by decide) ?_
  refine ev_b (a := fx (vup (vup (vup V 174 0 (.int 0)) 174 80 (.int 1)) 174 13 (.int 0)) I (lup (lup (lup L 224 tC) 225 tS) 226 Y1) R ++ tl) (ev_p rfl rfl rfl rfl) ?_
  have hgs : fx (vup (vup (vup (vup V 174 0 (.int 0)) 174 80 (.int 1)) 174 13 (.int 0)) 174 14 (.int 0)) I (lup (lup (lup L 224 tC) 225 tS) 226 Y1) R ++ tl = gS (vup (vup (vup V 174 0 (.int 0)) 174 80 (.int 1)) 174 13 (.int 0)) I (lup (lup (lup L 224 tC) 225 tS) 226 Y1) R tl 0 k0 (I 186) (I 187) (I 227) (I 228) (I 229) (L 230) := by
    have e88 : fx (vup (vup (vup (vup V 174 0 (.int 0)) 174 80 (.int 1)) 174 13 (.int 0)) 174 14 (.int 0)) I (lup (lup (lup L 224 tC) 225 tS) 226 Y1) R ++ tl = fx (vup (vup (vup (vup (vup V 174 0 (.int 0)) 174 80 (.int 1)) 174 13 (.int 0)) 174 14 (.int (nI 0))) 174 88 (V 174 88)) (iup (iup (iup (iup (iup I 186 (I 186)) 187 (I 187)) 227 (I 227)) 228 (I 228)) 229 (I 229)) (lup (lup (lup (lup L 224 tC) 225 tS) 226 Y1) 230 (L 230)) R ++ tl := rfl
    rw [e88, h88]
    rfl
  refine ev_b (a := fx (vup (vup (vup (vup V 174 0 (.int 0)) 174 80 (.int 1)) 174 13 (.int 0)) 174 14 (.int 0)) I (lup (lup (lup L 224 tC) 225 tS) 226 Y1) R ++ tl) (ev_p rfl rfl rfl rfl) ?_
  rw [hgs]
  refine ev_i rfl ?_
  refine ev_cV g ?_
  refine ev_i rfl ?_
  have h534 : fm_534 (N + 1) (.ref 174) (gS (vup (vup (vup V 174 0 (.int 0)) 174 80 (.int 1)) 174 13 (.int 0)) I (lup (lup (lup L 224 tC) 225 tS) 226 Y1) R tl (0 + 1) 0 (wA (I 186) 0 (un (2 * 2 + 0) 1 0)) (wB (I 187) 0 (un (2 * 2 + 0) 1 0)) c' d' e' p') = some (.inl (some (.int 1), gS (vup (vup (vup V 174 0 (.int 0)) 174 80 (.int 1)) 174 13 (.int 0)) I (lup (lup (lup L 224 tC) 225 tS) 226 Y1) R tl (0 + 1) 0 (wA (I 186) 0 (un (2 * 2 + 0) 1 0)) (wB (I 187) 0 (un (2 * 2 + 0) 1 0)) c' d' e' p')) := by
    unfold fm_534 fg_534_0
    rw [fg_534_4]
    refine ev_b (a := 0) (by show am_vI (some (V 174 31)) = _; rw [h31]; rfl) ?_
    exact ev_t (by decide) rfl
  refine ev_cI h534 ?_
  refine ev_f (by decide) ?_
  refine ev_i rfl ?_
  exact ev_cI hb rfl
set_option maxRecDepth 100000 in
set_option maxHeartbeats 4000000 in
theorem p_46 {X : am_X} (M : Nat) (a1 : Int32) : ∃ h', opBI (fm_260 X (M + 300) (.ref 0) a1 (.ref 268) (hp0 (tW, tT))) (fun h1 => fm_533 (M + 300) (.ref 174) a1 h1) vfI h' ∧ fits h' := by
  rcases t15 a1 with hn | ⟨n, n1, n2, rfl⟩
  · refine ⟨hpT (tW, tT) 1, ⟨1, hpE (tW, tT), 0, 0, ?_, rfl, ?_, rfl, rfl, fun e => absurd e (by decide)⟩, hpT_fits (tW, tT) 1⟩
    · have hz : fm_261 X (M + 300) (.ref 0) a1 (hp0 (tW, tT)) = some (.inr (0, hpE (tW, tT))) := by
        unfold fm_261 fg_261_0
        by_cases c : a1 < 1
        · exact ev_t c rfl
        · refine ev_f c ?_
          exact ev_f (Int32.not_le.mpr (hn.resolve_left c)) rfl
      simp only [fm_260, fg_260_0, hz]
      rfl
    · unfold fm_533 fg_533_0
      refine ev_cI (pe_327 _ _ _ _) ?_
      rw [show pv_327 a1.toInt64 1 5 = 0 from hn.elim (fun h9 => in_lo (w64lt (b := 1) h9)) (fun h9 => in_hi (w64lt (a := 5) h9))]
      rfl
  · obtain ⟨V', I', L', k1, k2, k3⟩ := r_533 (V := V46b) (I := I46) (L := lup (L0 (tW, tT)) 268 (vp_updL (L0 (tW, tT) 268) 0 (Int32.toInt64 (nI 0)))) (R := rup R0 1 (va_up (R0 1) 0 (some (269 + ([] : am_H).length)))) (tl := T46) (N := M + 300) (m := 0) (k0 := 0) (nt := 0) (by omega) rfl rfl rfl rfl (by omega) rfl rfl rfl n1 n2
    refine ⟨_, ⟨0, fx V46b I46 (lup (L0 (tW, tT)) 268 (vp_updL (L0 (tW, tT) 268) 0 (Int32.toInt64 (nI 0)))) (rup R0 1 (va_up (R0 1) 0 (some (269 + ([] : am_H).length)))) ++ T46, nI 0, Int32.toInt64 (nI 0), ?_, rfl, k1, rfl, ?_, fun _ => ⟨?_, rfl⟩⟩, ?_⟩
    · simp only [fm_260, fg_260_0, c_261 n1 n2]
      rfl
    · show am_vI (some (V' 174 0)) = _
      rw [k2]
      rfl
    · refine (ev_aL (f := L' 268) (n := 1) rfl rfl).trans ?_
      rw [k3]
      rfl
    · exact fits_fx (by show 2 ≤ 1000; omega) (by show am_N 3 + (1 * 2 + 0) ≤ 1000000; decide)
