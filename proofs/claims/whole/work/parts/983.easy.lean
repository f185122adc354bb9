/-! ===== calls that only read, over what is kept ===== -/
theorem inv_mk {V : Nat → Nat → Value} {I : Nat → Nat → Int32} {L : Nat → Nat → Int64} {R : Nat → Nat → Option Nat} {tl : am_H} {n p j : Nat} (hr : rel V I L R tl n p) (hm : room tl n p j) : invW j (fx V I L R ++ tl) := ⟨V, I, L, R, tl, n, p, rfl, hr, hm⟩
theorem fI_big {a : Nat} (h : 175 ≤ a) : fI a = [] := by
  unfold fI
  split <;> first | rfl | omega
theorem fL_big {a : Nat} (h : 175 ≤ a) : fL a = [] := by
  unfold fL
  split <;> first | rfl | omega
def isIn : Value → Bool
  | .int _ => true
  | _ => false
def isLo : Value → Bool
  | .long _ => true
  | _ => false
theorem isIn_s {v : Value} (h : isIn v = true) : ∃ x, v = .int x := by
  cases v <;> first | exact ⟨_, rfl⟩ | cases h
theorem isLo_s {v : Value} (h : isLo v = true) : ∃ x, v = .long x := by
  cases v <;> first | exact ⟨_, rfl⟩ | cases h
theorem wt_0i : ∀ a, a < 175 → (fI a).all (fun j => isIn (V0 a j)) = true := by decide +kernel
theorem wt_0l : ∀ a, a < 175 → (fL a).all (fun j => isLo (V0 a j)) = true := by decide +kernel
theorem wt_0 : wt V0 := by
  refine ⟨fun a j hj => ?_, fun a j hj => ?_⟩
  · by_cases c : a < 175
    · exact isIn_s (List.all_eq_true.mp (wt_0i a c) j hj)
    · rw [fI_big (by omega)] at hj; cases hj
  · by_cases c : a < 175
    · exact isLo_s (List.all_eq_true.mp (wt_0l a c) j hj)
    · rw [fL_big (by omega)] at hj; cases hj
set_option maxRecDepth 100000 in
set_option maxHeartbeats 4000000 in
theorem rel_0 : rel V0 I0 (L0 (tW, tT)) R0 [] 0 0 := by
  refine ⟨⟨by omega, rfl, rfl⟩, fun b hb => absurd hb (by omega), ⟨0, by omega, rfl, rfl, fun j hj => absurd hj (by omega)⟩, ⟨0, by omega, rfl, rfl, fun j hj => absurd hj (by omega)⟩, ⟨0, by omega, rfl, rfl, fun i hi => absurd hi (by omega), fun i _ _ => rfl⟩, ⟨200, 1, 3, 30, 0, by omega, by omega, by omega, by omega, by omega, by omega, by omega, rfl, rfl, rfl, rfl, rfl, rfl, rfl, rfl, rfl, rfl, rfl, rfl⟩, ⟨⟨0, 0, by omega, rfl, rfl, rfl, fun k hk => absurd hk (by omega)⟩, ⟨0, 0, by omega, rfl, rfl, rfl, fun k hk => absurd hk (by omega)⟩, ⟨0, 0, by omega, rfl, rfl, rfl, fun k hk => absurd hk (by omega)⟩, ⟨0, 0, by omega, rfl, rfl, rfl, fun k hk => absurd hk (by omega)⟩⟩, ⟨0, 0, rfl, rfl, rfl, rfl⟩, ⟨fun j _ => rfl, fun j _ _ => rfl, fun k _ => ⟨0, by omega, rfl, fun _ _ _ => rfl⟩, fun b hb => absurd hb (by omega)⟩, ⟨0, by omega, rfl, rfl, fun k hk => absurd hk (by omega)⟩, ⟨rfl, rfl, Or.inl ⟨rfl, rfl, rfl⟩⟩, ⟨by omega, fun k hk => absurd hk (by omega), ⟨fun k _ => rfl, fun k k' hk => absurd hk (by omega)⟩, ⟨fun k => k, by decide, fun i j _ _ e => e⟩⟩, wt_0⟩
theorem inv_0 : invW 0 (hp0 (tW, tT)) := ⟨V0, I0, L0 (tW, tT), R0, [], 0, 0, by rw [List.append_nil]; exact hp0_fx (tW, tT), rel_0, ⟨Nat.le_refl _, Nat.le_refl _⟩⟩
theorem dich (a : Int32) {n : Nat} (hn : n < 2 ^ 31) : (a < 0 ∨ nI n ≤ a) ∨ ∃ b, b < n ∧ a = nI b := by
  by_cases c : a < 0
  · exact .inl (.inl c)
  · obtain ⟨k, hk, rfl⟩ := nI_of c
    by_cases d : k < n
    · exact .inr ⟨k, d, rfl⟩
    · exact .inl (.inr (nI_le (by omega) hk))
theorem in_n {b n : Nat} (h : b < n) (hn : n ≤ 100000) : pv_327 (nI b).toInt64 0 ((nI n).toInt64 - 1) = 1 := by
  rw [nI_l (by omega), nI_l (by omega), show lN n - 1 = lN (n - 1) from lN_sub (b := 1) (by omega)]
  exact in_ok ((lN_le (a := 0) (by omega) (by omega)).mpr (by omega)) ((lN_le (by omega) (by omega)).mpr (by omega))
theorem in_b {a : Int32} {n : Nat} (hn : n ≤ 100000) (h : a < 0 ∨ nI n ≤ a) : pv_327 a.toInt64 0 ((nI n).toInt64 - 1) = 0 := by
  rcases h with h | h
  · exact in_lo (w64lt h)
  · refine in_hi ?_
    have k := w64le h
    rw [nI_l (by omega)] at k ⊢
    by_cases c : n = 0
    · subst c
      exact Int64.lt_of_lt_of_le (by decide) k
    · rw [show lN n - 1 = lN (n - 1) from lN_sub (b := 1) (by omega)]
      exact Int64.lt_of_lt_of_le ((lN_lt (by omega) (by omega)).mpr (by omega)) k
set_option maxRecDepth 100000 in
set_option maxHeartbeats 4000000 in
theorem u_4 {V : Nat → Nat → Value} {I : Nat → Nat → Int32} {L : Nat → Nat → Int64} {R : Nat → Nat → Option Nat} {tl : am_H} {n p j : Nat} (hr : rel V I L R tl n p) (hm : room tl n p j) : ∃ h', opA (fm_23 (.ref 0) (fx V I L R ++ tl)) (fun h1 => fm_369 (.ref 174) h1) h' ∧ invW (j + 1) h' := by
  obtain ⟨b1, b2, b3⟩ := hr.1
  refine ⟨_, ⟨nI n, (fx V I L R ++ tl), ?_, rfl, ?_⟩, inv_mk (rel_thr 0 hr) (room_up hm)⟩
  · unfold fm_23 fg_23_0
    exact ev_b (rdI b2) rfl
  · show fm_369 (.ref 174) (fx V I L R ++ tl) = _
    unfold fm_369 fg_369_0
    exact ev_b qp_174_0 (ev_b (rdI b3) rfl)
set_option maxRecDepth 100000 in
set_option maxHeartbeats 4000000 in
theorem u_15 {V : Nat → Nat → Value} {I : Nat → Nat → Int32} {L : Nat → Nat → Int64} {R : Nat → Nat → Option Nat} {tl : am_H} {n p j : Nat} (hr : rel V I L R tl n p) (hm : room tl n p j) : ∃ h', opA (fm_25 (.ref 0) (fx V I L R ++ tl)) (fun h1 => fm_399 (.ref 174) h1) h' ∧ invW (j + 1) h' := by
  obtain ⟨m, b1, b2, b3, -⟩ := hr.2.2.2.1
  refine ⟨_, ⟨nI m, (fx V I L R ++ tl), ?_, rfl, ?_⟩, inv_mk (rel_thr 0 hr) (room_up hm)⟩
  · unfold fm_25 fg_25_0
    exact ev_b (a := Value.ref 14) rfl (ev_b (rdI b2) rfl)
  · show fm_399 (.ref 174) (fx V I L R ++ tl) = _
    unfold fm_399 fg_399_0
    exact ev_b qp_174_0 (ev_b (rdI b3) rfl)
set_option maxRecDepth 100000 in
set_option maxHeartbeats 4000000 in
theorem u_19 {V : Nat → Nat → Value} {I : Nat → Nat → Int32} {L : Nat → Nat → Int64} {R : Nat → Nat → Option Nat} {tl : am_H} {n p j : Nat} (hr : rel V I L R tl n p) (hm : room tl n p j) : ∃ h', opA (fm_26 (.ref 0) (fx V I L R ++ tl)) (fun h1 => fm_422 (.ref 174) h1) h' ∧ invW (j + 1) h' := by
  obtain ⟨x, y, b1, b2, b3, b4⟩ := hr.2.2.2.2.2.2.2.1
  refine ⟨_, ⟨x, (fx V I L R ++ tl), ?_, rfl, ?_⟩, inv_mk (rel_thr 0 hr) (room_up hm)⟩
  · unfold fm_26 fg_26_0
    exact ev_b (rdI b1) rfl
  · show fm_422 (.ref 174) (fx V I L R ++ tl) = _
    unfold fm_422 fg_422_0
    exact ev_b qp_174_0 (ev_b (rdI b2) rfl)
set_option maxRecDepth 100000 in
set_option maxHeartbeats 4000000 in
theorem u_20 {V : Nat → Nat → Value} {I : Nat → Nat → Int32} {L : Nat → Nat → Int64} {R : Nat → Nat → Option Nat} {tl : am_H} {n p j : Nat} (hr : rel V I L R tl n p) (hm : room tl n p j) : ∃ h', opA (fm_27 (.ref 0) (fx V I L R ++ tl)) (fun h1 => fm_423 (.ref 174) h1) h' ∧ invW (j + 1) h' := by
  obtain ⟨x, y, b1, b2, b3, b4⟩ := hr.2.2.2.2.2.2.2.1
  refine ⟨_, ⟨y, (fx V I L R ++ tl), ?_, rfl, ?_⟩, inv_mk (rel_thr 0 hr) (room_up hm)⟩
  · unfold fm_27 fg_27_0
    exact ev_b (rdI b3) rfl
  · show fm_423 (.ref 174) (fx V I L R ++ tl) = _
    unfold fm_423 fg_423_0
    exact ev_b qp_174_0 (ev_b (rdI b4) rfl)
set_option maxRecDepth 100000 in
set_option maxHeartbeats 4000000 in
theorem u_48 {V : Nat → Nat → Value} {I : Nat → Nat → Int32} {L : Nat → Nat → Int64} {R : Nat → Nat → Option Nat} {tl : am_H} {n p j : Nat} (hr : rel V I L R tl n p) (hm : room tl n p j) : ∃ h', opA (fm_28 (.ref 0) (fx V I L R ++ tl)) (fun h1 => fm_553 (.ref 174) h1) h' ∧ invW (j + 1) h' := by
  obtain ⟨m, b1, b2, b3, -⟩ := hr.2.2.2.2.2.2.2.2.2.1
  refine ⟨_, ⟨nI m, (fx V I L R ++ tl), ?_, rfl, ?_⟩, inv_mk (rel_thr 0 hr) (room_up hm)⟩
  · unfold fm_28 fg_28_0
    exact ev_b (a := Value.ref 118) rfl (ev_b (rdI b2) rfl)
  · show fm_553 (.ref 174) (fx V I L R ++ tl) = _
    unfold fm_553 fg_553_0
    exact ev_b qp_174_0 (ev_b (rdI b3) rfl)
/-! row(k, what) -/
set_option maxRecDepth 100000 in
set_option maxHeartbeats 4000000 in
theorem u_49 {V : Nat → Nat → Value} {I : Nat → Nat → Int32} {L : Nat → Nat → Int64} {R : Nat → Nat → Option Nat} {tl : am_H} {n p j : Nat} (hr : rel V I L R tl n p) (hm : room tl n p j) (a1 a2 : Int32) : ∃ h', opA (fm_29 (.ref 0) a1 a2 (fx V I L R ++ tl)) (fun h1 => fm_554 (.ref 174) a1 a2 h1) h' ∧ invW (j + 1) h' := by
  obtain ⟨m, b1, b2, b3, b4⟩ := hr.2.2.2.2.2.2.2.2.2.1
  have rf : ∀ v : Int32, (∀ w, w = pv_327 a1.toInt64 0 ((nI m).toInt64 - 1) → (if ¬ w = 0 then (if ¬ a2 = 0 then (if ¬ a2 = 1 then (fg_554_51 ((-1)) (fx (vup V 174 0 (.int 0)) I L R ++ tl)) else ((am_vR (am_pG 3189 (.ref 174) (fx (vup V 174 0 (.int 0)) I L R ++ tl))).bind fun v11 => ((am_pA 0 v11 a1 (fx (vup V 174 0 (.int 0)) I L R ++ tl)).bind fun v13 => (fg_554_51 v13 (fx (vup V 174 0 (.int 0)) I L R ++ tl))))) else ((am_vR (am_pG 3188 (.ref 174) (fx (vup V 174 0 (.int 0)) I L R ++ tl))).bind fun v15 => ((am_pA 0 v15 a1 (fx (vup V 174 0 (.int 0)) I L R ++ tl)).bind fun v17 => (fg_554_51 v17 (fx (vup V 174 0 (.int 0)) I L R ++ tl))))) else some (.inl (some (.int (-1)), (fx (vup V 174 0 (.int 0)) I L R ++ tl)))) = some (.inl (some (.int v), fx (vup V 174 0 (.int 0)) I L R ++ tl))) → fm_554 (.ref 174) a1 a2 (fx V I L R ++ tl) = some (.inl (some (.int v), fx (vup V 174 0 (.int 0)) I L R ++ tl)) := fun v hv => by
    unfold fm_554 fg_554_0
    exact ev_b qp_174_0 (ev_b (rdI b3) (ev_cI (pe_327 _ _ _ _) (hv _ rfl)))
  rcases dich a1 (n := m) (by omega) with hn | ⟨k, hk, rfl⟩
  · refine ⟨_, ⟨-1, (fx V I L R ++ tl), ?_, rfl, rf (-1) (fun w hw => ?_)⟩, inv_mk (rel_thr 0 hr) (room_up hm)⟩
    · unfold fm_29 fg_29_0
      by_cases c : a1 < 0
      · exact ev_t c rfl
      · exact ev_f c (ev_b (a := Value.ref 118) rfl (ev_b (rdI b2) (ev_t (hn.resolve_left c) rfl)))
    · rw [hw, in_b (by omega) hn]
      exact ev_f (fun e => e rfl) rfl
  · obtain ⟨e1, e2, -⟩ := b4 k hk
    have cf : ∀ v : Int32, (if a2 < 0 then (fg_29_24 (fx V I L R ++ tl)) else (if a2 ≤ 1 then (if ¬ a2 = 0 then ((am_vR (am_pG 2824 (.ref 0) (fx V I L R ++ tl))).bind fun v10 => ((am_vR (am_pG 1281 v10 (fx V I L R ++ tl))).bind fun v12 => ((am_pA 0 v12 (nI k) (fx V I L R ++ tl)).bind fun v14 => (fg_29_51 v14 (fx V I L R ++ tl))))) else ((am_vR (am_pG 2824 (.ref 0) (fx V I L R ++ tl))).bind fun v16 => ((am_vR (am_pG 1280 v16 (fx V I L R ++ tl))).bind fun v18 => ((am_pA 0 v18 (nI k) (fx V I L R ++ tl)).bind fun v20 => (fg_29_51 v20 (fx V I L R ++ tl)))))) else (fg_29_24 (fx V I L R ++ tl)))) = some (.inl (some (.int v), (fx V I L R ++ tl))) → fm_29 (.ref 0) (nI k) a2 (fx V I L R ++ tl) = some (.inl (some (.int v), (fx V I L R ++ tl))) := fun v hv => by
      unfold fm_29 fg_29_0
      exact ev_f (nI_pos (by omega)) (ev_b (a := Value.ref 118) rfl (ev_b (rdI b2) (ev_f (nI_ge hk (by omega)) hv)))
    have in1 := in_n hk (by omega)
    by_cases c0 : a2 = 0
    · subst c0
      refine ⟨_, ⟨I 119 k, (fx V I L R ++ tl), cf _ ?_, rfl, rf _ (fun w hw => ?_)⟩, inv_mk (rel_thr 0 hr) (room_up hm)⟩
      · exact ev_f (by decide) (ev_t (by decide) (ev_f (fun e => e rfl) (ev_b (a := Value.ref 118) rfl (ev_b (a := Value.ref 119) rfl (ev_b (qa_119 (by omega)) rfl)))))
      · rw [hw, in1, e1]
        exact ev_t (by decide) (ev_f (fun e => e rfl) (ev_b (a := Value.ref 248) rfl (ev_b (qa_248 (by omega)) rfl)))
    · by_cases c1 : a2 = 1
      · subst c1
        refine ⟨_, ⟨I 120 k, (fx V I L R ++ tl), cf _ ?_, rfl, rf _ (fun w hw => ?_)⟩, inv_mk (rel_thr 0 hr) (room_up hm)⟩
        · exact ev_f (by decide) (ev_t (by decide) (ev_t c0 (ev_b (a := Value.ref 118) rfl (ev_b (a := Value.ref 120) rfl (ev_b (qa_120 (by omega)) rfl)))))
        · rw [hw, in1, e2]
          exact ev_t (by decide) (ev_t c0 (ev_f (fun e => e rfl) (ev_b (a := Value.ref 249) rfl (ev_b (qa_249 (by omega)) rfl))))
      · refine ⟨_, ⟨-1, (fx V I L R ++ tl), cf _ ?_, rfl, rf _ (fun w hw => ?_)⟩, inv_mk (rel_thr 0 hr) (room_up hm)⟩
        · by_cases d : a2 < 0
          · exact ev_t d rfl
          · refine ev_f d (ev_f (fun e => ?_) rfl)
            obtain ⟨y, hy, rfl⟩ := nI_of d
            have := (nI_leI hy (b := 1) (by decide)).mp e
            rcases (by omega : y = 0 ∨ y = 1) with rfl | rfl
            · exact c0 rfl
            · exact c1 rfl
        · rw [hw, in1]
          exact ev_t (by decide) (ev_t c0 (ev_t c1 rfl))
/-! births by number -/
theorem ev_A {a t n : Nat} {i : Int32} {h : am_H} {f : Nat → Option Nat} (hb : h[a]? = some (.inl (t, n, .inr (.inr (.inr (.inr f)))))) (ht : (Nat.ble 4 t && Nat.ble t 6) = true) (hi : am_inb i n = true) : am_pAA (.ref a) i h = some (va_rf (f i.toNatClampNeg)) := by
  unfold am_pAA
  simp only [hb, ht, hi, Bool.and_self, if_true]
set_option maxRecDepth 100000 in
set_option maxHeartbeats 4000000 in
theorem c_63n {V : Nat → Nat → Value} {I : Nat → Nat → Int32} {L : Nat → Nat → Int64} {R : Nat → Nat → Option Nat} {tl : am_H} {n : Nat} {a : Int32} (hb : V 0 1 = .int (nI n)) (h : a < 0 ∨ nI n ≤ a) : fm_63 (.ref 0) a (fx V I L R ++ tl) = some (.inr (2, fx V I L R ++ (tl ++ [am_dummy]))) := by
  rw [← List.append_assoc]
  unfold fm_63 fg_63_0
  by_cases c : a < 0
  · exact ev_t c rfl
  · exact ev_f c (ev_b (rdI hb) (ev_t (h.resolve_left c) rfl))
set_option maxRecDepth 100000 in
set_option maxHeartbeats 4000000 in
theorem c_63 {V : Nat → Nat → Value} {I : Nat → Nat → Int32} {L : Nat → Nat → Int64} {R : Nat → Nat → Option Nat} {tl : am_H} {n b a : Nat} (hb : V 0 1 = .int (nI n)) (hn : n ≤ 600) (hbn : b < n) (hR : R 1 b = some (269 + a)) : fm_63 (.ref 0) (nI b) (fx V I L R ++ tl) = some (.inl (some (.ref (269 + a)), (fx V I L R ++ tl))) := by
  have g : am_pAA (.ref 1) (nI b) (fx V I L R ++ tl) = some (.ref (269 + a)) := by
    rw [ev_A (f := R 1) (n := 600) (t := 4) rfl rfl (am_inb_n (by omega) (by omega)), nI_clamp (by omega), hR]
    rfl
  unfold fm_63 fg_63_0
  refine ev_f (nI_pos (by omega)) (ev_b (rdI hb) (ev_f (nI_ge hbn (by omega)) (ev_b (a := Value.ref 1) rfl (ev_b g ?_))))
  exact ev_b (a := false) rfl (ev_f (by decide) (ev_b (a := Value.ref 1) rfl (ev_b g rfl)))
set_option maxRecDepth 100000 in
set_option maxHeartbeats 4000000 in
theorem r_358n {V : Nat → Nat → Value} {I : Nat → Nat → Int32} {L : Nat → Nat → Int64} {R : Nat → Nat → Option Nat} {tl : am_H} {n : Nat} {a : Int32} (hb : V 174 1 = .int (nI n)) (hn : n ≤ 600) (h : a < 0 ∨ nI n ≤ a) : fm_358 (.ref 174) a (fx V I L R ++ tl) = some (.inl (some (.int 0), (fx V I L R ++ tl))) := by
  unfold fm_358 fg_358_0
  refine ev_b (rdI hb) (ev_cI (pe_327 _ _ _ _) ?_)
  rw [in_b (by omega) h]
  rfl
set_option maxRecDepth 100000 in
set_option maxHeartbeats 4000000 in
theorem r_358 {V : Nat → Nat → Value} {I : Nat → Nat → Int32} {L : Nat → Nat → Int64} {R : Nat → Nat → Option Nat} {tl : am_H} {n b : Nat} (hb : V 174 1 = .int (nI n)) (hn : n ≤ 600) (h : b < n) : fm_358 (.ref 174) (nI b) (fx V I L R ++ tl) = some (.inl (some (.int 1), (fx V I L R ++ tl))) := by
  unfold fm_358 fg_358_0
  refine ev_b (rdI hb) (ev_cI (pe_327 _ _ _ _) ?_)
  rw [in_n h (by omega)]
  rfl
set_option maxRecDepth 100000 in
set_option maxHeartbeats 4000000 in
theorem out_s {V : Nat → Nat → Value} {I : Nat → Nat → Int32} {L : Nat → Nat → Int64} {R : Nat → Nat → Option Nat} {tl : am_H} {x : Int64} : am_pSL (.ref 268) 0 x (fx V I L R ++ tl) = some (fx V I (lup L 268 (vp_updL (L 268) 0 x)) R ++ tl) := ev_sL (f := L 268) (n := 1) rfl rfl rfl
set_option maxRecDepth 100000 in
set_option maxHeartbeats 4000000 in
theorem out_a {V : Nat → Nat → Value} {I : Nat → Nat → Int32} {L : Nat → Nat → Int64} {R : Nat → Nat → Option Nat} {tl : am_H} {x : Int64} {M : Nat → Nat → Int64} : am_pAL (.ref 268) 0 (fx V I (lup L 268 (vp_updL (M 268) 0 x)) R ++ tl) = some x := ev_aL (f := vp_updL (M 268) 0 x) (n := 1) rfl rfl
/-! seed(b) -/
set_option maxRecDepth 100000 in
set_option maxHeartbeats 4000000 in
theorem u_6 {V : Nat → Nat → Value} {I : Nat → Nat → Int32} {L : Nat → Nat → Int64} {R : Nat → Nat → Option Nat} {tl : am_H} {n p j : Nat} (hr : rel V I L R tl n p) (hm : room tl n p j) (a1 : Int32) : ∃ h', opBL (fm_80 (.ref 0) a1 (.ref 268) (fx V I L R ++ tl)) (fun h1 => fm_372 (.ref 174) a1 h1) vfI h' ∧ invW (j + 1) h' := by
  obtain ⟨b1, b2, b3⟩ := hr.1
  rcases dich a1 (n := n) (by omega) with hn | ⟨b, hb, rfl⟩
  · refine ⟨_, ⟨1, fx V I L R ++ (tl ++ [am_dummy]), 0, 0, ?_, rfl, ?_, rfl, rfl, fun e => absurd e (by decide)⟩, inv_mk (rel_thr 1 (rel_dum hr)) (room_dum hm)⟩
    · have e : fm_81 (.ref 0) a1 (fx V I L R ++ tl) = some (.inr (2, fx V I L R ++ (tl ++ [am_dummy]))) := by
        unfold fm_81 fg_81_0
        refine ev_i rfl ?_
        rw [c_63n b2 hn]
        rfl
      unfold fm_80 fg_80_0
      refine ev_i rfl ?_
      rw [e]
      rfl
    · show fm_372 (.ref 174) a1 (fx V I L R ++ (tl ++ [am_dummy])) = _
      unfold fm_372 fg_372_0
      exact ev_i rfl (ev_cI (r_358n b3 b1 hn) (ev_t rfl (ev_b qp_174_0 (ev_b (a := 1) rfl (ev_f (by decide) rfl)))))
  · obtain ⟨kd, ln, sz, a, it, f, q1, q2, q3, q4, q5, q6, q7⟩ := hr.2.1 b hb
    refine ⟨_, ⟨0, fx V I (lup L 268 (vp_updL (L 268) 0 (L 183 b))) R ++ tl, L 183 b, L 183 b, ?_, rfl, ?_, rfl, rfl, fun _ => ⟨out_a (V := vup V 174 0 (.int 0)) (M := L), rfl⟩⟩, inv_mk (rel_thr 0 (rel_out _ hr)) (room_up hm)⟩
    · have e : fm_81 (.ref 0) (nI b) (fx V I L R ++ tl) = some (.inl (some (.long (L 183 b)), (fx V I L R ++ tl))) := by
        unfold fm_81 fg_81_0
        refine ev_i rfl (ev_cR (c_63 b2 b1 hb q4) rfl ?_)
        exact ev_b (ev_gL (tl_at.trans q5) rfl rfl) rfl
      unfold fm_80 fg_80_0
      refine ev_i rfl ?_
      rw [e]
      exact ev_b out_s rfl
    · show fm_372 (.ref 174) (nI b) (fx V I (lup L 268 (vp_updL (L 268) 0 (L 183 b))) R ++ tl) = _
      unfold fm_372 fg_372_0
      exact ev_i rfl (ev_cI (r_358 b3 b1 hb) (ev_f (by decide) (ev_b qp_174_0 (ev_b (a := 0) rfl (ev_t (by decide) (ev_b (a := Value.ref 183) rfl (ev_b (qa_183 (by omega)) rfl)))))))
