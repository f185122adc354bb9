/-! ===== edits: a candidate is counted, in the reference ===== -/
theorem hd_444_38 {N : Nat} {x0 : Value} {s0 : Value} {s1 : Int32} {h : am_H} {r_ : Option am_O} (k_ : ((am_pP 3167 s0 (.int s1) h).bind fun h1 => ((am_vI (am_pG 3167 x0 h1)).bind fun v3 => (if am_rfit (some FieldType.boolean) v3 then some (.inl (some (.int v3), h1)) else none))) = r_) : fg_444_38 N x0 s0 s1 h = r_ := k_
theorem hd_444_0 {N : Nat} {x0 : Value} {h : am_H} {r_ : Option am_O} (k_ : (if am_pOk 12 x0 h then am_cI true (fm_445 N x0 h) (fun v2 h3 => (if ¬ v2 = 0 then ((am_vI (am_pG 3166 x0 h3)).bind fun v6 => ((am_pP 3166 x0 (.int (v6 + 1)) h3).bind fun h8 => ((am_vI (am_pG 3166 x0 h8)).bind fun v10 => ((am_vI (am_pG 3165 x0 h8)).bind fun v12 => (if ¬ (v10 - 1) = v12 then (fg_444_38 N x0 x0 0 h8) else (fg_444_38 N x0 x0 1 h8)))))) else some (.inl (some (.int 0), h3)))) else none) = r_) : fg_444_0 N x0 h = r_ := k_
theorem hm_444 {N : Nat} {y0 : Value} {h : am_H} {r_ : Option am_O} (k_ : fg_444_0 N y0 h = r_) : fm_444 N y0 h = r_ := k_
theorem hd_445_86 {N : Nat} {s0 : Int32} {h : am_H} {r_ : Option am_O} (k_ : (if am_rfit (some FieldType.boolean) s0 then some (.inl (some (.int s0), h)) else none) = r_) : fg_445_86 N s0 h = r_ := k_
theorem hd_445_50 {N : Nat} {s0 : Int32} {h : am_H} {r_ : Option am_O} (k_ : (if am_rfit (some FieldType.boolean) s0 then some (.inl (some (.int s0), h)) else none) = r_) : fg_445_50 N s0 h = r_ := k_
theorem hd_445_49 {N : Nat} {h : am_H} {r_ : Option am_O} (k_ : (fg_445_50 N 0 h) = r_) : fg_445_49 N h = r_ := k_
theorem hd_445_0 {N : Nat} {x0 : Value} {h : am_H} {r_ : Option am_O} (k_ : ((am_vI (am_pG 3085 x0 h)).bind fun v1 => (if ¬ v1 = 0 then ((am_vI (am_pG 3085 x0 h)).bind fun v4 => (if ¬ v4 = 1 then ((am_vI (am_pG 3085 x0 h)).bind fun v7 => (if ¬ v7 = 2 then ((am_vI (am_pG 3086 x0 h)).bind fun v10 => (if 40 < v10 then (fg_445_86 N 0 h) else (fg_445_86 N 1 h))) else ((am_vI (am_pG 3086 x0 h)).bind fun v13 => am_cI false (fm_327 ((Int32.toInt64 v13)) 1 6 h) (fun v15 h16 => (if am_rfit (some FieldType.boolean) v15 then some (.inl (some (.int v15), h16)) else none))))) else ((am_vI (am_pG 3086 x0 h)).bind fun v19 => am_cI false (fm_327 ((Int32.toInt64 v19)) 1 60 h) (fun v21 h22 => (if v21 = 0 then (fg_445_49 N h22) else (if am_pOk 12 x0 h22 then am_cI true (fm_347 N x0 h22) (fun v26 h27 => (if ¬ v26 = (-1) then (fg_445_49 N h27) else (fg_445_50 N 1 h27))) else none)))))) else (if am_pOk 12 x0 h then am_cI true (fm_446 N x0 0 0 h) (fun v31 h32 => (if am_rfit (some FieldType.boolean) v31 then some (.inl (some (.int v31), h32)) else none)) else none))) = r_) : fg_445_0 N x0 h = r_ := k_
theorem hm_445 {N : Nat} {y0 : Value} {h : am_H} {r_ : Option am_O} (k_ : fg_445_0 N y0 h = r_) : fm_445 N y0 h = r_ := k_
theorem sN_n {a : Nat} (h : a < 2 ^ 31) : sN (nI a) = a := nI_clamp h
theorem tL_tI {Q : xT} (h : ∀ x, x ∈ Q → x.1 ≤ 20) : tL (tI Q) = sl Q := by
  unfold tL tI sl
  rw [List.map_map]
  refine List.map_congr_left (fun x hx => ?_)
  show (sN (nI x.1), 0) = (x.1, 0)
  rw [sN_n (by have := h x hx; omega)]
theorem okB_F : ∀ (l : List (Nat × Nat)) (st : List (Nat × Nat × Nat)), (∀ x, x ∈ l → x.1 ≤ 20) → (okB st l = true ↔ okF st l) := by
  intro l
  induction l with
  | nil => intro st _; cases st <;> simp [okB, okF]
  | cons x l ih =>
    intro st hx
    cases st with
    | nil => simp [okB, okF]
    | cons c st =>
      rw [okB, okF, Bool.and_eq_true, decide_eq_true_eq, ih _ (fun y hy => hx y (List.mem_cons_of_mem _ hy))]
      have := hx x (List.mem_cons_self ..)
      exact ⟨fun h => ⟨this, h.1.1, h.1.2.1, h.1.2.2.1, h.1.2.2.2, h.2⟩, fun h => ⟨⟨h.2.1, h.2.2.1, h.2.2.2.1, h.2.2.2.2.1⟩, h.2.2.2.2.2⟩⟩
theorem sl_20 {Q : xT} (h : ∀ x, x ∈ Q → x.1 ≤ 20) : ∀ x, x ∈ sl Q → x.1 ≤ 20 := fun x hx => by
  unfold sl at hx
  obtain ⟨y, hy, e⟩ := List.mem_map.mp hx
  rw [← e]
  exact h y hy
theorem snd_0 {Q : xT} (h : ∀ x, x ∈ Q → x.1 ≤ 20) : sndB 0 (tI Q) = true ↔ Q.length ≤ 60 ∧ okF [(0, 1, 0)] (sl Q) := by
  unfold sndB
  rw [if_pos rfl, Bool.and_eq_true, decide_eq_true_eq, tI_len, tL_tI h, okB_F _ _ (sl_20 h)]
theorem snd_1 {Q : xI} : sndB 1 Q = true ↔ (1 ≤ Q.length ∧ Q.length ≤ 60) ∧ (cdX Q Q.length 0 g00).isRight = true := by
  unfold sndB
  rw [if_neg (by decide), if_pos rfl, Bool.and_eq_true, decide_eq_true_eq, cdB_X]
  exact Iff.rfl
theorem snd_2 {Q : xI} : sndB 2 Q = true ↔ 1 ≤ Q.length ∧ Q.length ≤ 6 := by
  unfold sndB
  rw [if_neg (by decide), if_neg (by decide), if_pos rfl, decide_eq_true_eq]
theorem snd_3 {Q : xI} : sndB 3 Q = true ↔ Q.length ≤ 40 := by
  unfold sndB
  rw [if_neg (by decide), if_neg (by decide), if_neg (by decide), decide_eq_true_eq]
/-- what can be judged: trees in form, code with numbers of code -/
def frm (kd : Nat) (Q : xI) : Prop := kd ≤ 3 ∧ Q.length ≤ 400 ∧ (kd = 0 → ∃ Q' : xT, Q = tI Q' ∧ (∀ x, x ∈ Q' → x.1 ≤ 20) ∧ isF 1 (sl Q')) ∧ (kd = 1 → okI Q ∧ Q.length ≤ 120)
def fr4 (I J : Nat → Nat → Int32) : Prop := ∀ y, y ≠ 194 → y ≠ 195 → y ≠ 196 → y ≠ 211 → J y = I y
theorem fr4_r {I : Nat → Nat → Int32} : fr4 I I := fun _ _ _ _ _ => rfl
theorem fr4_t {I J K : Nat → Nat → Int32} (h : fr4 I J) (g : fr4 J K) : fr4 I K := fun y a b c d => (g y a b c d).trans (h y a b c d)
theorem in60 : ∀ q, q < 401 → pv_327 (nI q).toInt64 1 60 = (if 1 ≤ q ∧ q ≤ 60 then 1 else 0) := by decide +kernel
theorem in6 : ∀ q, q < 401 → pv_327 (nI q).toInt64 1 6 = (if 1 ≤ q ∧ q ≤ 6 then 1 else 0) := by decide +kernel
theorem cdI_m {r : Nat ⊕ (Nat → Option Nat)} (h : ∀ k, r = .inl k → k < 1000) : cdI r = -1 ↔ r.isRight = true := by
  cases r with
  | inl k => exact ⟨fun e => absurd e (nI_nm1 (by have := h k rfl; omega)), fun e => absurd e (by simp)⟩
  | inr g => exact ⟨fun _ => rfl, fun _ => rfl⟩
theorem cdX_lt {P : xI} : ∀ (m k j : Nat) (g : Nat → Option Nat), cdX P m k g = .inl j → j < k + m := by
  intro m
  induction m with
  | zero => intro k j g h; rw [cdX] at h; cases h
  | succ m ih =>
    intro k j g h
    rw [cdX] at h
    split at h
    · injection h with h; omega
    · split at h
      · injection h with h; omega
      · split at h
        · injection h with h; omega
        · split at h
          · injection h with h; omega
          · split at h
            · injection h with h; omega
            · have := ih _ _ _ h
              omega
set_option maxRecDepth 100000 in
set_option maxHeartbeats 4000000 in
theorem s445 {V : Nat → Nat → Value} {I : Nat → Nat → Int32} {L : Nat → Nat → Int64} {R : Nat → Nat → Option Nat} {tl : am_H} {N kd : Nat} {Q : xI} (hN : 400 < N) (hf : frm kd Q) (hd : dkL V I Q) (h13 : V 174 13 = .int (nI kd)) : ∃ J, fm_445 N (.ref 174) (fx V I L R ++ tl) = some (.inl (some (.int (bI (sndB kd Q))), fx V J L R ++ tl)) ∧ fr4 I J := by
  obtain ⟨f1, f2, f3, f4⟩ := hf
  rcases (by omega : kd = 0 ∨ kd = 1 ∨ kd = 2 ∨ kd = 3) with rfl | rfl | rfl | rfl
  · obtain ⟨Q', rfl, g1, g2⟩ := f3 rfl
    rw [tI_len] at f2
    obtain ⟨J, b, e, g, f⟩ := s446 (L := L) (R := R) (tl := tl) (t := 0) (lp := 0) hN (by omega) (by omega) (k20_l.mpr g1) f2 g2 hd
    have eb : sndB 0 (tI Q') = b := by
      have := snd_0 g1
      rw [← g] at this
      cases b with
      | true => exact this.mpr rfl
      | false => cases h : sndB 0 (tI Q') with
        | false => rfl
        | true => exact absurd (this.mp h) (by decide)
    rw [eb]
    refine ⟨J, ?_, fun y a b c _ => f y a b c⟩
    apply hm_445
    apply hd_445_0
    exact ev_b (rdI h13) (ev_f (fun e => e rfl) (ev_i rfl (ev_cI e (ev_i (bI_fit b) rfl))))
  · obtain ⟨g1, g2⟩ := f4 rfl
    have st0 : ∀ o, (if (if 1 ≤ Q.length ∧ Q.length ≤ 60 then (1 : Int32) else 0) = 0 then (fg_445_49 N (fx V I L R ++ tl)) else (if am_pOk 12 (.ref 174) (fx V I L R ++ tl) then am_cI true (fm_347 N (.ref 174) (fx V I L R ++ tl)) (fun v26 h27 => (if ¬ v26 = (-1) then (fg_445_49 N h27) else (fg_445_50 N 1 h27))) else none)) = o → fm_445 N (.ref 174) (fx V I L R ++ tl) = o := fun o k_ => by
      apply hm_445
      apply hd_445_0
      refine ev_b (rdI h13) (ev_t (by decide) (ev_b (rdI h13) (ev_f (fun e => e rfl) (ev_b (rdI hd.1) (ev_cI (pe_327 _ _ _ _) ?_)))))
      rw [in60 _ (by omega)]
      exact k_
    have no : ∀ H, fg_445_49 N H = some (.inl (some (.int 0), H)) := fun H => by
      apply hd_445_49
      apply hd_445_50
      exact ev_i rfl rfl
    by_cases c : 1 ≤ Q.length ∧ Q.length ≤ 60
    case neg =>
      have eb : sndB 1 Q = false := by
        cases h : sndB 1 Q with
        | false => rfl
        | true => exact absurd (snd_1.mp h).1 c
      rw [eb]
      rw [if_neg c] at st0
      exact ⟨I, st0 _ (ev_t rfl (no _)), fr4_r⟩
    rw [if_pos c] at st0
    obtain ⟨F', e, -⟩ := q_347 (L := L) (R := R) (tl := tl) hN (by omega) hd g1
    have hm := cdI_m (r := cdX Q Q.length 0 g00) (fun k h => by have := cdX_lt _ _ _ _ h; omega)
    refine ⟨iup I 211 F', st0 _ (ev_f (by decide) (ev_i rfl (ev_cI e ?_))), fun y _ _ _ d => iup_na d⟩
    by_cases c2 : cdI (cdX Q Q.length 0 g00) = -1
    · have eb : sndB 1 Q = true := snd_1.mpr ⟨c, hm.mp c2⟩
      rw [eb]
      refine ev_f (fun h => h c2) ?_
      apply hd_445_50
      exact ev_i rfl rfl
    · have eb : sndB 1 Q = false := by
        cases h : sndB 1 Q with
        | false => rfl
        | true => exact absurd (hm.mpr (snd_1.mp h).2) c2
      rw [eb]
      exact ev_t c2 (no _)
  · have eb : (if 1 ≤ Q.length ∧ Q.length ≤ 6 then (1 : Int32) else 0) = bI (sndB 2 Q) := by
      by_cases c : 1 ≤ Q.length ∧ Q.length ≤ 6
      · rw [if_pos c, snd_2.mpr c]; rfl
      · rw [if_neg c]
        cases h : sndB 2 Q with
        | false => rfl
        | true => exact absurd (snd_2.mp h) c
    refine ⟨I, ?_, fr4_r⟩
    apply hm_445
    apply hd_445_0
    refine ev_b (rdI h13) (ev_t (by decide) (ev_b (rdI h13) (ev_t (by decide) (ev_b (rdI h13) (ev_f (fun e => e rfl) (ev_b (rdI hd.1) (ev_cI (pe_327 _ _ _ _) ?_)))))))
    rw [in6 _ (by omega), eb]
    exact ev_i (bI_fit _) rfl
  · refine ⟨I, ?_, fr4_r⟩
    apply hm_445
    apply hd_445_0
    refine ev_b (rdI h13) (ev_t (by decide) (ev_b (rdI h13) (ev_t (by decide) (ev_b (rdI h13) (ev_t (by decide) (ev_b (rdI hd.1) ?_))))))
    by_cases c : Q.length ≤ 40
    · rw [snd_3.mpr c]
      refine ev_f (nI_nlt (a := 40) c (by decide)) ?_
      apply hd_445_86
      exact ev_i rfl rfl
    · have eb : sndB 3 Q = false := by
        cases h : sndB 3 Q with
        | false => rfl
        | true => exact absurd (snd_3.mp h) c
      rw [eb]
      refine ev_t (show (40 : Int32) < nI Q.length by simp (disch := omega) only [i_40, nI_ltI]; omega) ?_
      apply hd_445_86
      exact ev_i rfl rfl
/-- a candidate on the desk is counted; it is the one that is sought, or not -/
def ctV (V : Nat → Nat → Value) (k : Nat) (b : Bool) : Nat → Nat → Value := vup (vup V 174 94 (.int (nI (k + 1)))) 174 95 (.int (bI b))
set_option maxRecDepth 100000 in
set_option maxHeartbeats 4000000 in
theorem s444 {V : Nat → Nat → Value} {I : Nat → Nat → Int32} {L : Nat → Nat → Int64} {R : Nat → Nat → Option Nat} {tl : am_H} {N kd k : Nat} {so : Int32} {Q : xI} (hN : 400 < N) (hf : frm kd Q) (hd : dkL V I Q) (h13 : V 174 13 = .int (nI kd)) (h93 : V 174 93 = .int so) (h94 : V 174 94 = .int (nI k)) : (sndB kd Q = false → ∃ J, fm_444 N (.ref 174) (fx V I L R ++ tl) = some (.inl (some (.int 0), fx V J L R ++ tl)) ∧ fr4 I J) ∧ (sndB kd Q = true → ∃ J, fm_444 N (.ref 174) (fx V I L R ++ tl) = some (.inl (some (.int (bI (decide (nI k = so)))), fx (ctV V k (decide (nI k = so))) J L R ++ tl)) ∧ fr4 I J) := by
  obtain ⟨J, e, f⟩ := s445 (L := L) (R := R) (tl := tl) hN hf hd h13
  refine ⟨fun h => ⟨J, ?_, f⟩, fun h => ⟨J, ?_, f⟩⟩
  · rw [h] at e
    apply hm_444
    apply hd_444_0
    exact ev_i rfl (ev_cI e (ev_f (fun e => e rfl) rfl))
  · rw [h] at e
    apply hm_444
    apply hd_444_0
    refine ev_i rfl (ev_cI e (ev_t (by decide) (ev_b (rdI h94) ?_)))
    rw [nI_1]
    have a1 : vup V 174 94 (.int (nI (k + 1))) 174 94 = .int (nI (k + 1)) := rfl
    have a2 : vup V 174 94 (.int (nI (k + 1))) 174 93 = .int so := (vup_o (by decide)).trans h93
    have es : nI (k + 1) - 1 = nI k := nI_sub (b := 1) (by omega)
    refine ev_b qp_174_94 (ev_b (rdI a1) (ev_b (rdI a2) ?_))
    rw [es]
    by_cases c : nI k = so
    · rw [decide_eq_true c]
      refine ev_f (fun h => h c) ?_
      apply hd_444_38
      exact ev_b (qp_174_95 rfl) (ev_b (a := 1) rfl (ev_i rfl rfl))
    · rw [decide_eq_false c]
      refine ev_t c ?_
      apply hd_444_38
      exact ev_b (qp_174_95 rfl) (ev_b (a := 0) rfl (ev_i rfl rfl))
