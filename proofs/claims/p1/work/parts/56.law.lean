/-! ===== a turn of the law's loop ===== -/
/-- two answers that are compared as they stand -/
def opA (c : Option am_O) (r : am_H → Option am_O) (h' : am_H) : Prop := ∃ (v : Int32) (h1 : am_H), c = some (.inl (some (.int v), h1)) ∧ am_pOk 12 (.ref 174) h1 = true ∧ r h1 = some (.inl (some (.int v), h'))
/-- a call that may throw: the code is the reference's, and without one the answers are the same -/
def opBI (w : Option am_O) (r : am_H → Option am_O) (vf : Value → Int64) (h' : am_H) : Prop := ∃ (c : Int32) (h1 : am_H) (b : Int32) (o : Int64), w = some (.inl (some (.int c), h1)) ∧ am_pOk 12 (.ref 174) h1 = true ∧ r h1 = some (.inl (some (.int b), h')) ∧ am_pOk 12 (.ref 174) h' = true ∧ am_vI (am_pG 3072 (.ref 174) h') = some c ∧ (c = 0 → am_pAL (.ref 268) 0 h' = some o ∧ vf (.int b) = o)
def opBL (w : Option am_O) (r : am_H → Option am_O) (vf : Value → Int64) (h' : am_H) : Prop := ∃ (c : Int32) (h1 : am_H) (b : Int64) (o : Int64), w = some (.inl (some (.int c), h1)) ∧ am_pOk 12 (.ref 174) h1 = true ∧ r h1 = some (.inl (some (.long b), h')) ∧ am_pOk 12 (.ref 174) h' = true ∧ am_vI (am_pG 3072 (.ref 174) h') = some c ∧ (c = 0 → am_pAL (.ref 268) 0 h' = some o ∧ vf (.long b) = o)
def vfI : Value → Int64
  | .int x => x.toInt64
  | .long x => x
  | _ => 0
def vfZ : Value → Int64
  | .int x => if x = 0 then 0 else 1
  | _ => 0
theorem lg_cmp_self (x : Int64) : lg_cmp x x = 0 := (lg_cmp_eq x x).mpr rfl
theorem e_324 {h : am_H} {c : Int32} (hc : am_vI (am_pG 3072 (.ref 174) h) = some c) : fm_324 (.ref 174) h = some (.inl (some (.int c), h)) := by
  unfold fm_324 fg_324_0
  exact ev_b hc rfl
/-- a turn of the loop -/
def lw_turn (X : am_X) (N K : Nat) (x4 : Int32) (h h' : am_H) : Prop := fg_0_23 X N (K + 1) (.ref 0) (.ref 174) (.ref 268) x4 h = fg_0_23 X N K (.ref 0) (.ref 174) (.ref 268) (x4 + 7) h'
set_option maxHeartbeats 4000000 in
set_option maxRecDepth 20000 in
theorem lk_0 {X : am_X} {N K : Nat} {x4 a0 a1 a2 : Int32} {h h' : am_H} (hi : ¬ (Int32.ofNat (X 0).1) - 7 < x4) (e0 : am_pX X 0 x4 = some a0) (hk : a0 &&& 63 = 0) (e1 : am_pX X 0 (x4 + 1) = some a1) (e2 : am_pX X 0 (x4 + 2) = some a2) (o0 : am_pOk 11 (.ref 0) h = true) (H : opA (fm_21 N (.ref 0) ((((Int32.toInt64 a1) <<< (Int32.toInt64 32 &&& 63)) ||| ((Int32.toInt64 a2) &&& 4294967295))) h) (fun h1 => fm_325 N (.ref 174) ((((Int32.toInt64 a1) <<< (Int32.toInt64 32 &&& 63)) ||| ((Int32.toInt64 a2) &&& 4294967295))) h1) h') : lw_turn X N K x4 h h' := by
  obtain ⟨v, h1, q0, o1, q1⟩ := H
  unfold lw_turn
  rw [fg_0_23]
  refine ev_f hi ?_
  refine ev_b e0 ?_
  refine ev_t hk ?_
  refine ev_b e1 ?_
  refine ev_b e2 ?_
  refine ev_i o0 ?_
  refine ev_cI q0 ?_
  refine ev_b e1 ?_
  refine ev_b e2 ?_
  refine ev_i o1 ?_
  refine ev_cI q1 ?_
  refine ev_t rfl ?_
  rfl
set_option maxHeartbeats 4000000 in
set_option maxRecDepth 20000 in
theorem lk_1 {X : am_X} {N K : Nat} {x4 a0 a1 : Int32} {h h' : am_H} (hi : ¬ (Int32.ofNat (X 0).1) - 7 < x4) (e0 : am_pX X 0 x4 = some a0) (hk : a0 &&& 63 = 1) (e1 : am_pX X 0 (x4 + 1) = some a1) (H : opBI (fm_30 N (.ref 0) a1 (.ref 268) h) (fun h1 => fm_326 N (.ref 174) a1 h1) vfI h') : lw_turn X N K x4 h h' := by
  obtain ⟨c, h1, r, o, q0, o1, q1, o2, ht, hv⟩ := H
  have q2 := e_324 ht
  unfold lw_turn
  rw [fg_0_23]
  refine ev_f hi ?_
  refine ev_b e0 ?_
  refine ev_f (fun e => absurd (hk.symm.trans e) (by decide)) ?_
  refine ev_t hk ?_
  refine ev_b e1 ?_
  refine ev_cI q0 ?_
  refine ev_b e1 ?_
  refine ev_i o1 ?_
  refine ev_cI q1 ?_
  refine ev_i o2 ?_
  refine ev_cI q2 ?_
  refine ev_t rfl ?_
  by_cases c0 : c = 0
  · obtain ⟨ho, hb⟩ := hv c0
    refine ev_f (fun e => e c0) ?_
    refine ev_b ho ?_
    subst hb
    refine ev_t (lg_cmp_self _) ?_
    rfl
  · exact ev_t c0 rfl
set_option maxHeartbeats 4000000 in
set_option maxRecDepth 20000 in
theorem lk_2 {X : am_X} {N K : Nat} {x4 a0 a1 : Int32} {h h' : am_H} (hi : ¬ (Int32.ofNat (X 0).1) - 7 < x4) (e0 : am_pX X 0 x4 = some a0) (hk : a0 &&& 63 = 2) (e1 : am_pX X 0 (x4 + 1) = some a1) (H : opBI (fm_61 N (.ref 0) a1 (.ref 268) h) (fun h1 => fm_357 N (.ref 174) a1 h1) vfI h') : lw_turn X N K x4 h h' := by
  obtain ⟨c, h1, r, o, q0, o1, q1, o2, ht, hv⟩ := H
  have q2 := e_324 ht
  unfold lw_turn
  rw [fg_0_23]
  refine ev_f hi ?_
  refine ev_b e0 ?_
  refine ev_f (fun e => absurd (hk.symm.trans e) (by decide)) ?_
  refine ev_f (fun e => absurd (hk.symm.trans e) (by decide)) ?_
  refine ev_t hk ?_
  refine ev_b e1 ?_
  refine ev_cI q0 ?_
  refine ev_b e1 ?_
  refine ev_i o1 ?_
  refine ev_cI q1 ?_
  refine ev_i o2 ?_
  refine ev_cI q2 ?_
  refine ev_t rfl ?_
  by_cases c0 : c = 0
  · obtain ⟨ho, hb⟩ := hv c0
    refine ev_f (fun e => e c0) ?_
    refine ev_b ho ?_
    subst hb
    refine ev_t (lg_cmp_self _) ?_
    rfl
  · exact ev_t c0 rfl
set_option maxHeartbeats 4000000 in
set_option maxRecDepth 20000 in
theorem lk_3 {X : am_X} {N K : Nat} {x4 a0 a1 a2 : Int32} {h h' : am_H} (hi : ¬ (Int32.ofNat (X 0).1) - 7 < x4) (e0 : am_pX X 0 x4 = some a0) (hk : a0 &&& 63 = 3) (e1 : am_pX X 0 (x4 + 1) = some a1) (e2 : am_pX X 0 (x4 + 2) = some a2) (H : opBI (fm_70 N (.ref 0) a1 a2 (.ref 268) h) (fun h1 => fm_368 N (.ref 174) a1 a2 h1) vfI h') : lw_turn X N K x4 h h' := by
  obtain ⟨c, h1, r, o, q0, o1, q1, o2, ht, hv⟩ := H
  have q2 := e_324 ht
  unfold lw_turn
  rw [fg_0_23]
  refine ev_f hi ?_
  refine ev_b e0 ?_
  refine ev_f (fun e => absurd (hk.symm.trans e) (by decide)) ?_
  refine ev_f (fun e => absurd (hk.symm.trans e) (by decide)) ?_
  refine ev_f (fun e => absurd (hk.symm.trans e) (by decide)) ?_
  refine ev_t hk ?_
  refine ev_b e1 ?_
  refine ev_b e2 ?_
  refine ev_cI q0 ?_
  refine ev_b e1 ?_
  refine ev_b e2 ?_
  refine ev_i o1 ?_
  refine ev_cI q1 ?_
  refine ev_i o2 ?_
  refine ev_cI q2 ?_
  refine ev_t rfl ?_
  by_cases c0 : c = 0
  · obtain ⟨ho, hb⟩ := hv c0
    refine ev_f (fun e => e c0) ?_
    refine ev_b ho ?_
    subst hb
    refine ev_t (lg_cmp_self _) ?_
    rfl
  · exact ev_t c0 rfl
set_option maxHeartbeats 4000000 in
set_option maxRecDepth 20000 in
theorem lk_4 {X : am_X} {N K : Nat} {x4 a0 : Int32} {h h' : am_H} (hi : ¬ (Int32.ofNat (X 0).1) - 7 < x4) (e0 : am_pX X 0 x4 = some a0) (hk : a0 &&& 63 = 4) (o0 : am_pOk 11 (.ref 0) h = true) (H : opA (fm_23 (.ref 0) h) (fun h1 => fm_369 (.ref 174) h1) h') : lw_turn X N K x4 h h' := by
  obtain ⟨v, h1, q0, o1, q1⟩ := H
  unfold lw_turn
  rw [fg_0_23]
  refine ev_f hi ?_
  refine ev_b e0 ?_
  refine ev_f (fun e => absurd (hk.symm.trans e) (by decide)) ?_
  refine ev_f (fun e => absurd (hk.symm.trans e) (by decide)) ?_
  refine ev_f (fun e => absurd (hk.symm.trans e) (by decide)) ?_
  refine ev_f (fun e => absurd (hk.symm.trans e) (by decide)) ?_
  refine ev_t hk ?_
  refine ev_i o0 ?_
  refine ev_cI q0 ?_
  refine ev_i o1 ?_
  refine ev_cI q1 ?_
  refine ev_t rfl ?_
  rfl
set_option maxHeartbeats 4000000 in
set_option maxRecDepth 20000 in
theorem lk_5 {X : am_X} {N K : Nat} {x4 a0 a1 a2 : Int32} {h h' : am_H} (hi : ¬ (Int32.ofNat (X 0).1) - 7 < x4) (e0 : am_pX X 0 x4 = some a0) (hk : a0 &&& 63 = 5) (e1 : am_pX X 0 (x4 + 1) = some a1) (e2 : am_pX X 0 (x4 + 2) = some a2) (H : opBI (fm_73 N (.ref 0) a1 a2 (.ref 268) h) (fun h1 => fm_370 N (.ref 174) a1 a2 h1) vfI h') : lw_turn X N K x4 h h' := by
  obtain ⟨c, h1, r, o, q0, o1, q1, o2, ht, hv⟩ := H
  have q2 := e_324 ht
  unfold lw_turn
  rw [fg_0_23]
  refine ev_f hi ?_
  refine ev_b e0 ?_
  refine ev_f (fun e => absurd (hk.symm.trans e) (by decide)) ?_
  refine ev_f (fun e => absurd (hk.symm.trans e) (by decide)) ?_
  refine ev_f (fun e => absurd (hk.symm.trans e) (by decide)) ?_
  refine ev_f (fun e => absurd (hk.symm.trans e) (by decide)) ?_
  refine ev_f (fun e => absurd (hk.symm.trans e) (by decide)) ?_
  refine ev_t hk ?_
  refine ev_b e1 ?_
  refine ev_b e2 ?_
  refine ev_cI q0 ?_
  refine ev_b e1 ?_
  refine ev_b e2 ?_
  refine ev_i o1 ?_
  refine ev_cI q1 ?_
  refine ev_i o2 ?_
  refine ev_cI q2 ?_
  refine ev_t rfl ?_
  by_cases c0 : c = 0
  · obtain ⟨ho, hb⟩ := hv c0
    refine ev_f (fun e => e c0) ?_
    refine ev_b ho ?_
    subst hb
    refine ev_t (lg_cmp_self _) ?_
    rfl
  · exact ev_t c0 rfl
set_option maxHeartbeats 4000000 in
set_option maxRecDepth 20000 in
theorem lk_6 {X : am_X} {N K : Nat} {x4 a0 a1 : Int32} {h h' : am_H} (hi : ¬ (Int32.ofNat (X 0).1) - 7 < x4) (e0 : am_pX X 0 x4 = some a0) (hk : a0 &&& 63 = 6) (e1 : am_pX X 0 (x4 + 1) = some a1) (H : opBL (fm_80 (.ref 0) a1 (.ref 268) h) (fun h1 => fm_372 (.ref 174) a1 h1) vfI h') : lw_turn X N K x4 h h' := by
  obtain ⟨c, h1, r, o, q0, o1, q1, o2, ht, hv⟩ := H
  have q2 := e_324 ht
  unfold lw_turn
  rw [fg_0_23]
  refine ev_f hi ?_
  refine ev_b e0 ?_
  refine ev_f (fun e => absurd (hk.symm.trans e) (by decide)) ?_
  refine ev_f (fun e => absurd (hk.symm.trans e) (by decide)) ?_
  refine ev_f (fun e => absurd (hk.symm.trans e) (by decide)) ?_
  refine ev_f (fun e => absurd (hk.symm.trans e) (by decide)) ?_
  refine ev_f (fun e => absurd (hk.symm.trans e) (by decide)) ?_
  refine ev_f (fun e => absurd (hk.symm.trans e) (by decide)) ?_
  refine ev_t hk ?_
  refine ev_b e1 ?_
  refine ev_cI q0 ?_
  refine ev_b e1 ?_
  refine ev_i o1 ?_
  refine ev_cL q1 ?_
  refine ev_i o2 ?_
  refine ev_cI q2 ?_
  refine ev_t rfl ?_
  by_cases c0 : c = 0
  · obtain ⟨ho, hb⟩ := hv c0
    refine ev_f (fun e => e c0) ?_
    refine ev_b ho ?_
    subst hb
    refine ev_t (lg_cmp_self _) ?_
    rfl
  · exact ev_t c0 rfl
set_option maxHeartbeats 4000000 in
set_option maxRecDepth 20000 in
theorem lk_7 {X : am_X} {N K : Nat} {x4 a0 a1 a2 a3 : Int32} {h h' : am_H} (hi : ¬ (Int32.ofNat (X 0).1) - 7 < x4) (e0 : am_pX X 0 x4 = some a0) (hk : a0 &&& 63 = 7) (e1 : am_pX X 0 (x4 + 1) = some a1) (e2 : am_pX X 0 (x4 + 2) = some a2) (e3 : am_pX X 0 (x4 + 3) = some a3) (H : opBI (fm_82 (.ref 0) a1 a2 a3 (.ref 268) h) (fun h1 => fm_373 (.ref 174) a1 a2 a3 h1) vfI h') : lw_turn X N K x4 h h' := by
  obtain ⟨c, h1, r, o, q0, o1, q1, o2, ht, hv⟩ := H
  have q2 := e_324 ht
  unfold lw_turn
  rw [fg_0_23]
  refine ev_f hi ?_
  refine ev_b e0 ?_
  refine ev_f (fun e => absurd (hk.symm.trans e) (by decide)) ?_
  refine ev_f (fun e => absurd (hk.symm.trans e) (by decide)) ?_
  refine ev_f (fun e => absurd (hk.symm.trans e) (by decide)) ?_
  refine ev_f (fun e => absurd (hk.symm.trans e) (by decide)) ?_
  refine ev_f (fun e => absurd (hk.symm.trans e) (by decide)) ?_
  refine ev_f (fun e => absurd (hk.symm.trans e) (by decide)) ?_
  refine ev_f (fun e => absurd (hk.symm.trans e) (by decide)) ?_
  refine ev_t hk ?_
  refine ev_b e1 ?_
  refine ev_b e2 ?_
  refine ev_b e3 ?_
  refine ev_cI q0 ?_
  refine ev_b e1 ?_
  refine ev_b e2 ?_
  refine ev_b e3 ?_
  refine ev_i o1 ?_
  refine ev_cI q1 ?_
  refine ev_i o2 ?_
  refine ev_cI q2 ?_
  refine ev_t rfl ?_
  by_cases c0 : c = 0
  · obtain ⟨ho, hb⟩ := hv c0
    refine ev_f (fun e => e c0) ?_
    refine ev_b ho ?_
    subst hb
    refine ev_t (lg_cmp_self _) ?_
    rfl
  · exact ev_t c0 rfl
set_option maxHeartbeats 4000000 in
set_option maxRecDepth 20000 in
theorem lk_8 {X : am_X} {N K : Nat} {x4 a0 a1 a2 : Int32} {h h' : am_H} (hi : ¬ (Int32.ofNat (X 0).1) - 7 < x4) (e0 : am_pX X 0 x4 = some a0) (hk : a0 &&& 63 = 8) (e1 : am_pX X 0 (x4 + 1) = some a1) (e2 : am_pX X 0 (x4 + 2) = some a2) (H : opBI (fm_84 N (.ref 0) a1 a2 (.ref 268) h) (fun h1 => fm_374 N (.ref 174) a1 a2 h1) vfZ h') : lw_turn X N K x4 h h' := by
  obtain ⟨c, h1, r, o, q0, o1, q1, o2, ht, hv⟩ := H
  have q2 := e_324 ht
  unfold lw_turn
  rw [fg_0_23]
  refine ev_f hi ?_
  refine ev_b e0 ?_
  refine ev_f (fun e => absurd (hk.symm.trans e) (by decide)) ?_
  refine ev_f (fun e => absurd (hk.symm.trans e) (by decide)) ?_
  refine ev_f (fun e => absurd (hk.symm.trans e) (by decide)) ?_
  refine ev_f (fun e => absurd (hk.symm.trans e) (by decide)) ?_
  refine ev_f (fun e => absurd (hk.symm.trans e) (by decide)) ?_
  refine ev_f (fun e => absurd (hk.symm.trans e) (by decide)) ?_
  refine ev_f (fun e => absurd (hk.symm.trans e) (by decide)) ?_
  refine ev_f (fun e => absurd (hk.symm.trans e) (by decide)) ?_
  refine ev_t hk ?_
  refine ev_b e1 ?_
  refine ev_b e2 ?_
  refine ev_cI q0 ?_
  refine ev_b e1 ?_
  refine ev_b e2 ?_
  refine ev_i o1 ?_
  refine ev_cI q1 ?_
  refine ev_i o2 ?_
  refine ev_cI q2 ?_
  refine ev_t rfl ?_
  by_cases c0 : c = 0
  · obtain ⟨ho, hb⟩ := hv c0
    refine ev_f (fun e => e c0) ?_
    refine ev_b ho ?_
    subst hb
    by_cases cb : r = 0
    · rw [show vfZ (.int r) = 0 from if_pos cb]
      exact ev_t cb (ev_t (lg_cmp_self _) rfl)
    · rw [show vfZ (.int r) = 1 from if_neg cb]
      exact ev_f cb (ev_t (lg_cmp_self _) rfl)
  · exact ev_t c0 rfl
set_option maxHeartbeats 4000000 in
set_option maxRecDepth 20000 in
theorem lk_9 {X : am_X} {N K : Nat} {x4 a0 a1 : Int32} {h h' : am_H} (hi : ¬ (Int32.ofNat (X 0).1) - 7 < x4) (e0 : am_pX X 0 x4 = some a0) (hk : a0 &&& 63 = 9) (e1 : am_pX X 0 (x4 + 1) = some a1) (H : opBL (fm_87 (.ref 0) a1 (.ref 268) h) (fun h1 => fm_376 N (.ref 174) a1 h1) vfI h') : lw_turn X N K x4 h h' := by
  obtain ⟨c, h1, r, o, q0, o1, q1, o2, ht, hv⟩ := H
  have q2 := e_324 ht
  unfold lw_turn
  rw [fg_0_23]
  refine ev_f hi ?_
  refine ev_b e0 ?_
  refine ev_f (fun e => absurd (hk.symm.trans e) (by decide)) ?_
  refine ev_f (fun e => absurd (hk.symm.trans e) (by decide)) ?_
  refine ev_f (fun e => absurd (hk.symm.trans e) (by decide)) ?_
  refine ev_f (fun e => absurd (hk.symm.trans e) (by decide)) ?_
  refine ev_f (fun e => absurd (hk.symm.trans e) (by decide)) ?_
  refine ev_f (fun e => absurd (hk.symm.trans e) (by decide)) ?_
  refine ev_f (fun e => absurd (hk.symm.trans e) (by decide)) ?_
  refine ev_f (fun e => absurd (hk.symm.trans e) (by decide)) ?_
  refine ev_f (fun e => absurd (hk.symm.trans e) (by decide)) ?_
  refine ev_t hk ?_
  refine ev_b e1 ?_
  refine ev_cI q0 ?_
  refine ev_b e1 ?_
  refine ev_i o1 ?_
  refine ev_cL q1 ?_
  refine ev_i o2 ?_
  refine ev_cI q2 ?_
  refine ev_t rfl ?_
  by_cases c0 : c = 0
  · obtain ⟨ho, hb⟩ := hv c0
    refine ev_f (fun e => e c0) ?_
    refine ev_b ho ?_
    subst hb
    refine ev_t (lg_cmp_self _) ?_
    rfl
  · exact ev_t c0 rfl
set_option maxHeartbeats 4000000 in
set_option maxRecDepth 20000 in
theorem lk_10 {X : am_X} {N K : Nat} {x4 a0 a1 a2 a3 : Int32} {h h' : am_H} (hi : ¬ (Int32.ofNat (X 0).1) - 7 < x4) (e0 : am_pX X 0 x4 = some a0) (hk : a0 &&& 63 = 10) (e1 : am_pX X 0 (x4 + 1) = some a1) (e2 : am_pX X 0 (x4 + 2) = some a2) (e3 : am_pX X 0 (x4 + 3) = some a3) (H : opBI (fm_89 N (.ref 0) a1 ((((Int32.toInt64 a2) <<< (Int32.toInt64 32 &&& 63)) ||| ((Int32.toInt64 a3) &&& 4294967295))) (.ref 268) h) (fun h1 => fm_385 N (.ref 174) a1 ((((Int32.toInt64 a2) <<< (Int32.toInt64 32 &&& 63)) ||| ((Int32.toInt64 a3) &&& 4294967295))) h1) vfI h') : lw_turn X N K x4 h h' := by
  obtain ⟨c, h1, r, o, q0, o1, q1, o2, ht, hv⟩ := H
  have q2 := e_324 ht
  unfold lw_turn
  rw [fg_0_23]
  refine ev_f hi ?_
  refine ev_b e0 ?_
  refine ev_f (fun e => absurd (hk.symm.trans e) (by decide)) ?_
  refine ev_f (fun e => absurd (hk.symm.trans e) (by decide)) ?_
  refine ev_f (fun e => absurd (hk.symm.trans e) (by decide)) ?_
  refine ev_f (fun e => absurd (hk.symm.trans e) (by decide)) ?_
  refine ev_f (fun e => absurd (hk.symm.trans e) (by decide)) ?_
  refine ev_f (fun e => absurd (hk.symm.trans e) (by decide)) ?_
  refine ev_f (fun e => absurd (hk.symm.trans e) (by decide)) ?_
  refine ev_f (fun e => absurd (hk.symm.trans e) (by decide)) ?_
  refine ev_f (fun e => absurd (hk.symm.trans e) (by decide)) ?_
  refine ev_f (fun e => absurd (hk.symm.trans e) (by decide)) ?_
  refine ev_t hk ?_
  refine ev_b e1 ?_
  refine ev_b e2 ?_
  refine ev_b e3 ?_
  refine ev_cI q0 ?_
  refine ev_b e1 ?_
  refine ev_b e2 ?_
  refine ev_b e3 ?_
  refine ev_i o1 ?_
  refine ev_cI q1 ?_
  refine ev_i o2 ?_
  refine ev_cI q2 ?_
  refine ev_t rfl ?_
  by_cases c0 : c = 0
  · obtain ⟨ho, hb⟩ := hv c0
    refine ev_f (fun e => e c0) ?_
    refine ev_b ho ?_
    subst hb
    refine ev_t (lg_cmp_self _) ?_
    rfl
  · exact ev_t c0 rfl
set_option maxHeartbeats 4000000 in
set_option maxRecDepth 20000 in
theorem lk_11 {X : am_X} {N K : Nat} {x4 a0 a1 : Int32} {h h' : am_H} (hi : ¬ (Int32.ofNat (X 0).1) - 7 < x4) (e0 : am_pX X 0 x4 = some a0) (hk : a0 &&& 63 = 11) (e1 : am_pX X 0 (x4 + 1) = some a1) (H : opBL (fm_96 N (.ref 0) a1 (.ref 268) h) (fun h1 => fm_390 N (.ref 174) a1 h1) vfI h') : lw_turn X N K x4 h h' := by
  obtain ⟨c, h1, r, o, q0, o1, q1, o2, ht, hv⟩ := H
  have q2 := e_324 ht
  unfold lw_turn
  rw [fg_0_23]
  refine ev_f hi ?_
  refine ev_b e0 ?_
  refine ev_f (fun e => absurd (hk.symm.trans e) (by decide)) ?_
  refine ev_f (fun e => absurd (hk.symm.trans e) (by decide)) ?_
  refine ev_f (fun e => absurd (hk.symm.trans e) (by decide)) ?_
  refine ev_f (fun e => absurd (hk.symm.trans e) (by decide)) ?_
  refine ev_f (fun e => absurd (hk.symm.trans e) (by decide)) ?_
  refine ev_f (fun e => absurd (hk.symm.trans e) (by decide)) ?_
  refine ev_f (fun e => absurd (hk.symm.trans e) (by decide)) ?_
  refine ev_f (fun e => absurd (hk.symm.trans e) (by decide)) ?_
  refine ev_f (fun e => absurd (hk.symm.trans e) (by decide)) ?_
  refine ev_f (fun e => absurd (hk.symm.trans e) (by decide)) ?_
  refine ev_f (fun e => absurd (hk.symm.trans e) (by decide)) ?_
  refine ev_t hk ?_
  refine ev_b e1 ?_
  refine ev_cI q0 ?_
  refine ev_b e1 ?_
  refine ev_i o1 ?_
  refine ev_cL q1 ?_
  refine ev_i o2 ?_
  refine ev_cI q2 ?_
  refine ev_t rfl ?_
  by_cases c0 : c = 0
  · obtain ⟨ho, hb⟩ := hv c0
    refine ev_f (fun e => e c0) ?_
    refine ev_b ho ?_
    subst hb
    refine ev_t (lg_cmp_self _) ?_
    rfl
  · exact ev_t c0 rfl
set_option maxHeartbeats 4000000 in
set_option maxRecDepth 20000 in
theorem lk_12 {X : am_X} {N K : Nat} {x4 a0 a1 : Int32} {h h' : am_H} (hi : ¬ (Int32.ofNat (X 0).1) - 7 < x4) (e0 : am_pX X 0 x4 = some a0) (hk : a0 &&& 63 = 12) (e1 : am_pX X 0 (x4 + 1) = some a1) (o0 : am_pOk 11 (.ref 0) h = true) (H : opA (fm_24 (.ref 0) a1 h) (fun h1 => fm_395 (.ref 174) a1 h1) h') : lw_turn X N K x4 h h' := by
  obtain ⟨v, h1, q0, o1, q1⟩ := H
  unfold lw_turn
  rw [fg_0_23]
  refine ev_f hi ?_
  refine ev_b e0 ?_
  refine ev_f (fun e => absurd (hk.symm.trans e) (by decide)) ?_
  refine ev_f (fun e => absurd (hk.symm.trans e) (by decide)) ?_
  refine ev_f (fun e => absurd (hk.symm.trans e) (by decide)) ?_
  refine ev_f (fun e => absurd (hk.symm.trans e) (by decide)) ?_
  refine ev_f (fun e => absurd (hk.symm.trans e) (by decide)) ?_
  refine ev_f (fun e => absurd (hk.symm.trans e) (by decide)) ?_
  refine ev_f (fun e => absurd (hk.symm.trans e) (by decide)) ?_
  refine ev_f (fun e => absurd (hk.symm.trans e) (by decide)) ?_
  refine ev_f (fun e => absurd (hk.symm.trans e) (by decide)) ?_
  refine ev_f (fun e => absurd (hk.symm.trans e) (by decide)) ?_
  refine ev_f (fun e => absurd (hk.symm.trans e) (by decide)) ?_
  refine ev_f (fun e => absurd (hk.symm.trans e) (by decide)) ?_
  refine ev_t hk ?_
  refine ev_b e1 ?_
  refine ev_i o0 ?_
  refine ev_cI q0 ?_
  refine ev_b e1 ?_
  refine ev_i o1 ?_
  refine ev_cI q1 ?_
  refine ev_t rfl ?_
  rfl
set_option maxHeartbeats 4000000 in
set_option maxRecDepth 20000 in
theorem lk_13 {X : am_X} {N K : Nat} {x4 a0 a1 a2 a3 a4 a5 a6 : Int32} {h h' : am_H} (hi : ¬ (Int32.ofNat (X 0).1) - 7 < x4) (e0 : am_pX X 0 x4 = some a0) (hk : a0 &&& 63 = 13) (e1 : am_pX X 0 (x4 + 1) = some a1) (e2 : am_pX X 0 (x4 + 2) = some a2) (e3 : am_pX X 0 (x4 + 3) = some a3) (e4 : am_pX X 0 (x4 + 4) = some a4) (e5 : am_pX X 0 (x4 + 5) = some a5) (e6 : am_pX X 0 (x4 + 6) = some a6) (H : opBI (fm_103 N (.ref 0) a1 a2 a3 a4 a5 (if a6 = 0 then 0 else 1) (.ref 268) h) (fun h1 => fm_396 N (.ref 174) a1 a2 a3 a4 a5 (if a6 = 0 then 0 else 1) h1) vfI h') : lw_turn X N K x4 h h' := by
  by_cases hz : a6 = 0
  · rw [if_pos hz] at H
    obtain ⟨c, h1, r, o, q0, o1, q1, o2, ht, hv⟩ := H
    have q2 := e_324 ht
    unfold lw_turn
    rw [fg_0_23]
    refine ev_f hi ?_
    refine ev_b e0 ?_
    refine ev_f (fun e => absurd (hk.symm.trans e) (by decide)) ?_
    refine ev_f (fun e => absurd (hk.symm.trans e) (by decide)) ?_
    refine ev_f (fun e => absurd (hk.symm.trans e) (by decide)) ?_
    refine ev_f (fun e => absurd (hk.symm.trans e) (by decide)) ?_
    refine ev_f (fun e => absurd (hk.symm.trans e) (by decide)) ?_
    refine ev_f (fun e => absurd (hk.symm.trans e) (by decide)) ?_
    refine ev_f (fun e => absurd (hk.symm.trans e) (by decide)) ?_
    refine ev_f (fun e => absurd (hk.symm.trans e) (by decide)) ?_
    refine ev_f (fun e => absurd (hk.symm.trans e) (by decide)) ?_
    refine ev_f (fun e => absurd (hk.symm.trans e) (by decide)) ?_
    refine ev_f (fun e => absurd (hk.symm.trans e) (by decide)) ?_
    refine ev_f (fun e => absurd (hk.symm.trans e) (by decide)) ?_
    refine ev_f (fun e => absurd (hk.symm.trans e) (by decide)) ?_
    refine ev_t hk ?_
    refine ev_b e1 ?_
    refine ev_b e2 ?_
    refine ev_b e3 ?_
    refine ev_b e4 ?_
    refine ev_b e5 ?_
    refine ev_b e6 ?_
    refine ev_t hz ?_
    unfold fg_0_1105
    refine ev_cI q0 ?_
    refine ev_b e1 ?_
    refine ev_b e2 ?_
    refine ev_b e3 ?_
    refine ev_b e4 ?_
    refine ev_b e5 ?_
    refine ev_b e6 ?_
    refine ev_t hz ?_
    unfold fg_0_1157
    refine ev_i o1 ?_
    refine ev_cI q1 ?_
    refine ev_i o2 ?_
    refine ev_cI q2 ?_
    refine ev_t rfl ?_
    by_cases c0 : c = 0
    · obtain ⟨ho, hb⟩ := hv c0
      refine ev_f (fun e => e c0) ?_
      refine ev_b ho ?_
      subst hb
      refine ev_t (lg_cmp_self _) ?_
      rfl
    · exact ev_t c0 rfl
  · rw [if_neg hz] at H
    obtain ⟨c, h1, r, o, q0, o1, q1, o2, ht, hv⟩ := H
    have q2 := e_324 ht
    unfold lw_turn
    rw [fg_0_23]
    refine ev_f hi ?_
    refine ev_b e0 ?_
    refine ev_f (fun e => absurd (hk.symm.trans e) (by decide)) ?_
    refine ev_f (fun e => absurd (hk.symm.trans e) (by decide)) ?_
    refine ev_f (fun e => absurd (hk.symm.trans e) (by decide)) ?_
    refine ev_f (fun e => absurd (hk.symm.trans e) (by decide)) ?_
    refine ev_f (fun e => absurd (hk.symm.trans e) (by decide)) ?_
    refine ev_f (fun e => absurd (hk.symm.trans e) (by decide)) ?_
    refine ev_f (fun e => absurd (hk.symm.trans e) (by decide)) ?_
    refine ev_f (fun e => absurd (hk.symm.trans e) (by decide)) ?_
    refine ev_f (fun e => absurd (hk.symm.trans e) (by decide)) ?_
    refine ev_f (fun e => absurd (hk.symm.trans e) (by decide)) ?_
    refine ev_f (fun e => absurd (hk.symm.trans e) (by decide)) ?_
    refine ev_f (fun e => absurd (hk.symm.trans e) (by decide)) ?_
    refine ev_f (fun e => absurd (hk.symm.trans e) (by decide)) ?_
    refine ev_t hk ?_
    refine ev_b e1 ?_
    refine ev_b e2 ?_
    refine ev_b e3 ?_
    refine ev_b e4 ?_
    refine ev_b e5 ?_
    refine ev_b e6 ?_
    refine ev_f hz ?_
    unfold fg_0_1105
    refine ev_cI q0 ?_
    refine ev_b e1 ?_
    refine ev_b e2 ?_
    refine ev_b e3 ?_
    refine ev_b e4 ?_
    refine ev_b e5 ?_
    refine ev_b e6 ?_
    refine ev_f hz ?_
    unfold fg_0_1157
    refine ev_i o1 ?_
    refine ev_cI q1 ?_
    refine ev_i o2 ?_
    refine ev_cI q2 ?_
    refine ev_t rfl ?_
    by_cases c0 : c = 0
    · obtain ⟨ho, hb⟩ := hv c0
      refine ev_f (fun e => e c0) ?_
      refine ev_b ho ?_
      subst hb
      refine ev_t (lg_cmp_self _) ?_
      rfl
    · exact ev_t c0 rfl
set_option maxHeartbeats 4000000 in
set_option maxRecDepth 20000 in
theorem lk_14 {X : am_X} {N K : Nat} {x4 a0 a1 : Int32} {h h' : am_H} (hi : ¬ (Int32.ofNat (X 0).1) - 7 < x4) (e0 : am_pX X 0 x4 = some a0) (hk : a0 &&& 63 = 14) (e1 : am_pX X 0 (x4 + 1) = some a1) (H : opBI (fm_106 (.ref 0) a1 (.ref 268) h) (fun h1 => fm_397 N (.ref 174) a1 h1) vfI h') : lw_turn X N K x4 h h' := by
  obtain ⟨c, h1, r, o, q0, o1, q1, o2, ht, hv⟩ := H
  have q2 := e_324 ht
  unfold lw_turn
  rw [fg_0_23]
  refine ev_f hi ?_
  refine ev_b e0 ?_
  refine ev_f (fun e => absurd (hk.symm.trans e) (by decide)) ?_
  refine ev_f (fun e => absurd (hk.symm.trans e) (by decide)) ?_
  refine ev_f (fun e => absurd (hk.symm.trans e) (by decide)) ?_
  refine ev_f (fun e => absurd (hk.symm.trans e) (by decide)) ?_
  refine ev_f (fun e => absurd (hk.symm.trans e) (by decide)) ?_
  refine ev_f (fun e => absurd (hk.symm.trans e) (by decide)) ?_
  refine ev_f (fun e => absurd (hk.symm.trans e) (by decide)) ?_
  refine ev_f (fun e => absurd (hk.symm.trans e) (by decide)) ?_
  refine ev_f (fun e => absurd (hk.symm.trans e) (by decide)) ?_
  refine ev_f (fun e => absurd (hk.symm.trans e) (by decide)) ?_
  refine ev_f (fun e => absurd (hk.symm.trans e) (by decide)) ?_
  refine ev_f (fun e => absurd (hk.symm.trans e) (by decide)) ?_
  refine ev_f (fun e => absurd (hk.symm.trans e) (by decide)) ?_
  refine ev_f (fun e => absurd (hk.symm.trans e) (by decide)) ?_
  refine ev_t hk ?_
  refine ev_b e1 ?_
  refine ev_cI q0 ?_
  refine ev_b e1 ?_
  refine ev_i o1 ?_
  refine ev_cI q1 ?_
  refine ev_i o2 ?_
  refine ev_cI q2 ?_
  refine ev_t rfl ?_
  by_cases c0 : c = 0
  · obtain ⟨ho, hb⟩ := hv c0
    refine ev_f (fun e => e c0) ?_
    refine ev_b ho ?_
    subst hb
    refine ev_t (lg_cmp_self _) ?_
    rfl
  · exact ev_t c0 rfl
set_option maxHeartbeats 4000000 in
set_option maxRecDepth 20000 in
theorem lk_15 {X : am_X} {N K : Nat} {x4 a0 : Int32} {h h' : am_H} (hi : ¬ (Int32.ofNat (X 0).1) - 7 < x4) (e0 : am_pX X 0 x4 = some a0) (hk : a0 &&& 63 = 15) (o0 : am_pOk 11 (.ref 0) h = true) (H : opA (fm_25 (.ref 0) h) (fun h1 => fm_399 (.ref 174) h1) h') : lw_turn X N K x4 h h' := by
  obtain ⟨v, h1, q0, o1, q1⟩ := H
  unfold lw_turn
  rw [fg_0_23]
  refine ev_f hi ?_
  refine ev_b e0 ?_
  refine ev_f (fun e => absurd (hk.symm.trans e) (by decide)) ?_
  refine ev_f (fun e => absurd (hk.symm.trans e) (by decide)) ?_
  refine ev_f (fun e => absurd (hk.symm.trans e) (by decide)) ?_
  refine ev_f (fun e => absurd (hk.symm.trans e) (by decide)) ?_
  refine ev_f (fun e => absurd (hk.symm.trans e) (by decide)) ?_
  refine ev_f (fun e => absurd (hk.symm.trans e) (by decide)) ?_
  refine ev_f (fun e => absurd (hk.symm.trans e) (by decide)) ?_
  refine ev_f (fun e => absurd (hk.symm.trans e) (by decide)) ?_
  refine ev_f (fun e => absurd (hk.symm.trans e) (by decide)) ?_
  refine ev_f (fun e => absurd (hk.symm.trans e) (by decide)) ?_
  refine ev_f (fun e => absurd (hk.symm.trans e) (by decide)) ?_
  refine ev_f (fun e => absurd (hk.symm.trans e) (by decide)) ?_
  refine ev_f (fun e => absurd (hk.symm.trans e) (by decide)) ?_
  refine ev_f (fun e => absurd (hk.symm.trans e) (by decide)) ?_
  refine ev_f (fun e => absurd (hk.symm.trans e) (by decide)) ?_
  refine ev_t hk ?_
  refine ev_i o0 ?_
  refine ev_cI q0 ?_
  refine ev_i o1 ?_
  refine ev_cI q1 ?_
  refine ev_t rfl ?_
  rfl
set_option maxHeartbeats 4000000 in
set_option maxRecDepth 20000 in
theorem lk_16 {X : am_X} {N K : Nat} {x4 a0 a1 a2 : Int32} {h h' : am_H} (hi : ¬ (Int32.ofNat (X 0).1) - 7 < x4) (e0 : am_pX X 0 x4 = some a0) (hk : a0 &&& 63 = 16) (e1 : am_pX X 0 (x4 + 1) = some a1) (e2 : am_pX X 0 (x4 + 2) = some a2) (H : opBI (fm_110 (.ref 0) a1 a2 (.ref 268) h) (fun h1 => fm_400 (.ref 174) a1 a2 h1) vfI h') : lw_turn X N K x4 h h' := by
  obtain ⟨c, h1, r, o, q0, o1, q1, o2, ht, hv⟩ := H
  have q2 := e_324 ht
  unfold lw_turn
  rw [fg_0_23]
  refine ev_f hi ?_
  refine ev_b e0 ?_
  refine ev_f (fun e => absurd (hk.symm.trans e) (by decide)) ?_
  refine ev_f (fun e => absurd (hk.symm.trans e) (by decide)) ?_
  refine ev_f (fun e => absurd (hk.symm.trans e) (by decide)) ?_
  refine ev_f (fun e => absurd (hk.symm.trans e) (by decide)) ?_
  refine ev_f (fun e => absurd (hk.symm.trans e) (by decide)) ?_
  refine ev_f (fun e => absurd (hk.symm.trans e) (by decide)) ?_
  refine ev_f (fun e => absurd (hk.symm.trans e) (by decide)) ?_
  refine ev_f (fun e => absurd (hk.symm.trans e) (by decide)) ?_
  refine ev_f (fun e => absurd (hk.symm.trans e) (by decide)) ?_
  refine ev_f (fun e => absurd (hk.symm.trans e) (by decide)) ?_
  refine ev_f (fun e => absurd (hk.symm.trans e) (by decide)) ?_
  refine ev_f (fun e => absurd (hk.symm.trans e) (by decide)) ?_
  refine ev_f (fun e => absurd (hk.symm.trans e) (by decide)) ?_
  refine ev_f (fun e => absurd (hk.symm.trans e) (by decide)) ?_
  refine ev_f (fun e => absurd (hk.symm.trans e) (by decide)) ?_
  refine ev_f (fun e => absurd (hk.symm.trans e) (by decide)) ?_
  refine ev_t hk ?_
  refine ev_b e1 ?_
  refine ev_b e2 ?_
  refine ev_cI q0 ?_
  refine ev_b e1 ?_
  refine ev_b e2 ?_
  refine ev_i o1 ?_
  refine ev_cI q1 ?_
  refine ev_i o2 ?_
  refine ev_cI q2 ?_
  refine ev_t rfl ?_
  by_cases c0 : c = 0
  · obtain ⟨ho, hb⟩ := hv c0
    refine ev_f (fun e => e c0) ?_
    refine ev_b ho ?_
    subst hb
    refine ev_t (lg_cmp_self _) ?_
    rfl
  · exact ev_t c0 rfl
set_option maxHeartbeats 4000000 in
set_option maxRecDepth 20000 in
theorem lk_17 {X : am_X} {N K : Nat} {x4 a0 a1 a2 : Int32} {h h' : am_H} (hi : ¬ (Int32.ofNat (X 0).1) - 7 < x4) (e0 : am_pX X 0 x4 = some a0) (hk : a0 &&& 63 = 17) (e1 : am_pX X 0 (x4 + 1) = some a1) (e2 : am_pX X 0 (x4 + 2) = some a2) (H : opBI (fm_113 N (.ref 0) a1 a2 (.ref 268) h) (fun h1 => fm_401 N (.ref 174) a1 a2 h1) vfI h') : lw_turn X N K x4 h h' := by
  obtain ⟨c, h1, r, o, q0, o1, q1, o2, ht, hv⟩ := H
  have q2 := e_324 ht
  unfold lw_turn
  rw [fg_0_23]
  refine ev_f hi ?_
  refine ev_b e0 ?_
  refine ev_f (fun e => absurd (hk.symm.trans e) (by decide)) ?_
  refine ev_f (fun e => absurd (hk.symm.trans e) (by decide)) ?_
  refine ev_f (fun e => absurd (hk.symm.trans e) (by decide)) ?_
  refine ev_f (fun e => absurd (hk.symm.trans e) (by decide)) ?_
  refine ev_f (fun e => absurd (hk.symm.trans e) (by decide)) ?_
  refine ev_f (fun e => absurd (hk.symm.trans e) (by decide)) ?_
  refine ev_f (fun e => absurd (hk.symm.trans e) (by decide)) ?_
  refine ev_f (fun e => absurd (hk.symm.trans e) (by decide)) ?_
  refine ev_f (fun e => absurd (hk.symm.trans e) (by decide)) ?_
  refine ev_f (fun e => absurd (hk.symm.trans e) (by decide)) ?_
  refine ev_f (fun e => absurd (hk.symm.trans e) (by decide)) ?_
  refine ev_f (fun e => absurd (hk.symm.trans e) (by decide)) ?_
  refine ev_f (fun e => absurd (hk.symm.trans e) (by decide)) ?_
  refine ev_f (fun e => absurd (hk.symm.trans e) (by decide)) ?_
  refine ev_f (fun e => absurd (hk.symm.trans e) (by decide)) ?_
  refine ev_f (fun e => absurd (hk.symm.trans e) (by decide)) ?_
  refine ev_f (fun e => absurd (hk.symm.trans e) (by decide)) ?_
  refine ev_t hk ?_
  refine ev_b e1 ?_
  refine ev_b e2 ?_
  refine ev_cI q0 ?_
  refine ev_b e1 ?_
  refine ev_b e2 ?_
  refine ev_i o1 ?_
  refine ev_cI q1 ?_
  refine ev_i o2 ?_
  refine ev_cI q2 ?_
  refine ev_t rfl ?_
  by_cases c0 : c = 0
  · obtain ⟨ho, hb⟩ := hv c0
    refine ev_f (fun e => e c0) ?_
    refine ev_b ho ?_
    subst hb
    refine ev_t (lg_cmp_self _) ?_
    rfl
  · exact ev_t c0 rfl
set_option maxHeartbeats 4000000 in
set_option maxRecDepth 20000 in
theorem lk_18 {X : am_X} {N K : Nat} {x4 a0 a1 a2 a3 a4 : Int32} {h h' : am_H} (hi : ¬ (Int32.ofNat (X 0).1) - 7 < x4) (e0 : am_pX X 0 x4 = some a0) (hk : a0 &&& 63 = 18) (e1 : am_pX X 0 (x4 + 1) = some a1) (e2 : am_pX X 0 (x4 + 2) = some a2) (e3 : am_pX X 0 (x4 + 3) = some a3) (e4 : am_pX X 0 (x4 + 4) = some a4) (H : opBI (fm_129 N (.ref 0) a1 a2 a3 a4 (.ref 268) h) (fun h1 => fm_420 N (.ref 174) a1 a2 a3 a4 h1) vfI h') : lw_turn X N K x4 h h' := by
  obtain ⟨c, h1, r, o, q0, o1, q1, o2, ht, hv⟩ := H
  have q2 := e_324 ht
  unfold lw_turn
  rw [fg_0_23]
  refine ev_f hi ?_
  refine ev_b e0 ?_
  refine ev_f (fun e => absurd (hk.symm.trans e) (by decide)) ?_
  refine ev_f (fun e => absurd (hk.symm.trans e) (by decide)) ?_
  refine ev_f (fun e => absurd (hk.symm.trans e) (by decide)) ?_
  refine ev_f (fun e => absurd (hk.symm.trans e) (by decide)) ?_
  refine ev_f (fun e => absurd (hk.symm.trans e) (by decide)) ?_
  refine ev_f (fun e => absurd (hk.symm.trans e) (by decide)) ?_
  refine ev_f (fun e => absurd (hk.symm.trans e) (by decide)) ?_
  refine ev_f (fun e => absurd (hk.symm.trans e) (by decide)) ?_
  refine ev_f (fun e => absurd (hk.symm.trans e) (by decide)) ?_
  refine ev_f (fun e => absurd (hk.symm.trans e) (by decide)) ?_
  refine ev_f (fun e => absurd (hk.symm.trans e) (by decide)) ?_
  refine ev_f (fun e => absurd (hk.symm.trans e) (by decide)) ?_
  refine ev_f (fun e => absurd (hk.symm.trans e) (by decide)) ?_
  refine ev_f (fun e => absurd (hk.symm.trans e) (by decide)) ?_
  refine ev_f (fun e => absurd (hk.symm.trans e) (by decide)) ?_
  refine ev_f (fun e => absurd (hk.symm.trans e) (by decide)) ?_
  refine ev_f (fun e => absurd (hk.symm.trans e) (by decide)) ?_
  refine ev_f (fun e => absurd (hk.symm.trans e) (by decide)) ?_
  refine ev_t hk ?_
  refine ev_b e1 ?_
  refine ev_b e2 ?_
  refine ev_b e3 ?_
  refine ev_b e4 ?_
  refine ev_cI q0 ?_
  refine ev_b e1 ?_
  refine ev_b e2 ?_
  refine ev_b e3 ?_
  refine ev_b e4 ?_
  refine ev_i o1 ?_
  refine ev_cI q1 ?_
  refine ev_i o2 ?_
  refine ev_cI q2 ?_
  refine ev_t rfl ?_
  by_cases c0 : c = 0
  · obtain ⟨ho, hb⟩ := hv c0
    refine ev_f (fun e => e c0) ?_
    refine ev_b ho ?_
    subst hb
    refine ev_t (lg_cmp_self _) ?_
    rfl
  · exact ev_t c0 rfl
set_option maxHeartbeats 4000000 in
set_option maxRecDepth 20000 in
theorem lk_19 {X : am_X} {N K : Nat} {x4 a0 : Int32} {h h' : am_H} (hi : ¬ (Int32.ofNat (X 0).1) - 7 < x4) (e0 : am_pX X 0 x4 = some a0) (hk : a0 &&& 63 = 19) (o0 : am_pOk 11 (.ref 0) h = true) (H : opA (fm_26 (.ref 0) h) (fun h1 => fm_422 (.ref 174) h1) h') : lw_turn X N K x4 h h' := by
  obtain ⟨v, h1, q0, o1, q1⟩ := H
  unfold lw_turn
  rw [fg_0_23]
  refine ev_f hi ?_
  refine ev_b e0 ?_
  refine ev_f (fun e => absurd (hk.symm.trans e) (by decide)) ?_
  refine ev_f (fun e => absurd (hk.symm.trans e) (by decide)) ?_
  refine ev_f (fun e => absurd (hk.symm.trans e) (by decide)) ?_
  refine ev_f (fun e => absurd (hk.symm.trans e) (by decide)) ?_
  refine ev_f (fun e => absurd (hk.symm.trans e) (by decide)) ?_
  refine ev_f (fun e => absurd (hk.symm.trans e) (by decide)) ?_
  refine ev_f (fun e => absurd (hk.symm.trans e) (by decide)) ?_
  refine ev_f (fun e => absurd (hk.symm.trans e) (by decide)) ?_
  refine ev_f (fun e => absurd (hk.symm.trans e) (by decide)) ?_
  refine ev_f (fun e => absurd (hk.symm.trans e) (by decide)) ?_
  refine ev_f (fun e => absurd (hk.symm.trans e) (by decide)) ?_
  refine ev_f (fun e => absurd (hk.symm.trans e) (by decide)) ?_
  refine ev_f (fun e => absurd (hk.symm.trans e) (by decide)) ?_
  refine ev_f (fun e => absurd (hk.symm.trans e) (by decide)) ?_
  refine ev_f (fun e => absurd (hk.symm.trans e) (by decide)) ?_
  refine ev_f (fun e => absurd (hk.symm.trans e) (by decide)) ?_
  refine ev_f (fun e => absurd (hk.symm.trans e) (by decide)) ?_
  refine ev_f (fun e => absurd (hk.symm.trans e) (by decide)) ?_
  refine ev_f (fun e => absurd (hk.symm.trans e) (by decide)) ?_
  refine ev_t hk ?_
  refine ev_i o0 ?_
  refine ev_cI q0 ?_
  refine ev_i o1 ?_
  refine ev_cI q1 ?_
  refine ev_t rfl ?_
  rfl
set_option maxHeartbeats 4000000 in
set_option maxRecDepth 20000 in
theorem lk_20 {X : am_X} {N K : Nat} {x4 a0 : Int32} {h h' : am_H} (hi : ¬ (Int32.ofNat (X 0).1) - 7 < x4) (e0 : am_pX X 0 x4 = some a0) (hk : a0 &&& 63 = 20) (o0 : am_pOk 11 (.ref 0) h = true) (H : opA (fm_27 (.ref 0) h) (fun h1 => fm_423 (.ref 174) h1) h') : lw_turn X N K x4 h h' := by
  obtain ⟨v, h1, q0, o1, q1⟩ := H
  unfold lw_turn
  rw [fg_0_23]
  refine ev_f hi ?_
  refine ev_b e0 ?_
  refine ev_f (fun e => absurd (hk.symm.trans e) (by decide)) ?_
  refine ev_f (fun e => absurd (hk.symm.trans e) (by decide)) ?_
  refine ev_f (fun e => absurd (hk.symm.trans e) (by decide)) ?_
  refine ev_f (fun e => absurd (hk.symm.trans e) (by decide)) ?_
  refine ev_f (fun e => absurd (hk.symm.trans e) (by decide)) ?_
  refine ev_f (fun e => absurd (hk.symm.trans e) (by decide)) ?_
  refine ev_f (fun e => absurd (hk.symm.trans e) (by decide)) ?_
  refine ev_f (fun e => absurd (hk.symm.trans e) (by decide)) ?_
  refine ev_f (fun e => absurd (hk.symm.trans e) (by decide)) ?_
  refine ev_f (fun e => absurd (hk.symm.trans e) (by decide)) ?_
  refine ev_f (fun e => absurd (hk.symm.trans e) (by decide)) ?_
  refine ev_f (fun e => absurd (hk.symm.trans e) (by decide)) ?_
  refine ev_f (fun e => absurd (hk.symm.trans e) (by decide)) ?_
  refine ev_f (fun e => absurd (hk.symm.trans e) (by decide)) ?_
  refine ev_f (fun e => absurd (hk.symm.trans e) (by decide)) ?_
  refine ev_f (fun e => absurd (hk.symm.trans e) (by decide)) ?_
  refine ev_f (fun e => absurd (hk.symm.trans e) (by decide)) ?_
  refine ev_f (fun e => absurd (hk.symm.trans e) (by decide)) ?_
  refine ev_f (fun e => absurd (hk.symm.trans e) (by decide)) ?_
  refine ev_f (fun e => absurd (hk.symm.trans e) (by decide)) ?_
  refine ev_t hk ?_
  refine ev_i o0 ?_
  refine ev_cI q0 ?_
  refine ev_i o1 ?_
  refine ev_cI q1 ?_
  refine ev_t rfl ?_
  rfl
set_option maxHeartbeats 4000000 in
set_option maxRecDepth 20000 in
theorem lk_21 {X : am_X} {N K : Nat} {x4 a0 a1 a2 : Int32} {h h' : am_H} (hi : ¬ (Int32.ofNat (X 0).1) - 7 < x4) (e0 : am_pX X 0 x4 = some a0) (hk : a0 &&& 63 = 21) (e1 : am_pX X 0 (x4 + 1) = some a1) (e2 : am_pX X 0 (x4 + 2) = some a2) (H : opBI (fm_131 N (.ref 0) a1 a2 (.ref 268) h) (fun h1 => fm_424 N (.ref 174) a1 a2 h1) vfI h') : lw_turn X N K x4 h h' := by
  obtain ⟨c, h1, r, o, q0, o1, q1, o2, ht, hv⟩ := H
  have q2 := e_324 ht
  unfold lw_turn
  rw [fg_0_23]
  refine ev_f hi ?_
  refine ev_b e0 ?_
  refine ev_f (fun e => absurd (hk.symm.trans e) (by decide)) ?_
  refine ev_f (fun e => absurd (hk.symm.trans e) (by decide)) ?_
  refine ev_f (fun e => absurd (hk.symm.trans e) (by decide)) ?_
  refine ev_f (fun e => absurd (hk.symm.trans e) (by decide)) ?_
  refine ev_f (fun e => absurd (hk.symm.trans e) (by decide)) ?_
  refine ev_f (fun e => absurd (hk.symm.trans e) (by decide)) ?_
  refine ev_f (fun e => absurd (hk.symm.trans e) (by decide)) ?_
  refine ev_f (fun e => absurd (hk.symm.trans e) (by decide)) ?_
  refine ev_f (fun e => absurd (hk.symm.trans e) (by decide)) ?_
  refine ev_f (fun e => absurd (hk.symm.trans e) (by decide)) ?_
  refine ev_f (fun e => absurd (hk.symm.trans e) (by decide)) ?_
  refine ev_f (fun e => absurd (hk.symm.trans e) (by decide)) ?_
  refine ev_f (fun e => absurd (hk.symm.trans e) (by decide)) ?_
  refine ev_f (fun e => absurd (hk.symm.trans e) (by decide)) ?_
  refine ev_f (fun e => absurd (hk.symm.trans e) (by decide)) ?_
  refine ev_f (fun e => absurd (hk.symm.trans e) (by decide)) ?_
  refine ev_f (fun e => absurd (hk.symm.trans e) (by decide)) ?_
  refine ev_f (fun e => absurd (hk.symm.trans e) (by decide)) ?_
  refine ev_f (fun e => absurd (hk.symm.trans e) (by decide)) ?_
  refine ev_f (fun e => absurd (hk.symm.trans e) (by decide)) ?_
  refine ev_f (fun e => absurd (hk.symm.trans e) (by decide)) ?_
  refine ev_t hk ?_
  refine ev_b e1 ?_
  refine ev_b e2 ?_
  refine ev_cI q0 ?_
  refine ev_b e1 ?_
  refine ev_b e2 ?_
  refine ev_i o1 ?_
  refine ev_cI q1 ?_
  refine ev_i o2 ?_
  refine ev_cI q2 ?_
  refine ev_t rfl ?_
  by_cases c0 : c = 0
  · obtain ⟨ho, hb⟩ := hv c0
    refine ev_f (fun e => e c0) ?_
    refine ev_b ho ?_
    subst hb
    refine ev_t (lg_cmp_self _) ?_
    rfl
  · exact ev_t c0 rfl
set_option maxHeartbeats 4000000 in
set_option maxRecDepth 20000 in
theorem lk_22 {X : am_X} {N K : Nat} {x4 a0 a1 a2 a3 : Int32} {h h' : am_H} (hi : ¬ (Int32.ofNat (X 0).1) - 7 < x4) (e0 : am_pX X 0 x4 = some a0) (hk : a0 &&& 63 = 22) (e1 : am_pX X 0 (x4 + 1) = some a1) (e2 : am_pX X 0 (x4 + 2) = some a2) (e3 : am_pX X 0 (x4 + 3) = some a3) (H : opBL (fm_137 N (.ref 0) a1 (if a2 = 0 then 0 else 1) a3 (.ref 268) h) (fun h1 => fm_427 N (.ref 174) a1 (if a2 = 0 then 0 else 1) a3 h1) vfI h') : lw_turn X N K x4 h h' := by
  by_cases hz : a2 = 0
  · rw [if_pos hz] at H
    obtain ⟨c, h1, r, o, q0, o1, q1, o2, ht, hv⟩ := H
    have q2 := e_324 ht
    unfold lw_turn
    rw [fg_0_23]
    refine ev_f hi ?_
    refine ev_b e0 ?_
    refine ev_f (fun e => absurd (hk.symm.trans e) (by decide)) ?_
    refine ev_f (fun e => absurd (hk.symm.trans e) (by decide)) ?_
    refine ev_f (fun e => absurd (hk.symm.trans e) (by decide)) ?_
    refine ev_f (fun e => absurd (hk.symm.trans e) (by decide)) ?_
    refine ev_f (fun e => absurd (hk.symm.trans e) (by decide)) ?_
    refine ev_f (fun e => absurd (hk.symm.trans e) (by decide)) ?_
    refine ev_f (fun e => absurd (hk.symm.trans e) (by decide)) ?_
    refine ev_f (fun e => absurd (hk.symm.trans e) (by decide)) ?_
    refine ev_f (fun e => absurd (hk.symm.trans e) (by decide)) ?_
    refine ev_f (fun e => absurd (hk.symm.trans e) (by decide)) ?_
    refine ev_f (fun e => absurd (hk.symm.trans e) (by decide)) ?_
    refine ev_f (fun e => absurd (hk.symm.trans e) (by decide)) ?_
    refine ev_f (fun e => absurd (hk.symm.trans e) (by decide)) ?_
    refine ev_f (fun e => absurd (hk.symm.trans e) (by decide)) ?_
    refine ev_f (fun e => absurd (hk.symm.trans e) (by decide)) ?_
    refine ev_f (fun e => absurd (hk.symm.trans e) (by decide)) ?_
    refine ev_f (fun e => absurd (hk.symm.trans e) (by decide)) ?_
    refine ev_f (fun e => absurd (hk.symm.trans e) (by decide)) ?_
    refine ev_f (fun e => absurd (hk.symm.trans e) (by decide)) ?_
    refine ev_f (fun e => absurd (hk.symm.trans e) (by decide)) ?_
    refine ev_f (fun e => absurd (hk.symm.trans e) (by decide)) ?_
    refine ev_f (fun e => absurd (hk.symm.trans e) (by decide)) ?_
    refine ev_t hk ?_
    refine ev_b e1 ?_
    refine ev_b e2 ?_
    refine ev_t hz ?_
    unfold fg_0_1605
    refine ev_b e3 ?_
    refine ev_cI q0 ?_
    refine ev_b e1 ?_
    refine ev_b e2 ?_
    refine ev_t hz ?_
    unfold fg_0_1638
    refine ev_b e3 ?_
    refine ev_i o1 ?_
    refine ev_cL q1 ?_
    refine ev_i o2 ?_
    refine ev_cI q2 ?_
    refine ev_t rfl ?_
    by_cases c0 : c = 0
    · obtain ⟨ho, hb⟩ := hv c0
      refine ev_f (fun e => e c0) ?_
      refine ev_b ho ?_
      subst hb
      refine ev_t (lg_cmp_self _) ?_
      rfl
    · exact ev_t c0 rfl
  · rw [if_neg hz] at H
    obtain ⟨c, h1, r, o, q0, o1, q1, o2, ht, hv⟩ := H
    have q2 := e_324 ht
    unfold lw_turn
    rw [fg_0_23]
    refine ev_f hi ?_
    refine ev_b e0 ?_
    refine ev_f (fun e => absurd (hk.symm.trans e) (by decide)) ?_
    refine ev_f (fun e => absurd (hk.symm.trans e) (by decide)) ?_
    refine ev_f (fun e => absurd (hk.symm.trans e) (by decide)) ?_
    refine ev_f (fun e => absurd (hk.symm.trans e) (by decide)) ?_
    refine ev_f (fun e => absurd (hk.symm.trans e) (by decide)) ?_
    refine ev_f (fun e => absurd (hk.symm.trans e) (by decide)) ?_
    refine ev_f (fun e => absurd (hk.symm.trans e) (by decide)) ?_
    refine ev_f (fun e => absurd (hk.symm.trans e) (by decide)) ?_
    refine ev_f (fun e => absurd (hk.symm.trans e) (by decide)) ?_
    refine ev_f (fun e => absurd (hk.symm.trans e) (by decide)) ?_
    refine ev_f (fun e => absurd (hk.symm.trans e) (by decide)) ?_
    refine ev_f (fun e => absurd (hk.symm.trans e) (by decide)) ?_
    refine ev_f (fun e => absurd (hk.symm.trans e) (by decide)) ?_
    refine ev_f (fun e => absurd (hk.symm.trans e) (by decide)) ?_
    refine ev_f (fun e => absurd (hk.symm.trans e) (by decide)) ?_
    refine ev_f (fun e => absurd (hk.symm.trans e) (by decide)) ?_
    refine ev_f (fun e => absurd (hk.symm.trans e) (by decide)) ?_
    refine ev_f (fun e => absurd (hk.symm.trans e) (by decide)) ?_
    refine ev_f (fun e => absurd (hk.symm.trans e) (by decide)) ?_
    refine ev_f (fun e => absurd (hk.symm.trans e) (by decide)) ?_
    refine ev_f (fun e => absurd (hk.symm.trans e) (by decide)) ?_
    refine ev_f (fun e => absurd (hk.symm.trans e) (by decide)) ?_
    refine ev_t hk ?_
    refine ev_b e1 ?_
    refine ev_b e2 ?_
    refine ev_f hz ?_
    unfold fg_0_1605
    refine ev_b e3 ?_
    refine ev_cI q0 ?_
    refine ev_b e1 ?_
    refine ev_b e2 ?_
    refine ev_f hz ?_
    unfold fg_0_1638
    refine ev_b e3 ?_
    refine ev_i o1 ?_
    refine ev_cL q1 ?_
    refine ev_i o2 ?_
    refine ev_cI q2 ?_
    refine ev_t rfl ?_
    by_cases c0 : c = 0
    · obtain ⟨ho, hb⟩ := hv c0
      refine ev_f (fun e => e c0) ?_
      refine ev_b ho ?_
      subst hb
      refine ev_t (lg_cmp_self _) ?_
      rfl
    · exact ev_t c0 rfl
set_option maxHeartbeats 4000000 in
set_option maxRecDepth 20000 in
theorem lk_23 {X : am_X} {N K : Nat} {x4 a0 a1 a2 : Int32} {h h' : am_H} (hi : ¬ (Int32.ofNat (X 0).1) - 7 < x4) (e0 : am_pX X 0 x4 = some a0) (hk : a0 &&& 63 = 23) (e1 : am_pX X 0 (x4 + 1) = some a1) (e2 : am_pX X 0 (x4 + 2) = some a2) (H : opBL (fm_145 N (.ref 0) a1 a2 (.ref 268) h) (fun h1 => fm_431 N (.ref 174) a1 a2 h1) vfI h') : lw_turn X N K x4 h h' := by
  obtain ⟨c, h1, r, o, q0, o1, q1, o2, ht, hv⟩ := H
  have q2 := e_324 ht
  unfold lw_turn
  rw [fg_0_23]
  refine ev_f hi ?_
  refine ev_b e0 ?_
  refine ev_f (fun e => absurd (hk.symm.trans e) (by decide)) ?_
  refine ev_f (fun e => absurd (hk.symm.trans e) (by decide)) ?_
  refine ev_f (fun e => absurd (hk.symm.trans e) (by decide)) ?_
  refine ev_f (fun e => absurd (hk.symm.trans e) (by decide)) ?_
  refine ev_f (fun e => absurd (hk.symm.trans e) (by decide)) ?_
  refine ev_f (fun e => absurd (hk.symm.trans e) (by decide)) ?_
  refine ev_f (fun e => absurd (hk.symm.trans e) (by decide)) ?_
  refine ev_f (fun e => absurd (hk.symm.trans e) (by decide)) ?_
  refine ev_f (fun e => absurd (hk.symm.trans e) (by decide)) ?_
  refine ev_f (fun e => absurd (hk.symm.trans e) (by decide)) ?_
  refine ev_f (fun e => absurd (hk.symm.trans e) (by decide)) ?_
  refine ev_f (fun e => absurd (hk.symm.trans e) (by decide)) ?_
  refine ev_f (fun e => absurd (hk.symm.trans e) (by decide)) ?_
  refine ev_f (fun e => absurd (hk.symm.trans e) (by decide)) ?_
  refine ev_f (fun e => absurd (hk.symm.trans e) (by decide)) ?_
  refine ev_f (fun e => absurd (hk.symm.trans e) (by decide)) ?_
  refine ev_f (fun e => absurd (hk.symm.trans e) (by decide)) ?_
  refine ev_f (fun e => absurd (hk.symm.trans e) (by decide)) ?_
  refine ev_f (fun e => absurd (hk.symm.trans e) (by decide)) ?_
  refine ev_f (fun e => absurd (hk.symm.trans e) (by decide)) ?_
  refine ev_f (fun e => absurd (hk.symm.trans e) (by decide)) ?_
  refine ev_f (fun e => absurd (hk.symm.trans e) (by decide)) ?_
  refine ev_f (fun e => absurd (hk.symm.trans e) (by decide)) ?_
  refine ev_t hk ?_
  refine ev_b e1 ?_
  refine ev_b e2 ?_
  refine ev_cI q0 ?_
  refine ev_b e1 ?_
  refine ev_b e2 ?_
  refine ev_i o1 ?_
  refine ev_cL q1 ?_
  refine ev_i o2 ?_
  refine ev_cI q2 ?_
  refine ev_t rfl ?_
  by_cases c0 : c = 0
  · obtain ⟨ho, hb⟩ := hv c0
    refine ev_f (fun e => e c0) ?_
    refine ev_b ho ?_
    subst hb
    refine ev_t (lg_cmp_self _) ?_
    rfl
  · exact ev_t c0 rfl
set_option maxHeartbeats 4000000 in
set_option maxRecDepth 20000 in
theorem lk_24 {X : am_X} {N K : Nat} {x4 a0 a1 a2 : Int32} {h h' : am_H} (hi : ¬ (Int32.ofNat (X 0).1) - 7 < x4) (e0 : am_pX X 0 x4 = some a0) (hk : a0 &&& 63 = 24) (e1 : am_pX X 0 (x4 + 1) = some a1) (e2 : am_pX X 0 (x4 + 2) = some a2) (H : opBI (fm_147 N (.ref 0) a1 (if a2 = 0 then 0 else 1) (.ref 268) h) (fun h1 => fm_433 N (.ref 174) a1 (if a2 = 0 then 0 else 1) h1) vfI h') : lw_turn X N K x4 h h' := by
  by_cases hz : a2 = 0
  · rw [if_pos hz] at H
    obtain ⟨c, h1, r, o, q0, o1, q1, o2, ht, hv⟩ := H
    have q2 := e_324 ht
    unfold lw_turn
    rw [fg_0_23]
    refine ev_f hi ?_
    refine ev_b e0 ?_
    refine ev_f (fun e => absurd (hk.symm.trans e) (by decide)) ?_
    refine ev_f (fun e => absurd (hk.symm.trans e) (by decide)) ?_
    refine ev_f (fun e => absurd (hk.symm.trans e) (by decide)) ?_
    refine ev_f (fun e => absurd (hk.symm.trans e) (by decide)) ?_
    refine ev_f (fun e => absurd (hk.symm.trans e) (by decide)) ?_
    refine ev_f (fun e => absurd (hk.symm.trans e) (by decide)) ?_
    refine ev_f (fun e => absurd (hk.symm.trans e) (by decide)) ?_
    refine ev_f (fun e => absurd (hk.symm.trans e) (by decide)) ?_
    refine ev_f (fun e => absurd (hk.symm.trans e) (by decide)) ?_
    refine ev_f (fun e => absurd (hk.symm.trans e) (by decide)) ?_
    refine ev_f (fun e => absurd (hk.symm.trans e) (by decide)) ?_
    refine ev_f (fun e => absurd (hk.symm.trans e) (by decide)) ?_
    refine ev_f (fun e => absurd (hk.symm.trans e) (by decide)) ?_
    refine ev_f (fun e => absurd (hk.symm.trans e) (by decide)) ?_
    refine ev_f (fun e => absurd (hk.symm.trans e) (by decide)) ?_
    refine ev_f (fun e => absurd (hk.symm.trans e) (by decide)) ?_
    refine ev_f (fun e => absurd (hk.symm.trans e) (by decide)) ?_
    refine ev_f (fun e => absurd (hk.symm.trans e) (by decide)) ?_
    refine ev_f (fun e => absurd (hk.symm.trans e) (by decide)) ?_
    refine ev_f (fun e => absurd (hk.symm.trans e) (by decide)) ?_
    refine ev_f (fun e => absurd (hk.symm.trans e) (by decide)) ?_
    refine ev_f (fun e => absurd (hk.symm.trans e) (by decide)) ?_
    refine ev_f (fun e => absurd (hk.symm.trans e) (by decide)) ?_
    refine ev_f (fun e => absurd (hk.symm.trans e) (by decide)) ?_
    refine ev_t hk ?_
    refine ev_b e1 ?_
    refine ev_b e2 ?_
    refine ev_t hz ?_
    unfold fg_0_1767
    refine ev_cI q0 ?_
    refine ev_b e1 ?_
    refine ev_b e2 ?_
    refine ev_t hz ?_
    unfold fg_0_1794
    refine ev_i o1 ?_
    refine ev_cI q1 ?_
    refine ev_i o2 ?_
    refine ev_cI q2 ?_
    refine ev_t rfl ?_
    by_cases c0 : c = 0
    · obtain ⟨ho, hb⟩ := hv c0
      refine ev_f (fun e => e c0) ?_
      refine ev_b ho ?_
      subst hb
      refine ev_t (lg_cmp_self _) ?_
      rfl
    · exact ev_t c0 rfl
  · rw [if_neg hz] at H
    obtain ⟨c, h1, r, o, q0, o1, q1, o2, ht, hv⟩ := H
    have q2 := e_324 ht
    unfold lw_turn
    rw [fg_0_23]
    refine ev_f hi ?_
    refine ev_b e0 ?_
    refine ev_f (fun e => absurd (hk.symm.trans e) (by decide)) ?_
    refine ev_f (fun e => absurd (hk.symm.trans e) (by decide)) ?_
    refine ev_f (fun e => absurd (hk.symm.trans e) (by decide)) ?_
    refine ev_f (fun e => absurd (hk.symm.trans e) (by decide)) ?_
    refine ev_f (fun e => absurd (hk.symm.trans e) (by decide)) ?_
    refine ev_f (fun e => absurd (hk.symm.trans e) (by decide)) ?_
    refine ev_f (fun e => absurd (hk.symm.trans e) (by decide)) ?_
    refine ev_f (fun e => absurd (hk.symm.trans e) (by decide)) ?_
    refine ev_f (fun e => absurd (hk.symm.trans e) (by decide)) ?_
    refine ev_f (fun e => absurd (hk.symm.trans e) (by decide)) ?_
    refine ev_f (fun e => absurd (hk.symm.trans e) (by decide)) ?_
    refine ev_f (fun e => absurd (hk.symm.trans e) (by decide)) ?_
    refine ev_f (fun e => absurd (hk.symm.trans e) (by decide)) ?_
    refine ev_f (fun e => absurd (hk.symm.trans e) (by decide)) ?_
    refine ev_f (fun e => absurd (hk.symm.trans e) (by decide)) ?_
    refine ev_f (fun e => absurd (hk.symm.trans e) (by decide)) ?_
    refine ev_f (fun e => absurd (hk.symm.trans e) (by decide)) ?_
    refine ev_f (fun e => absurd (hk.symm.trans e) (by decide)) ?_
    refine ev_f (fun e => absurd (hk.symm.trans e) (by decide)) ?_
    refine ev_f (fun e => absurd (hk.symm.trans e) (by decide)) ?_
    refine ev_f (fun e => absurd (hk.symm.trans e) (by decide)) ?_
    refine ev_f (fun e => absurd (hk.symm.trans e) (by decide)) ?_
    refine ev_f (fun e => absurd (hk.symm.trans e) (by decide)) ?_
    refine ev_f (fun e => absurd (hk.symm.trans e) (by decide)) ?_
    refine ev_t hk ?_
    refine ev_b e1 ?_
    refine ev_b e2 ?_
    refine ev_f hz ?_
    unfold fg_0_1767
    refine ev_cI q0 ?_
    refine ev_b e1 ?_
    refine ev_b e2 ?_
    refine ev_f hz ?_
    unfold fg_0_1794
    refine ev_i o1 ?_
    refine ev_cI q1 ?_
    refine ev_i o2 ?_
    refine ev_cI q2 ?_
    refine ev_t rfl ?_
    by_cases c0 : c = 0
    · obtain ⟨ho, hb⟩ := hv c0
      refine ev_f (fun e => e c0) ?_
      refine ev_b ho ?_
      subst hb
      refine ev_t (lg_cmp_self _) ?_
      rfl
    · exact ev_t c0 rfl
set_option maxHeartbeats 4000000 in
set_option maxRecDepth 20000 in
theorem lk_25 {X : am_X} {N K : Nat} {x4 a0 a1 a2 : Int32} {h h' : am_H} (hi : ¬ (Int32.ofNat (X 0).1) - 7 < x4) (e0 : am_pX X 0 x4 = some a0) (hk : a0 &&& 63 = 25) (e1 : am_pX X 0 (x4 + 1) = some a1) (e2 : am_pX X 0 (x4 + 2) = some a2) (H : opBI (fm_149 N (.ref 0) a1 a2 (.ref 268) h) (fun h1 => fm_434 N (.ref 174) a1 a2 h1) vfI h') : lw_turn X N K x4 h h' := by
  obtain ⟨c, h1, r, o, q0, o1, q1, o2, ht, hv⟩ := H
  have q2 := e_324 ht
  unfold lw_turn
  rw [fg_0_23]
  refine ev_f hi ?_
  refine ev_b e0 ?_
  refine ev_f (fun e => absurd (hk.symm.trans e) (by decide)) ?_
  refine ev_f (fun e => absurd (hk.symm.trans e) (by decide)) ?_
  refine ev_f (fun e => absurd (hk.symm.trans e) (by decide)) ?_
  refine ev_f (fun e => absurd (hk.symm.trans e) (by decide)) ?_
  refine ev_f (fun e => absurd (hk.symm.trans e) (by decide)) ?_
  refine ev_f (fun e => absurd (hk.symm.trans e) (by decide)) ?_
  refine ev_f (fun e => absurd (hk.symm.trans e) (by decide)) ?_
  refine ev_f (fun e => absurd (hk.symm.trans e) (by decide)) ?_
  refine ev_f (fun e => absurd (hk.symm.trans e) (by decide)) ?_
  refine ev_f (fun e => absurd (hk.symm.trans e) (by decide)) ?_
  refine ev_f (fun e => absurd (hk.symm.trans e) (by decide)) ?_
  refine ev_f (fun e => absurd (hk.symm.trans e) (by decide)) ?_
  refine ev_f (fun e => absurd (hk.symm.trans e) (by decide)) ?_
  refine ev_f (fun e => absurd (hk.symm.trans e) (by decide)) ?_
  refine ev_f (fun e => absurd (hk.symm.trans e) (by decide)) ?_
  refine ev_f (fun e => absurd (hk.symm.trans e) (by decide)) ?_
  refine ev_f (fun e => absurd (hk.symm.trans e) (by decide)) ?_
  refine ev_f (fun e => absurd (hk.symm.trans e) (by decide)) ?_
  refine ev_f (fun e => absurd (hk.symm.trans e) (by decide)) ?_
  refine ev_f (fun e => absurd (hk.symm.trans e) (by decide)) ?_
  refine ev_f (fun e => absurd (hk.symm.trans e) (by decide)) ?_
  refine ev_f (fun e => absurd (hk.symm.trans e) (by decide)) ?_
  refine ev_f (fun e => absurd (hk.symm.trans e) (by decide)) ?_
  refine ev_f (fun e => absurd (hk.symm.trans e) (by decide)) ?_
  refine ev_f (fun e => absurd (hk.symm.trans e) (by decide)) ?_
  refine ev_t hk ?_
  refine ev_b e1 ?_
  refine ev_b e2 ?_
  refine ev_cI q0 ?_
  refine ev_b e1 ?_
  refine ev_b e2 ?_
  refine ev_i o1 ?_
  refine ev_cI q1 ?_
  refine ev_i o2 ?_
  refine ev_cI q2 ?_
  refine ev_t rfl ?_
  by_cases c0 : c = 0
  · obtain ⟨ho, hb⟩ := hv c0
    refine ev_f (fun e => e c0) ?_
    refine ev_b ho ?_
    subst hb
    refine ev_t (lg_cmp_self _) ?_
    rfl
  · exact ev_t c0 rfl
set_option maxHeartbeats 4000000 in
set_option maxRecDepth 20000 in
theorem lk_26 {X : am_X} {N K : Nat} {x4 a0 a1 a2 : Int32} {h h' : am_H} (hi : ¬ (Int32.ofNat (X 0).1) - 7 < x4) (e0 : am_pX X 0 x4 = some a0) (hk : a0 &&& 63 = 26) (e1 : am_pX X 0 (x4 + 1) = some a1) (e2 : am_pX X 0 (x4 + 2) = some a2) (H : opBI (fm_153 X (.ref 0) a1 a2 (.ref 268) h) (fun h1 => fm_436 (.ref 174) a1 a2 h1) vfI h') : lw_turn X N K x4 h h' := by
  obtain ⟨c, h1, r, o, q0, o1, q1, o2, ht, hv⟩ := H
  have q2 := e_324 ht
  unfold lw_turn
  rw [fg_0_23]
  refine ev_f hi ?_
  refine ev_b e0 ?_
  refine ev_f (fun e => absurd (hk.symm.trans e) (by decide)) ?_
  refine ev_f (fun e => absurd (hk.symm.trans e) (by decide)) ?_
  refine ev_f (fun e => absurd (hk.symm.trans e) (by decide)) ?_
  refine ev_f (fun e => absurd (hk.symm.trans e) (by decide)) ?_
  refine ev_f (fun e => absurd (hk.symm.trans e) (by decide)) ?_
  refine ev_f (fun e => absurd (hk.symm.trans e) (by decide)) ?_
  refine ev_f (fun e => absurd (hk.symm.trans e) (by decide)) ?_
  refine ev_f (fun e => absurd (hk.symm.trans e) (by decide)) ?_
  refine ev_f (fun e => absurd (hk.symm.trans e) (by decide)) ?_
  refine ev_f (fun e => absurd (hk.symm.trans e) (by decide)) ?_
  refine ev_f (fun e => absurd (hk.symm.trans e) (by decide)) ?_
  refine ev_f (fun e => absurd (hk.symm.trans e) (by decide)) ?_
  refine ev_f (fun e => absurd (hk.symm.trans e) (by decide)) ?_
  refine ev_f (fun e => absurd (hk.symm.trans e) (by decide)) ?_
  refine ev_f (fun e => absurd (hk.symm.trans e) (by decide)) ?_
  refine ev_f (fun e => absurd (hk.symm.trans e) (by decide)) ?_
  refine ev_f (fun e => absurd (hk.symm.trans e) (by decide)) ?_
  refine ev_f (fun e => absurd (hk.symm.trans e) (by decide)) ?_
  refine ev_f (fun e => absurd (hk.symm.trans e) (by decide)) ?_
  refine ev_f (fun e => absurd (hk.symm.trans e) (by decide)) ?_
  refine ev_f (fun e => absurd (hk.symm.trans e) (by decide)) ?_
  refine ev_f (fun e => absurd (hk.symm.trans e) (by decide)) ?_
  refine ev_f (fun e => absurd (hk.symm.trans e) (by decide)) ?_
  refine ev_f (fun e => absurd (hk.symm.trans e) (by decide)) ?_
  refine ev_f (fun e => absurd (hk.symm.trans e) (by decide)) ?_
  refine ev_f (fun e => absurd (hk.symm.trans e) (by decide)) ?_
  refine ev_t hk ?_
  refine ev_b e1 ?_
  refine ev_b e2 ?_
  refine ev_cI q0 ?_
  refine ev_b e1 ?_
  refine ev_b e2 ?_
  refine ev_i o1 ?_
  refine ev_cI q1 ?_
  refine ev_i o2 ?_
  refine ev_cI q2 ?_
  refine ev_t rfl ?_
  by_cases c0 : c = 0
  · obtain ⟨ho, hb⟩ := hv c0
    refine ev_f (fun e => e c0) ?_
    refine ev_b ho ?_
    subst hb
    refine ev_t (lg_cmp_self _) ?_
    rfl
  · exact ev_t c0 rfl
set_option maxHeartbeats 4000000 in
set_option maxRecDepth 20000 in
theorem lk_27 {X : am_X} {N K : Nat} {x4 a0 a1 a2 : Int32} {h h' : am_H} (hi : ¬ (Int32.ofNat (X 0).1) - 7 < x4) (e0 : am_pX X 0 x4 = some a0) (hk : a0 &&& 63 = 27) (e1 : am_pX X 0 (x4 + 1) = some a1) (e2 : am_pX X 0 (x4 + 2) = some a2) (H : opBI (fm_156 N (.ref 0) a1 a2 (.ref 268) h) (fun h1 => fm_438 N (.ref 174) a1 a2 h1) vfI h') : lw_turn X N K x4 h h' := by
  obtain ⟨c, h1, r, o, q0, o1, q1, o2, ht, hv⟩ := H
  have q2 := e_324 ht
  unfold lw_turn
  rw [fg_0_23]
  refine ev_f hi ?_
  refine ev_b e0 ?_
  refine ev_f (fun e => absurd (hk.symm.trans e) (by decide)) ?_
  refine ev_f (fun e => absurd (hk.symm.trans e) (by decide)) ?_
  refine ev_f (fun e => absurd (hk.symm.trans e) (by decide)) ?_
  refine ev_f (fun e => absurd (hk.symm.trans e) (by decide)) ?_
  refine ev_f (fun e => absurd (hk.symm.trans e) (by decide)) ?_
  refine ev_f (fun e => absurd (hk.symm.trans e) (by decide)) ?_
  refine ev_f (fun e => absurd (hk.symm.trans e) (by decide)) ?_
  refine ev_f (fun e => absurd (hk.symm.trans e) (by decide)) ?_
  refine ev_f (fun e => absurd (hk.symm.trans e) (by decide)) ?_
  refine ev_f (fun e => absurd (hk.symm.trans e) (by decide)) ?_
  refine ev_f (fun e => absurd (hk.symm.trans e) (by decide)) ?_
  refine ev_f (fun e => absurd (hk.symm.trans e) (by decide)) ?_
  refine ev_f (fun e => absurd (hk.symm.trans e) (by decide)) ?_
  refine ev_f (fun e => absurd (hk.symm.trans e) (by decide)) ?_
  refine ev_f (fun e => absurd (hk.symm.trans e) (by decide)) ?_
  refine ev_f (fun e => absurd (hk.symm.trans e) (by decide)) ?_
  refine ev_f (fun e => absurd (hk.symm.trans e) (by decide)) ?_
  refine ev_f (fun e => absurd (hk.symm.trans e) (by decide)) ?_
  refine ev_f (fun e => absurd (hk.symm.trans e) (by decide)) ?_
  refine ev_f (fun e => absurd (hk.symm.trans e) (by decide)) ?_
  refine ev_f (fun e => absurd (hk.symm.trans e) (by decide)) ?_
  refine ev_f (fun e => absurd (hk.symm.trans e) (by decide)) ?_
  refine ev_f (fun e => absurd (hk.symm.trans e) (by decide)) ?_
  refine ev_f (fun e => absurd (hk.symm.trans e) (by decide)) ?_
  refine ev_f (fun e => absurd (hk.symm.trans e) (by decide)) ?_
  refine ev_f (fun e => absurd (hk.symm.trans e) (by decide)) ?_
  refine ev_f (fun e => absurd (hk.symm.trans e) (by decide)) ?_
  refine ev_t hk ?_
  refine ev_b e1 ?_
  refine ev_b e2 ?_
  refine ev_cI q0 ?_
  refine ev_b e1 ?_
  refine ev_b e2 ?_
  refine ev_i o1 ?_
  refine ev_cI q1 ?_
  refine ev_i o2 ?_
  refine ev_cI q2 ?_
  refine ev_t rfl ?_
  by_cases c0 : c = 0
  · obtain ⟨ho, hb⟩ := hv c0
    refine ev_f (fun e => e c0) ?_
    refine ev_b ho ?_
    subst hb
    refine ev_t (lg_cmp_self _) ?_
    rfl
  · exact ev_t c0 rfl
set_option maxHeartbeats 4000000 in
set_option maxRecDepth 20000 in
theorem lk_28 {X : am_X} {N K : Nat} {x4 a0 a1 a2 a3 : Int32} {h h' : am_H} (hi : ¬ (Int32.ofNat (X 0).1) - 7 < x4) (e0 : am_pX X 0 x4 = some a0) (hk : a0 &&& 63 = 28) (e1 : am_pX X 0 (x4 + 1) = some a1) (e2 : am_pX X 0 (x4 + 2) = some a2) (e3 : am_pX X 0 (x4 + 3) = some a3) (H : opBI (fm_185 N (.ref 0) a1 a2 a3 (.ref 268) h) (fun h1 => fm_469 N (.ref 174) a1 a2 a3 h1) vfI h') : lw_turn X N K x4 h h' := by
  obtain ⟨c, h1, r, o, q0, o1, q1, o2, ht, hv⟩ := H
  have q2 := e_324 ht
  unfold lw_turn
  rw [fg_0_23]
  refine ev_f hi ?_
  refine ev_b e0 ?_
  refine ev_f (fun e => absurd (hk.symm.trans e) (by decide)) ?_
  refine ev_f (fun e => absurd (hk.symm.trans e) (by decide)) ?_
  refine ev_f (fun e => absurd (hk.symm.trans e) (by decide)) ?_
  refine ev_f (fun e => absurd (hk.symm.trans e) (by decide)) ?_
  refine ev_f (fun e => absurd (hk.symm.trans e) (by decide)) ?_
  refine ev_f (fun e => absurd (hk.symm.trans e) (by decide)) ?_
  refine ev_f (fun e => absurd (hk.symm.trans e) (by decide)) ?_
  refine ev_f (fun e => absurd (hk.symm.trans e) (by decide)) ?_
  refine ev_f (fun e => absurd (hk.symm.trans e) (by decide)) ?_
  refine ev_f (fun e => absurd (hk.symm.trans e) (by decide)) ?_
  refine ev_f (fun e => absurd (hk.symm.trans e) (by decide)) ?_
  refine ev_f (fun e => absurd (hk.symm.trans e) (by decide)) ?_
  refine ev_f (fun e => absurd (hk.symm.trans e) (by decide)) ?_
  refine ev_f (fun e => absurd (hk.symm.trans e) (by decide)) ?_
  refine ev_f (fun e => absurd (hk.symm.trans e) (by decide)) ?_
  refine ev_f (fun e => absurd (hk.symm.trans e) (by decide)) ?_
  refine ev_f (fun e => absurd (hk.symm.trans e) (by decide)) ?_
  refine ev_f (fun e => absurd (hk.symm.trans e) (by decide)) ?_
  refine ev_f (fun e => absurd (hk.symm.trans e) (by decide)) ?_
  refine ev_f (fun e => absurd (hk.symm.trans e) (by decide)) ?_
  refine ev_f (fun e => absurd (hk.symm.trans e) (by decide)) ?_
  refine ev_f (fun e => absurd (hk.symm.trans e) (by decide)) ?_
  refine ev_f (fun e => absurd (hk.symm.trans e) (by decide)) ?_
  refine ev_f (fun e => absurd (hk.symm.trans e) (by decide)) ?_
  refine ev_f (fun e => absurd (hk.symm.trans e) (by decide)) ?_
  refine ev_f (fun e => absurd (hk.symm.trans e) (by decide)) ?_
  refine ev_f (fun e => absurd (hk.symm.trans e) (by decide)) ?_
  refine ev_f (fun e => absurd (hk.symm.trans e) (by decide)) ?_
  refine ev_t hk ?_
  refine ev_b e1 ?_
  refine ev_b e2 ?_
  refine ev_b e3 ?_
  refine ev_cI q0 ?_
  refine ev_b e1 ?_
  refine ev_b e2 ?_
  refine ev_b e3 ?_
  refine ev_i o1 ?_
  refine ev_cI q1 ?_
  refine ev_i o2 ?_
  refine ev_cI q2 ?_
  refine ev_t rfl ?_
  by_cases c0 : c = 0
  · obtain ⟨ho, hb⟩ := hv c0
    refine ev_f (fun e => e c0) ?_
    refine ev_b ho ?_
    subst hb
    refine ev_t (lg_cmp_self _) ?_
    rfl
  · exact ev_t c0 rfl
set_option maxHeartbeats 4000000 in
set_option maxRecDepth 20000 in
theorem lk_29 {X : am_X} {N K : Nat} {x4 a0 a1 a2 a3 a4 : Int32} {h h' : am_H} (hi : ¬ (Int32.ofNat (X 0).1) - 7 < x4) (e0 : am_pX X 0 x4 = some a0) (hk : a0 &&& 63 = 29) (e1 : am_pX X 0 (x4 + 1) = some a1) (e2 : am_pX X 0 (x4 + 2) = some a2) (e3 : am_pX X 0 (x4 + 3) = some a3) (e4 : am_pX X 0 (x4 + 4) = some a4) (H : opBI (fm_188 N (.ref 0) a1 a2 ((((Int32.toInt64 a3) <<< (Int32.toInt64 32 &&& 63)) ||| ((Int32.toInt64 a4) &&& 4294967295))) (.ref 268) h) (fun h1 => fm_470 N (.ref 174) a1 a2 ((((Int32.toInt64 a3) <<< (Int32.toInt64 32 &&& 63)) ||| ((Int32.toInt64 a4) &&& 4294967295))) h1) vfI h') : lw_turn X N K x4 h h' := by
  obtain ⟨c, h1, r, o, q0, o1, q1, o2, ht, hv⟩ := H
  have q2 := e_324 ht
  unfold lw_turn
  rw [fg_0_23]
  refine ev_f hi ?_
  refine ev_b e0 ?_
  refine ev_f (fun e => absurd (hk.symm.trans e) (by decide)) ?_
  refine ev_f (fun e => absurd (hk.symm.trans e) (by decide)) ?_
  refine ev_f (fun e => absurd (hk.symm.trans e) (by decide)) ?_
  refine ev_f (fun e => absurd (hk.symm.trans e) (by decide)) ?_
  refine ev_f (fun e => absurd (hk.symm.trans e) (by decide)) ?_
  refine ev_f (fun e => absurd (hk.symm.trans e) (by decide)) ?_
  refine ev_f (fun e => absurd (hk.symm.trans e) (by decide)) ?_
  refine ev_f (fun e => absurd (hk.symm.trans e) (by decide)) ?_
  refine ev_f (fun e => absurd (hk.symm.trans e) (by decide)) ?_
  refine ev_f (fun e => absurd (hk.symm.trans e) (by decide)) ?_
  refine ev_f (fun e => absurd (hk.symm.trans e) (by decide)) ?_
  refine ev_f (fun e => absurd (hk.symm.trans e) (by decide)) ?_
  refine ev_f (fun e => absurd (hk.symm.trans e) (by decide)) ?_
  refine ev_f (fun e => absurd (hk.symm.trans e) (by decide)) ?_
  refine ev_f (fun e => absurd (hk.symm.trans e) (by decide)) ?_
  refine ev_f (fun e => absurd (hk.symm.trans e) (by decide)) ?_
  refine ev_f (fun e => absurd (hk.symm.trans e) (by decide)) ?_
  refine ev_f (fun e => absurd (hk.symm.trans e) (by decide)) ?_
  refine ev_f (fun e => absurd (hk.symm.trans e) (by decide)) ?_
  refine ev_f (fun e => absurd (hk.symm.trans e) (by decide)) ?_
  refine ev_f (fun e => absurd (hk.symm.trans e) (by decide)) ?_
  refine ev_f (fun e => absurd (hk.symm.trans e) (by decide)) ?_
  refine ev_f (fun e => absurd (hk.symm.trans e) (by decide)) ?_
  refine ev_f (fun e => absurd (hk.symm.trans e) (by decide)) ?_
  refine ev_f (fun e => absurd (hk.symm.trans e) (by decide)) ?_
  refine ev_f (fun e => absurd (hk.symm.trans e) (by decide)) ?_
  refine ev_f (fun e => absurd (hk.symm.trans e) (by decide)) ?_
  refine ev_f (fun e => absurd (hk.symm.trans e) (by decide)) ?_
  refine ev_f (fun e => absurd (hk.symm.trans e) (by decide)) ?_
  refine ev_t hk ?_
  refine ev_b e1 ?_
  refine ev_b e2 ?_
  refine ev_b e3 ?_
  refine ev_b e4 ?_
  refine ev_cI q0 ?_
  refine ev_b e1 ?_
  refine ev_b e2 ?_
  refine ev_b e3 ?_
  refine ev_b e4 ?_
  refine ev_i o1 ?_
  refine ev_cI q1 ?_
  refine ev_i o2 ?_
  refine ev_cI q2 ?_
  refine ev_t rfl ?_
  by_cases c0 : c = 0
  · obtain ⟨ho, hb⟩ := hv c0
    refine ev_f (fun e => e c0) ?_
    refine ev_b ho ?_
    subst hb
    refine ev_t (lg_cmp_self _) ?_
    rfl
  · exact ev_t c0 rfl
set_option maxHeartbeats 4000000 in
set_option maxRecDepth 20000 in
theorem lk_30 {X : am_X} {N K : Nat} {x4 a0 a1 a2 : Int32} {h h' : am_H} (hi : ¬ (Int32.ofNat (X 0).1) - 7 < x4) (e0 : am_pX X 0 x4 = some a0) (hk : a0 &&& 63 = 30) (e1 : am_pX X 0 (x4 + 1) = some a1) (e2 : am_pX X 0 (x4 + 2) = some a2) (H : opBI (fm_195 N (.ref 0) a1 a2 (.ref 268) h) (fun h1 => fm_478 N (.ref 174) a1 a2 h1) vfI h') : lw_turn X N K x4 h h' := by
  obtain ⟨c, h1, r, o, q0, o1, q1, o2, ht, hv⟩ := H
  have q2 := e_324 ht
  unfold lw_turn
  rw [fg_0_23]
  refine ev_f hi ?_
  refine ev_b e0 ?_
  refine ev_f (fun e => absurd (hk.symm.trans e) (by decide)) ?_
  refine ev_f (fun e => absurd (hk.symm.trans e) (by decide)) ?_
  refine ev_f (fun e => absurd (hk.symm.trans e) (by decide)) ?_
  refine ev_f (fun e => absurd (hk.symm.trans e) (by decide)) ?_
  refine ev_f (fun e => absurd (hk.symm.trans e) (by decide)) ?_
  refine ev_f (fun e => absurd (hk.symm.trans e) (by decide)) ?_
  refine ev_f (fun e => absurd (hk.symm.trans e) (by decide)) ?_
  refine ev_f (fun e => absurd (hk.symm.trans e) (by decide)) ?_
  refine ev_f (fun e => absurd (hk.symm.trans e) (by decide)) ?_
  refine ev_f (fun e => absurd (hk.symm.trans e) (by decide)) ?_
  refine ev_f (fun e => absurd (hk.symm.trans e) (by decide)) ?_
  refine ev_f (fun e => absurd (hk.symm.trans e) (by decide)) ?_
  refine ev_f (fun e => absurd (hk.symm.trans e) (by decide)) ?_
  refine ev_f (fun e => absurd (hk.symm.trans e) (by decide)) ?_
  refine ev_f (fun e => absurd (hk.symm.trans e) (by decide)) ?_
  refine ev_f (fun e => absurd (hk.symm.trans e) (by decide)) ?_
  refine ev_f (fun e => absurd (hk.symm.trans e) (by decide)) ?_
  refine ev_f (fun e => absurd (hk.symm.trans e) (by decide)) ?_
  refine ev_f (fun e => absurd (hk.symm.trans e) (by decide)) ?_
  refine ev_f (fun e => absurd (hk.symm.trans e) (by decide)) ?_
  refine ev_f (fun e => absurd (hk.symm.trans e) (by decide)) ?_
  refine ev_f (fun e => absurd (hk.symm.trans e) (by decide)) ?_
  refine ev_f (fun e => absurd (hk.symm.trans e) (by decide)) ?_
  refine ev_f (fun e => absurd (hk.symm.trans e) (by decide)) ?_
  refine ev_f (fun e => absurd (hk.symm.trans e) (by decide)) ?_
  refine ev_f (fun e => absurd (hk.symm.trans e) (by decide)) ?_
  refine ev_f (fun e => absurd (hk.symm.trans e) (by decide)) ?_
  refine ev_f (fun e => absurd (hk.symm.trans e) (by decide)) ?_
  refine ev_f (fun e => absurd (hk.symm.trans e) (by decide)) ?_
  refine ev_f (fun e => absurd (hk.symm.trans e) (by decide)) ?_
  refine ev_t hk ?_
  refine ev_b e1 ?_
  refine ev_b e2 ?_
  refine ev_cI q0 ?_
  refine ev_b e1 ?_
  refine ev_b e2 ?_
  refine ev_i o1 ?_
  refine ev_cI q1 ?_
  refine ev_i o2 ?_
  refine ev_cI q2 ?_
  refine ev_t rfl ?_
  by_cases c0 : c = 0
  · obtain ⟨ho, hb⟩ := hv c0
    refine ev_f (fun e => e c0) ?_
    refine ev_b ho ?_
    subst hb
    refine ev_t (lg_cmp_self _) ?_
    rfl
  · exact ev_t c0 rfl
set_option maxHeartbeats 4000000 in
set_option maxRecDepth 20000 in
theorem lk_31 {X : am_X} {N K : Nat} {x4 a0 a1 a2 a3 a4 : Int32} {h h' : am_H} (hi : ¬ (Int32.ofNat (X 0).1) - 7 < x4) (e0 : am_pX X 0 x4 = some a0) (hk : a0 &&& 63 = 31) (e1 : am_pX X 0 (x4 + 1) = some a1) (e2 : am_pX X 0 (x4 + 2) = some a2) (e3 : am_pX X 0 (x4 + 3) = some a3) (e4 : am_pX X 0 (x4 + 4) = some a4) (H : opBI (fm_197 N (.ref 0) a1 a2 ((((Int32.toInt64 a3) <<< (Int32.toInt64 32 &&& 63)) ||| ((Int32.toInt64 a4) &&& 4294967295))) (.ref 268) h) (fun h1 => fm_486 N (.ref 174) a1 a2 ((((Int32.toInt64 a3) <<< (Int32.toInt64 32 &&& 63)) ||| ((Int32.toInt64 a4) &&& 4294967295))) h1) vfI h') : lw_turn X N K x4 h h' := by
  obtain ⟨c, h1, r, o, q0, o1, q1, o2, ht, hv⟩ := H
  have q2 := e_324 ht
  unfold lw_turn
  rw [fg_0_23]
  refine ev_f hi ?_
  refine ev_b e0 ?_
  refine ev_f (fun e => absurd (hk.symm.trans e) (by decide)) ?_
  refine ev_f (fun e => absurd (hk.symm.trans e) (by decide)) ?_
  refine ev_f (fun e => absurd (hk.symm.trans e) (by decide)) ?_
  refine ev_f (fun e => absurd (hk.symm.trans e) (by decide)) ?_
  refine ev_f (fun e => absurd (hk.symm.trans e) (by decide)) ?_
  refine ev_f (fun e => absurd (hk.symm.trans e) (by decide)) ?_
  refine ev_f (fun e => absurd (hk.symm.trans e) (by decide)) ?_
  refine ev_f (fun e => absurd (hk.symm.trans e) (by decide)) ?_
  refine ev_f (fun e => absurd (hk.symm.trans e) (by decide)) ?_
  refine ev_f (fun e => absurd (hk.symm.trans e) (by decide)) ?_
  refine ev_f (fun e => absurd (hk.symm.trans e) (by decide)) ?_
  refine ev_f (fun e => absurd (hk.symm.trans e) (by decide)) ?_
  refine ev_f (fun e => absurd (hk.symm.trans e) (by decide)) ?_
  refine ev_f (fun e => absurd (hk.symm.trans e) (by decide)) ?_
  refine ev_f (fun e => absurd (hk.symm.trans e) (by decide)) ?_
  refine ev_f (fun e => absurd (hk.symm.trans e) (by decide)) ?_
  refine ev_f (fun e => absurd (hk.symm.trans e) (by decide)) ?_
  refine ev_f (fun e => absurd (hk.symm.trans e) (by decide)) ?_
  refine ev_f (fun e => absurd (hk.symm.trans e) (by decide)) ?_
  refine ev_f (fun e => absurd (hk.symm.trans e) (by decide)) ?_
  refine ev_f (fun e => absurd (hk.symm.trans e) (by decide)) ?_
  refine ev_f (fun e => absurd (hk.symm.trans e) (by decide)) ?_
  refine ev_f (fun e => absurd (hk.symm.trans e) (by decide)) ?_
  refine ev_f (fun e => absurd (hk.symm.trans e) (by decide)) ?_
  refine ev_f (fun e => absurd (hk.symm.trans e) (by decide)) ?_
  refine ev_f (fun e => absurd (hk.symm.trans e) (by decide)) ?_
  refine ev_f (fun e => absurd (hk.symm.trans e) (by decide)) ?_
  refine ev_f (fun e => absurd (hk.symm.trans e) (by decide)) ?_
  refine ev_f (fun e => absurd (hk.symm.trans e) (by decide)) ?_
  refine ev_f (fun e => absurd (hk.symm.trans e) (by decide)) ?_
  refine ev_f (fun e => absurd (hk.symm.trans e) (by decide)) ?_
  refine ev_t hk ?_
  refine ev_b e1 ?_
  refine ev_b e2 ?_
  refine ev_b e3 ?_
  refine ev_b e4 ?_
  refine ev_cI q0 ?_
  refine ev_b e1 ?_
  refine ev_b e2 ?_
  refine ev_b e3 ?_
  refine ev_b e4 ?_
  refine ev_i o1 ?_
  refine ev_cI q1 ?_
  refine ev_i o2 ?_
  refine ev_cI q2 ?_
  refine ev_t rfl ?_
  by_cases c0 : c = 0
  · obtain ⟨ho, hb⟩ := hv c0
    refine ev_f (fun e => e c0) ?_
    refine ev_b ho ?_
    subst hb
    refine ev_t (lg_cmp_self _) ?_
    rfl
  · exact ev_t c0 rfl
set_option maxHeartbeats 4000000 in
set_option maxRecDepth 20000 in
theorem lk_32 {X : am_X} {N K : Nat} {x4 a0 a1 a2 a3 a4 a5 a6 : Int32} {h h' : am_H} (hi : ¬ (Int32.ofNat (X 0).1) - 7 < x4) (e0 : am_pX X 0 x4 = some a0) (hk : a0 &&& 63 = 32) (e1 : am_pX X 0 (x4 + 1) = some a1) (e2 : am_pX X 0 (x4 + 2) = some a2) (e3 : am_pX X 0 (x4 + 3) = some a3) (e4 : am_pX X 0 (x4 + 4) = some a4) (e5 : am_pX X 0 (x4 + 5) = some a5) (e6 : am_pX X 0 (x4 + 6) = some a6) (H : opBI (fm_199 N (.ref 0) a1 a2 a3 a4 ((((Int32.toInt64 a5) <<< (Int32.toInt64 32 &&& 63)) ||| ((Int32.toInt64 a6) &&& 4294967295))) (.ref 268) h) (fun h1 => fm_488 N (.ref 174) a1 a2 a3 a4 ((((Int32.toInt64 a5) <<< (Int32.toInt64 32 &&& 63)) ||| ((Int32.toInt64 a6) &&& 4294967295))) h1) vfI h') : lw_turn X N K x4 h h' := by
  obtain ⟨c, h1, r, o, q0, o1, q1, o2, ht, hv⟩ := H
  have q2 := e_324 ht
  unfold lw_turn
  rw [fg_0_23]
  refine ev_f hi ?_
  refine ev_b e0 ?_
  refine ev_f (fun e => absurd (hk.symm.trans e) (by decide)) ?_
  refine ev_f (fun e => absurd (hk.symm.trans e) (by decide)) ?_
  refine ev_f (fun e => absurd (hk.symm.trans e) (by decide)) ?_
  refine ev_f (fun e => absurd (hk.symm.trans e) (by decide)) ?_
  refine ev_f (fun e => absurd (hk.symm.trans e) (by decide)) ?_
  refine ev_f (fun e => absurd (hk.symm.trans e) (by decide)) ?_
  refine ev_f (fun e => absurd (hk.symm.trans e) (by decide)) ?_
  refine ev_f (fun e => absurd (hk.symm.trans e) (by decide)) ?_
  refine ev_f (fun e => absurd (hk.symm.trans e) (by decide)) ?_
  refine ev_f (fun e => absurd (hk.symm.trans e) (by decide)) ?_
  refine ev_f (fun e => absurd (hk.symm.trans e) (by decide)) ?_
  refine ev_f (fun e => absurd (hk.symm.trans e) (by decide)) ?_
  refine ev_f (fun e => absurd (hk.symm.trans e) (by decide)) ?_
  refine ev_f (fun e => absurd (hk.symm.trans e) (by decide)) ?_
  refine ev_f (fun e => absurd (hk.symm.trans e) (by decide)) ?_
  refine ev_f (fun e => absurd (hk.symm.trans e) (by decide)) ?_
  refine ev_f (fun e => absurd (hk.symm.trans e) (by decide)) ?_
  refine ev_f (fun e => absurd (hk.symm.trans e) (by decide)) ?_
  refine ev_f (fun e => absurd (hk.symm.trans e) (by decide)) ?_
  refine ev_f (fun e => absurd (hk.symm.trans e) (by decide)) ?_
  refine ev_f (fun e => absurd (hk.symm.trans e) (by decide)) ?_
  refine ev_f (fun e => absurd (hk.symm.trans e) (by decide)) ?_
  refine ev_f (fun e => absurd (hk.symm.trans e) (by decide)) ?_
  refine ev_f (fun e => absurd (hk.symm.trans e) (by decide)) ?_
  refine ev_f (fun e => absurd (hk.symm.trans e) (by decide)) ?_
  refine ev_f (fun e => absurd (hk.symm.trans e) (by decide)) ?_
  refine ev_f (fun e => absurd (hk.symm.trans e) (by decide)) ?_
  refine ev_f (fun e => absurd (hk.symm.trans e) (by decide)) ?_
  refine ev_f (fun e => absurd (hk.symm.trans e) (by decide)) ?_
  refine ev_f (fun e => absurd (hk.symm.trans e) (by decide)) ?_
  refine ev_f (fun e => absurd (hk.symm.trans e) (by decide)) ?_
  refine ev_f (fun e => absurd (hk.symm.trans e) (by decide)) ?_
  refine ev_t hk ?_
  refine ev_b e1 ?_
  refine ev_b e2 ?_
  refine ev_b e3 ?_
  refine ev_b e4 ?_
  refine ev_b e5 ?_
  refine ev_b e6 ?_
  refine ev_cI q0 ?_
  refine ev_b e1 ?_
  refine ev_b e2 ?_
  refine ev_b e3 ?_
  refine ev_b e4 ?_
  refine ev_b e5 ?_
  refine ev_b e6 ?_
  refine ev_i o1 ?_
  refine ev_cI q1 ?_
  refine ev_i o2 ?_
  refine ev_cI q2 ?_
  refine ev_t rfl ?_
  by_cases c0 : c = 0
  · obtain ⟨ho, hb⟩ := hv c0
    refine ev_f (fun e => e c0) ?_
    refine ev_b ho ?_
    subst hb
    refine ev_t (lg_cmp_self _) ?_
    rfl
  · exact ev_t c0 rfl
set_option maxHeartbeats 4000000 in
set_option maxRecDepth 20000 in
theorem lk_33 {X : am_X} {N K : Nat} {x4 a0 a1 : Int32} {h h' : am_H} (hi : ¬ (Int32.ofNat (X 0).1) - 7 < x4) (e0 : am_pX X 0 x4 = some a0) (hk : a0 &&& 63 = 33) (e1 : am_pX X 0 (x4 + 1) = some a1) (H : opBI (fm_210 (.ref 0) a1 (.ref 268) h) (fun h1 => fm_499 (.ref 174) a1 h1) vfI h') : lw_turn X N K x4 h h' := by
  obtain ⟨c, h1, r, o, q0, o1, q1, o2, ht, hv⟩ := H
  have q2 := e_324 ht
  unfold lw_turn
  rw [fg_0_23]
  refine ev_f hi ?_
  refine ev_b e0 ?_
  refine ev_f (fun e => absurd (hk.symm.trans e) (by decide)) ?_
  refine ev_f (fun e => absurd (hk.symm.trans e) (by decide)) ?_
  refine ev_f (fun e => absurd (hk.symm.trans e) (by decide)) ?_
  refine ev_f (fun e => absurd (hk.symm.trans e) (by decide)) ?_
  refine ev_f (fun e => absurd (hk.symm.trans e) (by decide)) ?_
  refine ev_f (fun e => absurd (hk.symm.trans e) (by decide)) ?_
  refine ev_f (fun e => absurd (hk.symm.trans e) (by decide)) ?_
  refine ev_f (fun e => absurd (hk.symm.trans e) (by decide)) ?_
  refine ev_f (fun e => absurd (hk.symm.trans e) (by decide)) ?_
  refine ev_f (fun e => absurd (hk.symm.trans e) (by decide)) ?_
  refine ev_f (fun e => absurd (hk.symm.trans e) (by decide)) ?_
  refine ev_f (fun e => absurd (hk.symm.trans e) (by decide)) ?_
  refine ev_f (fun e => absurd (hk.symm.trans e) (by decide)) ?_
  refine ev_f (fun e => absurd (hk.symm.trans e) (by decide)) ?_
  refine ev_f (fun e => absurd (hk.symm.trans e) (by decide)) ?_
  refine ev_f (fun e => absurd (hk.symm.trans e) (by decide)) ?_
  refine ev_f (fun e => absurd (hk.symm.trans e) (by decide)) ?_
  refine ev_f (fun e => absurd (hk.symm.trans e) (by decide)) ?_
  refine ev_f (fun e => absurd (hk.symm.trans e) (by decide)) ?_
  refine ev_f (fun e => absurd (hk.symm.trans e) (by decide)) ?_
  refine ev_f (fun e => absurd (hk.symm.trans e) (by decide)) ?_
  refine ev_f (fun e => absurd (hk.symm.trans e) (by decide)) ?_
  refine ev_f (fun e => absurd (hk.symm.trans e) (by decide)) ?_
  refine ev_f (fun e => absurd (hk.symm.trans e) (by decide)) ?_
  refine ev_f (fun e => absurd (hk.symm.trans e) (by decide)) ?_
  refine ev_f (fun e => absurd (hk.symm.trans e) (by decide)) ?_
  refine ev_f (fun e => absurd (hk.symm.trans e) (by decide)) ?_
  refine ev_f (fun e => absurd (hk.symm.trans e) (by decide)) ?_
  refine ev_f (fun e => absurd (hk.symm.trans e) (by decide)) ?_
  refine ev_f (fun e => absurd (hk.symm.trans e) (by decide)) ?_
  refine ev_f (fun e => absurd (hk.symm.trans e) (by decide)) ?_
  refine ev_f (fun e => absurd (hk.symm.trans e) (by decide)) ?_
  refine ev_f (fun e => absurd (hk.symm.trans e) (by decide)) ?_
  refine ev_t hk ?_
  refine ev_b e1 ?_
  refine ev_cI q0 ?_
  refine ev_b e1 ?_
  refine ev_i o1 ?_
  refine ev_cI q1 ?_
  refine ev_i o2 ?_
  refine ev_cI q2 ?_
  refine ev_t rfl ?_
  by_cases c0 : c = 0
  · obtain ⟨ho, hb⟩ := hv c0
    refine ev_f (fun e => e c0) ?_
    refine ev_b ho ?_
    subst hb
    refine ev_t (lg_cmp_self _) ?_
    rfl
  · exact ev_t c0 rfl
set_option maxHeartbeats 4000000 in
set_option maxRecDepth 20000 in
theorem lk_34 {X : am_X} {N K : Nat} {x4 a0 a1 a2 : Int32} {h h' : am_H} (hi : ¬ (Int32.ofNat (X 0).1) - 7 < x4) (e0 : am_pX X 0 x4 = some a0) (hk : a0 &&& 63 = 34) (e1 : am_pX X 0 (x4 + 1) = some a1) (e2 : am_pX X 0 (x4 + 2) = some a2) (H : opBI (fm_212 (.ref 0) a1 a2 (.ref 268) h) (fun h1 => fm_500 (.ref 174) a1 a2 h1) vfI h') : lw_turn X N K x4 h h' := by
  obtain ⟨c, h1, r, o, q0, o1, q1, o2, ht, hv⟩ := H
  have q2 := e_324 ht
  unfold lw_turn
  rw [fg_0_23]
  refine ev_f hi ?_
  refine ev_b e0 ?_
  refine ev_f (fun e => absurd (hk.symm.trans e) (by decide)) ?_
  refine ev_f (fun e => absurd (hk.symm.trans e) (by decide)) ?_
  refine ev_f (fun e => absurd (hk.symm.trans e) (by decide)) ?_
  refine ev_f (fun e => absurd (hk.symm.trans e) (by decide)) ?_
  refine ev_f (fun e => absurd (hk.symm.trans e) (by decide)) ?_
  refine ev_f (fun e => absurd (hk.symm.trans e) (by decide)) ?_
  refine ev_f (fun e => absurd (hk.symm.trans e) (by decide)) ?_
  refine ev_f (fun e => absurd (hk.symm.trans e) (by decide)) ?_
  refine ev_f (fun e => absurd (hk.symm.trans e) (by decide)) ?_
  refine ev_f (fun e => absurd (hk.symm.trans e) (by decide)) ?_
  refine ev_f (fun e => absurd (hk.symm.trans e) (by decide)) ?_
  refine ev_f (fun e => absurd (hk.symm.trans e) (by decide)) ?_
  refine ev_f (fun e => absurd (hk.symm.trans e) (by decide)) ?_
  refine ev_f (fun e => absurd (hk.symm.trans e) (by decide)) ?_
  refine ev_f (fun e => absurd (hk.symm.trans e) (by decide)) ?_
  refine ev_f (fun e => absurd (hk.symm.trans e) (by decide)) ?_
  refine ev_f (fun e => absurd (hk.symm.trans e) (by decide)) ?_
  refine ev_f (fun e => absurd (hk.symm.trans e) (by decide)) ?_
  refine ev_f (fun e => absurd (hk.symm.trans e) (by decide)) ?_
  refine ev_f (fun e => absurd (hk.symm.trans e) (by decide)) ?_
  refine ev_f (fun e => absurd (hk.symm.trans e) (by decide)) ?_
  refine ev_f (fun e => absurd (hk.symm.trans e) (by decide)) ?_
  refine ev_f (fun e => absurd (hk.symm.trans e) (by decide)) ?_
  refine ev_f (fun e => absurd (hk.symm.trans e) (by decide)) ?_
  refine ev_f (fun e => absurd (hk.symm.trans e) (by decide)) ?_
  refine ev_f (fun e => absurd (hk.symm.trans e) (by decide)) ?_
  refine ev_f (fun e => absurd (hk.symm.trans e) (by decide)) ?_
  refine ev_f (fun e => absurd (hk.symm.trans e) (by decide)) ?_
  refine ev_f (fun e => absurd (hk.symm.trans e) (by decide)) ?_
  refine ev_f (fun e => absurd (hk.symm.trans e) (by decide)) ?_
  refine ev_f (fun e => absurd (hk.symm.trans e) (by decide)) ?_
  refine ev_f (fun e => absurd (hk.symm.trans e) (by decide)) ?_
  refine ev_f (fun e => absurd (hk.symm.trans e) (by decide)) ?_
  refine ev_f (fun e => absurd (hk.symm.trans e) (by decide)) ?_
  refine ev_t hk ?_
  refine ev_b e1 ?_
  refine ev_b e2 ?_
  refine ev_cI q0 ?_
  refine ev_b e1 ?_
  refine ev_b e2 ?_
  refine ev_i o1 ?_
  refine ev_cI q1 ?_
  refine ev_i o2 ?_
  refine ev_cI q2 ?_
  refine ev_t rfl ?_
  by_cases c0 : c = 0
  · obtain ⟨ho, hb⟩ := hv c0
    refine ev_f (fun e => e c0) ?_
    refine ev_b ho ?_
    subst hb
    refine ev_t (lg_cmp_self _) ?_
    rfl
  · exact ev_t c0 rfl
set_option maxHeartbeats 4000000 in
set_option maxRecDepth 20000 in
theorem lk_35 {X : am_X} {N K : Nat} {x4 a0 a1 a2 : Int32} {h h' : am_H} (hi : ¬ (Int32.ofNat (X 0).1) - 7 < x4) (e0 : am_pX X 0 x4 = some a0) (hk : a0 &&& 63 = 35) (e1 : am_pX X 0 (x4 + 1) = some a1) (e2 : am_pX X 0 (x4 + 2) = some a2) (H : opBI (fm_215 N (.ref 0) a1 a2 (.ref 268) h) (fun h1 => fm_502 N (.ref 174) a1 a2 h1) vfI h') : lw_turn X N K x4 h h' := by
  obtain ⟨c, h1, r, o, q0, o1, q1, o2, ht, hv⟩ := H
  have q2 := e_324 ht
  unfold lw_turn
  rw [fg_0_23]
  refine ev_f hi ?_
  refine ev_b e0 ?_
  refine ev_f (fun e => absurd (hk.symm.trans e) (by decide)) ?_
  refine ev_f (fun e => absurd (hk.symm.trans e) (by decide)) ?_
  refine ev_f (fun e => absurd (hk.symm.trans e) (by decide)) ?_
  refine ev_f (fun e => absurd (hk.symm.trans e) (by decide)) ?_
  refine ev_f (fun e => absurd (hk.symm.trans e) (by decide)) ?_
  refine ev_f (fun e => absurd (hk.symm.trans e) (by decide)) ?_
  refine ev_f (fun e => absurd (hk.symm.trans e) (by decide)) ?_
  refine ev_f (fun e => absurd (hk.symm.trans e) (by decide)) ?_
  refine ev_f (fun e => absurd (hk.symm.trans e) (by decide)) ?_
  refine ev_f (fun e => absurd (hk.symm.trans e) (by decide)) ?_
  refine ev_f (fun e => absurd (hk.symm.trans e) (by decide)) ?_
  refine ev_f (fun e => absurd (hk.symm.trans e) (by decide)) ?_
  refine ev_f (fun e => absurd (hk.symm.trans e) (by decide)) ?_
  refine ev_f (fun e => absurd (hk.symm.trans e) (by decide)) ?_
  refine ev_f (fun e => absurd (hk.symm.trans e) (by decide)) ?_
  refine ev_f (fun e => absurd (hk.symm.trans e) (by decide)) ?_
  refine ev_f (fun e => absurd (hk.symm.trans e) (by decide)) ?_
  refine ev_f (fun e => absurd (hk.symm.trans e) (by decide)) ?_
  refine ev_f (fun e => absurd (hk.symm.trans e) (by decide)) ?_
  refine ev_f (fun e => absurd (hk.symm.trans e) (by decide)) ?_
  refine ev_f (fun e => absurd (hk.symm.trans e) (by decide)) ?_
  refine ev_f (fun e => absurd (hk.symm.trans e) (by decide)) ?_
  refine ev_f (fun e => absurd (hk.symm.trans e) (by decide)) ?_
  refine ev_f (fun e => absurd (hk.symm.trans e) (by decide)) ?_
  refine ev_f (fun e => absurd (hk.symm.trans e) (by decide)) ?_
  refine ev_f (fun e => absurd (hk.symm.trans e) (by decide)) ?_
  refine ev_f (fun e => absurd (hk.symm.trans e) (by decide)) ?_
  refine ev_f (fun e => absurd (hk.symm.trans e) (by decide)) ?_
  refine ev_f (fun e => absurd (hk.symm.trans e) (by decide)) ?_
  refine ev_f (fun e => absurd (hk.symm.trans e) (by decide)) ?_
  refine ev_f (fun e => absurd (hk.symm.trans e) (by decide)) ?_
  refine ev_f (fun e => absurd (hk.symm.trans e) (by decide)) ?_
  refine ev_f (fun e => absurd (hk.symm.trans e) (by decide)) ?_
  refine ev_f (fun e => absurd (hk.symm.trans e) (by decide)) ?_
  refine ev_f (fun e => absurd (hk.symm.trans e) (by decide)) ?_
  refine ev_t hk ?_
  refine ev_b e1 ?_
  refine ev_b e2 ?_
  refine ev_cI q0 ?_
  refine ev_b e1 ?_
  refine ev_b e2 ?_
  refine ev_i o1 ?_
  refine ev_cI q1 ?_
  refine ev_i o2 ?_
  refine ev_cI q2 ?_
  refine ev_t rfl ?_
  by_cases c0 : c = 0
  · obtain ⟨ho, hb⟩ := hv c0
    refine ev_f (fun e => e c0) ?_
    refine ev_b ho ?_
    subst hb
    refine ev_t (lg_cmp_self _) ?_
    rfl
  · exact ev_t c0 rfl
set_option maxHeartbeats 4000000 in
set_option maxRecDepth 20000 in
theorem lk_36 {X : am_X} {N K : Nat} {x4 a0 a1 a2 : Int32} {h h' : am_H} (hi : ¬ (Int32.ofNat (X 0).1) - 7 < x4) (e0 : am_pX X 0 x4 = some a0) (hk : a0 &&& 63 = 36) (e1 : am_pX X 0 (x4 + 1) = some a1) (e2 : am_pX X 0 (x4 + 2) = some a2) (H : opBI (fm_231 N (.ref 0) a1 a2 (.ref 268) h) (fun h1 => fm_518 N (.ref 174) a1 a2 h1) vfZ h') : lw_turn X N K x4 h h' := by
  obtain ⟨c, h1, r, o, q0, o1, q1, o2, ht, hv⟩ := H
  have q2 := e_324 ht
  unfold lw_turn
  rw [fg_0_23]
  refine ev_f hi ?_
  refine ev_b e0 ?_
  refine ev_f (fun e => absurd (hk.symm.trans e) (by decide)) ?_
  refine ev_f (fun e => absurd (hk.symm.trans e) (by decide)) ?_
  refine ev_f (fun e => absurd (hk.symm.trans e) (by decide)) ?_
  refine ev_f (fun e => absurd (hk.symm.trans e) (by decide)) ?_
  refine ev_f (fun e => absurd (hk.symm.trans e) (by decide)) ?_
  refine ev_f (fun e => absurd (hk.symm.trans e) (by decide)) ?_
  refine ev_f (fun e => absurd (hk.symm.trans e) (by decide)) ?_
  refine ev_f (fun e => absurd (hk.symm.trans e) (by decide)) ?_
  refine ev_f (fun e => absurd (hk.symm.trans e) (by decide)) ?_
  refine ev_f (fun e => absurd (hk.symm.trans e) (by decide)) ?_
  refine ev_f (fun e => absurd (hk.symm.trans e) (by decide)) ?_
  refine ev_f (fun e => absurd (hk.symm.trans e) (by decide)) ?_
  refine ev_f (fun e => absurd (hk.symm.trans e) (by decide)) ?_
  refine ev_f (fun e => absurd (hk.symm.trans e) (by decide)) ?_
  refine ev_f (fun e => absurd (hk.symm.trans e) (by decide)) ?_
  refine ev_f (fun e => absurd (hk.symm.trans e) (by decide)) ?_
  refine ev_f (fun e => absurd (hk.symm.trans e) (by decide)) ?_
  refine ev_f (fun e => absurd (hk.symm.trans e) (by decide)) ?_
  refine ev_f (fun e => absurd (hk.symm.trans e) (by decide)) ?_
  refine ev_f (fun e => absurd (hk.symm.trans e) (by decide)) ?_
  refine ev_f (fun e => absurd (hk.symm.trans e) (by decide)) ?_
  refine ev_f (fun e => absurd (hk.symm.trans e) (by decide)) ?_
  refine ev_f (fun e => absurd (hk.symm.trans e) (by decide)) ?_
  refine ev_f (fun e => absurd (hk.symm.trans e) (by decide)) ?_
  refine ev_f (fun e => absurd (hk.symm.trans e) (by decide)) ?_
  refine ev_f (fun e => absurd (hk.symm.trans e) (by decide)) ?_
  refine ev_f (fun e => absurd (hk.symm.trans e) (by decide)) ?_
  refine ev_f (fun e => absurd (hk.symm.trans e) (by decide)) ?_
  refine ev_f (fun e => absurd (hk.symm.trans e) (by decide)) ?_
  refine ev_f (fun e => absurd (hk.symm.trans e) (by decide)) ?_
  refine ev_f (fun e => absurd (hk.symm.trans e) (by decide)) ?_
  refine ev_f (fun e => absurd (hk.symm.trans e) (by decide)) ?_
  refine ev_f (fun e => absurd (hk.symm.trans e) (by decide)) ?_
  refine ev_f (fun e => absurd (hk.symm.trans e) (by decide)) ?_
  refine ev_f (fun e => absurd (hk.symm.trans e) (by decide)) ?_
  refine ev_f (fun e => absurd (hk.symm.trans e) (by decide)) ?_
  refine ev_t hk ?_
  refine ev_b e1 ?_
  refine ev_b e2 ?_
  refine ev_cI q0 ?_
  refine ev_b e1 ?_
  refine ev_b e2 ?_
  refine ev_i o1 ?_
  refine ev_cI q1 ?_
  refine ev_i o2 ?_
  refine ev_cI q2 ?_
  refine ev_t rfl ?_
  by_cases c0 : c = 0
  · obtain ⟨ho, hb⟩ := hv c0
    refine ev_f (fun e => e c0) ?_
    refine ev_b ho ?_
    subst hb
    by_cases cb : r = 0
    · rw [show vfZ (.int r) = 0 from if_pos cb]
      exact ev_t cb (ev_t (lg_cmp_self _) rfl)
    · rw [show vfZ (.int r) = 1 from if_neg cb]
      exact ev_f cb (ev_t (lg_cmp_self _) rfl)
  · exact ev_t c0 rfl
set_option maxHeartbeats 4000000 in
set_option maxRecDepth 20000 in
theorem lk_37 {X : am_X} {N K : Nat} {x4 a0 a1 : Int32} {h h' : am_H} (hi : ¬ (Int32.ofNat (X 0).1) - 7 < x4) (e0 : am_pX X 0 x4 = some a0) (hk : a0 &&& 63 = 37) (e1 : am_pX X 0 (x4 + 1) = some a1) (H : opBI (fm_234 N (.ref 0) a1 (.ref 268) h) (fun h1 => fm_519 N (.ref 174) a1 h1) vfI h') : lw_turn X N K x4 h h' := by
  obtain ⟨c, h1, r, o, q0, o1, q1, o2, ht, hv⟩ := H
  have q2 := e_324 ht
  unfold lw_turn
  rw [fg_0_23]
  refine ev_f hi ?_
  refine ev_b e0 ?_
  refine ev_f (fun e => absurd (hk.symm.trans e) (by decide)) ?_
  refine ev_f (fun e => absurd (hk.symm.trans e) (by decide)) ?_
  refine ev_f (fun e => absurd (hk.symm.trans e) (by decide)) ?_
  refine ev_f (fun e => absurd (hk.symm.trans e) (by decide)) ?_
  refine ev_f (fun e => absurd (hk.symm.trans e) (by decide)) ?_
  refine ev_f (fun e => absurd (hk.symm.trans e) (by decide)) ?_
  refine ev_f (fun e => absurd (hk.symm.trans e) (by decide)) ?_
  refine ev_f (fun e => absurd (hk.symm.trans e) (by decide)) ?_
  refine ev_f (fun e => absurd (hk.symm.trans e) (by decide)) ?_
  refine ev_f (fun e => absurd (hk.symm.trans e) (by decide)) ?_
  refine ev_f (fun e => absurd (hk.symm.trans e) (by decide)) ?_
  refine ev_f (fun e => absurd (hk.symm.trans e) (by decide)) ?_
  refine ev_f (fun e => absurd (hk.symm.trans e) (by decide)) ?_
  refine ev_f (fun e => absurd (hk.symm.trans e) (by decide)) ?_
  refine ev_f (fun e => absurd (hk.symm.trans e) (by decide)) ?_
  refine ev_f (fun e => absurd (hk.symm.trans e) (by decide)) ?_
  refine ev_f (fun e => absurd (hk.symm.trans e) (by decide)) ?_
  refine ev_f (fun e => absurd (hk.symm.trans e) (by decide)) ?_
  refine ev_f (fun e => absurd (hk.symm.trans e) (by decide)) ?_
  refine ev_f (fun e => absurd (hk.symm.trans e) (by decide)) ?_
  refine ev_f (fun e => absurd (hk.symm.trans e) (by decide)) ?_
  refine ev_f (fun e => absurd (hk.symm.trans e) (by decide)) ?_
  refine ev_f (fun e => absurd (hk.symm.trans e) (by decide)) ?_
  refine ev_f (fun e => absurd (hk.symm.trans e) (by decide)) ?_
  refine ev_f (fun e => absurd (hk.symm.trans e) (by decide)) ?_
  refine ev_f (fun e => absurd (hk.symm.trans e) (by decide)) ?_
  refine ev_f (fun e => absurd (hk.symm.trans e) (by decide)) ?_
  refine ev_f (fun e => absurd (hk.symm.trans e) (by decide)) ?_
  refine ev_f (fun e => absurd (hk.symm.trans e) (by decide)) ?_
  refine ev_f (fun e => absurd (hk.symm.trans e) (by decide)) ?_
  refine ev_f (fun e => absurd (hk.symm.trans e) (by decide)) ?_
  refine ev_f (fun e => absurd (hk.symm.trans e) (by decide)) ?_
  refine ev_f (fun e => absurd (hk.symm.trans e) (by decide)) ?_
  refine ev_f (fun e => absurd (hk.symm.trans e) (by decide)) ?_
  refine ev_f (fun e => absurd (hk.symm.trans e) (by decide)) ?_
  refine ev_f (fun e => absurd (hk.symm.trans e) (by decide)) ?_
  refine ev_f (fun e => absurd (hk.symm.trans e) (by decide)) ?_
  refine ev_t hk ?_
  refine ev_b e1 ?_
  refine ev_cI q0 ?_
  refine ev_b e1 ?_
  refine ev_i o1 ?_
  refine ev_cI q1 ?_
  refine ev_i o2 ?_
  refine ev_cI q2 ?_
  refine ev_t rfl ?_
  by_cases c0 : c = 0
  · obtain ⟨ho, hb⟩ := hv c0
    refine ev_f (fun e => e c0) ?_
    refine ev_b ho ?_
    subst hb
    refine ev_t (lg_cmp_self _) ?_
    rfl
  · exact ev_t c0 rfl
set_option maxHeartbeats 4000000 in
set_option maxRecDepth 20000 in
theorem lk_38 {X : am_X} {N K : Nat} {x4 a0 a1 a2 : Int32} {h h' : am_H} (hi : ¬ (Int32.ofNat (X 0).1) - 7 < x4) (e0 : am_pX X 0 x4 = some a0) (hk : a0 &&& 63 = 38) (e1 : am_pX X 0 (x4 + 1) = some a1) (e2 : am_pX X 0 (x4 + 2) = some a2) (H : opBI (fm_236 N (.ref 0) a1 a2 (.ref 268) h) (fun h1 => fm_520 N (.ref 174) a1 a2 h1) vfI h') : lw_turn X N K x4 h h' := by
  obtain ⟨c, h1, r, o, q0, o1, q1, o2, ht, hv⟩ := H
  have q2 := e_324 ht
  unfold lw_turn
  rw [fg_0_23]
  refine ev_f hi ?_
  refine ev_b e0 ?_
  refine ev_f (fun e => absurd (hk.symm.trans e) (by decide)) ?_
  refine ev_f (fun e => absurd (hk.symm.trans e) (by decide)) ?_
  refine ev_f (fun e => absurd (hk.symm.trans e) (by decide)) ?_
  refine ev_f (fun e => absurd (hk.symm.trans e) (by decide)) ?_
  refine ev_f (fun e => absurd (hk.symm.trans e) (by decide)) ?_
  refine ev_f (fun e => absurd (hk.symm.trans e) (by decide)) ?_
  refine ev_f (fun e => absurd (hk.symm.trans e) (by decide)) ?_
  refine ev_f (fun e => absurd (hk.symm.trans e) (by decide)) ?_
  refine ev_f (fun e => absurd (hk.symm.trans e) (by decide)) ?_
  refine ev_f (fun e => absurd (hk.symm.trans e) (by decide)) ?_
  refine ev_f (fun e => absurd (hk.symm.trans e) (by decide)) ?_
  refine ev_f (fun e => absurd (hk.symm.trans e) (by decide)) ?_
  refine ev_f (fun e => absurd (hk.symm.trans e) (by decide)) ?_
  refine ev_f (fun e => absurd (hk.symm.trans e) (by decide)) ?_
  refine ev_f (fun e => absurd (hk.symm.trans e) (by decide)) ?_
  refine ev_f (fun e => absurd (hk.symm.trans e) (by decide)) ?_
  refine ev_f (fun e => absurd (hk.symm.trans e) (by decide)) ?_
  refine ev_f (fun e => absurd (hk.symm.trans e) (by decide)) ?_
  refine ev_f (fun e => absurd (hk.symm.trans e) (by decide)) ?_
  refine ev_f (fun e => absurd (hk.symm.trans e) (by decide)) ?_
  refine ev_f (fun e => absurd (hk.symm.trans e) (by decide)) ?_
  refine ev_f (fun e => absurd (hk.symm.trans e) (by decide)) ?_
  refine ev_f (fun e => absurd (hk.symm.trans e) (by decide)) ?_
  refine ev_f (fun e => absurd (hk.symm.trans e) (by decide)) ?_
  refine ev_f (fun e => absurd (hk.symm.trans e) (by decide)) ?_
  refine ev_f (fun e => absurd (hk.symm.trans e) (by decide)) ?_
  refine ev_f (fun e => absurd (hk.symm.trans e) (by decide)) ?_
  refine ev_f (fun e => absurd (hk.symm.trans e) (by decide)) ?_
  refine ev_f (fun e => absurd (hk.symm.trans e) (by decide)) ?_
  refine ev_f (fun e => absurd (hk.symm.trans e) (by decide)) ?_
  refine ev_f (fun e => absurd (hk.symm.trans e) (by decide)) ?_
  refine ev_f (fun e => absurd (hk.symm.trans e) (by decide)) ?_
  refine ev_f (fun e => absurd (hk.symm.trans e) (by decide)) ?_
  refine ev_f (fun e => absurd (hk.symm.trans e) (by decide)) ?_
  refine ev_f (fun e => absurd (hk.symm.trans e) (by decide)) ?_
  refine ev_f (fun e => absurd (hk.symm.trans e) (by decide)) ?_
  refine ev_f (fun e => absurd (hk.symm.trans e) (by decide)) ?_
  refine ev_f (fun e => absurd (hk.symm.trans e) (by decide)) ?_
  refine ev_t hk ?_
  refine ev_b e1 ?_
  refine ev_b e2 ?_
  refine ev_cI q0 ?_
  refine ev_b e1 ?_
  refine ev_b e2 ?_
  refine ev_i o1 ?_
  refine ev_cI q1 ?_
  refine ev_i o2 ?_
  refine ev_cI q2 ?_
  refine ev_t rfl ?_
  by_cases c0 : c = 0
  · obtain ⟨ho, hb⟩ := hv c0
    refine ev_f (fun e => e c0) ?_
    refine ev_b ho ?_
    subst hb
    refine ev_t (lg_cmp_self _) ?_
    rfl
  · exact ev_t c0 rfl
set_option maxHeartbeats 4000000 in
set_option maxRecDepth 20000 in
theorem lk_39 {X : am_X} {N K : Nat} {x4 a0 a1 a2 a3 : Int32} {h h' : am_H} (hi : ¬ (Int32.ofNat (X 0).1) - 7 < x4) (e0 : am_pX X 0 x4 = some a0) (hk : a0 &&& 63 = 39) (e1 : am_pX X 0 (x4 + 1) = some a1) (e2 : am_pX X 0 (x4 + 2) = some a2) (e3 : am_pX X 0 (x4 + 3) = some a3) (H : opBI (fm_238 N (.ref 0) a1 a2 a3 (.ref 268) h) (fun h1 => fm_521 N (.ref 174) a1 a2 a3 h1) vfI h') : lw_turn X N K x4 h h' := by
  obtain ⟨c, h1, r, o, q0, o1, q1, o2, ht, hv⟩ := H
  have q2 := e_324 ht
  unfold lw_turn
  rw [fg_0_23]
  refine ev_f hi ?_
  refine ev_b e0 ?_
  refine ev_f (fun e => absurd (hk.symm.trans e) (by decide)) ?_
  refine ev_f (fun e => absurd (hk.symm.trans e) (by decide)) ?_
  refine ev_f (fun e => absurd (hk.symm.trans e) (by decide)) ?_
  refine ev_f (fun e => absurd (hk.symm.trans e) (by decide)) ?_
  refine ev_f (fun e => absurd (hk.symm.trans e) (by decide)) ?_
  refine ev_f (fun e => absurd (hk.symm.trans e) (by decide)) ?_
  refine ev_f (fun e => absurd (hk.symm.trans e) (by decide)) ?_
  refine ev_f (fun e => absurd (hk.symm.trans e) (by decide)) ?_
  refine ev_f (fun e => absurd (hk.symm.trans e) (by decide)) ?_
  refine ev_f (fun e => absurd (hk.symm.trans e) (by decide)) ?_
  refine ev_f (fun e => absurd (hk.symm.trans e) (by decide)) ?_
  refine ev_f (fun e => absurd (hk.symm.trans e) (by decide)) ?_
  refine ev_f (fun e => absurd (hk.symm.trans e) (by decide)) ?_
  refine ev_f (fun e => absurd (hk.symm.trans e) (by decide)) ?_
  refine ev_f (fun e => absurd (hk.symm.trans e) (by decide)) ?_
  refine ev_f (fun e => absurd (hk.symm.trans e) (by decide)) ?_
  refine ev_f (fun e => absurd (hk.symm.trans e) (by decide)) ?_
  refine ev_f (fun e => absurd (hk.symm.trans e) (by decide)) ?_
  refine ev_f (fun e => absurd (hk.symm.trans e) (by decide)) ?_
  refine ev_f (fun e => absurd (hk.symm.trans e) (by decide)) ?_
  refine ev_f (fun e => absurd (hk.symm.trans e) (by decide)) ?_
  refine ev_f (fun e => absurd (hk.symm.trans e) (by decide)) ?_
  refine ev_f (fun e => absurd (hk.symm.trans e) (by decide)) ?_
  refine ev_f (fun e => absurd (hk.symm.trans e) (by decide)) ?_
  refine ev_f (fun e => absurd (hk.symm.trans e) (by decide)) ?_
  refine ev_f (fun e => absurd (hk.symm.trans e) (by decide)) ?_
  refine ev_f (fun e => absurd (hk.symm.trans e) (by decide)) ?_
  refine ev_f (fun e => absurd (hk.symm.trans e) (by decide)) ?_
  refine ev_f (fun e => absurd (hk.symm.trans e) (by decide)) ?_
  refine ev_f (fun e => absurd (hk.symm.trans e) (by decide)) ?_
  refine ev_f (fun e => absurd (hk.symm.trans e) (by decide)) ?_
  refine ev_f (fun e => absurd (hk.symm.trans e) (by decide)) ?_
  refine ev_f (fun e => absurd (hk.symm.trans e) (by decide)) ?_
  refine ev_f (fun e => absurd (hk.symm.trans e) (by decide)) ?_
  refine ev_f (fun e => absurd (hk.symm.trans e) (by decide)) ?_
  refine ev_f (fun e => absurd (hk.symm.trans e) (by decide)) ?_
  refine ev_f (fun e => absurd (hk.symm.trans e) (by decide)) ?_
  refine ev_f (fun e => absurd (hk.symm.trans e) (by decide)) ?_
  refine ev_f (fun e => absurd (hk.symm.trans e) (by decide)) ?_
  refine ev_t hk ?_
  refine ev_b e1 ?_
  refine ev_b e2 ?_
  refine ev_b e3 ?_
  refine ev_cI q0 ?_
  refine ev_b e1 ?_
  refine ev_b e2 ?_
  refine ev_b e3 ?_
  refine ev_i o1 ?_
  refine ev_cI q1 ?_
  refine ev_i o2 ?_
  refine ev_cI q2 ?_
  refine ev_t rfl ?_
  by_cases c0 : c = 0
  · obtain ⟨ho, hb⟩ := hv c0
    refine ev_f (fun e => e c0) ?_
    refine ev_b ho ?_
    subst hb
    refine ev_t (lg_cmp_self _) ?_
    rfl
  · exact ev_t c0 rfl
set_option maxHeartbeats 4000000 in
set_option maxRecDepth 20000 in
theorem lk_40 {X : am_X} {N K : Nat} {x4 a0 a1 a2 : Int32} {h h' : am_H} (hi : ¬ (Int32.ofNat (X 0).1) - 7 < x4) (e0 : am_pX X 0 x4 = some a0) (hk : a0 &&& 63 = 40) (e1 : am_pX X 0 (x4 + 1) = some a1) (e2 : am_pX X 0 (x4 + 2) = some a2) (H : opBL (fm_244 N (.ref 0) a1 a2 (.ref 268) h) (fun h1 => fm_524 N (.ref 174) a1 a2 h1) vfI h') : lw_turn X N K x4 h h' := by
  obtain ⟨c, h1, r, o, q0, o1, q1, o2, ht, hv⟩ := H
  have q2 := e_324 ht
  unfold lw_turn
  rw [fg_0_23]
  refine ev_f hi ?_
  refine ev_b e0 ?_
  refine ev_f (fun e => absurd (hk.symm.trans e) (by decide)) ?_
  refine ev_f (fun e => absurd (hk.symm.trans e) (by decide)) ?_
  refine ev_f (fun e => absurd (hk.symm.trans e) (by decide)) ?_
  refine ev_f (fun e => absurd (hk.symm.trans e) (by decide)) ?_
  refine ev_f (fun e => absurd (hk.symm.trans e) (by decide)) ?_
  refine ev_f (fun e => absurd (hk.symm.trans e) (by decide)) ?_
  refine ev_f (fun e => absurd (hk.symm.trans e) (by decide)) ?_
  refine ev_f (fun e => absurd (hk.symm.trans e) (by decide)) ?_
  refine ev_f (fun e => absurd (hk.symm.trans e) (by decide)) ?_
  refine ev_f (fun e => absurd (hk.symm.trans e) (by decide)) ?_
  refine ev_f (fun e => absurd (hk.symm.trans e) (by decide)) ?_
  refine ev_f (fun e => absurd (hk.symm.trans e) (by decide)) ?_
  refine ev_f (fun e => absurd (hk.symm.trans e) (by decide)) ?_
  refine ev_f (fun e => absurd (hk.symm.trans e) (by decide)) ?_
  refine ev_f (fun e => absurd (hk.symm.trans e) (by decide)) ?_
  refine ev_f (fun e => absurd (hk.symm.trans e) (by decide)) ?_
  refine ev_f (fun e => absurd (hk.symm.trans e) (by decide)) ?_
  refine ev_f (fun e => absurd (hk.symm.trans e) (by decide)) ?_
  refine ev_f (fun e => absurd (hk.symm.trans e) (by decide)) ?_
  refine ev_f (fun e => absurd (hk.symm.trans e) (by decide)) ?_
  refine ev_f (fun e => absurd (hk.symm.trans e) (by decide)) ?_
  refine ev_f (fun e => absurd (hk.symm.trans e) (by decide)) ?_
  refine ev_f (fun e => absurd (hk.symm.trans e) (by decide)) ?_
  refine ev_f (fun e => absurd (hk.symm.trans e) (by decide)) ?_
  refine ev_f (fun e => absurd (hk.symm.trans e) (by decide)) ?_
  refine ev_f (fun e => absurd (hk.symm.trans e) (by decide)) ?_
  refine ev_f (fun e => absurd (hk.symm.trans e) (by decide)) ?_
  refine ev_f (fun e => absurd (hk.symm.trans e) (by decide)) ?_
  refine ev_f (fun e => absurd (hk.symm.trans e) (by decide)) ?_
  refine ev_f (fun e => absurd (hk.symm.trans e) (by decide)) ?_
  refine ev_f (fun e => absurd (hk.symm.trans e) (by decide)) ?_
  refine ev_f (fun e => absurd (hk.symm.trans e) (by decide)) ?_
  refine ev_f (fun e => absurd (hk.symm.trans e) (by decide)) ?_
  refine ev_f (fun e => absurd (hk.symm.trans e) (by decide)) ?_
  refine ev_f (fun e => absurd (hk.symm.trans e) (by decide)) ?_
  refine ev_f (fun e => absurd (hk.symm.trans e) (by decide)) ?_
  refine ev_f (fun e => absurd (hk.symm.trans e) (by decide)) ?_
  refine ev_f (fun e => absurd (hk.symm.trans e) (by decide)) ?_
  refine ev_f (fun e => absurd (hk.symm.trans e) (by decide)) ?_
  refine ev_f (fun e => absurd (hk.symm.trans e) (by decide)) ?_
  refine ev_t hk ?_
  refine ev_b e1 ?_
  refine ev_b e2 ?_
  refine ev_cI q0 ?_
  refine ev_b e1 ?_
  refine ev_b e2 ?_
  refine ev_i o1 ?_
  refine ev_cL q1 ?_
  refine ev_i o2 ?_
  refine ev_cI q2 ?_
  refine ev_t rfl ?_
  by_cases c0 : c = 0
  · obtain ⟨ho, hb⟩ := hv c0
    refine ev_f (fun e => e c0) ?_
    refine ev_b ho ?_
    subst hb
    refine ev_t (lg_cmp_self _) ?_
    rfl
  · exact ev_t c0 rfl
set_option maxHeartbeats 4000000 in
set_option maxRecDepth 20000 in
theorem lk_41 {X : am_X} {N K : Nat} {x4 a0 a1 a2 : Int32} {h h' : am_H} (hi : ¬ (Int32.ofNat (X 0).1) - 7 < x4) (e0 : am_pX X 0 x4 = some a0) (hk : a0 &&& 63 = 41) (e1 : am_pX X 0 (x4 + 1) = some a1) (e2 : am_pX X 0 (x4 + 2) = some a2) (H : opBL (fm_247 N (.ref 0) a1 a2 (.ref 268) h) (fun h1 => fm_526 N (.ref 174) a1 a2 h1) vfI h') : lw_turn X N K x4 h h' := by
  obtain ⟨c, h1, r, o, q0, o1, q1, o2, ht, hv⟩ := H
  have q2 := e_324 ht
  unfold lw_turn
  rw [fg_0_23]
  refine ev_f hi ?_
  refine ev_b e0 ?_
  refine ev_f (fun e => absurd (hk.symm.trans e) (by decide)) ?_
  refine ev_f (fun e => absurd (hk.symm.trans e) (by decide)) ?_
  refine ev_f (fun e => absurd (hk.symm.trans e) (by decide)) ?_
  refine ev_f (fun e => absurd (hk.symm.trans e) (by decide)) ?_
  refine ev_f (fun e => absurd (hk.symm.trans e) (by decide)) ?_
  refine ev_f (fun e => absurd (hk.symm.trans e) (by decide)) ?_
  refine ev_f (fun e => absurd (hk.symm.trans e) (by decide)) ?_
  refine ev_f (fun e => absurd (hk.symm.trans e) (by decide)) ?_
  refine ev_f (fun e => absurd (hk.symm.trans e) (by decide)) ?_
  refine ev_f (fun e => absurd (hk.symm.trans e) (by decide)) ?_
  refine ev_f (fun e => absurd (hk.symm.trans e) (by decide)) ?_
  refine ev_f (fun e => absurd (hk.symm.trans e) (by decide)) ?_
  refine ev_f (fun e => absurd (hk.symm.trans e) (by decide)) ?_
  refine ev_f (fun e => absurd (hk.symm.trans e) (by decide)) ?_
  refine ev_f (fun e => absurd (hk.symm.trans e) (by decide)) ?_
  refine ev_f (fun e => absurd (hk.symm.trans e) (by decide)) ?_
  refine ev_f (fun e => absurd (hk.symm.trans e) (by decide)) ?_
  refine ev_f (fun e => absurd (hk.symm.trans e) (by decide)) ?_
  refine ev_f (fun e => absurd (hk.symm.trans e) (by decide)) ?_
  refine ev_f (fun e => absurd (hk.symm.trans e) (by decide)) ?_
  refine ev_f (fun e => absurd (hk.symm.trans e) (by decide)) ?_
  refine ev_f (fun e => absurd (hk.symm.trans e) (by decide)) ?_
  refine ev_f (fun e => absurd (hk.symm.trans e) (by decide)) ?_
  refine ev_f (fun e => absurd (hk.symm.trans e) (by decide)) ?_
  refine ev_f (fun e => absurd (hk.symm.trans e) (by decide)) ?_
  refine ev_f (fun e => absurd (hk.symm.trans e) (by decide)) ?_
  refine ev_f (fun e => absurd (hk.symm.trans e) (by decide)) ?_
  refine ev_f (fun e => absurd (hk.symm.trans e) (by decide)) ?_
  refine ev_f (fun e => absurd (hk.symm.trans e) (by decide)) ?_
  refine ev_f (fun e => absurd (hk.symm.trans e) (by decide)) ?_
  refine ev_f (fun e => absurd (hk.symm.trans e) (by decide)) ?_
  refine ev_f (fun e => absurd (hk.symm.trans e) (by decide)) ?_
  refine ev_f (fun e => absurd (hk.symm.trans e) (by decide)) ?_
  refine ev_f (fun e => absurd (hk.symm.trans e) (by decide)) ?_
  refine ev_f (fun e => absurd (hk.symm.trans e) (by decide)) ?_
  refine ev_f (fun e => absurd (hk.symm.trans e) (by decide)) ?_
  refine ev_f (fun e => absurd (hk.symm.trans e) (by decide)) ?_
  refine ev_f (fun e => absurd (hk.symm.trans e) (by decide)) ?_
  refine ev_f (fun e => absurd (hk.symm.trans e) (by decide)) ?_
  refine ev_f (fun e => absurd (hk.symm.trans e) (by decide)) ?_
  refine ev_f (fun e => absurd (hk.symm.trans e) (by decide)) ?_
  refine ev_t hk ?_
  refine ev_b e1 ?_
  refine ev_b e2 ?_
  refine ev_cI q0 ?_
  refine ev_b e1 ?_
  refine ev_b e2 ?_
  refine ev_i o1 ?_
  refine ev_cL q1 ?_
  refine ev_i o2 ?_
  refine ev_cI q2 ?_
  refine ev_t rfl ?_
  by_cases c0 : c = 0
  · obtain ⟨ho, hb⟩ := hv c0
    refine ev_f (fun e => e c0) ?_
    refine ev_b ho ?_
    subst hb
    refine ev_t (lg_cmp_self _) ?_
    rfl
  · exact ev_t c0 rfl
set_option maxHeartbeats 4000000 in
set_option maxRecDepth 20000 in
theorem lk_42 {X : am_X} {N K : Nat} {x4 a0 a1 : Int32} {h h' : am_H} (hi : ¬ (Int32.ofNat (X 0).1) - 7 < x4) (e0 : am_pX X 0 x4 = some a0) (hk : a0 &&& 63 = 42) (e1 : am_pX X 0 (x4 + 1) = some a1) (H : opBI (fm_250 N (.ref 0) a1 (.ref 268) h) (fun h1 => fm_527 N (.ref 174) a1 h1) vfI h') : lw_turn X N K x4 h h' := by
  obtain ⟨c, h1, r, o, q0, o1, q1, o2, ht, hv⟩ := H
  have q2 := e_324 ht
  unfold lw_turn
  rw [fg_0_23]
  refine ev_f hi ?_
  refine ev_b e0 ?_
  refine ev_f (fun e => absurd (hk.symm.trans e) (by decide)) ?_
  refine ev_f (fun e => absurd (hk.symm.trans e) (by decide)) ?_
  refine ev_f (fun e => absurd (hk.symm.trans e) (by decide)) ?_
  refine ev_f (fun e => absurd (hk.symm.trans e) (by decide)) ?_
  refine ev_f (fun e => absurd (hk.symm.trans e) (by decide)) ?_
  refine ev_f (fun e => absurd (hk.symm.trans e) (by decide)) ?_
  refine ev_f (fun e => absurd (hk.symm.trans e) (by decide)) ?_
  refine ev_f (fun e => absurd (hk.symm.trans e) (by decide)) ?_
  refine ev_f (fun e => absurd (hk.symm.trans e) (by decide)) ?_
  refine ev_f (fun e => absurd (hk.symm.trans e) (by decide)) ?_
  refine ev_f (fun e => absurd (hk.symm.trans e) (by decide)) ?_
  refine ev_f (fun e => absurd (hk.symm.trans e) (by decide)) ?_
  refine ev_f (fun e => absurd (hk.symm.trans e) (by decide)) ?_
  refine ev_f (fun e => absurd (hk.symm.trans e) (by decide)) ?_
  refine ev_f (fun e => absurd (hk.symm.trans e) (by decide)) ?_
  refine ev_f (fun e => absurd (hk.symm.trans e) (by decide)) ?_
  refine ev_f (fun e => absurd (hk.symm.trans e) (by decide)) ?_
  refine ev_f (fun e => absurd (hk.symm.trans e) (by decide)) ?_
  refine ev_f (fun e => absurd (hk.symm.trans e) (by decide)) ?_
  refine ev_f (fun e => absurd (hk.symm.trans e) (by decide)) ?_
  refine ev_f (fun e => absurd (hk.symm.trans e) (by decide)) ?_
  refine ev_f (fun e => absurd (hk.symm.trans e) (by decide)) ?_
  refine ev_f (fun e => absurd (hk.symm.trans e) (by decide)) ?_
  refine ev_f (fun e => absurd (hk.symm.trans e) (by decide)) ?_
  refine ev_f (fun e => absurd (hk.symm.trans e) (by decide)) ?_
  refine ev_f (fun e => absurd (hk.symm.trans e) (by decide)) ?_
  refine ev_f (fun e => absurd (hk.symm.trans e) (by decide)) ?_
  refine ev_f (fun e => absurd (hk.symm.trans e) (by decide)) ?_
  refine ev_f (fun e => absurd (hk.symm.trans e) (by decide)) ?_
  refine ev_f (fun e => absurd (hk.symm.trans e) (by decide)) ?_
  refine ev_f (fun e => absurd (hk.symm.trans e) (by decide)) ?_
  refine ev_f (fun e => absurd (hk.symm.trans e) (by decide)) ?_
  refine ev_f (fun e => absurd (hk.symm.trans e) (by decide)) ?_
  refine ev_f (fun e => absurd (hk.symm.trans e) (by decide)) ?_
  refine ev_f (fun e => absurd (hk.symm.trans e) (by decide)) ?_
  refine ev_f (fun e => absurd (hk.symm.trans e) (by decide)) ?_
  refine ev_f (fun e => absurd (hk.symm.trans e) (by decide)) ?_
  refine ev_f (fun e => absurd (hk.symm.trans e) (by decide)) ?_
  refine ev_f (fun e => absurd (hk.symm.trans e) (by decide)) ?_
  refine ev_f (fun e => absurd (hk.symm.trans e) (by decide)) ?_
  refine ev_f (fun e => absurd (hk.symm.trans e) (by decide)) ?_
  refine ev_f (fun e => absurd (hk.symm.trans e) (by decide)) ?_
  refine ev_t hk ?_
  refine ev_b e1 ?_
  refine ev_cI q0 ?_
  refine ev_b e1 ?_
  refine ev_i o1 ?_
  refine ev_cI q1 ?_
  refine ev_i o2 ?_
  refine ev_cI q2 ?_
  refine ev_t rfl ?_
  by_cases c0 : c = 0
  · obtain ⟨ho, hb⟩ := hv c0
    refine ev_f (fun e => e c0) ?_
    refine ev_b ho ?_
    subst hb
    refine ev_t (lg_cmp_self _) ?_
    rfl
  · exact ev_t c0 rfl
set_option maxHeartbeats 4000000 in
set_option maxRecDepth 20000 in
theorem lk_43 {X : am_X} {N K : Nat} {x4 a0 a1 a2 : Int32} {h h' : am_H} (hi : ¬ (Int32.ofNat (X 0).1) - 7 < x4) (e0 : am_pX X 0 x4 = some a0) (hk : a0 &&& 63 = 43) (e1 : am_pX X 0 (x4 + 1) = some a1) (e2 : am_pX X 0 (x4 + 2) = some a2) (H : opBI (fm_254 N (.ref 0) a1 a2 (.ref 268) h) (fun h1 => fm_530 N (.ref 174) a1 a2 h1) vfI h') : lw_turn X N K x4 h h' := by
  obtain ⟨c, h1, r, o, q0, o1, q1, o2, ht, hv⟩ := H
  have q2 := e_324 ht
  unfold lw_turn
  rw [fg_0_23]
  refine ev_f hi ?_
  refine ev_b e0 ?_
  refine ev_f (fun e => absurd (hk.symm.trans e) (by decide)) ?_
  refine ev_f (fun e => absurd (hk.symm.trans e) (by decide)) ?_
  refine ev_f (fun e => absurd (hk.symm.trans e) (by decide)) ?_
  refine ev_f (fun e => absurd (hk.symm.trans e) (by decide)) ?_
  refine ev_f (fun e => absurd (hk.symm.trans e) (by decide)) ?_
  refine ev_f (fun e => absurd (hk.symm.trans e) (by decide)) ?_
  refine ev_f (fun e => absurd (hk.symm.trans e) (by decide)) ?_
  refine ev_f (fun e => absurd (hk.symm.trans e) (by decide)) ?_
  refine ev_f (fun e => absurd (hk.symm.trans e) (by decide)) ?_
  refine ev_f (fun e => absurd (hk.symm.trans e) (by decide)) ?_
  refine ev_f (fun e => absurd (hk.symm.trans e) (by decide)) ?_
  refine ev_f (fun e => absurd (hk.symm.trans e) (by decide)) ?_
  refine ev_f (fun e => absurd (hk.symm.trans e) (by decide)) ?_
  refine ev_f (fun e => absurd (hk.symm.trans e) (by decide)) ?_
  refine ev_f (fun e => absurd (hk.symm.trans e) (by decide)) ?_
  refine ev_f (fun e => absurd (hk.symm.trans e) (by decide)) ?_
  refine ev_f (fun e => absurd (hk.symm.trans e) (by decide)) ?_
  refine ev_f (fun e => absurd (hk.symm.trans e) (by decide)) ?_
  refine ev_f (fun e => absurd (hk.symm.trans e) (by decide)) ?_
  refine ev_f (fun e => absurd (hk.symm.trans e) (by decide)) ?_
  refine ev_f (fun e => absurd (hk.symm.trans e) (by decide)) ?_
  refine ev_f (fun e => absurd (hk.symm.trans e) (by decide)) ?_
  refine ev_f (fun e => absurd (hk.symm.trans e) (by decide)) ?_
  refine ev_f (fun e => absurd (hk.symm.trans e) (by decide)) ?_
  refine ev_f (fun e => absurd (hk.symm.trans e) (by decide)) ?_
  refine ev_f (fun e => absurd (hk.symm.trans e) (by decide)) ?_
  refine ev_f (fun e => absurd (hk.symm.trans e) (by decide)) ?_
  refine ev_f (fun e => absurd (hk.symm.trans e) (by decide)) ?_
  refine ev_f (fun e => absurd (hk.symm.trans e) (by decide)) ?_
  refine ev_f (fun e => absurd (hk.symm.trans e) (by decide)) ?_
  refine ev_f (fun e => absurd (hk.symm.trans e) (by decide)) ?_
  refine ev_f (fun e => absurd (hk.symm.trans e) (by decide)) ?_
  refine ev_f (fun e => absurd (hk.symm.trans e) (by decide)) ?_
  refine ev_f (fun e => absurd (hk.symm.trans e) (by decide)) ?_
  refine ev_f (fun e => absurd (hk.symm.trans e) (by decide)) ?_
  refine ev_f (fun e => absurd (hk.symm.trans e) (by decide)) ?_
  refine ev_f (fun e => absurd (hk.symm.trans e) (by decide)) ?_
  refine ev_f (fun e => absurd (hk.symm.trans e) (by decide)) ?_
  refine ev_f (fun e => absurd (hk.symm.trans e) (by decide)) ?_
  refine ev_f (fun e => absurd (hk.symm.trans e) (by decide)) ?_
  refine ev_f (fun e => absurd (hk.symm.trans e) (by decide)) ?_
  refine ev_f (fun e => absurd (hk.symm.trans e) (by decide)) ?_
  refine ev_f (fun e => absurd (hk.symm.trans e) (by decide)) ?_
  refine ev_t hk ?_
  refine ev_b e1 ?_
  refine ev_b e2 ?_
  refine ev_cI q0 ?_
  refine ev_b e1 ?_
  refine ev_b e2 ?_
  refine ev_i o1 ?_
  refine ev_cI q1 ?_
  refine ev_i o2 ?_
  refine ev_cI q2 ?_
  refine ev_t rfl ?_
  by_cases c0 : c = 0
  · obtain ⟨ho, hb⟩ := hv c0
    refine ev_f (fun e => e c0) ?_
    refine ev_b ho ?_
    subst hb
    refine ev_t (lg_cmp_self _) ?_
    rfl
  · exact ev_t c0 rfl
set_option maxHeartbeats 4000000 in
set_option maxRecDepth 20000 in
theorem lk_44 {X : am_X} {N K : Nat} {x4 a0 a1 a2 : Int32} {h h' : am_H} (hi : ¬ (Int32.ofNat (X 0).1) - 7 < x4) (e0 : am_pX X 0 x4 = some a0) (hk : a0 &&& 63 = 44) (e1 : am_pX X 0 (x4 + 1) = some a1) (e2 : am_pX X 0 (x4 + 2) = some a2) (H : opBL (fm_256 N (.ref 0) a1 a2 (.ref 268) h) (fun h1 => fm_531 N (.ref 174) a1 a2 h1) vfI h') : lw_turn X N K x4 h h' := by
  obtain ⟨c, h1, r, o, q0, o1, q1, o2, ht, hv⟩ := H
  have q2 := e_324 ht
  unfold lw_turn
  rw [fg_0_23]
  refine ev_f hi ?_
  refine ev_b e0 ?_
  refine ev_f (fun e => absurd (hk.symm.trans e) (by decide)) ?_
  refine ev_f (fun e => absurd (hk.symm.trans e) (by decide)) ?_
  refine ev_f (fun e => absurd (hk.symm.trans e) (by decide)) ?_
  refine ev_f (fun e => absurd (hk.symm.trans e) (by decide)) ?_
  refine ev_f (fun e => absurd (hk.symm.trans e) (by decide)) ?_
  refine ev_f (fun e => absurd (hk.symm.trans e) (by decide)) ?_
  refine ev_f (fun e => absurd (hk.symm.trans e) (by decide)) ?_
  refine ev_f (fun e => absurd (hk.symm.trans e) (by decide)) ?_
  refine ev_f (fun e => absurd (hk.symm.trans e) (by decide)) ?_
  refine ev_f (fun e => absurd (hk.symm.trans e) (by decide)) ?_
  refine ev_f (fun e => absurd (hk.symm.trans e) (by decide)) ?_
  refine ev_f (fun e => absurd (hk.symm.trans e) (by decide)) ?_
  refine ev_f (fun e => absurd (hk.symm.trans e) (by decide)) ?_
  refine ev_f (fun e => absurd (hk.symm.trans e) (by decide)) ?_
  refine ev_f (fun e => absurd (hk.symm.trans e) (by decide)) ?_
  refine ev_f (fun e => absurd (hk.symm.trans e) (by decide)) ?_
  refine ev_f (fun e => absurd (hk.symm.trans e) (by decide)) ?_
  refine ev_f (fun e => absurd (hk.symm.trans e) (by decide)) ?_
  refine ev_f (fun e => absurd (hk.symm.trans e) (by decide)) ?_
  refine ev_f (fun e => absurd (hk.symm.trans e) (by decide)) ?_
  refine ev_f (fun e => absurd (hk.symm.trans e) (by decide)) ?_
  refine ev_f (fun e => absurd (hk.symm.trans e) (by decide)) ?_
  refine ev_f (fun e => absurd (hk.symm.trans e) (by decide)) ?_
  refine ev_f (fun e => absurd (hk.symm.trans e) (by decide)) ?_
  refine ev_f (fun e => absurd (hk.symm.trans e) (by decide)) ?_
  refine ev_f (fun e => absurd (hk.symm.trans e) (by decide)) ?_
  refine ev_f (fun e => absurd (hk.symm.trans e) (by decide)) ?_
  refine ev_f (fun e => absurd (hk.symm.trans e) (by decide)) ?_
  refine ev_f (fun e => absurd (hk.symm.trans e) (by decide)) ?_
  refine ev_f (fun e => absurd (hk.symm.trans e) (by decide)) ?_
  refine ev_f (fun e => absurd (hk.symm.trans e) (by decide)) ?_
  refine ev_f (fun e => absurd (hk.symm.trans e) (by decide)) ?_
  refine ev_f (fun e => absurd (hk.symm.trans e) (by decide)) ?_
  refine ev_f (fun e => absurd (hk.symm.trans e) (by decide)) ?_
  refine ev_f (fun e => absurd (hk.symm.trans e) (by decide)) ?_
  refine ev_f (fun e => absurd (hk.symm.trans e) (by decide)) ?_
  refine ev_f (fun e => absurd (hk.symm.trans e) (by decide)) ?_
  refine ev_f (fun e => absurd (hk.symm.trans e) (by decide)) ?_
  refine ev_f (fun e => absurd (hk.symm.trans e) (by decide)) ?_
  refine ev_f (fun e => absurd (hk.symm.trans e) (by decide)) ?_
  refine ev_f (fun e => absurd (hk.symm.trans e) (by decide)) ?_
  refine ev_f (fun e => absurd (hk.symm.trans e) (by decide)) ?_
  refine ev_f (fun e => absurd (hk.symm.trans e) (by decide)) ?_
  refine ev_f (fun e => absurd (hk.symm.trans e) (by decide)) ?_
  refine ev_t hk ?_
  refine ev_b e1 ?_
  refine ev_b e2 ?_
  refine ev_cI q0 ?_
  refine ev_b e1 ?_
  refine ev_b e2 ?_
  refine ev_i o1 ?_
  refine ev_cL q1 ?_
  refine ev_i o2 ?_
  refine ev_cI q2 ?_
  refine ev_t rfl ?_
  by_cases c0 : c = 0
  · obtain ⟨ho, hb⟩ := hv c0
    refine ev_f (fun e => e c0) ?_
    refine ev_b ho ?_
    subst hb
    refine ev_t (lg_cmp_self _) ?_
    rfl
  · exact ev_t c0 rfl
set_option maxHeartbeats 4000000 in
set_option maxRecDepth 20000 in
theorem lk_45 {X : am_X} {N K : Nat} {x4 a0 a1 : Int32} {h h' : am_H} (hi : ¬ (Int32.ofNat (X 0).1) - 7 < x4) (e0 : am_pX X 0 x4 = some a0) (hk : a0 &&& 63 = 45) (e1 : am_pX X 0 (x4 + 1) = some a1) (H : opBI (fm_258 N (.ref 0) a1 (.ref 268) h) (fun h1 => fm_532 N (.ref 174) a1 h1) vfZ h') : lw_turn X N K x4 h h' := by
  obtain ⟨c, h1, r, o, q0, o1, q1, o2, ht, hv⟩ := H
  have q2 := e_324 ht
  unfold lw_turn
  rw [fg_0_23]
  refine ev_f hi ?_
  refine ev_b e0 ?_
  refine ev_f (fun e => absurd (hk.symm.trans e) (by decide)) ?_
  refine ev_f (fun e => absurd (hk.symm.trans e) (by decide)) ?_
  refine ev_f (fun e => absurd (hk.symm.trans e) (by decide)) ?_
  refine ev_f (fun e => absurd (hk.symm.trans e) (by decide)) ?_
  refine ev_f (fun e => absurd (hk.symm.trans e) (by decide)) ?_
  refine ev_f (fun e => absurd (hk.symm.trans e) (by decide)) ?_
  refine ev_f (fun e => absurd (hk.symm.trans e) (by decide)) ?_
  refine ev_f (fun e => absurd (hk.symm.trans e) (by decide)) ?_
  refine ev_f (fun e => absurd (hk.symm.trans e) (by decide)) ?_
  refine ev_f (fun e => absurd (hk.symm.trans e) (by decide)) ?_
  refine ev_f (fun e => absurd (hk.symm.trans e) (by decide)) ?_
  refine ev_f (fun e => absurd (hk.symm.trans e) (by decide)) ?_
  refine ev_f (fun e => absurd (hk.symm.trans e) (by decide)) ?_
  refine ev_f (fun e => absurd (hk.symm.trans e) (by decide)) ?_
  refine ev_f (fun e => absurd (hk.symm.trans e) (by decide)) ?_
  refine ev_f (fun e => absurd (hk.symm.trans e) (by decide)) ?_
  refine ev_f (fun e => absurd (hk.symm.trans e) (by decide)) ?_
  refine ev_f (fun e => absurd (hk.symm.trans e) (by decide)) ?_
  refine ev_f (fun e => absurd (hk.symm.trans e) (by decide)) ?_
  refine ev_f (fun e => absurd (hk.symm.trans e) (by decide)) ?_
  refine ev_f (fun e => absurd (hk.symm.trans e) (by decide)) ?_
  refine ev_f (fun e => absurd (hk.symm.trans e) (by decide)) ?_
  refine ev_f (fun e => absurd (hk.symm.trans e) (by decide)) ?_
  refine ev_f (fun e => absurd (hk.symm.trans e) (by decide)) ?_
  refine ev_f (fun e => absurd (hk.symm.trans e) (by decide)) ?_
  refine ev_f (fun e => absurd (hk.symm.trans e) (by decide)) ?_
  refine ev_f (fun e => absurd (hk.symm.trans e) (by decide)) ?_
  refine ev_f (fun e => absurd (hk.symm.trans e) (by decide)) ?_
  refine ev_f (fun e => absurd (hk.symm.trans e) (by decide)) ?_
  refine ev_f (fun e => absurd (hk.symm.trans e) (by decide)) ?_
  refine ev_f (fun e => absurd (hk.symm.trans e) (by decide)) ?_
  refine ev_f (fun e => absurd (hk.symm.trans e) (by decide)) ?_
  refine ev_f (fun e => absurd (hk.symm.trans e) (by decide)) ?_
  refine ev_f (fun e => absurd (hk.symm.trans e) (by decide)) ?_
  refine ev_f (fun e => absurd (hk.symm.trans e) (by decide)) ?_
  refine ev_f (fun e => absurd (hk.symm.trans e) (by decide)) ?_
  refine ev_f (fun e => absurd (hk.symm.trans e) (by decide)) ?_
  refine ev_f (fun e => absurd (hk.symm.trans e) (by decide)) ?_
  refine ev_f (fun e => absurd (hk.symm.trans e) (by decide)) ?_
  refine ev_f (fun e => absurd (hk.symm.trans e) (by decide)) ?_
  refine ev_f (fun e => absurd (hk.symm.trans e) (by decide)) ?_
  refine ev_f (fun e => absurd (hk.symm.trans e) (by decide)) ?_
  refine ev_f (fun e => absurd (hk.symm.trans e) (by decide)) ?_
  refine ev_f (fun e => absurd (hk.symm.trans e) (by decide)) ?_
  refine ev_f (fun e => absurd (hk.symm.trans e) (by decide)) ?_
  refine ev_t hk ?_
  refine ev_b e1 ?_
  refine ev_cI q0 ?_
  refine ev_b e1 ?_
  refine ev_i o1 ?_
  refine ev_cI q1 ?_
  refine ev_i o2 ?_
  refine ev_cI q2 ?_
  refine ev_t rfl ?_
  by_cases c0 : c = 0
  · obtain ⟨ho, hb⟩ := hv c0
    refine ev_f (fun e => e c0) ?_
    refine ev_b ho ?_
    subst hb
    by_cases cb : r = 0
    · rw [show vfZ (.int r) = 0 from if_pos cb]
      exact ev_t cb (ev_t (lg_cmp_self _) rfl)
    · rw [show vfZ (.int r) = 1 from if_neg cb]
      exact ev_f cb (ev_t (lg_cmp_self _) rfl)
  · exact ev_t c0 rfl
set_option maxHeartbeats 4000000 in
set_option maxRecDepth 20000 in
theorem lk_46 {X : am_X} {N K : Nat} {x4 a0 a1 : Int32} {h h' : am_H} (hi : ¬ (Int32.ofNat (X 0).1) - 7 < x4) (e0 : am_pX X 0 x4 = some a0) (hk : a0 &&& 63 = 46) (e1 : am_pX X 0 (x4 + 1) = some a1) (H : opBI (fm_260 X N (.ref 0) a1 (.ref 268) h) (fun h1 => fm_533 N (.ref 174) a1 h1) vfI h') : lw_turn X N K x4 h h' := by
  obtain ⟨c, h1, r, o, q0, o1, q1, o2, ht, hv⟩ := H
  have q2 := e_324 ht
  unfold lw_turn
  rw [fg_0_23]
  refine ev_f hi ?_
  refine ev_b e0 ?_
  refine ev_f (fun e => absurd (hk.symm.trans e) (by decide)) ?_
  refine ev_f (fun e => absurd (hk.symm.trans e) (by decide)) ?_
  refine ev_f (fun e => absurd (hk.symm.trans e) (by decide)) ?_
  refine ev_f (fun e => absurd (hk.symm.trans e) (by decide)) ?_
  refine ev_f (fun e => absurd (hk.symm.trans e) (by decide)) ?_
  refine ev_f (fun e => absurd (hk.symm.trans e) (by decide)) ?_
  refine ev_f (fun e => absurd (hk.symm.trans e) (by decide)) ?_
  refine ev_f (fun e => absurd (hk.symm.trans e) (by decide)) ?_
  refine ev_f (fun e => absurd (hk.symm.trans e) (by decide)) ?_
  refine ev_f (fun e => absurd (hk.symm.trans e) (by decide)) ?_
  refine ev_f (fun e => absurd (hk.symm.trans e) (by decide)) ?_
  refine ev_f (fun e => absurd (hk.symm.trans e) (by decide)) ?_
  refine ev_f (fun e => absurd (hk.symm.trans e) (by decide)) ?_
  refine ev_f (fun e => absurd (hk.symm.trans e) (by decide)) ?_
  refine ev_f (fun e => absurd (hk.symm.trans e) (by decide)) ?_
  refine ev_f (fun e => absurd (hk.symm.trans e) (by decide)) ?_
  refine ev_f (fun e => absurd (hk.symm.trans e) (by decide)) ?_
  refine ev_f (fun e => absurd (hk.symm.trans e) (by decide)) ?_
  refine ev_f (fun e => absurd (hk.symm.trans e) (by decide)) ?_
  refine ev_f (fun e => absurd (hk.symm.trans e) (by decide)) ?_
  refine ev_f (fun e => absurd (hk.symm.trans e) (by decide)) ?_
  refine ev_f (fun e => absurd (hk.symm.trans e) (by decide)) ?_
  refine ev_f (fun e => absurd (hk.symm.trans e) (by decide)) ?_
  refine ev_f (fun e => absurd (hk.symm.trans e) (by decide)) ?_
  refine ev_f (fun e => absurd (hk.symm.trans e) (by decide)) ?_
  refine ev_f (fun e => absurd (hk.symm.trans e) (by decide)) ?_
  refine ev_f (fun e => absurd (hk.symm.trans e) (by decide)) ?_
  refine ev_f (fun e => absurd (hk.symm.trans e) (by decide)) ?_
  refine ev_f (fun e => absurd (hk.symm.trans e) (by decide)) ?_
  refine ev_f (fun e => absurd (hk.symm.trans e) (by decide)) ?_
  refine ev_f (fun e => absurd (hk.symm.trans e) (by decide)) ?_
  refine ev_f (fun e => absurd (hk.symm.trans e) (by decide)) ?_
  refine ev_f (fun e => absurd (hk.symm.trans e) (by decide)) ?_
  refine ev_f (fun e => absurd (hk.symm.trans e) (by decide)) ?_
  refine ev_f (fun e => absurd (hk.symm.trans e) (by decide)) ?_
  refine ev_f (fun e => absurd (hk.symm.trans e) (by decide)) ?_
  refine ev_f (fun e => absurd (hk.symm.trans e) (by decide)) ?_
  refine ev_f (fun e => absurd (hk.symm.trans e) (by decide)) ?_
  refine ev_f (fun e => absurd (hk.symm.trans e) (by decide)) ?_
  refine ev_f (fun e => absurd (hk.symm.trans e) (by decide)) ?_
  refine ev_f (fun e => absurd (hk.symm.trans e) (by decide)) ?_
  refine ev_f (fun e => absurd (hk.symm.trans e) (by decide)) ?_
  refine ev_f (fun e => absurd (hk.symm.trans e) (by decide)) ?_
  refine ev_f (fun e => absurd (hk.symm.trans e) (by decide)) ?_
  refine ev_f (fun e => absurd (hk.symm.trans e) (by decide)) ?_
  refine ev_f (fun e => absurd (hk.symm.trans e) (by decide)) ?_
  refine ev_t hk ?_
  refine ev_b e1 ?_
  refine ev_cI q0 ?_
  refine ev_b e1 ?_
  refine ev_i o1 ?_
  refine ev_cI q1 ?_
  refine ev_i o2 ?_
  refine ev_cI q2 ?_
  refine ev_t rfl ?_
  by_cases c0 : c = 0
  · obtain ⟨ho, hb⟩ := hv c0
    refine ev_f (fun e => e c0) ?_
    refine ev_b ho ?_
    subst hb
    refine ev_t (lg_cmp_self _) ?_
    rfl
  · exact ev_t c0 rfl
set_option maxHeartbeats 4000000 in
set_option maxRecDepth 20000 in
theorem lk_47 {X : am_X} {N K : Nat} {x4 a0 a1 : Int32} {h h' : am_H} (hi : ¬ (Int32.ofNat (X 0).1) - 7 < x4) (e0 : am_pX X 0 x4 = some a0) (hk : a0 &&& 63 = 47) (e1 : am_pX X 0 (x4 + 1) = some a1) (H : opBI (fm_267 N (.ref 0) a1 (.ref 268) h) (fun h1 => fm_535 N (.ref 174) a1 h1) vfI h') : lw_turn X N K x4 h h' := by
  obtain ⟨c, h1, r, o, q0, o1, q1, o2, ht, hv⟩ := H
  have q2 := e_324 ht
  unfold lw_turn
  rw [fg_0_23]
  refine ev_f hi ?_
  refine ev_b e0 ?_
  refine ev_f (fun e => absurd (hk.symm.trans e) (by decide)) ?_
  refine ev_f (fun e => absurd (hk.symm.trans e) (by decide)) ?_
  refine ev_f (fun e => absurd (hk.symm.trans e) (by decide)) ?_
  refine ev_f (fun e => absurd (hk.symm.trans e) (by decide)) ?_
  refine ev_f (fun e => absurd (hk.symm.trans e) (by decide)) ?_
  refine ev_f (fun e => absurd (hk.symm.trans e) (by decide)) ?_
  refine ev_f (fun e => absurd (hk.symm.trans e) (by decide)) ?_
  refine ev_f (fun e => absurd (hk.symm.trans e) (by decide)) ?_
  refine ev_f (fun e => absurd (hk.symm.trans e) (by decide)) ?_
  refine ev_f (fun e => absurd (hk.symm.trans e) (by decide)) ?_
  refine ev_f (fun e => absurd (hk.symm.trans e) (by decide)) ?_
  refine ev_f (fun e => absurd (hk.symm.trans e) (by decide)) ?_
  refine ev_f (fun e => absurd (hk.symm.trans e) (by decide)) ?_
  refine ev_f (fun e => absurd (hk.symm.trans e) (by decide)) ?_
  refine ev_f (fun e => absurd (hk.symm.trans e) (by decide)) ?_
  refine ev_f (fun e => absurd (hk.symm.trans e) (by decide)) ?_
  refine ev_f (fun e => absurd (hk.symm.trans e) (by decide)) ?_
  refine ev_f (fun e => absurd (hk.symm.trans e) (by decide)) ?_
  refine ev_f (fun e => absurd (hk.symm.trans e) (by decide)) ?_
  refine ev_f (fun e => absurd (hk.symm.trans e) (by decide)) ?_
  refine ev_f (fun e => absurd (hk.symm.trans e) (by decide)) ?_
  refine ev_f (fun e => absurd (hk.symm.trans e) (by decide)) ?_
  refine ev_f (fun e => absurd (hk.symm.trans e) (by decide)) ?_
  refine ev_f (fun e => absurd (hk.symm.trans e) (by decide)) ?_
  refine ev_f (fun e => absurd (hk.symm.trans e) (by decide)) ?_
  refine ev_f (fun e => absurd (hk.symm.trans e) (by decide)) ?_
  refine ev_f (fun e => absurd (hk.symm.trans e) (by decide)) ?_
  refine ev_f (fun e => absurd (hk.symm.trans e) (by decide)) ?_
  refine ev_f (fun e => absurd (hk.symm.trans e) (by decide)) ?_
  refine ev_f (fun e => absurd (hk.symm.trans e) (by decide)) ?_
  refine ev_f (fun e => absurd (hk.symm.trans e) (by decide)) ?_
  refine ev_f (fun e => absurd (hk.symm.trans e) (by decide)) ?_
  refine ev_f (fun e => absurd (hk.symm.trans e) (by decide)) ?_
  refine ev_f (fun e => absurd (hk.symm.trans e) (by decide)) ?_
  refine ev_f (fun e => absurd (hk.symm.trans e) (by decide)) ?_
  refine ev_f (fun e => absurd (hk.symm.trans e) (by decide)) ?_
  refine ev_f (fun e => absurd (hk.symm.trans e) (by decide)) ?_
  refine ev_f (fun e => absurd (hk.symm.trans e) (by decide)) ?_
  refine ev_f (fun e => absurd (hk.symm.trans e) (by decide)) ?_
  refine ev_f (fun e => absurd (hk.symm.trans e) (by decide)) ?_
  refine ev_f (fun e => absurd (hk.symm.trans e) (by decide)) ?_
  refine ev_f (fun e => absurd (hk.symm.trans e) (by decide)) ?_
  refine ev_f (fun e => absurd (hk.symm.trans e) (by decide)) ?_
  refine ev_f (fun e => absurd (hk.symm.trans e) (by decide)) ?_
  refine ev_f (fun e => absurd (hk.symm.trans e) (by decide)) ?_
  refine ev_f (fun e => absurd (hk.symm.trans e) (by decide)) ?_
  refine ev_f (fun e => absurd (hk.symm.trans e) (by decide)) ?_
  refine ev_t hk ?_
  refine ev_b e1 ?_
  refine ev_cI q0 ?_
  refine ev_b e1 ?_
  refine ev_i o1 ?_
  refine ev_cI q1 ?_
  refine ev_i o2 ?_
  refine ev_cI q2 ?_
  refine ev_t rfl ?_
  by_cases c0 : c = 0
  · obtain ⟨ho, hb⟩ := hv c0
    refine ev_f (fun e => e c0) ?_
    refine ev_b ho ?_
    subst hb
    refine ev_t (lg_cmp_self _) ?_
    rfl
  · exact ev_t c0 rfl
set_option maxHeartbeats 4000000 in
set_option maxRecDepth 20000 in
theorem lk_48 {X : am_X} {N K : Nat} {x4 a0 : Int32} {h h' : am_H} (hi : ¬ (Int32.ofNat (X 0).1) - 7 < x4) (e0 : am_pX X 0 x4 = some a0) (hk : a0 &&& 63 = 48) (o0 : am_pOk 11 (.ref 0) h = true) (H : opA (fm_28 (.ref 0) h) (fun h1 => fm_553 (.ref 174) h1) h') : lw_turn X N K x4 h h' := by
  obtain ⟨v, h1, q0, o1, q1⟩ := H
  unfold lw_turn
  rw [fg_0_23]
  refine ev_f hi ?_
  refine ev_b e0 ?_
  refine ev_f (fun e => absurd (hk.symm.trans e) (by decide)) ?_
  refine ev_f (fun e => absurd (hk.symm.trans e) (by decide)) ?_
  refine ev_f (fun e => absurd (hk.symm.trans e) (by decide)) ?_
  refine ev_f (fun e => absurd (hk.symm.trans e) (by decide)) ?_
  refine ev_f (fun e => absurd (hk.symm.trans e) (by decide)) ?_
  refine ev_f (fun e => absurd (hk.symm.trans e) (by decide)) ?_
  refine ev_f (fun e => absurd (hk.symm.trans e) (by decide)) ?_
  refine ev_f (fun e => absurd (hk.symm.trans e) (by decide)) ?_
  refine ev_f (fun e => absurd (hk.symm.trans e) (by decide)) ?_
  refine ev_f (fun e => absurd (hk.symm.trans e) (by decide)) ?_
  refine ev_f (fun e => absurd (hk.symm.trans e) (by decide)) ?_
  refine ev_f (fun e => absurd (hk.symm.trans e) (by decide)) ?_
  refine ev_f (fun e => absurd (hk.symm.trans e) (by decide)) ?_
  refine ev_f (fun e => absurd (hk.symm.trans e) (by decide)) ?_
  refine ev_f (fun e => absurd (hk.symm.trans e) (by decide)) ?_
  refine ev_f (fun e => absurd (hk.symm.trans e) (by decide)) ?_
  refine ev_f (fun e => absurd (hk.symm.trans e) (by decide)) ?_
  refine ev_f (fun e => absurd (hk.symm.trans e) (by decide)) ?_
  refine ev_f (fun e => absurd (hk.symm.trans e) (by decide)) ?_
  refine ev_f (fun e => absurd (hk.symm.trans e) (by decide)) ?_
  refine ev_f (fun e => absurd (hk.symm.trans e) (by decide)) ?_
  refine ev_f (fun e => absurd (hk.symm.trans e) (by decide)) ?_
  refine ev_f (fun e => absurd (hk.symm.trans e) (by decide)) ?_
  refine ev_f (fun e => absurd (hk.symm.trans e) (by decide)) ?_
  refine ev_f (fun e => absurd (hk.symm.trans e) (by decide)) ?_
  refine ev_f (fun e => absurd (hk.symm.trans e) (by decide)) ?_
  refine ev_f (fun e => absurd (hk.symm.trans e) (by decide)) ?_
  refine ev_f (fun e => absurd (hk.symm.trans e) (by decide)) ?_
  refine ev_f (fun e => absurd (hk.symm.trans e) (by decide)) ?_
  refine ev_f (fun e => absurd (hk.symm.trans e) (by decide)) ?_
  refine ev_f (fun e => absurd (hk.symm.trans e) (by decide)) ?_
  refine ev_f (fun e => absurd (hk.symm.trans e) (by decide)) ?_
  refine ev_f (fun e => absurd (hk.symm.trans e) (by decide)) ?_
  refine ev_f (fun e => absurd (hk.symm.trans e) (by decide)) ?_
  refine ev_f (fun e => absurd (hk.symm.trans e) (by decide)) ?_
  refine ev_f (fun e => absurd (hk.symm.trans e) (by decide)) ?_
  refine ev_f (fun e => absurd (hk.symm.trans e) (by decide)) ?_
  refine ev_f (fun e => absurd (hk.symm.trans e) (by decide)) ?_
  refine ev_f (fun e => absurd (hk.symm.trans e) (by decide)) ?_
  refine ev_f (fun e => absurd (hk.symm.trans e) (by decide)) ?_
  refine ev_f (fun e => absurd (hk.symm.trans e) (by decide)) ?_
  refine ev_f (fun e => absurd (hk.symm.trans e) (by decide)) ?_
  refine ev_f (fun e => absurd (hk.symm.trans e) (by decide)) ?_
  refine ev_f (fun e => absurd (hk.symm.trans e) (by decide)) ?_
  refine ev_f (fun e => absurd (hk.symm.trans e) (by decide)) ?_
  refine ev_f (fun e => absurd (hk.symm.trans e) (by decide)) ?_
  refine ev_f (fun e => absurd (hk.symm.trans e) (by decide)) ?_
  refine ev_f (fun e => absurd (hk.symm.trans e) (by decide)) ?_
  refine ev_t hk ?_
  refine ev_i o0 ?_
  refine ev_cI q0 ?_
  refine ev_i o1 ?_
  refine ev_cI q1 ?_
  refine ev_t rfl ?_
  rfl
set_option maxHeartbeats 4000000 in
set_option maxRecDepth 20000 in
theorem lk_49 {X : am_X} {N K : Nat} {x4 a0 a1 a2 : Int32} {h h' : am_H} (hi : ¬ (Int32.ofNat (X 0).1) - 7 < x4) (e0 : am_pX X 0 x4 = some a0) (hk : a0 &&& 63 = 49) (e1 : am_pX X 0 (x4 + 1) = some a1) (e2 : am_pX X 0 (x4 + 2) = some a2) (o0 : am_pOk 11 (.ref 0) h = true) (H : opA (fm_29 (.ref 0) a1 a2 h) (fun h1 => fm_554 (.ref 174) a1 a2 h1) h') : lw_turn X N K x4 h h' := by
  obtain ⟨v, h1, q0, o1, q1⟩ := H
  unfold lw_turn
  rw [fg_0_23]
  refine ev_f hi ?_
  refine ev_b e0 ?_
  refine ev_f (fun e => absurd (hk.symm.trans e) (by decide)) ?_
  refine ev_f (fun e => absurd (hk.symm.trans e) (by decide)) ?_
  refine ev_f (fun e => absurd (hk.symm.trans e) (by decide)) ?_
  refine ev_f (fun e => absurd (hk.symm.trans e) (by decide)) ?_
  refine ev_f (fun e => absurd (hk.symm.trans e) (by decide)) ?_
  refine ev_f (fun e => absurd (hk.symm.trans e) (by decide)) ?_
  refine ev_f (fun e => absurd (hk.symm.trans e) (by decide)) ?_
  refine ev_f (fun e => absurd (hk.symm.trans e) (by decide)) ?_
  refine ev_f (fun e => absurd (hk.symm.trans e) (by decide)) ?_
  refine ev_f (fun e => absurd (hk.symm.trans e) (by decide)) ?_
  refine ev_f (fun e => absurd (hk.symm.trans e) (by decide)) ?_
  refine ev_f (fun e => absurd (hk.symm.trans e) (by decide)) ?_
  refine ev_f (fun e => absurd (hk.symm.trans e) (by decide)) ?_
  refine ev_f (fun e => absurd (hk.symm.trans e) (by decide)) ?_
  refine ev_f (fun e => absurd (hk.symm.trans e) (by decide)) ?_
  refine ev_f (fun e => absurd (hk.symm.trans e) (by decide)) ?_
  refine ev_f (fun e => absurd (hk.symm.trans e) (by decide)) ?_
  refine ev_f (fun e => absurd (hk.symm.trans e) (by decide)) ?_
  refine ev_f (fun e => absurd (hk.symm.trans e) (by decide)) ?_
  refine ev_f (fun e => absurd (hk.symm.trans e) (by decide)) ?_
  refine ev_f (fun e => absurd (hk.symm.trans e) (by decide)) ?_
  refine ev_f (fun e => absurd (hk.symm.trans e) (by decide)) ?_
  refine ev_f (fun e => absurd (hk.symm.trans e) (by decide)) ?_
  refine ev_f (fun e => absurd (hk.symm.trans e) (by decide)) ?_
  refine ev_f (fun e => absurd (hk.symm.trans e) (by decide)) ?_
  refine ev_f (fun e => absurd (hk.symm.trans e) (by decide)) ?_
  refine ev_f (fun e => absurd (hk.symm.trans e) (by decide)) ?_
  refine ev_f (fun e => absurd (hk.symm.trans e) (by decide)) ?_
  refine ev_f (fun e => absurd (hk.symm.trans e) (by decide)) ?_
  refine ev_f (fun e => absurd (hk.symm.trans e) (by decide)) ?_
  refine ev_f (fun e => absurd (hk.symm.trans e) (by decide)) ?_
  refine ev_f (fun e => absurd (hk.symm.trans e) (by decide)) ?_
  refine ev_f (fun e => absurd (hk.symm.trans e) (by decide)) ?_
  refine ev_f (fun e => absurd (hk.symm.trans e) (by decide)) ?_
  refine ev_f (fun e => absurd (hk.symm.trans e) (by decide)) ?_
  refine ev_f (fun e => absurd (hk.symm.trans e) (by decide)) ?_
  refine ev_f (fun e => absurd (hk.symm.trans e) (by decide)) ?_
  refine ev_f (fun e => absurd (hk.symm.trans e) (by decide)) ?_
  refine ev_f (fun e => absurd (hk.symm.trans e) (by decide)) ?_
  refine ev_f (fun e => absurd (hk.symm.trans e) (by decide)) ?_
  refine ev_f (fun e => absurd (hk.symm.trans e) (by decide)) ?_
  refine ev_f (fun e => absurd (hk.symm.trans e) (by decide)) ?_
  refine ev_f (fun e => absurd (hk.symm.trans e) (by decide)) ?_
  refine ev_f (fun e => absurd (hk.symm.trans e) (by decide)) ?_
  refine ev_f (fun e => absurd (hk.symm.trans e) (by decide)) ?_
  refine ev_f (fun e => absurd (hk.symm.trans e) (by decide)) ?_
  refine ev_f (fun e => absurd (hk.symm.trans e) (by decide)) ?_
  refine ev_f (fun e => absurd (hk.symm.trans e) (by decide)) ?_
  refine ev_f (fun e => absurd (hk.symm.trans e) (by decide)) ?_
  refine ev_t hk ?_
  refine ev_b e1 ?_
  refine ev_b e2 ?_
  refine ev_i o0 ?_
  refine ev_cI q0 ?_
  refine ev_b e1 ?_
  refine ev_b e2 ?_
  refine ev_i o1 ?_
  refine ev_cI q1 ?_
  refine ev_t rfl ?_
  rfl
set_option maxHeartbeats 4000000 in
set_option maxRecDepth 20000 in
theorem lk_50 {X : am_X} {N K : Nat} {x4 a0 a1 a2 : Int32} {h h' : am_H} (hi : ¬ (Int32.ofNat (X 0).1) - 7 < x4) (e0 : am_pX X 0 x4 = some a0) (hk : a0 &&& 63 = 50) (e1 : am_pX X 0 (x4 + 1) = some a1) (e2 : am_pX X 0 (x4 + 2) = some a2) (H : opBI (fm_283 N (.ref 0) a1 a2 (.ref 268) h) (fun h1 => fm_555 N (.ref 174) a1 a2 h1) vfZ h') : lw_turn X N K x4 h h' := by
  obtain ⟨c, h1, r, o, q0, o1, q1, o2, ht, hv⟩ := H
  have q2 := e_324 ht
  unfold lw_turn
  rw [fg_0_23]
  refine ev_f hi ?_
  refine ev_b e0 ?_
  refine ev_f (fun e => absurd (hk.symm.trans e) (by decide)) ?_
  refine ev_f (fun e => absurd (hk.symm.trans e) (by decide)) ?_
  refine ev_f (fun e => absurd (hk.symm.trans e) (by decide)) ?_
  refine ev_f (fun e => absurd (hk.symm.trans e) (by decide)) ?_
  refine ev_f (fun e => absurd (hk.symm.trans e) (by decide)) ?_
  refine ev_f (fun e => absurd (hk.symm.trans e) (by decide)) ?_
  refine ev_f (fun e => absurd (hk.symm.trans e) (by decide)) ?_
  refine ev_f (fun e => absurd (hk.symm.trans e) (by decide)) ?_
  refine ev_f (fun e => absurd (hk.symm.trans e) (by decide)) ?_
  refine ev_f (fun e => absurd (hk.symm.trans e) (by decide)) ?_
  refine ev_f (fun e => absurd (hk.symm.trans e) (by decide)) ?_
  refine ev_f (fun e => absurd (hk.symm.trans e) (by decide)) ?_
  refine ev_f (fun e => absurd (hk.symm.trans e) (by decide)) ?_
  refine ev_f (fun e => absurd (hk.symm.trans e) (by decide)) ?_
  refine ev_f (fun e => absurd (hk.symm.trans e) (by decide)) ?_
  refine ev_f (fun e => absurd (hk.symm.trans e) (by decide)) ?_
  refine ev_f (fun e => absurd (hk.symm.trans e) (by decide)) ?_
  refine ev_f (fun e => absurd (hk.symm.trans e) (by decide)) ?_
  refine ev_f (fun e => absurd (hk.symm.trans e) (by decide)) ?_
  refine ev_f (fun e => absurd (hk.symm.trans e) (by decide)) ?_
  refine ev_f (fun e => absurd (hk.symm.trans e) (by decide)) ?_
  refine ev_f (fun e => absurd (hk.symm.trans e) (by decide)) ?_
  refine ev_f (fun e => absurd (hk.symm.trans e) (by decide)) ?_
  refine ev_f (fun e => absurd (hk.symm.trans e) (by decide)) ?_
  refine ev_f (fun e => absurd (hk.symm.trans e) (by decide)) ?_
  refine ev_f (fun e => absurd (hk.symm.trans e) (by decide)) ?_
  refine ev_f (fun e => absurd (hk.symm.trans e) (by decide)) ?_
  refine ev_f (fun e => absurd (hk.symm.trans e) (by decide)) ?_
  refine ev_f (fun e => absurd (hk.symm.trans e) (by decide)) ?_
  refine ev_f (fun e => absurd (hk.symm.trans e) (by decide)) ?_
  refine ev_f (fun e => absurd (hk.symm.trans e) (by decide)) ?_
  refine ev_f (fun e => absurd (hk.symm.trans e) (by decide)) ?_
  refine ev_f (fun e => absurd (hk.symm.trans e) (by decide)) ?_
  refine ev_f (fun e => absurd (hk.symm.trans e) (by decide)) ?_
  refine ev_f (fun e => absurd (hk.symm.trans e) (by decide)) ?_
  refine ev_f (fun e => absurd (hk.symm.trans e) (by decide)) ?_
  refine ev_f (fun e => absurd (hk.symm.trans e) (by decide)) ?_
  refine ev_f (fun e => absurd (hk.symm.trans e) (by decide)) ?_
  refine ev_f (fun e => absurd (hk.symm.trans e) (by decide)) ?_
  refine ev_f (fun e => absurd (hk.symm.trans e) (by decide)) ?_
  refine ev_f (fun e => absurd (hk.symm.trans e) (by decide)) ?_
  refine ev_f (fun e => absurd (hk.symm.trans e) (by decide)) ?_
  refine ev_f (fun e => absurd (hk.symm.trans e) (by decide)) ?_
  refine ev_f (fun e => absurd (hk.symm.trans e) (by decide)) ?_
  refine ev_f (fun e => absurd (hk.symm.trans e) (by decide)) ?_
  refine ev_f (fun e => absurd (hk.symm.trans e) (by decide)) ?_
  refine ev_f (fun e => absurd (hk.symm.trans e) (by decide)) ?_
  refine ev_f (fun e => absurd (hk.symm.trans e) (by decide)) ?_
  refine ev_f (fun e => absurd (hk.symm.trans e) (by decide)) ?_
  refine ev_f (fun e => absurd (hk.symm.trans e) (by decide)) ?_
  refine ev_t hk ?_
  refine ev_b e1 ?_
  refine ev_b e2 ?_
  refine ev_cI q0 ?_
  refine ev_b e1 ?_
  refine ev_b e2 ?_
  refine ev_i o1 ?_
  refine ev_cI q1 ?_
  refine ev_i o2 ?_
  refine ev_cI q2 ?_
  refine ev_t rfl ?_
  by_cases c0 : c = 0
  · obtain ⟨ho, hb⟩ := hv c0
    refine ev_f (fun e => e c0) ?_
    refine ev_b ho ?_
    subst hb
    by_cases cb : r = 0
    · rw [show vfZ (.int r) = 0 from if_pos cb]
      exact ev_t cb (ev_t (lg_cmp_self _) rfl)
    · rw [show vfZ (.int r) = 1 from if_neg cb]
      exact ev_f cb (ev_t (lg_cmp_self _) rfl)
  · exact ev_t c0 rfl
set_option maxHeartbeats 4000000 in
set_option maxRecDepth 20000 in
theorem lk_51 {X : am_X} {N K : Nat} {x4 a0 a1 a2 : Int32} {h h' : am_H} (hi : ¬ (Int32.ofNat (X 0).1) - 7 < x4) (e0 : am_pX X 0 x4 = some a0) (hk : a0 &&& 63 = 51) (e1 : am_pX X 0 (x4 + 1) = some a1) (e2 : am_pX X 0 (x4 + 2) = some a2) (H : opBI (fm_286 N (.ref 0) a1 a2 (.ref 268) h) (fun h1 => fm_566 N (.ref 174) a1 a2 h1) vfI h') : lw_turn X N K x4 h h' := by
  obtain ⟨c, h1, r, o, q0, o1, q1, o2, ht, hv⟩ := H
  have q2 := e_324 ht
  unfold lw_turn
  rw [fg_0_23]
  refine ev_f hi ?_
  refine ev_b e0 ?_
  refine ev_f (fun e => absurd (hk.symm.trans e) (by decide)) ?_
  refine ev_f (fun e => absurd (hk.symm.trans e) (by decide)) ?_
  refine ev_f (fun e => absurd (hk.symm.trans e) (by decide)) ?_
  refine ev_f (fun e => absurd (hk.symm.trans e) (by decide)) ?_
  refine ev_f (fun e => absurd (hk.symm.trans e) (by decide)) ?_
  refine ev_f (fun e => absurd (hk.symm.trans e) (by decide)) ?_
  refine ev_f (fun e => absurd (hk.symm.trans e) (by decide)) ?_
  refine ev_f (fun e => absurd (hk.symm.trans e) (by decide)) ?_
  refine ev_f (fun e => absurd (hk.symm.trans e) (by decide)) ?_
  refine ev_f (fun e => absurd (hk.symm.trans e) (by decide)) ?_
  refine ev_f (fun e => absurd (hk.symm.trans e) (by decide)) ?_
  refine ev_f (fun e => absurd (hk.symm.trans e) (by decide)) ?_
  refine ev_f (fun e => absurd (hk.symm.trans e) (by decide)) ?_
  refine ev_f (fun e => absurd (hk.symm.trans e) (by decide)) ?_
  refine ev_f (fun e => absurd (hk.symm.trans e) (by decide)) ?_
  refine ev_f (fun e => absurd (hk.symm.trans e) (by decide)) ?_
  refine ev_f (fun e => absurd (hk.symm.trans e) (by decide)) ?_
  refine ev_f (fun e => absurd (hk.symm.trans e) (by decide)) ?_
  refine ev_f (fun e => absurd (hk.symm.trans e) (by decide)) ?_
  refine ev_f (fun e => absurd (hk.symm.trans e) (by decide)) ?_
  refine ev_f (fun e => absurd (hk.symm.trans e) (by decide)) ?_
  refine ev_f (fun e => absurd (hk.symm.trans e) (by decide)) ?_
  refine ev_f (fun e => absurd (hk.symm.trans e) (by decide)) ?_
  refine ev_f (fun e => absurd (hk.symm.trans e) (by decide)) ?_
  refine ev_f (fun e => absurd (hk.symm.trans e) (by decide)) ?_
  refine ev_f (fun e => absurd (hk.symm.trans e) (by decide)) ?_
  refine ev_f (fun e => absurd (hk.symm.trans e) (by decide)) ?_
  refine ev_f (fun e => absurd (hk.symm.trans e) (by decide)) ?_
  refine ev_f (fun e => absurd (hk.symm.trans e) (by decide)) ?_
  refine ev_f (fun e => absurd (hk.symm.trans e) (by decide)) ?_
  refine ev_f (fun e => absurd (hk.symm.trans e) (by decide)) ?_
  refine ev_f (fun e => absurd (hk.symm.trans e) (by decide)) ?_
  refine ev_f (fun e => absurd (hk.symm.trans e) (by decide)) ?_
  refine ev_f (fun e => absurd (hk.symm.trans e) (by decide)) ?_
  refine ev_f (fun e => absurd (hk.symm.trans e) (by decide)) ?_
  refine ev_f (fun e => absurd (hk.symm.trans e) (by decide)) ?_
  refine ev_f (fun e => absurd (hk.symm.trans e) (by decide)) ?_
  refine ev_f (fun e => absurd (hk.symm.trans e) (by decide)) ?_
  refine ev_f (fun e => absurd (hk.symm.trans e) (by decide)) ?_
  refine ev_f (fun e => absurd (hk.symm.trans e) (by decide)) ?_
  refine ev_f (fun e => absurd (hk.symm.trans e) (by decide)) ?_
  refine ev_f (fun e => absurd (hk.symm.trans e) (by decide)) ?_
  refine ev_f (fun e => absurd (hk.symm.trans e) (by decide)) ?_
  refine ev_f (fun e => absurd (hk.symm.trans e) (by decide)) ?_
  refine ev_f (fun e => absurd (hk.symm.trans e) (by decide)) ?_
  refine ev_f (fun e => absurd (hk.symm.trans e) (by decide)) ?_
  refine ev_f (fun e => absurd (hk.symm.trans e) (by decide)) ?_
  refine ev_f (fun e => absurd (hk.symm.trans e) (by decide)) ?_
  refine ev_f (fun e => absurd (hk.symm.trans e) (by decide)) ?_
  refine ev_f (fun e => absurd (hk.symm.trans e) (by decide)) ?_
  refine ev_f (fun e => absurd (hk.symm.trans e) (by decide)) ?_
  refine ev_t hk ?_
  refine ev_b e1 ?_
  refine ev_b e2 ?_
  refine ev_cI q0 ?_
  refine ev_b e1 ?_
  refine ev_b e2 ?_
  refine ev_i o1 ?_
  refine ev_cI q1 ?_
  refine ev_i o2 ?_
  refine ev_cI q2 ?_
  refine ev_t rfl ?_
  by_cases c0 : c = 0
  · obtain ⟨ho, hb⟩ := hv c0
    refine ev_f (fun e => e c0) ?_
    refine ev_b ho ?_
    subst hb
    refine ev_t (lg_cmp_self _) ?_
    rfl
  · exact ev_t c0 rfl
set_option maxHeartbeats 4000000 in
set_option maxRecDepth 20000 in
theorem lk_52 {X : am_X} {N K : Nat} {x4 a0 a1 : Int32} {h h' : am_H} (hi : ¬ (Int32.ofNat (X 0).1) - 7 < x4) (e0 : am_pX X 0 x4 = some a0) (hk : a0 &&& 63 = 52) (e1 : am_pX X 0 (x4 + 1) = some a1) (H : opBI (fm_299 (.ref 0) a1 (.ref 268) h) (fun h1 => fm_576 (.ref 174) a1 h1) vfI h') : lw_turn X N K x4 h h' := by
  obtain ⟨c, h1, r, o, q0, o1, q1, o2, ht, hv⟩ := H
  have q2 := e_324 ht
  unfold lw_turn
  rw [fg_0_23]
  refine ev_f hi ?_
  refine ev_b e0 ?_
  refine ev_f (fun e => absurd (hk.symm.trans e) (by decide)) ?_
  refine ev_f (fun e => absurd (hk.symm.trans e) (by decide)) ?_
  refine ev_f (fun e => absurd (hk.symm.trans e) (by decide)) ?_
  refine ev_f (fun e => absurd (hk.symm.trans e) (by decide)) ?_
  refine ev_f (fun e => absurd (hk.symm.trans e) (by decide)) ?_
  refine ev_f (fun e => absurd (hk.symm.trans e) (by decide)) ?_
  refine ev_f (fun e => absurd (hk.symm.trans e) (by decide)) ?_
  refine ev_f (fun e => absurd (hk.symm.trans e) (by decide)) ?_
  refine ev_f (fun e => absurd (hk.symm.trans e) (by decide)) ?_
  refine ev_f (fun e => absurd (hk.symm.trans e) (by decide)) ?_
  refine ev_f (fun e => absurd (hk.symm.trans e) (by decide)) ?_
  refine ev_f (fun e => absurd (hk.symm.trans e) (by decide)) ?_
  refine ev_f (fun e => absurd (hk.symm.trans e) (by decide)) ?_
  refine ev_f (fun e => absurd (hk.symm.trans e) (by decide)) ?_
  refine ev_f (fun e => absurd (hk.symm.trans e) (by decide)) ?_
  refine ev_f (fun e => absurd (hk.symm.trans e) (by decide)) ?_
  refine ev_f (fun e => absurd (hk.symm.trans e) (by decide)) ?_
  refine ev_f (fun e => absurd (hk.symm.trans e) (by decide)) ?_
  refine ev_f (fun e => absurd (hk.symm.trans e) (by decide)) ?_
  refine ev_f (fun e => absurd (hk.symm.trans e) (by decide)) ?_
  refine ev_f (fun e => absurd (hk.symm.trans e) (by decide)) ?_
  refine ev_f (fun e => absurd (hk.symm.trans e) (by decide)) ?_
  refine ev_f (fun e => absurd (hk.symm.trans e) (by decide)) ?_
  refine ev_f (fun e => absurd (hk.symm.trans e) (by decide)) ?_
  refine ev_f (fun e => absurd (hk.symm.trans e) (by decide)) ?_
  refine ev_f (fun e => absurd (hk.symm.trans e) (by decide)) ?_
  refine ev_f (fun e => absurd (hk.symm.trans e) (by decide)) ?_
  refine ev_f (fun e => absurd (hk.symm.trans e) (by decide)) ?_
  refine ev_f (fun e => absurd (hk.symm.trans e) (by decide)) ?_
  refine ev_f (fun e => absurd (hk.symm.trans e) (by decide)) ?_
  refine ev_f (fun e => absurd (hk.symm.trans e) (by decide)) ?_
  refine ev_f (fun e => absurd (hk.symm.trans e) (by decide)) ?_
  refine ev_f (fun e => absurd (hk.symm.trans e) (by decide)) ?_
  refine ev_f (fun e => absurd (hk.symm.trans e) (by decide)) ?_
  refine ev_f (fun e => absurd (hk.symm.trans e) (by decide)) ?_
  refine ev_f (fun e => absurd (hk.symm.trans e) (by decide)) ?_
  refine ev_f (fun e => absurd (hk.symm.trans e) (by decide)) ?_
  refine ev_f (fun e => absurd (hk.symm.trans e) (by decide)) ?_
  refine ev_f (fun e => absurd (hk.symm.trans e) (by decide)) ?_
  refine ev_f (fun e => absurd (hk.symm.trans e) (by decide)) ?_
  refine ev_f (fun e => absurd (hk.symm.trans e) (by decide)) ?_
  refine ev_f (fun e => absurd (hk.symm.trans e) (by decide)) ?_
  refine ev_f (fun e => absurd (hk.symm.trans e) (by decide)) ?_
  refine ev_f (fun e => absurd (hk.symm.trans e) (by decide)) ?_
  refine ev_f (fun e => absurd (hk.symm.trans e) (by decide)) ?_
  refine ev_f (fun e => absurd (hk.symm.trans e) (by decide)) ?_
  refine ev_f (fun e => absurd (hk.symm.trans e) (by decide)) ?_
  refine ev_f (fun e => absurd (hk.symm.trans e) (by decide)) ?_
  refine ev_f (fun e => absurd (hk.symm.trans e) (by decide)) ?_
  refine ev_f (fun e => absurd (hk.symm.trans e) (by decide)) ?_
  refine ev_f (fun e => absurd (hk.symm.trans e) (by decide)) ?_
  refine ev_f (fun e => absurd (hk.symm.trans e) (by decide)) ?_
  refine ev_t hk ?_
  refine ev_b e1 ?_
  refine ev_cI q0 ?_
  refine ev_b e1 ?_
  refine ev_i o1 ?_
  refine ev_cI q1 ?_
  refine ev_i o2 ?_
  refine ev_cI q2 ?_
  refine ev_t rfl ?_
  by_cases c0 : c = 0
  · obtain ⟨ho, hb⟩ := hv c0
    refine ev_f (fun e => e c0) ?_
    refine ev_b ho ?_
    subst hb
    refine ev_t (lg_cmp_self _) ?_
    rfl
  · exact ev_t c0 rfl
set_option maxHeartbeats 4000000 in
set_option maxRecDepth 20000 in
theorem lk_53 {X : am_X} {N K : Nat} {x4 a0 a1 : Int32} {h h' : am_H} (hi : ¬ (Int32.ofNat (X 0).1) - 7 < x4) (e0 : am_pX X 0 x4 = some a0) (hk : a0 &&& 63 = 53) (e1 : am_pX X 0 (x4 + 1) = some a1) (H : opBI (fm_301 N (.ref 0) a1 (.ref 268) h) (fun h1 => fm_577 N (.ref 174) a1 h1) vfI h') : lw_turn X N K x4 h h' := by
  obtain ⟨c, h1, r, o, q0, o1, q1, o2, ht, hv⟩ := H
  have q2 := e_324 ht
  unfold lw_turn
  rw [fg_0_23]
  refine ev_f hi ?_
  refine ev_b e0 ?_
  refine ev_f (fun e => absurd (hk.symm.trans e) (by decide)) ?_
  refine ev_f (fun e => absurd (hk.symm.trans e) (by decide)) ?_
  refine ev_f (fun e => absurd (hk.symm.trans e) (by decide)) ?_
  refine ev_f (fun e => absurd (hk.symm.trans e) (by decide)) ?_
  refine ev_f (fun e => absurd (hk.symm.trans e) (by decide)) ?_
  refine ev_f (fun e => absurd (hk.symm.trans e) (by decide)) ?_
  refine ev_f (fun e => absurd (hk.symm.trans e) (by decide)) ?_
  refine ev_f (fun e => absurd (hk.symm.trans e) (by decide)) ?_
  refine ev_f (fun e => absurd (hk.symm.trans e) (by decide)) ?_
  refine ev_f (fun e => absurd (hk.symm.trans e) (by decide)) ?_
  refine ev_f (fun e => absurd (hk.symm.trans e) (by decide)) ?_
  refine ev_f (fun e => absurd (hk.symm.trans e) (by decide)) ?_
  refine ev_f (fun e => absurd (hk.symm.trans e) (by decide)) ?_
  refine ev_f (fun e => absurd (hk.symm.trans e) (by decide)) ?_
  refine ev_f (fun e => absurd (hk.symm.trans e) (by decide)) ?_
  refine ev_f (fun e => absurd (hk.symm.trans e) (by decide)) ?_
  refine ev_f (fun e => absurd (hk.symm.trans e) (by decide)) ?_
  refine ev_f (fun e => absurd (hk.symm.trans e) (by decide)) ?_
  refine ev_f (fun e => absurd (hk.symm.trans e) (by decide)) ?_
  refine ev_f (fun e => absurd (hk.symm.trans e) (by decide)) ?_
  refine ev_f (fun e => absurd (hk.symm.trans e) (by decide)) ?_
  refine ev_f (fun e => absurd (hk.symm.trans e) (by decide)) ?_
  refine ev_f (fun e => absurd (hk.symm.trans e) (by decide)) ?_
  refine ev_f (fun e => absurd (hk.symm.trans e) (by decide)) ?_
  refine ev_f (fun e => absurd (hk.symm.trans e) (by decide)) ?_
  refine ev_f (fun e => absurd (hk.symm.trans e) (by decide)) ?_
  refine ev_f (fun e => absurd (hk.symm.trans e) (by decide)) ?_
  refine ev_f (fun e => absurd (hk.symm.trans e) (by decide)) ?_
  refine ev_f (fun e => absurd (hk.symm.trans e) (by decide)) ?_
  refine ev_f (fun e => absurd (hk.symm.trans e) (by decide)) ?_
  refine ev_f (fun e => absurd (hk.symm.trans e) (by decide)) ?_
  refine ev_f (fun e => absurd (hk.symm.trans e) (by decide)) ?_
  refine ev_f (fun e => absurd (hk.symm.trans e) (by decide)) ?_
  refine ev_f (fun e => absurd (hk.symm.trans e) (by decide)) ?_
  refine ev_f (fun e => absurd (hk.symm.trans e) (by decide)) ?_
  refine ev_f (fun e => absurd (hk.symm.trans e) (by decide)) ?_
  refine ev_f (fun e => absurd (hk.symm.trans e) (by decide)) ?_
  refine ev_f (fun e => absurd (hk.symm.trans e) (by decide)) ?_
  refine ev_f (fun e => absurd (hk.symm.trans e) (by decide)) ?_
  refine ev_f (fun e => absurd (hk.symm.trans e) (by decide)) ?_
  refine ev_f (fun e => absurd (hk.symm.trans e) (by decide)) ?_
  refine ev_f (fun e => absurd (hk.symm.trans e) (by decide)) ?_
  refine ev_f (fun e => absurd (hk.symm.trans e) (by decide)) ?_
  refine ev_f (fun e => absurd (hk.symm.trans e) (by decide)) ?_
  refine ev_f (fun e => absurd (hk.symm.trans e) (by decide)) ?_
  refine ev_f (fun e => absurd (hk.symm.trans e) (by decide)) ?_
  refine ev_f (fun e => absurd (hk.symm.trans e) (by decide)) ?_
  refine ev_f (fun e => absurd (hk.symm.trans e) (by decide)) ?_
  refine ev_f (fun e => absurd (hk.symm.trans e) (by decide)) ?_
  refine ev_f (fun e => absurd (hk.symm.trans e) (by decide)) ?_
  refine ev_f (fun e => absurd (hk.symm.trans e) (by decide)) ?_
  refine ev_f (fun e => absurd (hk.symm.trans e) (by decide)) ?_
  refine ev_f (fun e => absurd (hk.symm.trans e) (by decide)) ?_
  refine ev_t hk ?_
  refine ev_b e1 ?_
  refine ev_cI q0 ?_
  refine ev_b e1 ?_
  refine ev_i o1 ?_
  refine ev_cI q1 ?_
  refine ev_i o2 ?_
  refine ev_cI q2 ?_
  refine ev_t rfl ?_
  by_cases c0 : c = 0
  · obtain ⟨ho, hb⟩ := hv c0
    refine ev_f (fun e => e c0) ?_
    refine ev_b ho ?_
    subst hb
    refine ev_t (lg_cmp_self _) ?_
    rfl
  · exact ev_t c0 rfl
set_option maxHeartbeats 4000000 in
set_option maxRecDepth 20000 in
theorem lk_54 {X : am_X} {N K : Nat} {x4 a0 a1 a2 a3 : Int32} {h h' : am_H} (hi : ¬ (Int32.ofNat (X 0).1) - 7 < x4) (e0 : am_pX X 0 x4 = some a0) (hk : a0 &&& 63 = 54) (e1 : am_pX X 0 (x4 + 1) = some a1) (e2 : am_pX X 0 (x4 + 2) = some a2) (e3 : am_pX X 0 (x4 + 3) = some a3) (H : opBI (fm_304 N (.ref 0) a1 a2 a3 (.ref 268) h) (fun h1 => fm_581 N (.ref 174) a1 a2 a3 h1) vfI h') : lw_turn X N K x4 h h' := by
  obtain ⟨c, h1, r, o, q0, o1, q1, o2, ht, hv⟩ := H
  have q2 := e_324 ht
  unfold lw_turn
  rw [fg_0_23]
  refine ev_f hi ?_
  refine ev_b e0 ?_
  refine ev_f (fun e => absurd (hk.symm.trans e) (by decide)) ?_
  refine ev_f (fun e => absurd (hk.symm.trans e) (by decide)) ?_
  refine ev_f (fun e => absurd (hk.symm.trans e) (by decide)) ?_
  refine ev_f (fun e => absurd (hk.symm.trans e) (by decide)) ?_
  refine ev_f (fun e => absurd (hk.symm.trans e) (by decide)) ?_
  refine ev_f (fun e => absurd (hk.symm.trans e) (by decide)) ?_
  refine ev_f (fun e => absurd (hk.symm.trans e) (by decide)) ?_
  refine ev_f (fun e => absurd (hk.symm.trans e) (by decide)) ?_
  refine ev_f (fun e => absurd (hk.symm.trans e) (by decide)) ?_
  refine ev_f (fun e => absurd (hk.symm.trans e) (by decide)) ?_
  refine ev_f (fun e => absurd (hk.symm.trans e) (by decide)) ?_
  refine ev_f (fun e => absurd (hk.symm.trans e) (by decide)) ?_
  refine ev_f (fun e => absurd (hk.symm.trans e) (by decide)) ?_
  refine ev_f (fun e => absurd (hk.symm.trans e) (by decide)) ?_
  refine ev_f (fun e => absurd (hk.symm.trans e) (by decide)) ?_
  refine ev_f (fun e => absurd (hk.symm.trans e) (by decide)) ?_
  refine ev_f (fun e => absurd (hk.symm.trans e) (by decide)) ?_
  refine ev_f (fun e => absurd (hk.symm.trans e) (by decide)) ?_
  refine ev_f (fun e => absurd (hk.symm.trans e) (by decide)) ?_
  refine ev_f (fun e => absurd (hk.symm.trans e) (by decide)) ?_
  refine ev_f (fun e => absurd (hk.symm.trans e) (by decide)) ?_
  refine ev_f (fun e => absurd (hk.symm.trans e) (by decide)) ?_
  refine ev_f (fun e => absurd (hk.symm.trans e) (by decide)) ?_
  refine ev_f (fun e => absurd (hk.symm.trans e) (by decide)) ?_
  refine ev_f (fun e => absurd (hk.symm.trans e) (by decide)) ?_
  refine ev_f (fun e => absurd (hk.symm.trans e) (by decide)) ?_
  refine ev_f (fun e => absurd (hk.symm.trans e) (by decide)) ?_
  refine ev_f (fun e => absurd (hk.symm.trans e) (by decide)) ?_
  refine ev_f (fun e => absurd (hk.symm.trans e) (by decide)) ?_
  refine ev_f (fun e => absurd (hk.symm.trans e) (by decide)) ?_
  refine ev_f (fun e => absurd (hk.symm.trans e) (by decide)) ?_
  refine ev_f (fun e => absurd (hk.symm.trans e) (by decide)) ?_
  refine ev_f (fun e => absurd (hk.symm.trans e) (by decide)) ?_
  refine ev_f (fun e => absurd (hk.symm.trans e) (by decide)) ?_
  refine ev_f (fun e => absurd (hk.symm.trans e) (by decide)) ?_
  refine ev_f (fun e => absurd (hk.symm.trans e) (by decide)) ?_
  refine ev_f (fun e => absurd (hk.symm.trans e) (by decide)) ?_
  refine ev_f (fun e => absurd (hk.symm.trans e) (by decide)) ?_
  refine ev_f (fun e => absurd (hk.symm.trans e) (by decide)) ?_
  refine ev_f (fun e => absurd (hk.symm.trans e) (by decide)) ?_
  refine ev_f (fun e => absurd (hk.symm.trans e) (by decide)) ?_
  refine ev_f (fun e => absurd (hk.symm.trans e) (by decide)) ?_
  refine ev_f (fun e => absurd (hk.symm.trans e) (by decide)) ?_
  refine ev_f (fun e => absurd (hk.symm.trans e) (by decide)) ?_
  refine ev_f (fun e => absurd (hk.symm.trans e) (by decide)) ?_
  refine ev_f (fun e => absurd (hk.symm.trans e) (by decide)) ?_
  refine ev_f (fun e => absurd (hk.symm.trans e) (by decide)) ?_
  refine ev_f (fun e => absurd (hk.symm.trans e) (by decide)) ?_
  refine ev_f (fun e => absurd (hk.symm.trans e) (by decide)) ?_
  refine ev_f (fun e => absurd (hk.symm.trans e) (by decide)) ?_
  refine ev_f (fun e => absurd (hk.symm.trans e) (by decide)) ?_
  refine ev_f (fun e => absurd (hk.symm.trans e) (by decide)) ?_
  refine ev_f (fun e => absurd (hk.symm.trans e) (by decide)) ?_
  refine ev_f (fun e => absurd (hk.symm.trans e) (by decide)) ?_
  refine ev_t hk ?_
  refine ev_b e1 ?_
  refine ev_b e2 ?_
  refine ev_b e3 ?_
  refine ev_cI q0 ?_
  refine ev_b e1 ?_
  refine ev_b e2 ?_
  refine ev_b e3 ?_
  refine ev_i o1 ?_
  refine ev_cI q1 ?_
  refine ev_i o2 ?_
  refine ev_cI q2 ?_
  refine ev_t rfl ?_
  by_cases c0 : c = 0
  · obtain ⟨ho, hb⟩ := hv c0
    refine ev_f (fun e => e c0) ?_
    refine ev_b ho ?_
    subst hb
    refine ev_t (lg_cmp_self _) ?_
    rfl
  · exact ev_t c0 rfl
set_option maxHeartbeats 4000000 in
set_option maxRecDepth 20000 in
theorem lk_55 {X : am_X} {N K : Nat} {x4 a0 a1 a2 : Int32} {h h' : am_H} (hi : ¬ (Int32.ofNat (X 0).1) - 7 < x4) (e0 : am_pX X 0 x4 = some a0) (hk : a0 &&& 63 = 55) (e1 : am_pX X 0 (x4 + 1) = some a1) (e2 : am_pX X 0 (x4 + 2) = some a2) (H : opBI (fm_306 N (.ref 0) a1 a2 (.ref 268) h) (fun h1 => fm_556 N (.ref 174) a1 a2 h1) vfI h') : lw_turn X N K x4 h h' := by
  obtain ⟨c, h1, r, o, q0, o1, q1, o2, ht, hv⟩ := H
  have q2 := e_324 ht
  unfold lw_turn
  rw [fg_0_23]
  refine ev_f hi ?_
  refine ev_b e0 ?_
  refine ev_f (fun e => absurd (hk.symm.trans e) (by decide)) ?_
  refine ev_f (fun e => absurd (hk.symm.trans e) (by decide)) ?_
  refine ev_f (fun e => absurd (hk.symm.trans e) (by decide)) ?_
  refine ev_f (fun e => absurd (hk.symm.trans e) (by decide)) ?_
  refine ev_f (fun e => absurd (hk.symm.trans e) (by decide)) ?_
  refine ev_f (fun e => absurd (hk.symm.trans e) (by decide)) ?_
  refine ev_f (fun e => absurd (hk.symm.trans e) (by decide)) ?_
  refine ev_f (fun e => absurd (hk.symm.trans e) (by decide)) ?_
  refine ev_f (fun e => absurd (hk.symm.trans e) (by decide)) ?_
  refine ev_f (fun e => absurd (hk.symm.trans e) (by decide)) ?_
  refine ev_f (fun e => absurd (hk.symm.trans e) (by decide)) ?_
  refine ev_f (fun e => absurd (hk.symm.trans e) (by decide)) ?_
  refine ev_f (fun e => absurd (hk.symm.trans e) (by decide)) ?_
  refine ev_f (fun e => absurd (hk.symm.trans e) (by decide)) ?_
  refine ev_f (fun e => absurd (hk.symm.trans e) (by decide)) ?_
  refine ev_f (fun e => absurd (hk.symm.trans e) (by decide)) ?_
  refine ev_f (fun e => absurd (hk.symm.trans e) (by decide)) ?_
  refine ev_f (fun e => absurd (hk.symm.trans e) (by decide)) ?_
  refine ev_f (fun e => absurd (hk.symm.trans e) (by decide)) ?_
  refine ev_f (fun e => absurd (hk.symm.trans e) (by decide)) ?_
  refine ev_f (fun e => absurd (hk.symm.trans e) (by decide)) ?_
  refine ev_f (fun e => absurd (hk.symm.trans e) (by decide)) ?_
  refine ev_f (fun e => absurd (hk.symm.trans e) (by decide)) ?_
  refine ev_f (fun e => absurd (hk.symm.trans e) (by decide)) ?_
  refine ev_f (fun e => absurd (hk.symm.trans e) (by decide)) ?_
  refine ev_f (fun e => absurd (hk.symm.trans e) (by decide)) ?_
  refine ev_f (fun e => absurd (hk.symm.trans e) (by decide)) ?_
  refine ev_f (fun e => absurd (hk.symm.trans e) (by decide)) ?_
  refine ev_f (fun e => absurd (hk.symm.trans e) (by decide)) ?_
  refine ev_f (fun e => absurd (hk.symm.trans e) (by decide)) ?_
  refine ev_f (fun e => absurd (hk.symm.trans e) (by decide)) ?_
  refine ev_f (fun e => absurd (hk.symm.trans e) (by decide)) ?_
  refine ev_f (fun e => absurd (hk.symm.trans e) (by decide)) ?_
  refine ev_f (fun e => absurd (hk.symm.trans e) (by decide)) ?_
  refine ev_f (fun e => absurd (hk.symm.trans e) (by decide)) ?_
  refine ev_f (fun e => absurd (hk.symm.trans e) (by decide)) ?_
  refine ev_f (fun e => absurd (hk.symm.trans e) (by decide)) ?_
  refine ev_f (fun e => absurd (hk.symm.trans e) (by decide)) ?_
  refine ev_f (fun e => absurd (hk.symm.trans e) (by decide)) ?_
  refine ev_f (fun e => absurd (hk.symm.trans e) (by decide)) ?_
  refine ev_f (fun e => absurd (hk.symm.trans e) (by decide)) ?_
  refine ev_f (fun e => absurd (hk.symm.trans e) (by decide)) ?_
  refine ev_f (fun e => absurd (hk.symm.trans e) (by decide)) ?_
  refine ev_f (fun e => absurd (hk.symm.trans e) (by decide)) ?_
  refine ev_f (fun e => absurd (hk.symm.trans e) (by decide)) ?_
  refine ev_f (fun e => absurd (hk.symm.trans e) (by decide)) ?_
  refine ev_f (fun e => absurd (hk.symm.trans e) (by decide)) ?_
  refine ev_f (fun e => absurd (hk.symm.trans e) (by decide)) ?_
  refine ev_f (fun e => absurd (hk.symm.trans e) (by decide)) ?_
  refine ev_f (fun e => absurd (hk.symm.trans e) (by decide)) ?_
  refine ev_f (fun e => absurd (hk.symm.trans e) (by decide)) ?_
  refine ev_f (fun e => absurd (hk.symm.trans e) (by decide)) ?_
  refine ev_f (fun e => absurd (hk.symm.trans e) (by decide)) ?_
  refine ev_f (fun e => absurd (hk.symm.trans e) (by decide)) ?_
  refine ev_f (fun e => absurd (hk.symm.trans e) (by decide)) ?_
  refine ev_t hk ?_
  refine ev_b e1 ?_
  refine ev_b e2 ?_
  refine ev_cI q0 ?_
  refine ev_b e1 ?_
  refine ev_b e2 ?_
  refine ev_i o1 ?_
  refine ev_cI q1 ?_
  refine ev_i o2 ?_
  refine ev_cI q2 ?_
  refine ev_t rfl ?_
  by_cases c0 : c = 0
  · obtain ⟨ho, hb⟩ := hv c0
    refine ev_f (fun e => e c0) ?_
    refine ev_b ho ?_
    subst hb
    refine ev_t (lg_cmp_self _) ?_
    rfl
  · exact ev_t c0 rfl
set_option maxHeartbeats 4000000 in
set_option maxRecDepth 20000 in
theorem lk_56 {X : am_X} {N K : Nat} {x4 a0 a1 : Int32} {h h' : am_H} (hi : ¬ (Int32.ofNat (X 0).1) - 7 < x4) (e0 : am_pX X 0 x4 = some a0) (hk : a0 &&& 63 = 56) (e1 : am_pX X 0 (x4 + 1) = some a1) (H : opBI (fm_308 N (.ref 0) a1 (.ref 268) h) (fun h1 => fm_582 N (.ref 174) a1 h1) vfI h') : lw_turn X N K x4 h h' := by
  obtain ⟨c, h1, r, o, q0, o1, q1, o2, ht, hv⟩ := H
  have q2 := e_324 ht
  unfold lw_turn
  rw [fg_0_23]
  refine ev_f hi ?_
  refine ev_b e0 ?_
  refine ev_f (fun e => absurd (hk.symm.trans e) (by decide)) ?_
  refine ev_f (fun e => absurd (hk.symm.trans e) (by decide)) ?_
  refine ev_f (fun e => absurd (hk.symm.trans e) (by decide)) ?_
  refine ev_f (fun e => absurd (hk.symm.trans e) (by decide)) ?_
  refine ev_f (fun e => absurd (hk.symm.trans e) (by decide)) ?_
  refine ev_f (fun e => absurd (hk.symm.trans e) (by decide)) ?_
  refine ev_f (fun e => absurd (hk.symm.trans e) (by decide)) ?_
  refine ev_f (fun e => absurd (hk.symm.trans e) (by decide)) ?_
  refine ev_f (fun e => absurd (hk.symm.trans e) (by decide)) ?_
  refine ev_f (fun e => absurd (hk.symm.trans e) (by decide)) ?_
  refine ev_f (fun e => absurd (hk.symm.trans e) (by decide)) ?_
  refine ev_f (fun e => absurd (hk.symm.trans e) (by decide)) ?_
  refine ev_f (fun e => absurd (hk.symm.trans e) (by decide)) ?_
  refine ev_f (fun e => absurd (hk.symm.trans e) (by decide)) ?_
  refine ev_f (fun e => absurd (hk.symm.trans e) (by decide)) ?_
  refine ev_f (fun e => absurd (hk.symm.trans e) (by decide)) ?_
  refine ev_f (fun e => absurd (hk.symm.trans e) (by decide)) ?_
  refine ev_f (fun e => absurd (hk.symm.trans e) (by decide)) ?_
  refine ev_f (fun e => absurd (hk.symm.trans e) (by decide)) ?_
  refine ev_f (fun e => absurd (hk.symm.trans e) (by decide)) ?_
  refine ev_f (fun e => absurd (hk.symm.trans e) (by decide)) ?_
  refine ev_f (fun e => absurd (hk.symm.trans e) (by decide)) ?_
  refine ev_f (fun e => absurd (hk.symm.trans e) (by decide)) ?_
  refine ev_f (fun e => absurd (hk.symm.trans e) (by decide)) ?_
  refine ev_f (fun e => absurd (hk.symm.trans e) (by decide)) ?_
  refine ev_f (fun e => absurd (hk.symm.trans e) (by decide)) ?_
  refine ev_f (fun e => absurd (hk.symm.trans e) (by decide)) ?_
  refine ev_f (fun e => absurd (hk.symm.trans e) (by decide)) ?_
  refine ev_f (fun e => absurd (hk.symm.trans e) (by decide)) ?_
  refine ev_f (fun e => absurd (hk.symm.trans e) (by decide)) ?_
  refine ev_f (fun e => absurd (hk.symm.trans e) (by decide)) ?_
  refine ev_f (fun e => absurd (hk.symm.trans e) (by decide)) ?_
  refine ev_f (fun e => absurd (hk.symm.trans e) (by decide)) ?_
  refine ev_f (fun e => absurd (hk.symm.trans e) (by decide)) ?_
  refine ev_f (fun e => absurd (hk.symm.trans e) (by decide)) ?_
  refine ev_f (fun e => absurd (hk.symm.trans e) (by decide)) ?_
  refine ev_f (fun e => absurd (hk.symm.trans e) (by decide)) ?_
  refine ev_f (fun e => absurd (hk.symm.trans e) (by decide)) ?_
  refine ev_f (fun e => absurd (hk.symm.trans e) (by decide)) ?_
  refine ev_f (fun e => absurd (hk.symm.trans e) (by decide)) ?_
  refine ev_f (fun e => absurd (hk.symm.trans e) (by decide)) ?_
  refine ev_f (fun e => absurd (hk.symm.trans e) (by decide)) ?_
  refine ev_f (fun e => absurd (hk.symm.trans e) (by decide)) ?_
  refine ev_f (fun e => absurd (hk.symm.trans e) (by decide)) ?_
  refine ev_f (fun e => absurd (hk.symm.trans e) (by decide)) ?_
  refine ev_f (fun e => absurd (hk.symm.trans e) (by decide)) ?_
  refine ev_f (fun e => absurd (hk.symm.trans e) (by decide)) ?_
  refine ev_f (fun e => absurd (hk.symm.trans e) (by decide)) ?_
  refine ev_f (fun e => absurd (hk.symm.trans e) (by decide)) ?_
  refine ev_f (fun e => absurd (hk.symm.trans e) (by decide)) ?_
  refine ev_f (fun e => absurd (hk.symm.trans e) (by decide)) ?_
  refine ev_f (fun e => absurd (hk.symm.trans e) (by decide)) ?_
  refine ev_f (fun e => absurd (hk.symm.trans e) (by decide)) ?_
  refine ev_f (fun e => absurd (hk.symm.trans e) (by decide)) ?_
  refine ev_f (fun e => absurd (hk.symm.trans e) (by decide)) ?_
  refine ev_f (fun e => absurd (hk.symm.trans e) (by decide)) ?_
  refine ev_t hk ?_
  refine ev_b e1 ?_
  refine ev_cI q0 ?_
  refine ev_b e1 ?_
  refine ev_i o1 ?_
  refine ev_cI q1 ?_
  refine ev_i o2 ?_
  refine ev_cI q2 ?_
  refine ev_t rfl ?_
  by_cases c0 : c = 0
  · obtain ⟨ho, hb⟩ := hv c0
    refine ev_f (fun e => e c0) ?_
    refine ev_b ho ?_
    subst hb
    refine ev_t (lg_cmp_self _) ?_
    rfl
  · exact ev_t c0 rfl
set_option maxHeartbeats 4000000 in
set_option maxRecDepth 20000 in
theorem lk_57 {X : am_X} {N K : Nat} {x4 a0 a1 : Int32} {h h' : am_H} (hi : ¬ (Int32.ofNat (X 0).1) - 7 < x4) (e0 : am_pX X 0 x4 = some a0) (hk : a0 &&& 63 = 57) (e1 : am_pX X 0 (x4 + 1) = some a1) (H : opBI (fm_313 N (.ref 0) a1 (.ref 268) h) (fun h1 => fm_585 N (.ref 174) a1 h1) vfI h') : lw_turn X N K x4 h h' := by
  obtain ⟨c, h1, r, o, q0, o1, q1, o2, ht, hv⟩ := H
  have q2 := e_324 ht
  unfold lw_turn
  rw [fg_0_23]
  refine ev_f hi ?_
  refine ev_b e0 ?_
  refine ev_f (fun e => absurd (hk.symm.trans e) (by decide)) ?_
  refine ev_f (fun e => absurd (hk.symm.trans e) (by decide)) ?_
  refine ev_f (fun e => absurd (hk.symm.trans e) (by decide)) ?_
  refine ev_f (fun e => absurd (hk.symm.trans e) (by decide)) ?_
  refine ev_f (fun e => absurd (hk.symm.trans e) (by decide)) ?_
  refine ev_f (fun e => absurd (hk.symm.trans e) (by decide)) ?_
  refine ev_f (fun e => absurd (hk.symm.trans e) (by decide)) ?_
  refine ev_f (fun e => absurd (hk.symm.trans e) (by decide)) ?_
  refine ev_f (fun e => absurd (hk.symm.trans e) (by decide)) ?_
  refine ev_f (fun e => absurd (hk.symm.trans e) (by decide)) ?_
  refine ev_f (fun e => absurd (hk.symm.trans e) (by decide)) ?_
  refine ev_f (fun e => absurd (hk.symm.trans e) (by decide)) ?_
  refine ev_f (fun e => absurd (hk.symm.trans e) (by decide)) ?_
  refine ev_f (fun e => absurd (hk.symm.trans e) (by decide)) ?_
  refine ev_f (fun e => absurd (hk.symm.trans e) (by decide)) ?_
  refine ev_f (fun e => absurd (hk.symm.trans e) (by decide)) ?_
  refine ev_f (fun e => absurd (hk.symm.trans e) (by decide)) ?_
  refine ev_f (fun e => absurd (hk.symm.trans e) (by decide)) ?_
  refine ev_f (fun e => absurd (hk.symm.trans e) (by decide)) ?_
  refine ev_f (fun e => absurd (hk.symm.trans e) (by decide)) ?_
  refine ev_f (fun e => absurd (hk.symm.trans e) (by decide)) ?_
  refine ev_f (fun e => absurd (hk.symm.trans e) (by decide)) ?_
  refine ev_f (fun e => absurd (hk.symm.trans e) (by decide)) ?_
  refine ev_f (fun e => absurd (hk.symm.trans e) (by decide)) ?_
  refine ev_f (fun e => absurd (hk.symm.trans e) (by decide)) ?_
  refine ev_f (fun e => absurd (hk.symm.trans e) (by decide)) ?_
  refine ev_f (fun e => absurd (hk.symm.trans e) (by decide)) ?_
  refine ev_f (fun e => absurd (hk.symm.trans e) (by decide)) ?_
  refine ev_f (fun e => absurd (hk.symm.trans e) (by decide)) ?_
  refine ev_f (fun e => absurd (hk.symm.trans e) (by decide)) ?_
  refine ev_f (fun e => absurd (hk.symm.trans e) (by decide)) ?_
  refine ev_f (fun e => absurd (hk.symm.trans e) (by decide)) ?_
  refine ev_f (fun e => absurd (hk.symm.trans e) (by decide)) ?_
  refine ev_f (fun e => absurd (hk.symm.trans e) (by decide)) ?_
  refine ev_f (fun e => absurd (hk.symm.trans e) (by decide)) ?_
  refine ev_f (fun e => absurd (hk.symm.trans e) (by decide)) ?_
  refine ev_f (fun e => absurd (hk.symm.trans e) (by decide)) ?_
  refine ev_f (fun e => absurd (hk.symm.trans e) (by decide)) ?_
  refine ev_f (fun e => absurd (hk.symm.trans e) (by decide)) ?_
  refine ev_f (fun e => absurd (hk.symm.trans e) (by decide)) ?_
  refine ev_f (fun e => absurd (hk.symm.trans e) (by decide)) ?_
  refine ev_f (fun e => absurd (hk.symm.trans e) (by decide)) ?_
  refine ev_f (fun e => absurd (hk.symm.trans e) (by decide)) ?_
  refine ev_f (fun e => absurd (hk.symm.trans e) (by decide)) ?_
  refine ev_f (fun e => absurd (hk.symm.trans e) (by decide)) ?_
  refine ev_f (fun e => absurd (hk.symm.trans e) (by decide)) ?_
  refine ev_f (fun e => absurd (hk.symm.trans e) (by decide)) ?_
  refine ev_f (fun e => absurd (hk.symm.trans e) (by decide)) ?_
  refine ev_f (fun e => absurd (hk.symm.trans e) (by decide)) ?_
  refine ev_f (fun e => absurd (hk.symm.trans e) (by decide)) ?_
  refine ev_f (fun e => absurd (hk.symm.trans e) (by decide)) ?_
  refine ev_f (fun e => absurd (hk.symm.trans e) (by decide)) ?_
  refine ev_f (fun e => absurd (hk.symm.trans e) (by decide)) ?_
  refine ev_f (fun e => absurd (hk.symm.trans e) (by decide)) ?_
  refine ev_f (fun e => absurd (hk.symm.trans e) (by decide)) ?_
  refine ev_f (fun e => absurd (hk.symm.trans e) (by decide)) ?_
  refine ev_f (fun e => absurd (hk.symm.trans e) (by decide)) ?_
  refine ev_t hk ?_
  refine ev_b e1 ?_
  refine ev_cI q0 ?_
  refine ev_b e1 ?_
  refine ev_i o1 ?_
  refine ev_cI q1 ?_
  refine ev_i o2 ?_
  refine ev_cI q2 ?_
  refine ev_t rfl ?_
  by_cases c0 : c = 0
  · obtain ⟨ho, hb⟩ := hv c0
    refine ev_f (fun e => e c0) ?_
    refine ev_b ho ?_
    subst hb
    refine ev_t (lg_cmp_self _) ?_
    rfl
  · exact ev_t c0 rfl
set_option maxHeartbeats 4000000 in
set_option maxRecDepth 20000 in
theorem lk_58 {X : am_X} {N K : Nat} {x4 a0 a1 : Int32} {h h' : am_H} (hi : ¬ (Int32.ofNat (X 0).1) - 7 < x4) (e0 : am_pX X 0 x4 = some a0) (hk : a0 &&& 63 = 58) (e1 : am_pX X 0 (x4 + 1) = some a1) (H : opBI (fm_317 N (.ref 0) a1 (.ref 268) h) (fun h1 => fm_587 N (.ref 174) a1 h1) vfI h') : lw_turn X N K x4 h h' := by
  obtain ⟨c, h1, r, o, q0, o1, q1, o2, ht, hv⟩ := H
  have q2 := e_324 ht
  unfold lw_turn
  rw [fg_0_23]
  refine ev_f hi ?_
  refine ev_b e0 ?_
  refine ev_f (fun e => absurd (hk.symm.trans e) (by decide)) ?_
  refine ev_f (fun e => absurd (hk.symm.trans e) (by decide)) ?_
  refine ev_f (fun e => absurd (hk.symm.trans e) (by decide)) ?_
  refine ev_f (fun e => absurd (hk.symm.trans e) (by decide)) ?_
  refine ev_f (fun e => absurd (hk.symm.trans e) (by decide)) ?_
  refine ev_f (fun e => absurd (hk.symm.trans e) (by decide)) ?_
  refine ev_f (fun e => absurd (hk.symm.trans e) (by decide)) ?_
  refine ev_f (fun e => absurd (hk.symm.trans e) (by decide)) ?_
  refine ev_f (fun e => absurd (hk.symm.trans e) (by decide)) ?_
  refine ev_f (fun e => absurd (hk.symm.trans e) (by decide)) ?_
  refine ev_f (fun e => absurd (hk.symm.trans e) (by decide)) ?_
  refine ev_f (fun e => absurd (hk.symm.trans e) (by decide)) ?_
  refine ev_f (fun e => absurd (hk.symm.trans e) (by decide)) ?_
  refine ev_f (fun e => absurd (hk.symm.trans e) (by decide)) ?_
  refine ev_f (fun e => absurd (hk.symm.trans e) (by decide)) ?_
  refine ev_f (fun e => absurd (hk.symm.trans e) (by decide)) ?_
  refine ev_f (fun e => absurd (hk.symm.trans e) (by decide)) ?_
  refine ev_f (fun e => absurd (hk.symm.trans e) (by decide)) ?_
  refine ev_f (fun e => absurd (hk.symm.trans e) (by decide)) ?_
  refine ev_f (fun e => absurd (hk.symm.trans e) (by decide)) ?_
  refine ev_f (fun e => absurd (hk.symm.trans e) (by decide)) ?_
  refine ev_f (fun e => absurd (hk.symm.trans e) (by decide)) ?_
  refine ev_f (fun e => absurd (hk.symm.trans e) (by decide)) ?_
  refine ev_f (fun e => absurd (hk.symm.trans e) (by decide)) ?_
  refine ev_f (fun e => absurd (hk.symm.trans e) (by decide)) ?_
  refine ev_f (fun e => absurd (hk.symm.trans e) (by decide)) ?_
  refine ev_f (fun e => absurd (hk.symm.trans e) (by decide)) ?_
  refine ev_f (fun e => absurd (hk.symm.trans e) (by decide)) ?_
  refine ev_f (fun e => absurd (hk.symm.trans e) (by decide)) ?_
  refine ev_f (fun e => absurd (hk.symm.trans e) (by decide)) ?_
  refine ev_f (fun e => absurd (hk.symm.trans e) (by decide)) ?_
  refine ev_f (fun e => absurd (hk.symm.trans e) (by decide)) ?_
  refine ev_f (fun e => absurd (hk.symm.trans e) (by decide)) ?_
  refine ev_f (fun e => absurd (hk.symm.trans e) (by decide)) ?_
  refine ev_f (fun e => absurd (hk.symm.trans e) (by decide)) ?_
  refine ev_f (fun e => absurd (hk.symm.trans e) (by decide)) ?_
  refine ev_f (fun e => absurd (hk.symm.trans e) (by decide)) ?_
  refine ev_f (fun e => absurd (hk.symm.trans e) (by decide)) ?_
  refine ev_f (fun e => absurd (hk.symm.trans e) (by decide)) ?_
  refine ev_f (fun e => absurd (hk.symm.trans e) (by decide)) ?_
  refine ev_f (fun e => absurd (hk.symm.trans e) (by decide)) ?_
  refine ev_f (fun e => absurd (hk.symm.trans e) (by decide)) ?_
  refine ev_f (fun e => absurd (hk.symm.trans e) (by decide)) ?_
  refine ev_f (fun e => absurd (hk.symm.trans e) (by decide)) ?_
  refine ev_f (fun e => absurd (hk.symm.trans e) (by decide)) ?_
  refine ev_f (fun e => absurd (hk.symm.trans e) (by decide)) ?_
  refine ev_f (fun e => absurd (hk.symm.trans e) (by decide)) ?_
  refine ev_f (fun e => absurd (hk.symm.trans e) (by decide)) ?_
  refine ev_f (fun e => absurd (hk.symm.trans e) (by decide)) ?_
  refine ev_f (fun e => absurd (hk.symm.trans e) (by decide)) ?_
  refine ev_f (fun e => absurd (hk.symm.trans e) (by decide)) ?_
  refine ev_f (fun e => absurd (hk.symm.trans e) (by decide)) ?_
  refine ev_f (fun e => absurd (hk.symm.trans e) (by decide)) ?_
  refine ev_f (fun e => absurd (hk.symm.trans e) (by decide)) ?_
  refine ev_f (fun e => absurd (hk.symm.trans e) (by decide)) ?_
  refine ev_f (fun e => absurd (hk.symm.trans e) (by decide)) ?_
  refine ev_f (fun e => absurd (hk.symm.trans e) (by decide)) ?_
  refine ev_f (fun e => absurd (hk.symm.trans e) (by decide)) ?_
  refine ev_t hk ?_
  refine ev_b e1 ?_
  refine ev_cI q0 ?_
  refine ev_b e1 ?_
  refine ev_i o1 ?_
  refine ev_cI q1 ?_
  refine ev_i o2 ?_
  refine ev_cI q2 ?_
  refine ev_t rfl ?_
  by_cases c0 : c = 0
  · obtain ⟨ho, hb⟩ := hv c0
    refine ev_f (fun e => e c0) ?_
    refine ev_b ho ?_
    subst hb
    refine ev_t (lg_cmp_self _) ?_
    rfl
  · exact ev_t c0 rfl
set_option maxHeartbeats 4000000 in
set_option maxRecDepth 20000 in
theorem lk_59 {X : am_X} {N K : Nat} {x4 a0 a1 : Int32} {h h' : am_H} (hi : ¬ (Int32.ofNat (X 0).1) - 7 < x4) (e0 : am_pX X 0 x4 = some a0) (hk : a0 &&& 63 = 59) (e1 : am_pX X 0 (x4 + 1) = some a1) (H : opBI (fm_320 N (.ref 0) a1 (.ref 268) h) (fun h1 => fm_588 N (.ref 174) a1 h1) vfI h') : lw_turn X N K x4 h h' := by
  obtain ⟨c, h1, r, o, q0, o1, q1, o2, ht, hv⟩ := H
  have q2 := e_324 ht
  unfold lw_turn
  rw [fg_0_23]
  refine ev_f hi ?_
  refine ev_b e0 ?_
  refine ev_f (fun e => absurd (hk.symm.trans e) (by decide)) ?_
  refine ev_f (fun e => absurd (hk.symm.trans e) (by decide)) ?_
  refine ev_f (fun e => absurd (hk.symm.trans e) (by decide)) ?_
  refine ev_f (fun e => absurd (hk.symm.trans e) (by decide)) ?_
  refine ev_f (fun e => absurd (hk.symm.trans e) (by decide)) ?_
  refine ev_f (fun e => absurd (hk.symm.trans e) (by decide)) ?_
  refine ev_f (fun e => absurd (hk.symm.trans e) (by decide)) ?_
  refine ev_f (fun e => absurd (hk.symm.trans e) (by decide)) ?_
  refine ev_f (fun e => absurd (hk.symm.trans e) (by decide)) ?_
  refine ev_f (fun e => absurd (hk.symm.trans e) (by decide)) ?_
  refine ev_f (fun e => absurd (hk.symm.trans e) (by decide)) ?_
  refine ev_f (fun e => absurd (hk.symm.trans e) (by decide)) ?_
  refine ev_f (fun e => absurd (hk.symm.trans e) (by decide)) ?_
  refine ev_f (fun e => absurd (hk.symm.trans e) (by decide)) ?_
  refine ev_f (fun e => absurd (hk.symm.trans e) (by decide)) ?_
  refine ev_f (fun e => absurd (hk.symm.trans e) (by decide)) ?_
  refine ev_f (fun e => absurd (hk.symm.trans e) (by decide)) ?_
  refine ev_f (fun e => absurd (hk.symm.trans e) (by decide)) ?_
  refine ev_f (fun e => absurd (hk.symm.trans e) (by decide)) ?_
  refine ev_f (fun e => absurd (hk.symm.trans e) (by decide)) ?_
  refine ev_f (fun e => absurd (hk.symm.trans e) (by decide)) ?_
  refine ev_f (fun e => absurd (hk.symm.trans e) (by decide)) ?_
  refine ev_f (fun e => absurd (hk.symm.trans e) (by decide)) ?_
  refine ev_f (fun e => absurd (hk.symm.trans e) (by decide)) ?_
  refine ev_f (fun e => absurd (hk.symm.trans e) (by decide)) ?_
  refine ev_f (fun e => absurd (hk.symm.trans e) (by decide)) ?_
  refine ev_f (fun e => absurd (hk.symm.trans e) (by decide)) ?_
  refine ev_f (fun e => absurd (hk.symm.trans e) (by decide)) ?_
  refine ev_f (fun e => absurd (hk.symm.trans e) (by decide)) ?_
  refine ev_f (fun e => absurd (hk.symm.trans e) (by decide)) ?_
  refine ev_f (fun e => absurd (hk.symm.trans e) (by decide)) ?_
  refine ev_f (fun e => absurd (hk.symm.trans e) (by decide)) ?_
  refine ev_f (fun e => absurd (hk.symm.trans e) (by decide)) ?_
  refine ev_f (fun e => absurd (hk.symm.trans e) (by decide)) ?_
  refine ev_f (fun e => absurd (hk.symm.trans e) (by decide)) ?_
  refine ev_f (fun e => absurd (hk.symm.trans e) (by decide)) ?_
  refine ev_f (fun e => absurd (hk.symm.trans e) (by decide)) ?_
  refine ev_f (fun e => absurd (hk.symm.trans e) (by decide)) ?_
  refine ev_f (fun e => absurd (hk.symm.trans e) (by decide)) ?_
  refine ev_f (fun e => absurd (hk.symm.trans e) (by decide)) ?_
  refine ev_f (fun e => absurd (hk.symm.trans e) (by decide)) ?_
  refine ev_f (fun e => absurd (hk.symm.trans e) (by decide)) ?_
  refine ev_f (fun e => absurd (hk.symm.trans e) (by decide)) ?_
  refine ev_f (fun e => absurd (hk.symm.trans e) (by decide)) ?_
  refine ev_f (fun e => absurd (hk.symm.trans e) (by decide)) ?_
  refine ev_f (fun e => absurd (hk.symm.trans e) (by decide)) ?_
  refine ev_f (fun e => absurd (hk.symm.trans e) (by decide)) ?_
  refine ev_f (fun e => absurd (hk.symm.trans e) (by decide)) ?_
  refine ev_f (fun e => absurd (hk.symm.trans e) (by decide)) ?_
  refine ev_f (fun e => absurd (hk.symm.trans e) (by decide)) ?_
  refine ev_f (fun e => absurd (hk.symm.trans e) (by decide)) ?_
  refine ev_f (fun e => absurd (hk.symm.trans e) (by decide)) ?_
  refine ev_f (fun e => absurd (hk.symm.trans e) (by decide)) ?_
  refine ev_f (fun e => absurd (hk.symm.trans e) (by decide)) ?_
  refine ev_f (fun e => absurd (hk.symm.trans e) (by decide)) ?_
  refine ev_f (fun e => absurd (hk.symm.trans e) (by decide)) ?_
  refine ev_f (fun e => absurd (hk.symm.trans e) (by decide)) ?_
  refine ev_f (fun e => absurd (hk.symm.trans e) (by decide)) ?_
  refine ev_f (fun e => absurd (hk.symm.trans e) (by decide)) ?_
  refine ev_t hk ?_
  refine ev_b e1 ?_
  refine ev_cI q0 ?_
  refine ev_b e1 ?_
  refine ev_i o1 ?_
  refine ev_cI q1 ?_
  refine ev_i o2 ?_
  refine ev_cI q2 ?_
  refine ev_t rfl ?_
  by_cases c0 : c = 0
  · obtain ⟨ho, hb⟩ := hv c0
    refine ev_f (fun e => e c0) ?_
    refine ev_b ho ?_
    subst hb
    refine ev_t (lg_cmp_self _) ?_
    rfl
  · exact ev_t c0 rfl
set_option maxHeartbeats 4000000 in
set_option maxRecDepth 20000 in
theorem lk_no {X : am_X} {N K : Nat} {x4 a0 : Int32} {h : am_H} (hi : ¬ (Int32.ofNat (X 0).1) - 7 < x4) (e0 : am_pX X 0 x4 = some a0) (hk : ∀ k : Nat, k < 60 → ¬ a0 &&& 63 = nI k) : lw_turn X N K x4 h h := by
  unfold lw_turn
  rw [fg_0_23]
  refine ev_f hi ?_
  refine ev_b e0 ?_
  refine ev_f (hk 0 (by decide)) ?_
  refine ev_f (hk 1 (by decide)) ?_
  refine ev_f (hk 2 (by decide)) ?_
  refine ev_f (hk 3 (by decide)) ?_
  refine ev_f (hk 4 (by decide)) ?_
  refine ev_f (hk 5 (by decide)) ?_
  refine ev_f (hk 6 (by decide)) ?_
  refine ev_f (hk 7 (by decide)) ?_
  refine ev_f (hk 8 (by decide)) ?_
  refine ev_f (hk 9 (by decide)) ?_
  refine ev_f (hk 10 (by decide)) ?_
  refine ev_f (hk 11 (by decide)) ?_
  refine ev_f (hk 12 (by decide)) ?_
  refine ev_f (hk 13 (by decide)) ?_
  refine ev_f (hk 14 (by decide)) ?_
  refine ev_f (hk 15 (by decide)) ?_
  refine ev_f (hk 16 (by decide)) ?_
  refine ev_f (hk 17 (by decide)) ?_
  refine ev_f (hk 18 (by decide)) ?_
  refine ev_f (hk 19 (by decide)) ?_
  refine ev_f (hk 20 (by decide)) ?_
  refine ev_f (hk 21 (by decide)) ?_
  refine ev_f (hk 22 (by decide)) ?_
  refine ev_f (hk 23 (by decide)) ?_
  refine ev_f (hk 24 (by decide)) ?_
  refine ev_f (hk 25 (by decide)) ?_
  refine ev_f (hk 26 (by decide)) ?_
  refine ev_f (hk 27 (by decide)) ?_
  refine ev_f (hk 28 (by decide)) ?_
  refine ev_f (hk 29 (by decide)) ?_
  refine ev_f (hk 30 (by decide)) ?_
  refine ev_f (hk 31 (by decide)) ?_
  refine ev_f (hk 32 (by decide)) ?_
  refine ev_f (hk 33 (by decide)) ?_
  refine ev_f (hk 34 (by decide)) ?_
  refine ev_f (hk 35 (by decide)) ?_
  refine ev_f (hk 36 (by decide)) ?_
  refine ev_f (hk 37 (by decide)) ?_
  refine ev_f (hk 38 (by decide)) ?_
  refine ev_f (hk 39 (by decide)) ?_
  refine ev_f (hk 40 (by decide)) ?_
  refine ev_f (hk 41 (by decide)) ?_
  refine ev_f (hk 42 (by decide)) ?_
  refine ev_f (hk 43 (by decide)) ?_
  refine ev_f (hk 44 (by decide)) ?_
  refine ev_f (hk 45 (by decide)) ?_
  refine ev_f (hk 46 (by decide)) ?_
  refine ev_f (hk 47 (by decide)) ?_
  refine ev_f (hk 48 (by decide)) ?_
  refine ev_f (hk 49 (by decide)) ?_
  refine ev_f (hk 50 (by decide)) ?_
  refine ev_f (hk 51 (by decide)) ?_
  refine ev_f (hk 52 (by decide)) ?_
  refine ev_f (hk 53 (by decide)) ?_
  refine ev_f (hk 54 (by decide)) ?_
  refine ev_f (hk 55 (by decide)) ?_
  refine ev_f (hk 56 (by decide)) ?_
  refine ev_f (hk 57 (by decide)) ?_
  refine ev_f (hk 58 (by decide)) ?_
  refine ev_f (hk 59 (by decide)) ?_
  rfl
