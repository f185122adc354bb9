/-! ===== drawn numbers ===== -/
def nxt (s : Int64) : Int64 := (s * 6364136223846793005) + 1442695040888963407
def hlf (v : Int64) : Nat := v.toBitVec.toNat / 2 ^ 33
theorem hlf_lt (v : Int64) : hlf v < 2 ^ 31 := by
  have := v.toBitVec.isLt
  unfold hlf
  omega
theorem hlf_u (v : Int64) : (Int64.toUInt64 v >>> (Int64.toUInt64 (Int32.toInt64 33) &&& Int64.toUInt64 63)).toInt64 = lN (hlf v) := by
  apply Int64.toBitVec_inj.mp
  rw [show (Int64.toUInt64 (Int32.toInt64 33) &&& Int64.toUInt64 63) = UInt64.ofNat 33 by decide]
  show v.toBitVec >>> ((UInt64.ofNat 33).toBitVec % 64#64).toNat = BitVec.ofNat 64 (hlf v)
  rw [show ((UInt64.ofNat 33).toBitVec % 64#64).toNat = 33 by decide]
  apply BitVec.eq_of_toNat_eq
  have h := hlf_lt v
  rw [BitVec.toNat_ushiftRight, BitVec.toNat_ofNat, Nat.mod_eq_of_lt (by omega), Nat.shiftRight_eq_div_pow]
  rfl
theorem x_193 {h : am_H} {a : Nat} {st : Int64} (ha : h[a]? = some (.inr (8, [.long st]))) : fm_193 (.ref a) h = some (.inl (some (.long (lN (hlf (nxt st)))), h.set a (.inr (8, [.long (nxt st)])))) := by
  have hl : a < h.length := (List.getElem?_eq_some_iff.mp ha).1
  unfold fm_193 fg_193_0
  refine ev_b (ev_gL (x := st) ha rfl rfl) ?_
  refine ev_b (ev_p (fs1 := [.long (nxt st)]) ha rfl rfl rfl) ?_
  refine ev_b (ev_gL (x := nxt st) (List.getElem?_set_self hl) rfl rfl) ?_
  rw [hlf_u]
theorem x_192 {h : am_H} {a k : Nat} {st : Int64} (ha : h[a]? = some (.inr (8, [.long st]))) (hk : 1 ≤ k) (hk2 : k < 2 ^ 31) : fm_192 (.ref a) (nI k) h = some (.inl (some (.int (nI (hlf (nxt st) % k))), h.set a (.inr (8, [.long (nxt st)])))) := by
  have hh := hlf_lt (nxt st)
  unfold fm_192 fg_192_0
  refine ev_i (ev_ok ha) ?_
  refine ev_cL (x_193 ha) ?_
  refine ev_f (nI_nle (by omega) hk2) ?_
  rw [nI_l hk2]
  refine ev_i (fun e9 => absurd ((lM_le (b := 0) (by omega) (by omega)).mp (Int64.le_of_eq e9)) (by omega)) ?_
  rw [lM_mod (by omega) (by omega), lN_i]
  rfl
theorem x_192z {h : am_H} {a : Nat} {st : Int64} {n : Int32} (ha : h[a]? = some (.inr (8, [.long st]))) (hn : n ≤ 0) : fm_192 (.ref a) n h = some (.inl (some (.int 0), h.set a (.inr (8, [.long (nxt st)])))) := by
  unfold fm_192 fg_192_0
  refine ev_i (ev_ok ha) ?_
  refine ev_cL (x_193 ha) ?_
  exact ev_t hn rfl
theorem x_194 {h : am_H} {a T : Nat} {st : Int64} (ha : h[a]? = some (.inr (8, [.long st]))) (hT : 1 ≤ T) (hT2 : T < 2 ^ 50) : fm_194 (.ref a) (lN T) h = some (.inl (some (.long (lN ((2147483648 * hlf (nxt st) + hlf (nxt (nxt st))) % T))), h.set a (.inr (8, [.long (nxt (nxt st))])))) := by
  have hl : a < h.length := (List.getElem?_eq_some_iff.mp ha).1
  have h1 := hlf_lt (nxt st)
  have h2 := hlf_lt (nxt (nxt st))
  have ha2 : (h.set a (.inr (8, [.long (nxt st)])))[a]? = some (.inr (8, [.long (nxt st)])) := List.getElem?_set_self hl
  unfold fm_194 fg_194_0
  refine ev_i (ev_ok ha) ?_
  refine ev_cL (x_193 ha) ?_
  refine ev_i (ev_ok ha2) ?_
  refine ev_cL (x_193 ha2) ?_
  refine ev_f (fun e9 => absurd ((lM_le (b := 0) (by omega) (by omega)).mp ((lg_cmp_le _ _).mp e9)) (by omega)) ?_
  refine ev_i (fun e9 => absurd ((lM_le (b := 0) (by omega) (by omega)).mp (Int64.le_of_eq e9)) (by omega)) ?_
  rw [show (2147483648 : Int64) = lN 2147483648 from rfl, lN_mul, lN_add, lM_mod (by omega) (by omega), List.set_set]
  rfl
/-! the reference's stream -/
set_option maxRecDepth 100000 in
set_option maxHeartbeats 4000000 in
theorem x_475 {V : Nat → Nat → Value} {I : Nat → Nat → Int32} {L : Nat → Nat → Int64} {R : Nat → Nat → Option Nat} {tl : am_H} {st : Int64} (hs : V 174 96 = .long st) : fm_475 (.ref 174) (fx V I L R ++ tl) = some (.inl (some (.long (lN (hlf (nxt st)))), fx (vup V 174 96 (.long (nxt st))) I L R ++ tl)) := by
  unfold fm_475 fg_475_0
  refine ev_b (a := st) (by show am_vL (some (V 174 96)) = _; rw [hs]; rfl) ?_
  refine ev_b (a := fx (vup V 174 96 (.long (nxt st))) I L R ++ tl) (ev_p rfl rfl rfl rfl) ?_
  refine ev_b (a := nxt st) rfl ?_
  rw [hlf_u]
set_option maxRecDepth 100000 in
set_option maxHeartbeats 4000000 in
theorem x_474 {V : Nat → Nat → Value} {I : Nat → Nat → Int32} {L : Nat → Nat → Int64} {R : Nat → Nat → Option Nat} {tl : am_H} {st : Int64} {k : Nat} (hs : V 174 96 = .long st) (hk : 1 ≤ k) (hk2 : k < 2 ^ 31) : fm_474 (.ref 174) (nI k) (fx V I L R ++ tl) = some (.inl (some (.int (nI (hlf (nxt st) % k))), fx (vup V 174 96 (.long (nxt st))) I L R ++ tl)) := by
  have hh := hlf_lt (nxt st)
  unfold fm_474 fg_474_0
  refine ev_i rfl ?_
  refine ev_cL (x_475 hs) ?_
  rw [nI_l hk2]
  refine ev_i (fun e9 => absurd ((lM_le (b := 0) (by omega) (by omega)).mp (Int64.le_of_eq e9)) (by omega)) ?_
  rw [lM_mod (by omega) (by omega), lN_i]
set_option maxRecDepth 100000 in
set_option maxHeartbeats 4000000 in
theorem x_477 {V : Nat → Nat → Value} {I : Nat → Nat → Int32} {L : Nat → Nat → Int64} {R : Nat → Nat → Option Nat} {tl : am_H} {st : Int64} {T : Nat} (hs : V 174 96 = .long st) (hT : 1 ≤ T) (hT2 : T < 2 ^ 50) : fm_477 (.ref 174) (lN T) (fx V I L R ++ tl) = some (.inl (some (.long (lN ((2147483648 * hlf (nxt st) + hlf (nxt (nxt st))) % T))), fx (vup V 174 96 (.long (nxt (nxt st)))) I L R ++ tl)) := by
  have h1 := hlf_lt (nxt st)
  have h2 := hlf_lt (nxt (nxt st))
  unfold fm_477 fg_477_0
  refine ev_i rfl ?_
  refine ev_cL (x_475 hs) ?_
  refine ev_i rfl ?_
  refine ev_cL (x_475 (V := vup V 174 96 (.long (nxt st))) rfl) ?_
  refine ev_i (fun e9 => absurd ((lM_le (b := 0) (by omega) (by omega)).mp (Int64.le_of_eq e9)) (by omega)) ?_
  rw [show (2147483648 : Int64) = lN 2147483648 from rfl, lN_mul, lN_add, lM_mod (by omega) (by omega)]
  rfl
