/-! ===== drawn numbers ===== -/
def nxt (s : Int64) : Int64 := (s * 6364136223846793005) + 1442695040888963407
def hlf (v : Int64) : Nat := v.toBitVec.toNat / 2 ^ 33
theorem hlf_lt (v : Int64) : hlf v < 2 ^ 31 := sorry
theorem hlf_u (v : Int64) : (Int64.toUInt64 v >>> (Int64.toUInt64 (Int32.toInt64 33) &&& Int64.toUInt64 63)).toInt64 = lN (hlf v) := sorry
theorem x_193 {h : am_H} {a : Nat} {st : Int64} (ha : h[a]? = some (.inr (8, [.long st]))) : fm_193 (.ref a) h = some (.inl (some (.long (lN (hlf (nxt st)))), h.set a (.inr (8, [.long (nxt st)])))) := sorry
theorem x_192 {h : am_H} {a k : Nat} {st : Int64} (ha : h[a]? = some (.inr (8, [.long st]))) (hk : 1 ≤ k) (hk2 : k < 2 ^ 31) : fm_192 (.ref a) (nI k) h = some (.inl (some (.int (nI (hlf (nxt st) % k))), h.set a (.inr (8, [.long (nxt st)])))) := sorry
theorem x_192z {h : am_H} {a : Nat} {st : Int64} {n : Int32} (ha : h[a]? = some (.inr (8, [.long st]))) (hn : n ≤ 0) : fm_192 (.ref a) n h = some (.inl (some (.int 0), h.set a (.inr (8, [.long (nxt st)])))) := sorry
theorem x_194 {h : am_H} {a T : Nat} {st : Int64} (ha : h[a]? = some (.inr (8, [.long st]))) (hT : 1 ≤ T) (hT2 : T < 2 ^ 50) : fm_194 (.ref a) (lN T) h = some (.inl (some (.long (lN ((2147483648 * hlf (nxt st) + hlf (nxt (nxt st))) % T))), h.set a (.inr (8, [.long (nxt (nxt st))])))) := sorry
/-! the reference's stream -/
set_option maxRecDepth 100000 in
set_option maxHeartbeats 4000000 in
theorem x_475 {V : Nat → Nat → Value} {I : Nat → Nat → Int32} {L : Nat → Nat → Int64} {R : Nat → Nat → Option Nat} {tl : am_H} {st : Int64} (hs : V 174 96 = .long st) : fm_475 (.ref 174) (fx V I L R ++ tl) = some (.inl (some (.long (lN (hlf (nxt st)))), fx (vup V 174 96 (.long (nxt st))) I L R ++ tl)) := sorry
set_option maxRecDepth 100000 in
set_option maxHeartbeats 4000000 in
theorem x_474 {V : Nat → Nat → Value} {I : Nat → Nat → Int32} {L : Nat → Nat → Int64} {R : Nat → Nat → Option Nat} {tl : am_H} {st : Int64} {k : Nat} (hs : V 174 96 = .long st) (hk : 1 ≤ k) (hk2 : k < 2 ^ 31) : fm_474 (.ref 174) (nI k) (fx V I L R ++ tl) = some (.inl (some (.int (nI (hlf (nxt st) % k))), fx (vup V 174 96 (.long (nxt st))) I L R ++ tl)) := sorry
set_option maxRecDepth 100000 in
set_option maxHeartbeats 4000000 in
theorem x_477 {V : Nat → Nat → Value} {I : Nat → Nat → Int32} {L : Nat → Nat → Int64} {R : Nat → Nat → Option Nat} {tl : am_H} {st : Int64} {T : Nat} (hs : V 174 96 = .long st) (hT : 1 ≤ T) (hT2 : T < 2 ^ 50) : fm_477 (.ref 174) (lN T) (fx V I L R ++ tl) = some (.inl (some (.long (lN ((2147483648 * hlf (nxt st) + hlf (nxt (nxt st))) % T))), fx (vup V 174 96 (.long (nxt (nxt st)))) I L R ++ tl)) := sorry