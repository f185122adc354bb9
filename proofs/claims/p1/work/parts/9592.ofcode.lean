/-! ===== measure(), ofCode(): they end ===== -/
theorem nI_m1 (n : Nat) : nI (n + 1) + (-1) = nI n := sorry
set_option maxRecDepth 100000 in
set_option maxHeartbeats 4000000 in
theorem d_54_167 {V : Nat → Nat → Value} {I : Nat → Nat → Int32} {L : Nat → Nat → Int64} {R : Nat → Nat → Option Nat} {tl : am_H} {t : Nat} (o3 : V 167 3 = .int (nI t)) (o4 : V 167 4 = .int 2) (ht : t ≤ 60) (i j : Int32) : ∃ v, fm_54 (.ref 167) i j (fx V I L R ++ tl) = some (.inl (some (.int v), fx V I L R ++ tl)) := sorry
set_option maxRecDepth 100000 in
set_option maxHeartbeats 4000000 in
theorem d_54_169 {V : Nat → Nat → Value} {I : Nat → Nat → Int32} {L : Nat → Nat → Int64} {R : Nat → Nat → Option Nat} {tl : am_H} {t : Nat} (o3 : V 169 3 = .int (nI t)) (o4 : V 169 4 = .int 2) (ht : t ≤ 60) (i j : Int32) : ∃ v, fm_54 (.ref 169) i j (fx V I L R ++ tl) = some (.inl (some (.int v), fx V I L R ++ tl)) := sorry
theorem pv14_le (v : Int32) : ∃ k, k ≤ 3 ∧ pv_14 v = nI k := sorry
set_option maxRecDepth 100000 in
set_option maxHeartbeats 4000000 in
/-- the ends of a node's parts -/
theorem d_77i {V : Nat → Nat → Value} {I : Nat → Nat → Int32} {L : Nat → Nat → Int64} {R : Nat → Nat → Option Nat} {tl : am_H} {N z q : Nat} {g : Nat → Int32} {r : Value → Value → Int32 → am_H → Option am_O} (h7 : V 132 7 = .int (nI z)) (hz : z ≤ 60) (hq : q < z) (hg : ∀ j, q < j → j < z → ∃ e, j < e ∧ e ≤ z ∧ g j = nI e) : ∀ (m e K : Nat), m < K → m < 2 ^ 31 → q < e → e ≤ z → ∃ e', q < e' ∧ e' ≤ z ∧ fg_77_39 N r K (.ref 132) (.ref 169) (nI q) (nI e) (nI m) (fx V (iup I 133 g) L R ++ tl) = r (.ref 132) (.ref 169) (nI q + (-1)) (fx V (iup I 133 (upd g q (nI e'))) L R ++ tl) := sorry
set_option maxRecDepth 100000 in
set_option maxHeartbeats 4000000 in
theorem d_77o {V : Nat → Nat → Value} {I : Nat → Nat → Int32} {L : Nat → Nat → Int64} {R : Nat → Nat → Option Nat} {tl : am_H} {N z : Nat} (hN : 100 < N) (h7 : V 132 7 = .int (nI z)) (o3 : V 169 3 = .int (nI z)) (o4 : V 169 4 = .int 2) (hz : z ≤ 60) : ∀ (q K : Nat) (g : Nat → Int32), q ≤ z → q < K → (∀ j, q ≤ j → j < z → ∃ e, j < e ∧ e ≤ z ∧ g j = nI e) → ∃ g', fg_77_20 N K (.ref 132) (.ref 169) (nI q + (-1)) (fx V (iup I 133 g) L R ++ tl) = some (.inl (none, fx V (iup I 133 g') L R ++ tl)) := sorry
theorem iup_self {I : Nat → Nat → Int32} {a : Nat} : iup I a (I a) = I := sorry
theorem iup_iup {I : Nat → Nat → Int32} {a : Nat} {f g : Nat → Int32} : iup (iup I a f) a g = iup I a g := sorry
theorem d_77 {V : Nat → Nat → Value} {I : Nat → Nat → Int32} {L : Nat → Nat → Int64} {R : Nat → Nat → Option Nat} {tl : am_H} {N z : Nat} (hN : 100 < N) (o3 : V 169 3 = .int (nI z)) (o4 : V 169 4 = .int 2) (hz : z ≤ 60) : ∃ g', fm_77 N (.ref 132) (.ref 169) (fx V I L R ++ tl) = some (.inl (none, fx (vup V 132 7 (.int (nI z))) (iup I 133 g') L R ++ tl)) := sorry
set_option maxRecDepth 100000 in
set_option maxHeartbeats 4000000 in
theorem d_57 {V : Nat → Nat → Value} {I : Nat → Nat → Int32} {L : Nat → Nat → Int64} {R : Nat → Nat → Option Nat} {tl : am_H} {s : Nat} {g : Nat → Int32} (h7 : V 132 7 = .int (nI s)) (hs : s ≤ 60) (t l : Int32) : ∃ v g', fm_57 (.ref 132) t l (fx V (iup I 139 g) L R ++ tl) = some (.inl (some (.int v), fx V (iup I 139 g') L R ++ tl)) := sorry
def q52 (V : Nat → Nat → Value) (I : Nat → Nat → Int32) (L : Nat → Nat → Int64) (R : Nat → Nat → Option Nat) (tl : am_H) (v : Int32) (h' : am_H) : Prop := ∃ g', h' = fx V (iup I 139 g') L R ++ tl
set_option maxRecDepth 100000 in
set_option maxHeartbeats 4000000 in
theorem d_52l {V : Nat → Nat → Value} {I : Nat → Nat → Int32} {L : Nat → Nat → Int64} {R : Nat → Nat → Option Nat} {tl : am_H} {N s : Nat} (h7 : V 132 7 = .int (nI s)) (o3 : V 167 3 = .int (nI s)) (o4 : V 167 4 = .int 2) (hs : s ≤ 60) : ∀ (m i K : Nat) (g : Nat → Int32), i + m = s → m < K → wp (iP (q52 V I L R tl)) (fg_52_44 N K (.ref 132) (.ref 167) (nI i) (fx V (iup I 139 g) L R ++ tl)) := sorry
set_option maxRecDepth 100000 in
set_option maxHeartbeats 4000000 in
theorem d_52 {V : Nat → Nat → Value} {I : Nat → Nat → Int32} {L : Nat → Nat → Int64} {R : Nat → Nat → Option Nat} {tl : am_H} {N s : Nat} (hN : 100 < N) (o3 : V 167 3 = .int (nI s)) (o4 : V 167 4 = .int 2) (hs : s ≤ 60) : ∃ v g, fm_52 N (.ref 132) (.ref 167) (fx V I L R ++ tl) = some (.inl (some (.int v), fx (vup V 132 7 (.int (nI s))) (iup I 139 g) L R ++ tl)) ∧ (v < 0 → 1 ≤ s) := sorry