/-! ===== the reference's grow() ===== -/
theorem tS_all : ∀ n, n < 13 → ∀ w, w < 3 → ∀ s, s < 21 → ∀ t, t < 2 → uW (2 * w + t) s n = if truN s = t then (tSs n).getD (21 * w + s) 0 else 0 := sorry
theorem tS_u {w s n : Nat} (hw : w < 3) (hs : s < 21) (hn : n < 13) : tS (273 * w + 13 * s + n) = lN (uW (2 * w + truN s) s n) := sorry
theorem tS_n {w s n t : Nat} (hw : w < 3) (hs : s < 21) (hn : n < 13) (ht : t < 2) (h : truN s ≠ t) : uW (2 * w + t) s n = 0 := sorry
/-- manySplit() as a number -/
def spN (c S n f g : Nat) : Nat := if 3 ≤ arN S then (if 2 + f + g ≤ n then uT (pcN c S 0) f * (uT (pcN c S 1) g * uT (pcN c S 1) (n - 1 - f - g)) else 0) else if n = 1 + f + g then (if arN S ≤ 1 then uT (pcN c S 0) f else uT (pcN c S 0) f * uT (pcN c S 1) g) else 0
theorem ar_20 : ∀ S, S < 21 → 3 ≤ arN S → S = 20 := sorry
theorem rcSp_u {w t S n f g : Nat} (hw : w < 3) (ht : t < 2) (hS : S < 21) (hn : n < 13) (hf : f < 13) (hg : g < 13) : rcSp tC w S n f g = lN (spN (2 * w + t) S n f g) := sorry
/-- the reference while it grows: nodes laid, tasks waiting -/
def gS (V : Nat → Nat → Value) (I : Nat → Nat → Int32) (L : Nat → Nat → Int64) (R : Nat → Nat → Option Nat) (tl : am_H) (s k : Nat) (a b c d e : Nat → Int32) (p : Nat → Int64) : am_H :=
  fx (vup (vup V 174 14 (.int (nI s))) 174 88 (.int (nI k))) (iup (iup (iup (iup (iup I 186 a) 187 b) 227 c) 228 d) 229 e) (lup L 230 p) R ++ tl
set_option maxRecDepth 100000 in
set_option maxHeartbeats 4000000 in
theorem g_387 {V : Nat → Nat → Value} {I : Nat → Nat → Int32} {L : Nat → Nat → Int64} {R : Nat → Nat → Option Nat} {tl : am_H} {s k : Nat} {a b c d e : Nat → Int32} {p : Nat → Int64} (hk : k < 40) (w t n : Int32) (x : Int64) : fm_387 (.ref 174) w t n x (gS V I L R tl s k a b c d e p) = some (.inl (none, gS V I L R tl s (k + 1) a b (upd c k w) (upd d k t) (upd e k n) (vp_updL p k x))) := sorry
set_option maxRecDepth 100000 in
set_option maxHeartbeats 4000000 in
theorem g_335 {V : Nat → Nat → Value} {I : Nat → Nat → Int32} {L : Nat → Nat → Int64} {R : Nat → Nat → Option Nat} {tl : am_H} {s k : Nat} {a b c d e : Nat → Int32} {p : Nat → Int64} (hs : s < 400) (x y : Int32) : fm_335 (.ref 174) x y (gS V I L R tl s k a b c d e p) = some (.inl (none, gS V I L R tl (s + 1) k (upd a s x) (upd b s y) c d e p)) := sorry
set_option maxRecDepth 100000 in
set_option maxHeartbeats 4000000 in
theorem g_O {V : Nat → Nat → Value} {I : Nat → Nat → Int32} {L : Nat → Nat → Int64} {R : Nat → Nat → Option Nat} {tl : am_H} {s k : Nat} {a b c d e : Nat → Int32} {p : Nat → Int64} : rcO (gS V I L R tl s k a b c d e p) := ⟨by unfold gS; rw [List.length_append, fx_len]; omega, _, rfl, rfl, rfl, rfl⟩
set_option maxRecDepth 100000 in
set_option maxHeartbeats 4000000 in
theorem g_hc {V : Nat → Nat → Value} {I : Nat → Nat → Int32} {L : Nat → Nat → Int64} {R : Nat → Nat → Option Nat} {tl : am_H} {s k : Nat} {a b c d e : Nat → Int32} {p : Nat → Int64} (h4 : L 224 = tC) (h5 : L 225 = tS) : hc (gS V I L R tl s k a b c d e p) tC tS (L 226) = gS V I L R tl s k a b c d e p := sorry
theorem g_383 {V : Nat → Nat → Value} {I : Nat → Nat → Int32} {L : Nat → Nat → Int64} {R : Nat → Nat → Option Nat} {tl : am_H} {s k : Nat} {a b c d e : Nat → Int32} {p : Nat → Int64} (h4 : L 224 = tC) (h5 : L 225 = tS) {w t n : Nat} (hw : w < 3) (ht : t ≤ 1) (hn : n ≤ 12) : fm_383 (.ref 174) (nI w) (nI t) (nI n) (gS V I L R tl s k a b c d e p) = some (.inl (some (.long (lN (uT (2 * w + t) n))), gS V I L R tl s k a b c d e p)) := sorry
theorem g_384 {V : Nat → Nat → Value} {I : Nat → Nat → Int32} {L : Nat → Nat → Int64} {R : Nat → Nat → Option Nat} {tl : am_H} {s k : Nat} {a b c d e : Nat → Int32} {p : Nat → Int64} (h4 : L 224 = tC) (h5 : L 225 = tS) {w S n : Nat} (hw : w < 3) (hS : S < 21) (hn : n < 13) : fm_384 (.ref 174) (nI w) (nI S) (nI n) (gS V I L R tl s k a b c d e p) = some (.inl (some (.long (lN (uW (2 * w + truN S) S n))), gS V I L R tl s k a b c d e p)) := sorry
theorem g_380 {V : Nat → Nat → Value} {I : Nat → Nat → Int32} {L : Nat → Nat → Int64} {R : Nat → Nat → Option Nat} {tl : am_H} {s k : Nat} {a b c d e : Nat → Int32} {p : Nat → Int64} (h4 : L 224 = tC) (h5 : L 225 = tS) {w t S n f g : Nat} (hw : w < 3) (ht : t < 2) (hS : S < 21) (hn : n < 13) (hf : f < 13) (hg : g < 13) : fm_380 (.ref 174) (nI w) (nI S) (nI n) (nI f) (nI g) (gS V I L R tl s k a b c d e p) = some (.inl (some (.long (lN (spN (2 * w + t) S n f g))), gS V I L R tl s k a b c d e p)) := sorry
theorem g_ok {V : Nat → Nat → Value} {I : Nat → Nat → Int32} {L : Nat → Nat → Int64} {R : Nat → Nat → Option Nat} {tl : am_H} {s k : Nat} {a b c d e : Nat → Int32} {p : Nat → Int64} : am_pOk 12 (.ref 174) (gS V I L R tl s k a b c d e p) = true := rfl
/-- the sort of a node -/
theorem g_388p {V : Nat → Nat → Value} {I : Nat → Nat → Int32} {L : Nat → Nat → Int64} {R : Nat → Nat → Option Nat} {tl : am_H} {s k : Nat} {a b c d e : Nat → Int32} {p : Nat → Int64} (h4 : L 224 = tC) (h5 : L 225 = tS) {N w t n : Nat} (hw : w < 3) (ht : t < 2) (h1 : 1 ≤ n) (hn : n < 13) :
    ∀ (m S P K : Nat), m + S = 20 → m + 1 < K → P < sumF (2 * w + t) n (m + 1) S → sumF (2 * w + t) n (m + 1) S < 2 ^ 50 → fg_388_10 N K (.ref 174) (nI w) (nI t) (nI n) (lN P) (nI S) 0 (gS V I L R tl s k a b c d e p) = fg_388_120 N (.ref 174) (nI w) (nI n) (lN (pk (2 * w + t) n m S P).2) (nI (pk (2 * w + t) n m S P).1) (nI (arN (pk (2 * w + t) n m S P).1)) (.ref 174) (nI (pk (2 * w + t) n m S P).1) (nI (if (pk (2 * w + t) n m S P).1 = 0 then (pk (2 * w + t) n m S P).2 else 0)) (gS V I L R tl s k a b c d e p) := sorry