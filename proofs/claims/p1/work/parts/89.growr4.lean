/-! ===== the reference's grow() ===== -/
theorem g_388 {V : Nat → Nat → Value} {I : Nat → Nat → Int32} {L : Nat → Nat → Int64} {R : Nat → Nat → Option Nat} {tl : am_H} {s k : Nat} {a b c d e : Nat → Int32} {p : Nat → Int64} (h4 : L 224 = tC) (h5 : L 225 = tS) {N w t n P : Nat} {st : List (Nat × Nat × Nat)} (hN : 40 < N) (hw : w < 3) (ht : t < 2) (hn1 : 1 ≤ n) (hn : n ≤ 12) (hP : P < uT (2 * w + t) n) (hk : st.length = k) (hk2 : k + 3 < 40) (hs4 : s < 400) (hs : srep c d e p st) :
    ∃ c' d' e' p', fm_388 N (.ref 174) (nI w) (nI t) (nI n) (lN P) (gS V I L R tl s k a b c d e p) = some (.inl (none, gS V I L R tl (s + 1) (prt (2 * w + t) n (pk (2 * w + t) n 20 0 P).1 (pk (2 * w + t) n 20 0 P).2 ++ st).length (upd a s (nI (pk (2 * w + t) n 20 0 P).1)) (upd b s (nI (if (pk (2 * w + t) n 20 0 P).1 = 0 then (pk (2 * w + t) n 20 0 P).2 else 0))) c' d' e' p')) ∧ srep c' d' e' p' (prt (2 * w + t) n (pk (2 * w + t) n 20 0 P).1 (pk (2 * w + t) n 20 0 P).2 ++ st) := sorry
/-- nodes laid one behind another: sorts, numbers -/
def wA : (Nat → Int32) → Nat → List (Nat × Nat) → Nat → Int32
  | f, _, [] => f
  | f, s, x :: l => wA (upd f s (nI x.1)) (s + 1) l
def wB : (Nat → Int32) → Nat → List (Nat × Nat) → Nat → Int32
  | f, _, [] => f
  | f, s, x :: l => wB (upd f s (nI x.2)) (s + 1) l
set_option maxRecDepth 100000 in
set_option maxHeartbeats 4000000 in
theorem g_386l {V : Nat → Nat → Value} {I : Nat → Nat → Int32} {L : Nat → Nat → Int64} {R : Nat → Nat → Option Nat} {tl : am_H} (h4 : L 224 = tC) (h5 : L 225 = tS) {N : Nat} (hN : 40 < N) : ∀ (m : Nat) (st : List (Nat × Nat × Nat)) (s K : Nat) (a b c d e : Nat → Int32) (p : Nat → Int64), tsum st = m → m ≤ 12 → tok st → srep c d e p st → s + m ≤ 400 → m < K →
      ∃ c' d' e' p', fg_386_18 N K (.ref 174) (gS V I L R tl s st.length a b c d e p) = some (.inl (none, gS V I L R tl (s + m) 0 (wA a s (tun st)) (wB b s (tun st)) c' d' e' p')) := sorry
set_option maxRecDepth 100000 in
set_option maxHeartbeats 4000000 in
/-- grow(), when the tables are made -/
theorem g_386 {V : Nat → Nat → Value} {I : Nat → Nat → Int32} {L : Nat → Nat → Int64} {R : Nat → Nat → Option Nat} {tl : am_H} (h4 : L 224 = tC) (h5 : L 225 = tS) (h80 : V 174 80 = .int 1) {N w t n P s0 k0 : Nat} {a b c d e : Nat → Int32} {p : Nat → Int64} (hN : 40 < N) (hw : w < 3) (ht : t < 2) (hn1 : 1 ≤ n) (hn : n ≤ 12) (hP : P < uT (2 * w + t) n) (h400 : s0 + n ≤ 400) :
    ∃ c' d' e' p', fm_386 N (.ref 174) (nI w) (nI t) (nI n) (lN P) (gS V I L R tl s0 k0 a b c d e p) = some (.inl (none, gS V I L R tl (s0 + n) 0 (wA a s0 (un (2 * w + t) n P)) (wB b s0 (un (2 * w + t) n P)) c' d' e' p')) := sorry