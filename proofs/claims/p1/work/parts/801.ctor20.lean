/-! Turner -/
def hd20 (n : Nat) (g : Nat → Option Nat) : am_H := [.inr (10, [.ref (n + 1), .ref (n + 9), .ref (n + 10), .int 0, .null, .null, .ref (n + 12), .ref (n + 13), .ref (n + 14), .ref (n + 15), .ref (n + 16)]),
  .inr (7, [.ref (n + 1 + 1), .ref (n + 1 + 2), .ref (n + 1 + 3), .ref (n + 1 + 4), .ref (n + 1 + 5), .ref (n + 1 + 6), .ref (n + 1 + 7), .int 0]), .inl (0, 60, .inl (fun _ => 0)), .inl (0, 60, .inl (fun _ => 0)), .inl (0, 60, .inl (fun _ => 0)), .inl (2, 60, .inl (fun _ => 0)), .inl (2, 60, .inl (fun _ => 0)), .inl (2, 60, .inl (fun _ => 0)), .inl (0, 61, .inl (fun _ => 0)),
  .inl (4, 8, .inr (.inr (.inr (.inr g)))),
  .inr (3, [.ref (n + 10 + 1), .int 0, .int 0, .int 0, .int 2, .int 0, .int (-1), .int (-1), .int (-1), .int (-1), .long 0]), .inl (0, 120, .inl (fun _ => 0)),
  .inl (2, 36, .inl (fun _ => 0)), .inl (0, 6, .inl (fun _ => 0)), .inl (0, 36, .inl (fun _ => 0)), .inl (0, 36, .inl (fun _ => 0)), .inl (0, 8, .inl (fun _ => 0))]
def pr20 (n : Nat) : Nat → am_H
  | 0 => []
  | k + 1 => pr20 n k ++ cl_18 (n + 17 + 2 * k) 120
def g20 (n : Nat) : Nat → Nat → Option Nat
  | 0 => fun _ => none
  | k + 1 => va_up (g20 n k) k (some (n + 17 + 2 * k))
def cl_20 (n : Nat) : am_H := hd20 n (g20 n 8) ++ pr20 n 8
theorem pr20_len (n : Nat) : ∀ k, (pr20 n k).length = 2 * k := sorry
theorem e_20l {h1 : am_H} {n N : Nat} (hn : h1.length = n) : ∀ (m k K : Nat), k + m = 8 → m < K → fg_20_94 N K (.ref n) (nI k) (h1 ++ (hd20 n (g20 n k) ++ pr20 n k)) = some (.inl (none, h1 ++ cl_20 n)) := sorry
set_option maxRecDepth 20000 in
set_option maxHeartbeats 4000000 in
theorem ce_20 {N : Nat} (h1 : am_H) (n : Nat) (hn : h1.length = n) (hN : 200 < N) : fm_20 N (.ref n) (h1 ++ [.inr (10, [.null, .null, .null, .int 0, .null, .null, .null, .null, .null, .null, .null])]) = some (.inl (none, h1 ++ cl_20 n)) := sorry
theorem cn_20 (n : Nat) : (cl_20 n).length = 33 := rfl
