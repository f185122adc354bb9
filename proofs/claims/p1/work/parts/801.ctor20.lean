/-! Turner -/
def hd20 (n : Nat) (g : Nat → Option Nat) : am_H := [.inr (10, [.ref (n + 1), .ref (n + 9), .ref (n + 10), .int 0, .null, .null, .ref (n + 12), .ref (n + 13), .ref (n + 14), .ref (n + 15), .ref (n + 16)]),
  .inr (7, [.ref (n + 1 + 1), .ref (n + 1 + 2), .ref (n + 1 + 3), .ref (n + 1 + 4), .ref (n + 1 + 5), .ref (n + 1 + 6), .ref (n + 1 + 7), .int 0]), .inl (0, 60, .inl (fun _ => 0)), .inl (0, 60, .inl (fun _ => 0)), .inl (0, 60, .inl (fun _ => 0)), .inl (2, 60, .inl (fun _ => 0)), .inl (2, 60, .inl (fun _ => 0)), .inl (2, 60, .inl (fun _ => 0)), .inl (0, 61, .inl (fun _ => 0)),
  .inl (4, 8, .inr (.inr (.inr (.inr g)))),
  .inr (3, [.ref (n + 10 + 1), .int 0, .int 0, .int 0, .int 2, .int 0, .int (-1), .int (-1), .int (-1), .int (-1), .long 0]), .inl (0, 120, .inl (fun _ => 0)),
  .inl (2, 36, .inl (fun _ => 0)), .inl (0, 6, .inl (fun _ => 0)), .inl (0, 36, .inl (fun _ => 0)), .inl (0, 36, .inl (fun _ => 0)), .inl (0, 8, .inl (fun _ => 0))]
def pr20 (n : Nat) : Nat → am_H
  | 0 => []
  | k + 1 => pr20 n k ++ cl_18 (n + 17 + 2 * k) 120
def g20 (n : Nat) : Nat → Nat → Option Nat
  | 0 => fun _ => none
  | k + 1 => va_up (g20 n k) k (some (n + 17 + 2 * k))
def cl_20 (n : Nat) : am_H := hd20 n (g20 n 8) ++ pr20 n 8
theorem pr20_len (n : Nat) : ∀ k, (pr20 n k).length = 2 * k := by
  intro k
  induction k with
  | zero => rfl
  | succ k ih =>
    show (pr20 n k ++ cl_18 (n + 17 + 2 * k) 120).length = _
    rw [List.length_append, ih]
    show 2 * k + 2 = 2 * (k + 1)
    omega
theorem e_20l {h1 : am_H} {n N : Nat} (hn : h1.length = n) : ∀ (m k K : Nat), k + m = 8 → m < K → fg_20_94 N K (.ref n) (nI k) (h1 ++ (hd20 n (g20 n k) ++ pr20 n k)) = some (.inl (none, h1 ++ cl_20 n)) := by
  intro m
  induction m with
  | zero =>
    intro k K hm hK
    obtain ⟨K, rfl⟩ : ∃ k, K = k + 1 := ⟨K - 1, by omega⟩
    obtain rfl : k = 8 := by omega
    rw [fg_20_94]
    exact ev_t (by decide) rfl
  | succ m ih =>
    intro k K hm hK
    obtain ⟨K, rfl⟩ : ∃ k, K = k + 1 := ⟨K - 1, by omega⟩
    have hl : (h1 ++ (hd20 n (g20 n k) ++ pr20 n k)).length = n + 17 + 2 * k := by
      rw [List.length_append, List.length_append, pr20_len, hn]
      show n + (17 + 2 * k) = _
      omega
    rw [fg_20_94]
    refine ev_f (nI_ge (show k < 8 by omega) (by decide)) ?_
    refine ev_b (ev_gR (x := .ref (n + 9)) (am_gg0 hn) rfl rfl rfl) ?_
    refine ev_b (ev_o rfl rfl) ?_
    rw [hl]
    refine ev_i (ev_ok (am_gg0 hl)) ?_
    refine ev_cV (ce_18 _ _ hl 120 (by decide) (by decide)) ?_
    refine ev_b (ev_sA (f := g20 n k) (h1 := h1 ++ (hd20 n (g20 n (k + 1)) ++ pr20 n (k + 1))) (by rw [List.append_assoc]; exact am_gk (k := 9) hn rfl) (am_gg0 hl) (by show (true && am_inb (nI k) 8) = true; exact am_inb_n (by omega) (by omega)) (by rw [nI_clamp (by omega), List.append_assoc, List.append_assoc]; exact am_gsk (k := 9) hn rfl)) ?_
    rw [nI_1]
    exact ih (k + 1) K (by omega) (by omega)
set_option maxRecDepth 20000 in
set_option maxHeartbeats 4000000 in
theorem ce_20 {N : Nat} (h1 : am_H) (n : Nat) (hn : h1.length = n) (hN : 200 < N) : fm_20 N (.ref n) (h1 ++ [.inr (10, [.null, .null, .null, .int 0, .null, .null, .null, .null, .null, .null, .null])]) = some (.inl (none, h1 ++ cl_20 n)) := by
  unfold fm_20
  unfold fg_20_0
  refine ev_i rfl ?_
  refine ev_b (ev_o rfl rfl) ?_
  rw [show List.length (h1 ++ (.inr (10, [.null, .null, .null, .int 0, .null, .null, .null, .null, .null, .null, .null]) :: []) : am_H) = n + 1 from am_gl hn rfl]
  refine ev_i (ev_ok (am_gg0 (am_gl (k := 1) hn rfl))) ?_
  refine ev_cV (ce_3 _ _ (am_gl (k := 1) hn rfl)) ?_
  rw [am_gc]
  refine ev_b (ev_p (fs1 := [.ref (n + 1), .null, .null, .int 0, .null, .null, .null, .null, .null, .null, .null]) (am_gg0 hn) rfl rfl (am_gs0 hn)) ?_
  refine ev_b (ev_n (by decide) (am_gp (e2 := .inl (4, 8, .inr (.inr (.inr (.inr (fun _ => none)))))) rfl)) ?_
  rw [show List.length (h1 ++ (.inr (10, [.ref (n + 1), .null, .null, .int 0, .null, .null, .null, .null, .null, .null, .null]) :: ([] ++ cl_3 (n + 1))) : am_H) = n + 9 from am_gl hn rfl]
  refine ev_b (ev_p (fs1 := [.ref (n + 1), .ref (n + 9), .null, .int 0, .null, .null, .null, .null, .null, .null, .null]) (am_gg0 hn) rfl rfl (am_gs0 hn)) ?_
  refine ev_b (ev_o rfl rfl) ?_
  rw [show List.length (h1 ++ (.inr (10, [.ref (n + 1), .ref (n + 9), .null, .int 0, .null, .null, .null, .null, .null, .null, .null]) :: (([] ++ cl_3 (n + 1)) ++ [.inl (4, 8, .inr (.inr (.inr (.inr (fun _ => none)))))])) : am_H) = n + 10 from am_gl hn rfl]
  refine ev_i (ev_ok (am_gg0 (am_gl (k := 10) hn rfl))) ?_
  refine ev_cV (ce_18 _ _ (am_gl (k := 10) hn rfl) 120 (by decide) (by decide)) ?_
  rw [am_gc]
  refine ev_b (ev_p (fs1 := [.ref (n + 1), .ref (n + 9), .ref (n + 10), .int 0, .null, .null, .null, .null, .null, .null, .null]) (am_gg0 hn) rfl rfl (am_gs0 hn)) ?_
  refine ev_b (ev_p (fs1 := [.ref (n + 1), .ref (n + 9), .ref (n + 10), .int 0, .null, .null, .null, .null, .null, .null, .null]) (am_gg0 hn) rfl rfl (am_gs0 hn)) ?_
  refine ev_b (ev_p (fs1 := [.ref (n + 1), .ref (n + 9), .ref (n + 10), .int 0, .null, .null, .null, .null, .null, .null, .null]) (am_gg0 hn) rfl rfl (am_gs0 hn)) ?_
  refine ev_b (ev_p (fs1 := [.ref (n + 1), .ref (n + 9), .ref (n + 10), .int 0, .null, .null, .null, .null, .null, .null, .null]) (am_gg0 hn) rfl rfl (am_gs0 hn)) ?_
  refine ev_b (ev_n (by decide) (am_gp (e2 := .inl (2, 36, .inl (fun _ => 0))) rfl)) ?_
  rw [show List.length (h1 ++ (.inr (10, [.ref (n + 1), .ref (n + 9), .ref (n + 10), .int 0, .null, .null, .null, .null, .null, .null, .null]) :: ((([] ++ cl_3 (n + 1)) ++ [.inl (4, 8, .inr (.inr (.inr (.inr (fun _ => none)))))]) ++ cl_18 (n + 10) 120)) : am_H) = n + 12 from am_gl hn rfl]
  refine ev_b (ev_p (fs1 := [.ref (n + 1), .ref (n + 9), .ref (n + 10), .int 0, .null, .null, .ref (n + 12), .null, .null, .null, .null]) (am_gg0 hn) rfl rfl (am_gs0 hn)) ?_
  refine ev_b (ev_n (by decide) (am_gp (e2 := .inl (0, 6, .inl (fun _ => 0))) rfl)) ?_
  rw [show List.length (h1 ++ (.inr (10, [.ref (n + 1), .ref (n + 9), .ref (n + 10), .int 0, .null, .null, .ref (n + 12), .null, .null, .null, .null]) :: (((([] ++ cl_3 (n + 1)) ++ [.inl (4, 8, .inr (.inr (.inr (.inr (fun _ => none)))))]) ++ cl_18 (n + 10) 120) ++ [.inl (2, 36, .inl (fun _ => 0))])) : am_H) = n + 13 from am_gl hn rfl]
  refine ev_b (ev_p (fs1 := [.ref (n + 1), .ref (n + 9), .ref (n + 10), .int 0, .null, .null, .ref (n + 12), .ref (n + 13), .null, .null, .null]) (am_gg0 hn) rfl rfl (am_gs0 hn)) ?_
  refine ev_b (ev_n (by decide) (am_gp (e2 := .inl (0, 36, .inl (fun _ => 0))) rfl)) ?_
  rw [show List.length (h1 ++ (.inr (10, [.ref (n + 1), .ref (n + 9), .ref (n + 10), .int 0, .null, .null, .ref (n + 12), .ref (n + 13), .null, .null, .null]) :: ((((([] ++ cl_3 (n + 1)) ++ [.inl (4, 8, .inr (.inr (.inr (.inr (fun _ => none)))))]) ++ cl_18 (n + 10) 120) ++ [.inl (2, 36, .inl (fun _ => 0))]) ++ [.inl (0, 6, .inl (fun _ => 0))])) : am_H) = n + 14 from am_gl hn rfl]
  refine ev_b (ev_p (fs1 := [.ref (n + 1), .ref (n + 9), .ref (n + 10), .int 0, .null, .null, .ref (n + 12), .ref (n + 13), .ref (n + 14), .null, .null]) (am_gg0 hn) rfl rfl (am_gs0 hn)) ?_
  refine ev_b (ev_n (by decide) (am_gp (e2 := .inl (0, 36, .inl (fun _ => 0))) rfl)) ?_
  rw [show List.length (h1 ++ (.inr (10, [.ref (n + 1), .ref (n + 9), .ref (n + 10), .int 0, .null, .null, .ref (n + 12), .ref (n + 13), .ref (n + 14), .null, .null]) :: (((((([] ++ cl_3 (n + 1)) ++ [.inl (4, 8, .inr (.inr (.inr (.inr (fun _ => none)))))]) ++ cl_18 (n + 10) 120) ++ [.inl (2, 36, .inl (fun _ => 0))]) ++ [.inl (0, 6, .inl (fun _ => 0))]) ++ [.inl (0, 36, .inl (fun _ => 0))])) : am_H) = n + 15 from am_gl hn rfl]
  refine ev_b (ev_p (fs1 := [.ref (n + 1), .ref (n + 9), .ref (n + 10), .int 0, .null, .null, .ref (n + 12), .ref (n + 13), .ref (n + 14), .ref (n + 15), .null]) (am_gg0 hn) rfl rfl (am_gs0 hn)) ?_
  refine ev_b (ev_n (by decide) (am_gp (e2 := .inl (0, 8, .inl (fun _ => 0))) rfl)) ?_
  rw [show List.length (h1 ++ (.inr (10, [.ref (n + 1), .ref (n + 9), .ref (n + 10), .int 0, .null, .null, .ref (n + 12), .ref (n + 13), .ref (n + 14), .ref (n + 15), .null]) :: ((((((([] ++ cl_3 (n + 1)) ++ [.inl (4, 8, .inr (.inr (.inr (.inr (fun _ => none)))))]) ++ cl_18 (n + 10) 120) ++ [.inl (2, 36, .inl (fun _ => 0))]) ++ [.inl (0, 6, .inl (fun _ => 0))]) ++ [.inl (0, 36, .inl (fun _ => 0))]) ++ [.inl (0, 36, .inl (fun _ => 0))])) : am_H) = n + 16 from am_gl hn rfl]
  refine ev_b (ev_p (fs1 := [.ref (n + 1), .ref (n + 9), .ref (n + 10), .int 0, .null, .null, .ref (n + 12), .ref (n + 13), .ref (n + 14), .ref (n + 15), .ref (n + 16)]) (am_gg0 hn) rfl rfl (am_gs0 hn)) ?_
  exact e_20l hn 8 0 N rfl (by omega)
theorem cn_20 (n : Nat) : (cl_20 n).length = 33 := rfl
