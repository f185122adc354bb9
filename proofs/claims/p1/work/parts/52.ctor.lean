/-! ===== constructors ===== -/
def cl_3 (n : Nat) : am_H := .inr (7, [.ref (n + 1), .ref (n + 2), .ref (n + 3), .ref (n + 4), .ref (n + 5), .ref (n + 6), .ref (n + 7), .int 0]) :: ((((((([] ++ [.inl (0, 60, .inl (fun _ => 0))]) ++ [.inl (0, 60, .inl (fun _ => 0))]) ++ [.inl (0, 60, .inl (fun _ => 0))]) ++ [.inl (2, 60, .inl (fun _ => 0))]) ++ [.inl (2, 60, .inl (fun _ => 0))]) ++ [.inl (2, 60, .inl (fun _ => 0))]) ++ [.inl (0, 61, .inl (fun _ => 0))])
theorem ce_3 (h1 : am_H) (n : Nat) (hn : h1.length = n) : fm_3 (.ref n) (h1 ++ [.inr (7, [.null, .null, .null, .null, .null, .null, .null, .int 0])]) = some (.inl (none, h1 ++ cl_3 n)) := by
  unfold fm_3
  unfold fg_3_0
  refine ev_i rfl ?_
  refine ev_b (ev_n (by decide) (am_gp (e2 := .inl (0, 60, .inl (fun _ => 0))) rfl)) ?_
  rw [show List.length (h1 ++ (.inr (7, [.null, .null, .null, .null, .null, .null, .null, .int 0]) :: []) : am_H) = n + 1 from am_gl hn rfl]
  refine ev_b (ev_p (fs1 := [.ref (n + 1), .null, .null, .null, .null, .null, .null, .int 0]) (am_gg0 hn) rfl rfl (am_gs0 hn)) ?_
  refine ev_b (ev_n (by decide) (am_gp (e2 := .inl (0, 60, .inl (fun _ => 0))) rfl)) ?_
  rw [show List.length (h1 ++ (.inr (7, [.ref (n + 1), .null, .null, .null, .null, .null, .null, .int 0]) :: ([] ++ [.inl (0, 60, .inl (fun _ => 0))])) : am_H) = n + 2 from am_gl hn rfl]
  refine ev_b (ev_p (fs1 := [.ref (n + 1), .ref (n + 2), .null, .null, .null, .null, .null, .int 0]) (am_gg0 hn) rfl rfl (am_gs0 hn)) ?_
  refine ev_b (ev_n (by decide) (am_gp (e2 := .inl (0, 60, .inl (fun _ => 0))) rfl)) ?_
  rw [show List.length (h1 ++ (.inr (7, [.ref (n + 1), .ref (n + 2), .null, .null, .null, .null, .null, .int 0]) :: (([] ++ [.inl (0, 60, .inl (fun _ => 0))]) ++ [.inl (0, 60, .inl (fun _ => 0))])) : am_H) = n + 3 from am_gl hn rfl]
  refine ev_b (ev_p (fs1 := [.ref (n + 1), .ref (n + 2), .ref (n + 3), .null, .null, .null, .null, .int 0]) (am_gg0 hn) rfl rfl (am_gs0 hn)) ?_
  refine ev_b (ev_n (by decide) (am_gp (e2 := .inl (2, 60, .inl (fun _ => 0))) rfl)) ?_
  rw [show List.length (h1 ++ (.inr (7, [.ref (n + 1), .ref (n + 2), .ref (n + 3), .null, .null, .null, .null, .int 0]) :: ((([] ++ [.inl (0, 60, .inl (fun _ => 0))]) ++ [.inl (0, 60, .inl (fun _ => 0))]) ++ [.inl (0, 60, .inl (fun _ => 0))])) : am_H) = n + 4 from am_gl hn rfl]
  refine ev_b (ev_p (fs1 := [.ref (n + 1), .ref (n + 2), .ref (n + 3), .ref (n + 4), .null, .null, .null, .int 0]) (am_gg0 hn) rfl rfl (am_gs0 hn)) ?_
  refine ev_b (ev_n (by decide) (am_gp (e2 := .inl (2, 60, .inl (fun _ => 0))) rfl)) ?_
  rw [show List.length (h1 ++ (.inr (7, [.ref (n + 1), .ref (n + 2), .ref (n + 3), .ref (n + 4), .null, .null, .null, .int 0]) :: (((([] ++ [.inl (0, 60, .inl (fun _ => 0))]) ++ [.inl (0, 60, .inl (fun _ => 0))]) ++ [.inl (0, 60, .inl (fun _ => 0))]) ++ [.inl (2, 60, .inl (fun _ => 0))])) : am_H) = n + 5 from am_gl hn rfl]
  refine ev_b (ev_p (fs1 := [.ref (n + 1), .ref (n + 2), .ref (n + 3), .ref (n + 4), .ref (n + 5), .null, .null, .int 0]) (am_gg0 hn) rfl rfl (am_gs0 hn)) ?_
  refine ev_b (ev_n (by decide) (am_gp (e2 := .inl (2, 60, .inl (fun _ => 0))) rfl)) ?_
  rw [show List.length (h1 ++ (.inr (7, [.ref (n + 1), .ref (n + 2), .ref (n + 3), .ref (n + 4), .ref (n + 5), .null, .null, .int 0]) :: ((((([] ++ [.inl (0, 60, .inl (fun _ => 0))]) ++ [.inl (0, 60, .inl (fun _ => 0))]) ++ [.inl (0, 60, .inl (fun _ => 0))]) ++ [.inl (2, 60, .inl (fun _ => 0))]) ++ [.inl (2, 60, .inl (fun _ => 0))])) : am_H) = n + 6 from am_gl hn rfl]
  refine ev_b (ev_p (fs1 := [.ref (n + 1), .ref (n + 2), .ref (n + 3), .ref (n + 4), .ref (n + 5), .ref (n + 6), .null, .int 0]) (am_gg0 hn) rfl rfl (am_gs0 hn)) ?_
  refine ev_b (ev_n (by decide) (am_gp (e2 := .inl (0, 61, .inl (fun _ => 0))) rfl)) ?_
  rw [show List.length (h1 ++ (.inr (7, [.ref (n + 1), .ref (n + 2), .ref (n + 3), .ref (n + 4), .ref (n + 5), .ref (n + 6), .null, .int 0]) :: (((((([] ++ [.inl (0, 60, .inl (fun _ => 0))]) ++ [.inl (0, 60, .inl (fun _ => 0))]) ++ [.inl (0, 60, .inl (fun _ => 0))]) ++ [.inl (2, 60, .inl (fun _ => 0))]) ++ [.inl (2, 60, .inl (fun _ => 0))]) ++ [.inl (2, 60, .inl (fun _ => 0))])) : am_H) = n + 7 from am_gl hn rfl]
  refine ev_b (ev_p (fs1 := [.ref (n + 1), .ref (n + 2), .ref (n + 3), .ref (n + 4), .ref (n + 5), .ref (n + 6), .ref (n + 7), .int 0]) (am_gg0 hn) rfl rfl (am_gs0 hn)) ?_
  refine ev_b (ev_p (fs1 := [.ref (n + 1), .ref (n + 2), .ref (n + 3), .ref (n + 4), .ref (n + 5), .ref (n + 6), .ref (n + 7), .int 0]) (am_gg0 hn) rfl rfl (am_gs0 hn)) ?_
  rfl
theorem cn_3 (n : Nat) : (cl_3 n).length = 8 := rfl
def cl_7 (n : Nat) : am_H := .inr (8, [.long 0]) :: []
theorem ce_7 (h1 : am_H) (n : Nat) (hn : h1.length = n) : fm_7 (.ref n) (h1 ++ [.inr (8, [.long 0])]) = some (.inl (none, h1 ++ cl_7 n)) := by
  unfold fm_7
  unfold fg_7_0
  refine ev_i rfl ?_
  refine ev_b (ev_p (fs1 := [.long 0]) (am_gg0 hn) rfl rfl (am_gs0 hn)) ?_
  rfl
theorem cn_7 (n : Nat) : (cl_7 n).length = 1 := rfl
def cl_18 (n : Nat) (k : Int32) : am_H := .inr (3, [.ref (n + 1), .int 0, .int 0, .int 0, .int 2, .int 0, .int (-1), .int (-1), .int (-1), .int (-1), .long 0]) :: ([] ++ [.inl (0, k.toNatClampNeg, .inl (fun _ => 0))])
theorem ce_18 (h1 : am_H) (n : Nat) (hn : h1.length = n) (k : Int32) (hk0 : ¬ k ≤ 0) (hk1 : (decide (0 ≤ k) && decide (k ≤ 1000000)) = true) : fm_18 (.ref n) k (h1 ++ [.inr (3, [.null, .int 0, .int 0, .int 0, .int 0, .int 0, .int 0, .int 0, .int 0, .int 0, .long 0])]) = some (.inl (none, h1 ++ cl_18 n k)) := by
  unfold fm_18
  unfold fg_18_0
  refine ev_i rfl ?_
  refine ev_b (ev_p (fs1 := [.null, .int 0, .int 0, .int 0, .int 0, .int 0, .int 0, .int 0, .int 0, .int 0, .long 0]) (am_gg0 hn) rfl rfl (am_gs0 hn)) ?_
  refine ev_b (ev_p (fs1 := [.null, .int 0, .int 0, .int 0, .int 0, .int 0, .int 0, .int 0, .int 0, .int 0, .long 0]) (am_gg0 hn) rfl rfl (am_gs0 hn)) ?_
  refine ev_b (ev_p (fs1 := [.null, .int 0, .int 0, .int 0, .int 0, .int 0, .int 0, .int 0, .int 0, .int 0, .long 0]) (am_gg0 hn) rfl rfl (am_gs0 hn)) ?_
  refine ev_b (ev_p (fs1 := [.null, .int 0, .int 0, .int 0, .int 2, .int 0, .int 0, .int 0, .int 0, .int 0, .long 0]) (am_gg0 hn) rfl rfl (am_gs0 hn)) ?_
  refine ev_b (ev_p (fs1 := [.null, .int 0, .int 0, .int 0, .int 2, .int 0, .int 0, .int 0, .int 0, .int 0, .long 0]) (am_gg0 hn) rfl rfl (am_gs0 hn)) ?_
  refine ev_b (ev_p (fs1 := [.null, .int 0, .int 0, .int 0, .int 2, .int 0, .int (-1), .int 0, .int 0, .int 0, .long 0]) (am_gg0 hn) rfl rfl (am_gs0 hn)) ?_
  refine ev_b (ev_p (fs1 := [.null, .int 0, .int 0, .int 0, .int 2, .int 0, .int (-1), .int (-1), .int 0, .int 0, .long 0]) (am_gg0 hn) rfl rfl (am_gs0 hn)) ?_
  refine ev_b (ev_p (fs1 := [.null, .int 0, .int 0, .int 0, .int 2, .int 0, .int (-1), .int (-1), .int (-1), .int 0, .long 0]) (am_gg0 hn) rfl rfl (am_gs0 hn)) ?_
  refine ev_b (ev_p (fs1 := [.null, .int 0, .int 0, .int 0, .int 2, .int 0, .int (-1), .int (-1), .int (-1), .int (-1), .long 0]) (am_gg0 hn) rfl rfl (am_gs0 hn)) ?_
  refine ev_b (ev_p (fs1 := [.null, .int 0, .int 0, .int 0, .int 2, .int 0, .int (-1), .int (-1), .int (-1), .int (-1), .long 0]) (am_gg0 hn) rfl rfl (am_gs0 hn)) ?_
  refine ev_f hk0 ?_
  unfold fg_18_64
  refine ev_b (ev_n hk1 (am_gp (e2 := .inl (0, k.toNatClampNeg, .inl (fun _ => 0))) rfl)) ?_
  rw [show List.length (h1 ++ (.inr (3, [.null, .int 0, .int 0, .int 0, .int 2, .int 0, .int (-1), .int (-1), .int (-1), .int (-1), .long 0]) :: []) : am_H) = n + 1 from am_gl hn rfl]
  refine ev_b (ev_p (fs1 := [.ref (n + 1), .int 0, .int 0, .int 0, .int 2, .int 0, .int (-1), .int (-1), .int (-1), .int (-1), .long 0]) (am_gg0 hn) rfl rfl (am_gs0 hn)) ?_
  rfl
theorem cn_18 (n : Nat) (k : Int32) : (cl_18 n k).length = 2 := rfl
def cl_2 (n : Nat) : am_H := .inr (9, [.ref (n + 1), .int 0, .int 0, .int (-1), .null, .ref (n + 2), .ref (n + 3), .ref (n + 11), .int 0]) :: (((([] ++ [.inl (3, 240, .inl (fun _ => 0))]) ++ [.inl (0, 60, .inl (fun _ => 0))]) ++ cl_3 (n + 3)) ++ [.inl (3, 240, .inl (fun _ => 0))])
theorem ce_2 (h1 : am_H) (n : Nat) (hn : h1.length = n) : fm_2 (.ref n) (h1 ++ [.inr (9, [.null, .int 0, .int 0, .int 0, .null, .null, .null, .null, .int 0])]) = some (.inl (none, h1 ++ cl_2 n)) := by
  unfold fm_2
  unfold fg_2_0
  refine ev_i rfl ?_
  refine ev_b (ev_n (by decide) (am_gp (e2 := .inl (3, 240, .inl (fun _ => 0))) rfl)) ?_
  rw [show List.length (h1 ++ (.inr (9, [.null, .int 0, .int 0, .int 0, .null, .null, .null, .null, .int 0]) :: []) : am_H) = n + 1 from am_gl hn rfl]
  refine ev_b (ev_p (fs1 := [.ref (n + 1), .int 0, .int 0, .int 0, .null, .null, .null, .null, .int 0]) (am_gg0 hn) rfl rfl (am_gs0 hn)) ?_
  refine ev_b (ev_p (fs1 := [.ref (n + 1), .int 0, .int 0, .int 0, .null, .null, .null, .null, .int 0]) (am_gg0 hn) rfl rfl (am_gs0 hn)) ?_
  refine ev_b (ev_p (fs1 := [.ref (n + 1), .int 0, .int 0, .int 0, .null, .null, .null, .null, .int 0]) (am_gg0 hn) rfl rfl (am_gs0 hn)) ?_
  refine ev_b (ev_p (fs1 := [.ref (n + 1), .int 0, .int 0, .int (-1), .null, .null, .null, .null, .int 0]) (am_gg0 hn) rfl rfl (am_gs0 hn)) ?_
  refine ev_b (ev_p (fs1 := [.ref (n + 1), .int 0, .int 0, .int (-1), .null, .null, .null, .null, .int 0]) (am_gg0 hn) rfl rfl (am_gs0 hn)) ?_
  refine ev_b (ev_n (by decide) (am_gp (e2 := .inl (0, 60, .inl (fun _ => 0))) rfl)) ?_
  rw [show List.length (h1 ++ (.inr (9, [.ref (n + 1), .int 0, .int 0, .int (-1), .null, .null, .null, .null, .int 0]) :: ([] ++ [.inl (3, 240, .inl (fun _ => 0))])) : am_H) = n + 2 from am_gl hn rfl]
  refine ev_b (ev_p (fs1 := [.ref (n + 1), .int 0, .int 0, .int (-1), .null, .ref (n + 2), .null, .null, .int 0]) (am_gg0 hn) rfl rfl (am_gs0 hn)) ?_
  refine ev_b (ev_o rfl rfl) ?_
  rw [show List.length (h1 ++ (.inr (9, [.ref (n + 1), .int 0, .int 0, .int (-1), .null, .ref (n + 2), .null, .null, .int 0]) :: (([] ++ [.inl (3, 240, .inl (fun _ => 0))]) ++ [.inl (0, 60, .inl (fun _ => 0))])) : am_H) = n + 3 from am_gl hn rfl]
  refine ev_i (ev_ok (am_gg0 (am_gl (k := 3) hn rfl))) ?_
  refine ev_cV (ce_3 _ _ (am_gl (k := 3) hn rfl)) ?_
  rw [am_gc]
  refine ev_b (ev_p (fs1 := [.ref (n + 1), .int 0, .int 0, .int (-1), .null, .ref (n + 2), .ref (n + 3), .null, .int 0]) (am_gg0 hn) rfl rfl (am_gs0 hn)) ?_
  refine ev_b (ev_n (by decide) (am_gp (e2 := .inl (3, 240, .inl (fun _ => 0))) rfl)) ?_
  rw [show List.length (h1 ++ (.inr (9, [.ref (n + 1), .int 0, .int 0, .int (-1), .null, .ref (n + 2), .ref (n + 3), .null, .int 0]) :: ((([] ++ [.inl (3, 240, .inl (fun _ => 0))]) ++ [.inl (0, 60, .inl (fun _ => 0))]) ++ cl_3 (n + 3))) : am_H) = n + 11 from am_gl hn rfl]
  refine ev_b (ev_p (fs1 := [.ref (n + 1), .int 0, .int 0, .int (-1), .null, .ref (n + 2), .ref (n + 3), .ref (n + 11), .int 0]) (am_gg0 hn) rfl rfl (am_gs0 hn)) ?_
  refine ev_b (ev_p (fs1 := [.ref (n + 1), .int 0, .int 0, .int (-1), .null, .ref (n + 2), .ref (n + 3), .ref (n + 11), .int 0]) (am_gg0 hn) rfl rfl (am_gs0 hn)) ?_
  rfl
theorem cn_2 (n : Nat) : (cl_2 n).length = 12 := rfl
def cl_5 (n : Nat) : am_H := .inr (6, [.int 200, .int 0, .int 0, .int 0, .null, .ref (n + 1), .int 0, .int 0, .int 0, .ref (n + 9), .int 0, .int 0, .int 0, .ref (n + 10), .int 0]) :: ((([] ++ cl_3 (n + 1)) ++ [.inl (0, 8, .inl (fun _ => 0))]) ++ [.inl (0, 8, .inl (fun _ => 0))])
theorem ce_5 (h1 : am_H) (n : Nat) (hn : h1.length = n) : fm_5 (.ref n) (h1 ++ [.inr (6, [.int 0, .int 0, .int 0, .int 0, .null, .null, .int 0, .int 0, .int 0, .null, .int 0, .int 0, .int 0, .null, .int 0])]) = some (.inl (none, h1 ++ cl_5 n)) := by
  unfold fm_5
  unfold fg_5_0
  refine ev_i rfl ?_
  refine ev_b (ev_p (fs1 := [.int 200, .int 0, .int 0, .int 0, .null, .null, .int 0, .int 0, .int 0, .null, .int 0, .int 0, .int 0, .null, .int 0]) (am_gg0 hn) rfl rfl (am_gs0 hn)) ?_
  refine ev_b (ev_p (fs1 := [.int 200, .int 0, .int 0, .int 0, .null, .null, .int 0, .int 0, .int 0, .null, .int 0, .int 0, .int 0, .null, .int 0]) (am_gg0 hn) rfl rfl (am_gs0 hn)) ?_
  refine ev_b (ev_p (fs1 := [.int 200, .int 0, .int 0, .int 0, .null, .null, .int 0, .int 0, .int 0, .null, .int 0, .int 0, .int 0, .null, .int 0]) (am_gg0 hn) rfl rfl (am_gs0 hn)) ?_
  refine ev_b (ev_p (fs1 := [.int 200, .int 0, .int 0, .int 0, .null, .null, .int 0, .int 0, .int 0, .null, .int 0, .int 0, .int 0, .null, .int 0]) (am_gg0 hn) rfl rfl (am_gs0 hn)) ?_
  refine ev_b (ev_p (fs1 := [.int 200, .int 0, .int 0, .int 0, .null, .null, .int 0, .int 0, .int 0, .null, .int 0, .int 0, .int 0, .null, .int 0]) (am_gg0 hn) rfl rfl (am_gs0 hn)) ?_
  refine ev_b (ev_o rfl rfl) ?_
  rw [show List.length (h1 ++ (.inr (6, [.int 200, .int 0, .int 0, .int 0, .null, .null, .int 0, .int 0, .int 0, .null, .int 0, .int 0, .int 0, .null, .int 0]) :: []) : am_H) = n + 1 from am_gl hn rfl]
  refine ev_i (ev_ok (am_gg0 (am_gl (k := 1) hn rfl))) ?_
  refine ev_cV (ce_3 _ _ (am_gl (k := 1) hn rfl)) ?_
  rw [am_gc]
  refine ev_b (ev_p (fs1 := [.int 200, .int 0, .int 0, .int 0, .null, .ref (n + 1), .int 0, .int 0, .int 0, .null, .int 0, .int 0, .int 0, .null, .int 0]) (am_gg0 hn) rfl rfl (am_gs0 hn)) ?_
  refine ev_b (ev_p (fs1 := [.int 200, .int 0, .int 0, .int 0, .null, .ref (n + 1), .int 0, .int 0, .int 0, .null, .int 0, .int 0, .int 0, .null, .int 0]) (am_gg0 hn) rfl rfl (am_gs0 hn)) ?_
  refine ev_b (ev_p (fs1 := [.int 200, .int 0, .int 0, .int 0, .null, .ref (n + 1), .int 0, .int 0, .int 0, .null, .int 0, .int 0, .int 0, .null, .int 0]) (am_gg0 hn) rfl rfl (am_gs0 hn)) ?_
  refine ev_b (ev_p (fs1 := [.int 200, .int 0, .int 0, .int 0, .null, .ref (n + 1), .int 0, .int 0, .int 0, .null, .int 0, .int 0, .int 0, .null, .int 0]) (am_gg0 hn) rfl rfl (am_gs0 hn)) ?_
  refine ev_b (ev_n (by decide) (am_gp (e2 := .inl (0, 8, .inl (fun _ => 0))) rfl)) ?_
  rw [show List.length (h1 ++ (.inr (6, [.int 200, .int 0, .int 0, .int 0, .null, .ref (n + 1), .int 0, .int 0, .int 0, .null, .int 0, .int 0, .int 0, .null, .int 0]) :: ([] ++ cl_3 (n + 1))) : am_H) = n + 9 from am_gl hn rfl]
  refine ev_b (ev_p (fs1 := [.int 200, .int 0, .int 0, .int 0, .null, .ref (n + 1), .int 0, .int 0, .int 0, .ref (n + 9), .int 0, .int 0, .int 0, .null, .int 0]) (am_gg0 hn) rfl rfl (am_gs0 hn)) ?_
  refine ev_b (ev_p (fs1 := [.int 200, .int 0, .int 0, .int 0, .null, .ref (n + 1), .int 0, .int 0, .int 0, .ref (n + 9), .int 0, .int 0, .int 0, .null, .int 0]) (am_gg0 hn) rfl rfl (am_gs0 hn)) ?_
  refine ev_b (ev_p (fs1 := [.int 200, .int 0, .int 0, .int 0, .null, .ref (n + 1), .int 0, .int 0, .int 0, .ref (n + 9), .int 0, .int 0, .int 0, .null, .int 0]) (am_gg0 hn) rfl rfl (am_gs0 hn)) ?_
  refine ev_b (ev_p (fs1 := [.int 200, .int 0, .int 0, .int 0, .null, .ref (n + 1), .int 0, .int 0, .int 0, .ref (n + 9), .int 0, .int 0, .int 0, .null, .int 0]) (am_gg0 hn) rfl rfl (am_gs0 hn)) ?_
  refine ev_b (ev_n (by decide) (am_gp (e2 := .inl (0, 8, .inl (fun _ => 0))) rfl)) ?_
  rw [show List.length (h1 ++ (.inr (6, [.int 200, .int 0, .int 0, .int 0, .null, .ref (n + 1), .int 0, .int 0, .int 0, .ref (n + 9), .int 0, .int 0, .int 0, .null, .int 0]) :: (([] ++ cl_3 (n + 1)) ++ [.inl (0, 8, .inl (fun _ => 0))])) : am_H) = n + 10 from am_gl hn rfl]
  refine ev_b (ev_p (fs1 := [.int 200, .int 0, .int 0, .int 0, .null, .ref (n + 1), .int 0, .int 0, .int 0, .ref (n + 9), .int 0, .int 0, .int 0, .ref (n + 10), .int 0]) (am_gg0 hn) rfl rfl (am_gs0 hn)) ?_
  refine ev_b (ev_p (fs1 := [.int 200, .int 0, .int 0, .int 0, .null, .ref (n + 1), .int 0, .int 0, .int 0, .ref (n + 9), .int 0, .int 0, .int 0, .ref (n + 10), .int 0]) (am_gg0 hn) rfl rfl (am_gs0 hn)) ?_
  rfl
theorem cn_5 (n : Nat) : (cl_5 n).length = 11 := rfl
def cl_4 (n : Nat) : am_H := .inr (2, [.ref (n + 1), .int 0, .ref (n + 2), .ref (n + 13), .long 0, .long 1]) :: ((([] ++ [.inl (0, 360, .inl (fun _ => 0))]) ++ cl_5 (n + 2)) ++ cl_5 (n + 13))
theorem ce_4 (h1 : am_H) (n : Nat) (hn : h1.length = n) : fm_4 (.ref n) (h1 ++ [.inr (2, [.null, .int 0, .null, .null, .long 0, .long 0])]) = some (.inl (none, h1 ++ cl_4 n)) := by
  unfold fm_4
  unfold fg_4_0
  refine ev_i rfl ?_
  refine ev_b (ev_n (by decide) (am_gp (e2 := .inl (0, 360, .inl (fun _ => 0))) rfl)) ?_
  rw [show List.length (h1 ++ (.inr (2, [.null, .int 0, .null, .null, .long 0, .long 0]) :: []) : am_H) = n + 1 from am_gl hn rfl]
  refine ev_b (ev_p (fs1 := [.ref (n + 1), .int 0, .null, .null, .long 0, .long 0]) (am_gg0 hn) rfl rfl (am_gs0 hn)) ?_
  refine ev_b (ev_p (fs1 := [.ref (n + 1), .int 0, .null, .null, .long 0, .long 0]) (am_gg0 hn) rfl rfl (am_gs0 hn)) ?_
  refine ev_b (ev_o rfl rfl) ?_
  rw [show List.length (h1 ++ (.inr (2, [.ref (n + 1), .int 0, .null, .null, .long 0, .long 0]) :: ([] ++ [.inl (0, 360, .inl (fun _ => 0))])) : am_H) = n + 2 from am_gl hn rfl]
  refine ev_i (ev_ok (am_gg0 (am_gl (k := 2) hn rfl))) ?_
  refine ev_cV (ce_5 _ _ (am_gl (k := 2) hn rfl)) ?_
  rw [am_gc]
  refine ev_b (ev_p (fs1 := [.ref (n + 1), .int 0, .ref (n + 2), .null, .long 0, .long 0]) (am_gg0 hn) rfl rfl (am_gs0 hn)) ?_
  refine ev_b (ev_o rfl rfl) ?_
  rw [show List.length (h1 ++ (.inr (2, [.ref (n + 1), .int 0, .ref (n + 2), .null, .long 0, .long 0]) :: (([] ++ [.inl (0, 360, .inl (fun _ => 0))]) ++ cl_5 (n + 2))) : am_H) = n + 13 from am_gl hn rfl]
  refine ev_i (ev_ok (am_gg0 (am_gl (k := 13) hn rfl))) ?_
  refine ev_cV (ce_5 _ _ (am_gl (k := 13) hn rfl)) ?_
  rw [am_gc]
  refine ev_b (ev_p (fs1 := [.ref (n + 1), .int 0, .ref (n + 2), .ref (n + 13), .long 0, .long 0]) (am_gg0 hn) rfl rfl (am_gs0 hn)) ?_
  refine ev_b (ev_p (fs1 := [.ref (n + 1), .int 0, .ref (n + 2), .ref (n + 13), .long 0, .long 0]) (am_gg0 hn) rfl rfl (am_gs0 hn)) ?_
  refine ev_b (ev_p (fs1 := [.ref (n + 1), .int 0, .ref (n + 2), .ref (n + 13), .long 0, .long 1]) (am_gg0 hn) rfl rfl (am_gs0 hn)) ?_
  rfl
theorem cn_4 (n : Nat) : (cl_4 n).length = 24 := rfl
def cl_6 (n : Nat) : am_H := .inr (1, [.int 0, .ref (n + 1), .ref (n + 2), .int 0, .ref (n + 3), .ref (n + 4), .ref (n + 5), .ref (n + 6), .ref (n + 7), .ref (n + 8)]) :: (((((((([] ++ [.inl (0, 16, .inl (fun _ => 0))]) ++ cl_7 (n + 2)) ++ [.inl (0, 16, .inl (fun _ => 0))]) ++ [.inl (1, 16, .inr (.inl (fun _ => 0)))]) ++ [.inl (0, 16, .inl (fun _ => 0))]) ++ [.inl (0, 384, .inl (fun _ => 0))]) ++ [.inl (0, 24, .inl (fun _ => 0))]) ++ [.inl (0, 24, .inl (fun _ => 0))])
theorem ce_6 (h1 : am_H) (n : Nat) (hn : h1.length = n) : fm_6 (.ref n) (h1 ++ [.inr (1, [.int 0, .null, .null, .int 0, .null, .null, .null, .null, .null, .null])]) = some (.inl (none, h1 ++ cl_6 n)) := by
  unfold fm_6
  unfold fg_6_0
  refine ev_i rfl ?_
  refine ev_b (ev_p (fs1 := [.int 0, .null, .null, .int 0, .null, .null, .null, .null, .null, .null]) (am_gg0 hn) rfl rfl (am_gs0 hn)) ?_
  refine ev_b (ev_n (by decide) (am_gp (e2 := .inl (0, 16, .inl (fun _ => 0))) rfl)) ?_
  rw [show List.length (h1 ++ (.inr (1, [.int 0, .null, .null, .int 0, .null, .null, .null, .null, .null, .null]) :: []) : am_H) = n + 1 from am_gl hn rfl]
  refine ev_b (ev_p (fs1 := [.int 0, .ref (n + 1), .null, .int 0, .null, .null, .null, .null, .null, .null]) (am_gg0 hn) rfl rfl (am_gs0 hn)) ?_
  refine ev_b (ev_o rfl rfl) ?_
  rw [show List.length (h1 ++ (.inr (1, [.int 0, .ref (n + 1), .null, .int 0, .null, .null, .null, .null, .null, .null]) :: ([] ++ [.inl (0, 16, .inl (fun _ => 0))])) : am_H) = n + 2 from am_gl hn rfl]
  refine ev_i (ev_ok (am_gg0 (am_gl (k := 2) hn rfl))) ?_
  refine ev_cV (ce_7 _ _ (am_gl (k := 2) hn rfl)) ?_
  rw [am_gc]
  refine ev_b (ev_p (fs1 := [.int 0, .ref (n + 1), .ref (n + 2), .int 0, .null, .null, .null, .null, .null, .null]) (am_gg0 hn) rfl rfl (am_gs0 hn)) ?_
  refine ev_b (ev_p (fs1 := [.int 0, .ref (n + 1), .ref (n + 2), .int 0, .null, .null, .null, .null, .null, .null]) (am_gg0 hn) rfl rfl (am_gs0 hn)) ?_
  refine ev_b (ev_n (by decide) (am_gp (e2 := .inl (0, 16, .inl (fun _ => 0))) rfl)) ?_
  rw [show List.length (h1 ++ (.inr (1, [.int 0, .ref (n + 1), .ref (n + 2), .int 0, .null, .null, .null, .null, .null, .null]) :: (([] ++ [.inl (0, 16, .inl (fun _ => 0))]) ++ cl_7 (n + 2))) : am_H) = n + 3 from am_gl hn rfl]
  refine ev_b (ev_p (fs1 := [.int 0, .ref (n + 1), .ref (n + 2), .int 0, .ref (n + 3), .null, .null, .null, .null, .null]) (am_gg0 hn) rfl rfl (am_gs0 hn)) ?_
  refine ev_b (ev_n (by decide) (am_gp (e2 := .inl (1, 16, .inr (.inl (fun _ => 0)))) rfl)) ?_
  rw [show List.length (h1 ++ (.inr (1, [.int 0, .ref (n + 1), .ref (n + 2), .int 0, .ref (n + 3), .null, .null, .null, .null, .null]) :: ((([] ++ [.inl (0, 16, .inl (fun _ => 0))]) ++ cl_7 (n + 2)) ++ [.inl (0, 16, .inl (fun _ => 0))])) : am_H) = n + 4 from am_gl hn rfl]
  refine ev_b (ev_p (fs1 := [.int 0, .ref (n + 1), .ref (n + 2), .int 0, .ref (n + 3), .ref (n + 4), .null, .null, .null, .null]) (am_gg0 hn) rfl rfl (am_gs0 hn)) ?_
  refine ev_b (ev_n (by decide) (am_gp (e2 := .inl (0, 16, .inl (fun _ => 0))) rfl)) ?_
  rw [show List.length (h1 ++ (.inr (1, [.int 0, .ref (n + 1), .ref (n + 2), .int 0, .ref (n + 3), .ref (n + 4), .null, .null, .null, .null]) :: (((([] ++ [.inl (0, 16, .inl (fun _ => 0))]) ++ cl_7 (n + 2)) ++ [.inl (0, 16, .inl (fun _ => 0))]) ++ [.inl (1, 16, .inr (.inl (fun _ => 0)))])) : am_H) = n + 5 from am_gl hn rfl]
  refine ev_b (ev_p (fs1 := [.int 0, .ref (n + 1), .ref (n + 2), .int 0, .ref (n + 3), .ref (n + 4), .ref (n + 5), .null, .null, .null]) (am_gg0 hn) rfl rfl (am_gs0 hn)) ?_
  refine ev_b (ev_n (by decide) (am_gp (e2 := .inl (0, 384, .inl (fun _ => 0))) rfl)) ?_
  rw [show List.length (h1 ++ (.inr (1, [.int 0, .ref (n + 1), .ref (n + 2), .int 0, .ref (n + 3), .ref (n + 4), .ref (n + 5), .null, .null, .null]) :: ((((([] ++ [.inl (0, 16, .inl (fun _ => 0))]) ++ cl_7 (n + 2)) ++ [.inl (0, 16, .inl (fun _ => 0))]) ++ [.inl (1, 16, .inr (.inl (fun _ => 0)))]) ++ [.inl (0, 16, .inl (fun _ => 0))])) : am_H) = n + 6 from am_gl hn rfl]
  refine ev_b (ev_p (fs1 := [.int 0, .ref (n + 1), .ref (n + 2), .int 0, .ref (n + 3), .ref (n + 4), .ref (n + 5), .ref (n + 6), .null, .null]) (am_gg0 hn) rfl rfl (am_gs0 hn)) ?_
  refine ev_b (ev_n (by decide) (am_gp (e2 := .inl (0, 24, .inl (fun _ => 0))) rfl)) ?_
  rw [show List.length (h1 ++ (.inr (1, [.int 0, .ref (n + 1), .ref (n + 2), .int 0, .ref (n + 3), .ref (n + 4), .ref (n + 5), .ref (n + 6), .null, .null]) :: (((((([] ++ [.inl (0, 16, .inl (fun _ => 0))]) ++ cl_7 (n + 2)) ++ [.inl (0, 16, .inl (fun _ => 0))]) ++ [.inl (1, 16, .inr (.inl (fun _ => 0)))]) ++ [.inl (0, 16, .inl (fun _ => 0))]) ++ [.inl (0, 384, .inl (fun _ => 0))])) : am_H) = n + 7 from am_gl hn rfl]
  refine ev_b (ev_p (fs1 := [.int 0, .ref (n + 1), .ref (n + 2), .int 0, .ref (n + 3), .ref (n + 4), .ref (n + 5), .ref (n + 6), .ref (n + 7), .null]) (am_gg0 hn) rfl rfl (am_gs0 hn)) ?_
  refine ev_b (ev_n (by decide) (am_gp (e2 := .inl (0, 24, .inl (fun _ => 0))) rfl)) ?_
  rw [show List.length (h1 ++ (.inr (1, [.int 0, .ref (n + 1), .ref (n + 2), .int 0, .ref (n + 3), .ref (n + 4), .ref (n + 5), .ref (n + 6), .ref (n + 7), .null]) :: ((((((([] ++ [.inl (0, 16, .inl (fun _ => 0))]) ++ cl_7 (n + 2)) ++ [.inl (0, 16, .inl (fun _ => 0))]) ++ [.inl (1, 16, .inr (.inl (fun _ => 0)))]) ++ [.inl (0, 16, .inl (fun _ => 0))]) ++ [.inl (0, 384, .inl (fun _ => 0))]) ++ [.inl (0, 24, .inl (fun _ => 0))])) : am_H) = n + 8 from am_gl hn rfl]
  refine ev_b (ev_p (fs1 := [.int 0, .ref (n + 1), .ref (n + 2), .int 0, .ref (n + 3), .ref (n + 4), .ref (n + 5), .ref (n + 6), .ref (n + 7), .ref (n + 8)]) (am_gg0 hn) rfl rfl (am_gs0 hn)) ?_
  rfl
theorem cn_6 (n : Nat) : (cl_6 n).length = 9 := rfl
def cl_17 (n : Nat) : am_H := .inr (0, [.ref (n + 1), .ref (n + 3), .ref (n + 5), .ref (n + 13), .ref (n + 21), .null, .null, .int 0, .int 1, .int 0, .null, .int 0, .int 0]) :: ((((([] ++ cl_18 (n + 1) 120) ++ cl_18 (n + 3) 120) ++ cl_3 (n + 5)) ++ cl_3 (n + 13)) ++ cl_3 (n + 21))
theorem ce_17 (h1 : am_H) (n : Nat) (hn : h1.length = n) : fm_17 (.ref n) (h1 ++ [.inr (0, [.null, .null, .null, .null, .null, .null, .null, .int 0, .int 0, .int 0, .null, .int 0, .int 0])]) = some (.inl (none, h1 ++ cl_17 n)) := by
  unfold fm_17
  unfold fg_17_0
  refine ev_i rfl ?_
  refine ev_b (ev_o rfl rfl) ?_
  rw [show List.length (h1 ++ (.inr (0, [.null, .null, .null, .null, .null, .null, .null, .int 0, .int 0, .int 0, .null, .int 0, .int 0]) :: []) : am_H) = n + 1 from am_gl hn rfl]
  refine ev_i (ev_ok (am_gg0 (am_gl (k := 1) hn rfl))) ?_
  refine ev_cV (ce_18 _ _ (am_gl (k := 1) hn rfl) 120 (by decide) (by decide)) ?_
  rw [am_gc]
  refine ev_b (ev_p (fs1 := [.ref (n + 1), .null, .null, .null, .null, .null, .null, .int 0, .int 0, .int 0, .null, .int 0, .int 0]) (am_gg0 hn) rfl rfl (am_gs0 hn)) ?_
  refine ev_b (ev_o rfl rfl) ?_
  rw [show List.length (h1 ++ (.inr (0, [.ref (n + 1), .null, .null, .null, .null, .null, .null, .int 0, .int 0, .int 0, .null, .int 0, .int 0]) :: ([] ++ cl_18 (n + 1) 120)) : am_H) = n + 3 from am_gl hn rfl]
  refine ev_i (ev_ok (am_gg0 (am_gl (k := 3) hn rfl))) ?_
  refine ev_cV (ce_18 _ _ (am_gl (k := 3) hn rfl) 120 (by decide) (by decide)) ?_
  rw [am_gc]
  refine ev_b (ev_p (fs1 := [.ref (n + 1), .ref (n + 3), .null, .null, .null, .null, .null, .int 0, .int 0, .int 0, .null, .int 0, .int 0]) (am_gg0 hn) rfl rfl (am_gs0 hn)) ?_
  refine ev_b (ev_o rfl rfl) ?_
  rw [show List.length (h1 ++ (.inr (0, [.ref (n + 1), .ref (n + 3), .null, .null, .null, .null, .null, .int 0, .int 0, .int 0, .null, .int 0, .int 0]) :: (([] ++ cl_18 (n + 1) 120) ++ cl_18 (n + 3) 120)) : am_H) = n + 5 from am_gl hn rfl]
  refine ev_i (ev_ok (am_gg0 (am_gl (k := 5) hn rfl))) ?_
  refine ev_cV (ce_3 _ _ (am_gl (k := 5) hn rfl)) ?_
  rw [am_gc]
  refine ev_b (ev_p (fs1 := [.ref (n + 1), .ref (n + 3), .ref (n + 5), .null, .null, .null, .null, .int 0, .int 0, .int 0, .null, .int 0, .int 0]) (am_gg0 hn) rfl rfl (am_gs0 hn)) ?_
  refine ev_b (ev_o rfl rfl) ?_
  rw [show List.length (h1 ++ (.inr (0, [.ref (n + 1), .ref (n + 3), .ref (n + 5), .null, .null, .null, .null, .int 0, .int 0, .int 0, .null, .int 0, .int 0]) :: ((([] ++ cl_18 (n + 1) 120) ++ cl_18 (n + 3) 120) ++ cl_3 (n + 5))) : am_H) = n + 13 from am_gl hn rfl]
  refine ev_i (ev_ok (am_gg0 (am_gl (k := 13) hn rfl))) ?_
  refine ev_cV (ce_3 _ _ (am_gl (k := 13) hn rfl)) ?_
  rw [am_gc]
  refine ev_b (ev_p (fs1 := [.ref (n + 1), .ref (n + 3), .ref (n + 5), .ref (n + 13), .null, .null, .null, .int 0, .int 0, .int 0, .null, .int 0, .int 0]) (am_gg0 hn) rfl rfl (am_gs0 hn)) ?_
  refine ev_b (ev_o rfl rfl) ?_
  rw [show List.length (h1 ++ (.inr (0, [.ref (n + 1), .ref (n + 3), .ref (n + 5), .ref (n + 13), .null, .null, .null, .int 0, .int 0, .int 0, .null, .int 0, .int 0]) :: (((([] ++ cl_18 (n + 1) 120) ++ cl_18 (n + 3) 120) ++ cl_3 (n + 5)) ++ cl_3 (n + 13))) : am_H) = n + 21 from am_gl hn rfl]
  refine ev_i (ev_ok (am_gg0 (am_gl (k := 21) hn rfl))) ?_
  refine ev_cV (ce_3 _ _ (am_gl (k := 21) hn rfl)) ?_
  rw [am_gc]
  refine ev_b (ev_p (fs1 := [.ref (n + 1), .ref (n + 3), .ref (n + 5), .ref (n + 13), .ref (n + 21), .null, .null, .int 0, .int 0, .int 0, .null, .int 0, .int 0]) (am_gg0 hn) rfl rfl (am_gs0 hn)) ?_
  refine ev_b (ev_p (fs1 := [.ref (n + 1), .ref (n + 3), .ref (n + 5), .ref (n + 13), .ref (n + 21), .null, .null, .int 0, .int 0, .int 0, .null, .int 0, .int 0]) (am_gg0 hn) rfl rfl (am_gs0 hn)) ?_
  refine ev_b (ev_p (fs1 := [.ref (n + 1), .ref (n + 3), .ref (n + 5), .ref (n + 13), .ref (n + 21), .null, .null, .int 0, .int 0, .int 0, .null, .int 0, .int 0]) (am_gg0 hn) rfl rfl (am_gs0 hn)) ?_
  refine ev_b (ev_p (fs1 := [.ref (n + 1), .ref (n + 3), .ref (n + 5), .ref (n + 13), .ref (n + 21), .null, .null, .int 0, .int 0, .int 0, .null, .int 0, .int 0]) (am_gg0 hn) rfl rfl (am_gs0 hn)) ?_
  refine ev_b (ev_p (fs1 := [.ref (n + 1), .ref (n + 3), .ref (n + 5), .ref (n + 13), .ref (n + 21), .null, .null, .int 0, .int 1, .int 0, .null, .int 0, .int 0]) (am_gg0 hn) rfl rfl (am_gs0 hn)) ?_
  refine ev_b (ev_p (fs1 := [.ref (n + 1), .ref (n + 3), .ref (n + 5), .ref (n + 13), .ref (n + 21), .null, .null, .int 0, .int 1, .int 0, .null, .int 0, .int 0]) (am_gg0 hn) rfl rfl (am_gs0 hn)) ?_
  refine ev_b (ev_p (fs1 := [.ref (n + 1), .ref (n + 3), .ref (n + 5), .ref (n + 13), .ref (n + 21), .null, .null, .int 0, .int 1, .int 0, .null, .int 0, .int 0]) (am_gg0 hn) rfl rfl (am_gs0 hn)) ?_
  refine ev_b (ev_p (fs1 := [.ref (n + 1), .ref (n + 3), .ref (n + 5), .ref (n + 13), .ref (n + 21), .null, .null, .int 0, .int 1, .int 0, .null, .int 0, .int 0]) (am_gg0 hn) rfl rfl (am_gs0 hn)) ?_
  refine ev_b (ev_p (fs1 := [.ref (n + 1), .ref (n + 3), .ref (n + 5), .ref (n + 13), .ref (n + 21), .null, .null, .int 0, .int 1, .int 0, .null, .int 0, .int 0]) (am_gg0 hn) rfl rfl (am_gs0 hn)) ?_
  rfl
theorem cn_17 (n : Nat) : (cl_17 n).length = 29 := rfl
def cl_19 (n : Nat) : am_H := .inr (5, [.ref (n + 1), .ref (n + 2), .int 0, .ref (n + 3), .ref (n + 11), .null, .int 0]) :: (((([] ++ [.inl (0, 60, .inl (fun _ => 0))]) ++ [.inl (0, 60, .inl (fun _ => 0))]) ++ cl_3 (n + 3)) ++ cl_18 (n + 11) 120)
theorem ce_19 (h1 : am_H) (n : Nat) (hn : h1.length = n) : fm_19 (.ref n) (h1 ++ [.inr (5, [.null, .null, .int 0, .null, .null, .null, .int 0])]) = some (.inl (none, h1 ++ cl_19 n)) := by
  unfold fm_19
  unfold fg_19_0
  refine ev_i rfl ?_
  refine ev_b (ev_n (by decide) (am_gp (e2 := .inl (0, 60, .inl (fun _ => 0))) rfl)) ?_
  rw [show List.length (h1 ++ (.inr (5, [.null, .null, .int 0, .null, .null, .null, .int 0]) :: []) : am_H) = n + 1 from am_gl hn rfl]
  refine ev_b (ev_p (fs1 := [.ref (n + 1), .null, .int 0, .null, .null, .null, .int 0]) (am_gg0 hn) rfl rfl (am_gs0 hn)) ?_
  refine ev_b (ev_n (by decide) (am_gp (e2 := .inl (0, 60, .inl (fun _ => 0))) rfl)) ?_
  rw [show List.length (h1 ++ (.inr (5, [.ref (n + 1), .null, .int 0, .null, .null, .null, .int 0]) :: ([] ++ [.inl (0, 60, .inl (fun _ => 0))])) : am_H) = n + 2 from am_gl hn rfl]
  refine ev_b (ev_p (fs1 := [.ref (n + 1), .ref (n + 2), .int 0, .null, .null, .null, .int 0]) (am_gg0 hn) rfl rfl (am_gs0 hn)) ?_
  refine ev_b (ev_p (fs1 := [.ref (n + 1), .ref (n + 2), .int 0, .null, .null, .null, .int 0]) (am_gg0 hn) rfl rfl (am_gs0 hn)) ?_
  refine ev_b (ev_o rfl rfl) ?_
  rw [show List.length (h1 ++ (.inr (5, [.ref (n + 1), .ref (n + 2), .int 0, .null, .null, .null, .int 0]) :: (([] ++ [.inl (0, 60, .inl (fun _ => 0))]) ++ [.inl (0, 60, .inl (fun _ => 0))])) : am_H) = n + 3 from am_gl hn rfl]
  refine ev_i (ev_ok (am_gg0 (am_gl (k := 3) hn rfl))) ?_
  refine ev_cV (ce_3 _ _ (am_gl (k := 3) hn rfl)) ?_
  rw [am_gc]
  refine ev_b (ev_p (fs1 := [.ref (n + 1), .ref (n + 2), .int 0, .ref (n + 3), .null, .null, .int 0]) (am_gg0 hn) rfl rfl (am_gs0 hn)) ?_
  refine ev_b (ev_o rfl rfl) ?_
  rw [show List.length (h1 ++ (.inr (5, [.ref (n + 1), .ref (n + 2), .int 0, .ref (n + 3), .null, .null, .int 0]) :: ((([] ++ [.inl (0, 60, .inl (fun _ => 0))]) ++ [.inl (0, 60, .inl (fun _ => 0))]) ++ cl_3 (n + 3))) : am_H) = n + 11 from am_gl hn rfl]
  refine ev_i (ev_ok (am_gg0 (am_gl (k := 11) hn rfl))) ?_
  refine ev_cV (ce_18 _ _ (am_gl (k := 11) hn rfl) 120 (by decide) (by decide)) ?_
  rw [am_gc]
  refine ev_b (ev_p (fs1 := [.ref (n + 1), .ref (n + 2), .int 0, .ref (n + 3), .ref (n + 11), .null, .int 0]) (am_gg0 hn) rfl rfl (am_gs0 hn)) ?_
  refine ev_b (ev_p (fs1 := [.ref (n + 1), .ref (n + 2), .int 0, .ref (n + 3), .ref (n + 11), .null, .int 0]) (am_gg0 hn) rfl rfl (am_gs0 hn)) ?_
  refine ev_b (ev_p (fs1 := [.ref (n + 1), .ref (n + 2), .int 0, .ref (n + 3), .ref (n + 11), .null, .int 0]) (am_gg0 hn) rfl rfl (am_gs0 hn)) ?_
  rfl
theorem cn_19 (n : Nat) : (cl_19 n).length = 13 := rfl
