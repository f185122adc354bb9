/-! ===== constructors: Ranks, Turner, BreedingHouse, BreedingHouseModel ===== -/
theorem ev_sA {a b t n : Nat} {i : Int32} {f : Nat → Option Nat} {ev : am_E} {h h1 : am_H} (ha : h[a]? = some (.inl (t, n, .inr (.inr (.inr (.inr f)))))) (hb : h[b]? = some ev) (hc : (am_comp t ev && am_inb i n) = true) (hh : h.set a (.inl (t, n, .inr (.inr (.inr (.inr (va_up f i.toNatClampNeg (some b))))))) = h1) : am_pSA (.ref a) i (.ref b) h = some h1 := by
  subst hh
  unfold am_pSA
  simp only [ha, hb, hc, if_true]
set_option maxRecDepth 20000 in
set_option maxHeartbeats 4000000 in
theorem ce_8 {N : Nat} (h1 : am_H) (n : Nat) (hn : h1.length = n) (hN : 200 < N) : fm_8 N (.ref n) (h1 ++ [.inr (4, [.null, .null, .null, .null, .null, .null, .int 0, .null, .int 0])]) = some (.inl (none, h1 ++ cl_8 n rkAll)) := by
  unfold fm_8
  unfold fg_8_0
  refine ev_i rfl ?_
  refine ev_b (ev_n (by decide) (am_gp (e2 := .inl (1, 1638, .inr (.inl (fun _ => 0)))) rfl)) ?_
  rw [show List.length (h1 ++ (.inr (4, [.null, .null, .null, .null, .null, .null, .int 0, .null, .int 0]) :: []) : am_H) = n + 1 from am_gl hn rfl]
  refine ev_b (ev_p (fs1 := [.ref (n + 1), .null, .null, .null, .null, .null, .int 0, .null, .int 0]) (am_gg0 hn) rfl rfl (am_gs0 hn)) ?_
  refine ev_b (ev_n (by decide) (am_gp (e2 := .inl (1, 78, .inr (.inl (fun _ => 0)))) rfl)) ?_
  rw [show List.length (h1 ++ (.inr (4, [.ref (n + 1), .null, .null, .null, .null, .null, .int 0, .null, .int 0]) :: ([] ++ [.inl (1, 1638, .inr (.inl (fun _ => 0)))])) : am_H) = n + 2 from am_gl hn rfl]
  refine ev_b (ev_p (fs1 := [.ref (n + 1), .ref (n + 2), .null, .null, .null, .null, .int 0, .null, .int 0]) (am_gg0 hn) rfl rfl (am_gs0 hn)) ?_
  refine ev_b (ev_o rfl rfl) ?_
  rw [show List.length (h1 ++ (.inr (4, [.ref (n + 1), .ref (n + 2), .null, .null, .null, .null, .int 0, .null, .int 0]) :: (([] ++ [.inl (1, 1638, .inr (.inl (fun _ => 0)))]) ++ [.inl (1, 78, .inr (.inl (fun _ => 0)))])) : am_H) = n + 3 from am_gl hn rfl]
  refine ev_i (ev_ok (am_gg0 (am_gl (k := 3) hn rfl))) ?_
  refine ev_cV (ce_3 _ _ (am_gl (k := 3) hn rfl)) ?_
  rw [am_gc]
  refine ev_b (ev_p (fs1 := [.ref (n + 1), .ref (n + 2), .ref (n + 3), .null, .null, .null, .int 0, .null, .int 0]) (am_gg0 hn) rfl rfl (am_gs0 hn)) ?_
  refine ev_b (ev_p (fs1 := [.ref (n + 1), .ref (n + 2), .ref (n + 3), .null, .null, .null, .int 0, .null, .int 0]) (am_gg0 hn) rfl rfl (am_gs0 hn)) ?_
  refine ev_b (ev_n (by decide) (am_gp (e2 := .inl (6, 24, .inr (.inr (.inr (.inr (fun _ => none)))))) rfl)) ?_
  rw [show List.length (h1 ++ (.inr (4, [.ref (n + 1), .ref (n + 2), .ref (n + 3), .null, .null, .null, .int 0, .null, .int 0]) :: ((([] ++ [.inl (1, 1638, .inr (.inl (fun _ => 0)))]) ++ [.inl (1, 78, .inr (.inl (fun _ => 0)))]) ++ cl_3 (n + 3))) : am_H) = n + 11 from am_gl hn rfl]
  refine ev_b (ev_p (fs1 := [.ref (n + 1), .ref (n + 2), .ref (n + 3), .null, .ref (n + 11), .null, .int 0, .null, .int 0]) (am_gg0 hn) rfl rfl (am_gs0 hn)) ?_
  refine ev_b (ev_n (by decide) (am_gp (e2 := .inl (0, 24, .inl (fun _ => 0))) rfl)) ?_
  rw [show List.length (h1 ++ (.inr (4, [.ref (n + 1), .ref (n + 2), .ref (n + 3), .null, .ref (n + 11), .null, .int 0, .null, .int 0]) :: (((([] ++ [.inl (1, 1638, .inr (.inl (fun _ => 0)))]) ++ [.inl (1, 78, .inr (.inl (fun _ => 0)))]) ++ cl_3 (n + 3)) ++ [.inl (6, 24, .inr (.inr (.inr (.inr (fun _ => none)))))])) : am_H) = n + 12 from am_gl hn rfl]
  refine ev_b (ev_p (fs1 := [.ref (n + 1), .ref (n + 2), .ref (n + 3), .null, .ref (n + 11), .ref (n + 12), .int 0, .null, .int 0]) (am_gg0 hn) rfl rfl (am_gs0 hn)) ?_
  refine ev_b (ev_p (fs1 := [.ref (n + 1), .ref (n + 2), .ref (n + 3), .null, .ref (n + 11), .ref (n + 12), .int 0, .null, .int 0]) (am_gg0 hn) rfl rfl (am_gs0 hn)) ?_
  refine ev_b (ev_p (fs1 := [.ref (n + 1), .ref (n + 2), .ref (n + 3), .null, .ref (n + 11), .ref (n + 12), .int 0, .null, .int 0]) (am_gg0 hn) rfl rfl (am_gs0 hn)) ?_
  refine ev_b (ev_p (fs1 := [.ref (n + 1), .ref (n + 2), .ref (n + 3), .null, .ref (n + 11), .ref (n + 12), .int 0, .null, .int 0]) (am_gg0 hn) rfl rfl (am_gs0 hn)) ?_
  exact e_8o hn hN 12 1 N (fun _ => 0, fun _ => 0) rfl (by decide) (by omega)
theorem cn_8 (n : Nat) : (cl_8 n rkAll).length = 13 := rfl
