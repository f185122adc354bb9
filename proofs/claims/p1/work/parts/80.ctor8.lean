/-! ===== constructors: Ranks, Turner, BreedingHouse, BreedingHouseModel ===== -/
theorem ev_sA {a b t n : Nat} {i : Int32} {f : Nat → Option Nat} {ev : am_E} {h h1 : am_H} (ha : h[a]? = some (.inl (t, n, .inr (.inr (.inr (.inr f)))))) (hb : h[b]? = some ev) (hc : (am_comp t ev && am_inb i n) = true) (hh : h.set a (.inl (t, n, .inr (.inr (.inr (.inr (va_up f i.toNatClampNeg (some b))))))) = h1) : am_pSA (.ref a) i (.ref b) h = some h1 := sorry
set_option maxRecDepth 20000 in
set_option maxHeartbeats 4000000 in
theorem ce_8 {N : Nat} (h1 : am_H) (n : Nat) (hn : h1.length = n) (hN : 200 < N) : fm_8 N (.ref n) (h1 ++ [.inr (4, [.null, .null, .null, .null, .null, .null, .int 0, .null, .int 0])]) = some (.inl (none, h1 ++ cl_8 n rkAll)) := sorry
theorem cn_8 (n : Nat) : (cl_8 n rkAll).length = 13 := rfl
