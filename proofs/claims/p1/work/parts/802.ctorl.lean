/-! ===== constructors by small steps ===== -/
theorem am_fit_ref (ty : FieldType) (a b : Nat) : am_fit ty (.ref a) = am_fit ty (.ref b) := by
  cases ty <;> rfl
theorem cs_len {h1 T : am_H} {e : am_E} {n m : Nat} (hn : h1.length = n) (hT : T.length = m) : (h1 ++ (e :: T)).length = n + (1 + m) := by
  rw [List.length_append, List.length_cons, hn, hT]
  omega
theorem cs_put {h1 T : am_H} {fs : List Value} {c n r len : Nat} {v : Value} {K : am_H → Option am_O} {o : Option am_O} (hn : h1.length = n) (hf : fs.length = len) (hr : (c == r / 256 && Nat.blt (r % 256) len && am_fit (am_ty (r / 256) (r % 256)) v) = true)
    (nx : ∀ fs' : List Value, fs' = fs.set (r % 256) v → fs'.length = len → K (h1 ++ (.inr (c, fs') :: T)) = o) : (am_pP r (.ref n) v (h1 ++ (.inr (c, fs) :: T))).bind K = o := by
  refine ev_b (ev_p (fs1 := fs.set (r % 256) v) (am_gg0 hn) (by rw [hf]; exact hr) rfl (am_gs0 hn)) ?_
  exact nx _ rfl (by rw [List.length_set]; exact hf)
theorem cs_new {h1 T : am_H} {fs : List Value} {c n m t r len : Nat} {k : Int32} {K : am_H → Option am_O} {o : Option am_O} (hn : h1.length = n) (hf : fs.length = len) (hT : T.length = m) (hk : (decide (0 ≤ k) && decide (k ≤ 1000000)) = true) (hr : (c == r / 256 && Nat.blt (r % 256) len && am_fit (am_ty (r / 256) (r % 256)) (.ref 0)) = true)
    (nx : ∀ (fs' : List Value) (T' : am_H), fs' = fs.set (r % 256) (.ref (n + (1 + m))) → T' = T ++ [.inl (t, k.toNatClampNeg, am_zero t)] → fs'.length = len → T'.length = m + 1 → K (h1 ++ (.inr (c, fs') :: T')) = o) : (am_pNew t k (h1 ++ (.inr (c, fs) :: T))).bind (fun h2 => (am_pP r (.ref n) (.ref (List.length (h1 ++ (.inr (c, fs) :: T)))) h2).bind K) = o := by
  refine ev_b (ev_n hk (am_gp rfl)) ?_
  rw [cs_len hn hT]
  refine cs_put hn hf (by rw [am_fit_ref _ _ 0]; exact hr) (fun fs' e1 e2 => ?_)
  exact nx fs' _ e1 rfl e2 (by rw [List.length_append, hT]; rfl)
theorem cs_obj {h1 T : am_H} {fs fs0 : List Value} {c cls n m q r len : Nat} {F : Value → am_H → Option am_O} {C : am_H} {K : am_H → Option am_O} {o : Option am_O} (hn : h1.length = n) (hf : fs.length = len) (hT : T.length = m) (hC : C.length = q) (hdf : am_df[cls]? = some fs0) (hce : ∀ H : am_H, H.length = n + (1 + m) → F (.ref (n + (1 + m))) (H ++ [.inr (cls, fs0)]) = some (.inl (none, H ++ C))) (hr : (c == r / 256 && Nat.blt (r % 256) len && am_fit (am_ty (r / 256) (r % 256)) (.ref 0)) = true)
    (nx : ∀ (fs' : List Value) (T' : am_H), fs' = fs.set (r % 256) (.ref (n + (1 + m))) → T' = T ++ C → fs'.length = len → T'.length = m + q → K (h1 ++ (.inr (c, fs') :: T')) = o) : (am_pObj cls (h1 ++ (.inr (c, fs) :: T))).bind (fun h2 => if am_pOk cls (.ref (List.length (h1 ++ (.inr (c, fs) :: T)))) h2 then am_cV false (F (.ref (List.length (h1 ++ (.inr (c, fs) :: T)))) h2) (fun h6 => (am_pP r (.ref n) (.ref (List.length (h1 ++ (.inr (c, fs) :: T)))) h6).bind K) else none) = o := by
  refine ev_b (ev_o hdf rfl) ?_
  rw [cs_len hn hT]
  refine ev_i (ev_ok (am_gg0 (cs_len hn hT))) ?_
  refine ev_cV (hce _ (cs_len hn hT)) ?_
  rw [am_gc]
  refine cs_put hn hf (by rw [am_fit_ref _ _ 0]; exact hr) (fun fs' e1 e2 => ?_)
  exact nx fs' _ e1 rfl e2 (by rw [List.length_append, hT, hC])
