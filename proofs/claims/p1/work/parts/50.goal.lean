/-- WHAT IS LEFT, over functions: on every script of at most 7 ints the law's own function comes to 1, in the claim's room -/
def am_goalF : Prop := ∀ (L : Nat) (xs : Nat → Int32), L ≤ 7 → ∃ (N : Nat) (h1 : am_H), fm_0 (am_X0 L xs) N [] = some (.inl (some (.int 1), h1)) ∧ h1.length ≤ 600002 ∧ am_sz h1 ≤ 7302232
theorem am_goal_of (H : am_goalF) : am_goal := by
  intro L xs hL
  obtain ⟨N, h1, hf, hc, hz⟩ := H L xs hL
  obtain ⟨n, o, hr, ho⟩ := rm_0 (X := am_X0 L xs) (d := 0) (N := N) [] _ hf
  subst ho
  exact ⟨n, 0 + 164, h1, hr, by omega, hc, hz⟩
/-! ===== what a function comes to: a row each ===== -/
theorem ev_b {α β : Type} {o : Option α} {a : α} {f : α → Option β} {r : Option β} (h : o = some a) (k : f a = r) : o.bind f = r := by rw [h]; exact k
theorem ev_i {β : Type} {c : Prop} [Decidable c] {a r : Option β} (hc : c) (k : a = r) : (if c then a else none) = r := by rw [if_pos hc]; exact k
theorem ev_t {β : Type} {c : Prop} [Decidable c] {a b r : Option β} (hc : c) (k : a = r) : (if c then a else b) = r := by rw [if_pos hc]; exact k
theorem ev_f {β : Type} {c : Prop} [Decidable c] {a b r : Option β} (hc : ¬ c) (k : b = r) : (if c then a else b) = r := by rw [if_neg hc]; exact k
theorem ev_cI {t : Bool} {F r : Option am_O} {K : Int32 → am_H → Option am_O} {v : Int32} {h1 : am_H} (h : F = some (.inl (some (.int v), h1))) (k : K v h1 = r) : am_cI t F K = r := by rw [h]; exact k
theorem ev_cL {t : Bool} {F r : Option am_O} {K : Int64 → am_H → Option am_O} {v : Int64} {h1 : am_H} (h : F = some (.inl (some (.long v), h1))) (k : K v h1 = r) : am_cL t F K = r := by rw [h]; exact k
theorem ev_cR {t : Bool} {F r : Option am_O} {K : Value → am_H → Option am_O} {v : Value} {h1 : am_H} (h : F = some (.inl (some v, h1))) (hv : am_isR v = true) (k : K v h1 = r) : am_cR t F K = r := by rw [h]; show (if am_isR v then K v h1 else none) = r; rw [if_pos hv]; exact k
theorem ev_cV {t : Bool} {F r : Option am_O} {K : am_H → Option am_O} {h1 : am_H} (h : F = some (.inl (none, h1))) (k : K h1 = r) : am_cV t F K = r := by rw [h]; exact k
theorem ev_G {r a c : Nat} {h : am_H} {fs : List Value} {x : Value} (hb : h[a]? = some (.inr (c, fs))) (hc : (c == r / 256) = true) (hv : fs[r % 256]? = some x) : am_pG r (.ref a) h = some x := by
  unfold am_pG
  simp only [hb, hc, if_true]
  exact hv
theorem ev_gI {r a c : Nat} {h : am_H} {fs : List Value} {x : Int32} (hb : h[a]? = some (.inr (c, fs))) (hc : (c == r / 256) = true) (hv : fs[r % 256]? = some (.int x)) : am_vI (am_pG r (.ref a) h) = some x := by
  rw [ev_G hb hc hv]
  rfl
theorem ev_gL {r a c : Nat} {h : am_H} {fs : List Value} {x : Int64} (hb : h[a]? = some (.inr (c, fs))) (hc : (c == r / 256) = true) (hv : fs[r % 256]? = some (.long x)) : am_vL (am_pG r (.ref a) h) = some x := by
  rw [ev_G hb hc hv]
  rfl
theorem ev_gR {r a c : Nat} {h : am_H} {fs : List Value} {x : Value} (hb : h[a]? = some (.inr (c, fs))) (hc : (c == r / 256) = true) (hv : fs[r % 256]? = some x) (hx : am_isR x = true) : am_vR (am_pG r (.ref a) h) = some x := by
  rw [ev_G hb hc hv]
  unfold am_vR
  simp only [hx, if_true]
theorem ev_p {r a c : Nat} {h h1 : am_H} {fs fs1 : List Value} {w : Value} (hb : h[a]? = some (.inr (c, fs))) (hc : (c == r / 256 && Nat.blt (r % 256) fs.length && am_fit (am_ty (r / 256) (r % 256)) w) = true) (hf : fs.set (r % 256) w = fs1) (hh : h.set a (.inr (c, fs1)) = h1) : am_pP r (.ref a) w h = some h1 := by
  subst hf
  subst hh
  unfold am_pP
  simp only [hb, hc, if_true]
theorem ev_n {t : Nat} {k : Int32} {h h1 : am_H} (hk : (decide (0 ≤ k) && decide (k ≤ 1000000)) = true) (hh : h ++ [.inl (t, k.toNatClampNeg, am_zero t)] = h1) : am_pNew t k h = some h1 := by
  subst hh
  unfold am_pNew
  rw [if_pos hk]
theorem ev_o {c : Nat} {h h1 : am_H} {fs : List Value} (hf : am_df[c]? = some fs) (hh : h ++ [.inr (c, fs)] = h1) : am_pObj c h = some h1 := by
  subst hh
  unfold am_pObj
  rw [hf]
theorem ev_ok {ow a : Nat} {h : am_H} {fs : List Value} (hb : h[a]? = some (.inr (ow, fs))) : am_pOk ow (.ref a) h = true := by
  unfold am_pOk
  simp only [hb, beq_self_eq_true]
theorem ev_a {t a n : Nat} {i : Int32} {h : am_H} {f : Nat → Int32} (hb : h[a]? = some (.inl (t, n, .inl f))) (hi : am_inb i n = true) : am_pA t (.ref a) i h = some (f i.toNatClampNeg) := by
  unfold am_pA
  simp only [hb, hi, beq_self_eq_true, Bool.and_self, if_true]
theorem ev_aL {a n : Nat} {i : Int32} {h : am_H} {f : Nat → Int64} (hb : h[a]? = some (.inl (1, n, .inr (.inl f)))) (hi : am_inb i n = true) : am_pAL (.ref a) i h = some (f i.toNatClampNeg) := by
  unfold am_pAL
  simp only [hb, hi, beq_self_eq_true, Bool.and_self, if_true]
theorem ev_s {t a n : Nat} {i x : Int32} {h h1 : am_H} {f : Nat → Int32} (hb : h[a]? = some (.inl (t, n, .inl f))) (hi : am_inb i n = true) (hf : am_afit t x = true) (hh : h.set a (.inl (t, n, .inl (upd f i.toNatClampNeg x))) = h1) : am_pS t (.ref a) i x h = some h1 := by
  subst hh
  unfold am_pS
  simp only [hb, hi, hf, beq_self_eq_true, Bool.and_self, if_true]
theorem ev_sL {a n : Nat} {i : Int32} {x : Int64} {h h1 : am_H} {f : Nat → Int64} (hb : h[a]? = some (.inl (1, n, .inr (.inl f)))) (hi : am_inb i n = true) (hh : h.set a (.inl (1, n, .inr (.inl (vp_updL f i.toNatClampNeg x)))) = h1) : am_pSL (.ref a) i x h = some h1 := by
  subst hh
  unfold am_pSL
  simp only [hb, hi, beq_self_eq_true, Bool.and_self, if_true]
theorem am_inb_n {k n : Nat} (h : k < n) (hk : k < 2 ^ 31) : am_inb (nI k) n = true := by
  unfold am_inb
  rw [Bool.and_eq_true, decide_eq_true_eq, decide_eq_true_eq, nI_clamp hk]
  exact ⟨nI_pos' hk, h⟩
