/-! ===== add ===== -/
def filf (f : Nat → Int32) (v : Int32) (i : Nat) : Nat → Int32 := fun j => if j < i then v else f j
set_option maxRecDepth 100000 in
set_option maxHeartbeats 4000000 in
theorem filf_0 (f : Nat → Int32) (v : Int32) : filf f v 0 = f := by
  funext j
  unfold filf
  rw [if_neg (by omega)]
set_option maxRecDepth 100000 in
set_option maxHeartbeats 4000000 in
theorem filf_s (f : Nat → Int32) (v : Int32) (i : Nat) : upd (filf f v i) i v = filf f v (i + 1) := by
  funext j
  show (if j = i then v else filf f v i j) = _
  unfold filf
  by_cases c : j = i
  · rw [if_pos c, if_pos (by omega)]
  · rw [if_neg c]
    by_cases c2 : j < i
    · rw [if_pos c2, if_pos (by omega)]
    · rw [if_neg c2, if_neg (by omega)]
theorem set_same {h : am_H} {a : Nat} {e : am_E} (ha : h[a]? = some e) : h.set a e = h := by
  obtain ⟨hl, he⟩ := List.getElem?_eq_some_iff.mp ha
  rw [← he, List.set_getElem_self]
set_option maxRecDepth 100000 in
set_option maxHeartbeats 4000000 in
theorem e_53 {h : am_H} {a n N : Nat} {f : Nat → Int32} {v : Int32} (ha : h[a]? = some (.inl (0, n, .inl f))) (hn : n < 2 ^ 30) (hN : n < N) : fm_53 N (.ref a) v h = some (.inl (none, h.set a (.inl (0, n, .inl (filf f v n))))) := by
  have hl : a < h.length := (List.getElem?_eq_some_iff.mp ha).1
  have k : ∀ (m i K : Nat), i + m = n → m < K → fg_53_5 N K (.ref a) v (nI i) (nI n) (h.set a (.inl (0, n, .inl (filf f v i)))) = some (.inl (none, h.set a (.inl (0, n, .inl (filf f v n))))) := by
    intro m
    induction m with
    | zero =>
      intro i K hm hK
      obtain ⟨K, rfl⟩ : ∃ k, K = k + 1 := ⟨K - 1, by omega⟩
      rw [fg_53_5]
      refine ev_t (nI_le (by omega) (by omega)) ?_
      rw [show i = n by omega]
    | succ m ih =>
      intro i K hm hK
      obtain ⟨K, rfl⟩ : ∃ k, K = k + 1 := ⟨K - 1, by omega⟩
      rw [fg_53_5]
      refine ev_f (nI_ge (by omega) (by omega)) ?_
      refine ev_b (ev_s (h1 := h.set a (.inl (0, n, .inl (filf f v (i + 1))))) (List.getElem?_set_self hl) (am_inb_n (by omega) (by omega)) rfl (by rw [nI_clamp (by omega), filf_s, List.set_set])) ?_
      rw [nI_1]
      exact ih (i + 1) K (by omega) (by omega)
  unfold fm_53 fg_53_0
  refine ev_b (a := nI n) (by unfold am_pLen; simp only [ha]; rfl) ?_
  have k0 := k n 0 N (by omega) (by omega)
  rw [filf_0, set_same ha] at k0
  exact k0
set_option maxRecDepth 100000 in
set_option maxHeartbeats 4000000 in
theorem ev_cpy {h h1 : am_H} {a b n0 n1 : Nat} {f g : Nat → Int32} {sp dp n : Nat} (ha : h[a]? = some (.inl (0, n0, .inl f))) (hb : h[b]? = some (.inl (0, n1, .inl g))) (h0 : sp + n ≤ n0) (h2 : dp + n ≤ n1) (h3 : n0 < 2 ^ 30) (h4 : n1 < 2 ^ 30) (hh : h.set b (.inl (0, n1, .inl (va_cpy f g sp dp n))) = h1) : am_pCpy (.ref a) (nI sp) (.ref b) (nI dp) (nI n) h = some h1 := by
  subst hh
  unfold am_pCpy
  simp only [ha, hb, nI_clamp (show sp < 2 ^ 31 by omega), nI_clamp (show dp < 2 ^ 31 by omega), nI_clamp (show n < 2 ^ 31 by omega)]
  rw [if_pos]
  simp only [Bool.and_eq_true, decide_eq_true_eq, beq_self_eq_true, true_and]
  exact ⟨⟨⟨⟨nI_pos' (by omega), nI_pos' (by omega)⟩, nI_pos' (by omega)⟩, Nat.ble_eq_true_of_le h0⟩, Nat.ble_eq_true_of_le h2⟩
/-- the draft with a case's numbers -/
def dft (D : Nat → Int32) (x y z w g i : Int32) : Nat → Int32 := upd (upd (upd (upd (upd (upd D 0 x) 1 y) 2 z) 3 w) 4 g) 5 i
set_option maxRecDepth 100000 in
set_option maxHeartbeats 4000000 in
theorem c_104 {V : Nat → Nat → Value} {I : Nat → Nat → Int32} {L : Nat → Nat → Int64} {R : Nat → Nat → Option Nat} {tl : am_H} {N k : Nat} (hk : V 14 1 = .int (nI k)) (hk24 : k < 24) (hN : 15 < N) {x y z w g i : Int32} (c1 : ¬ g < 1) (c2 : g ≤ 9) :
    fm_104 N (.ref 0) x y z w g i (fx V I L R ++ tl) = some (.inl (some (.int (nI k)), fx (vup V 14 1 (.int (nI (k + 1)))) (iup (iup I 15 (va_cpy (dft (I 164) x y z w g (if i = 0 then 0 else 1)) (I 15) 0 (15 * k) 15)) 164 (filf (dft (I 164) x y z w g (if i = 0 then 0 else 1)) 0 15)) L R ++ tl)) := by
  have hc : ∀ {I : Nat → Nat → Int32}, am_vI (am_pG 513 (.ref 14) (fx V I L R ++ tl)) = some (nI k) := fun {I} => by
    show am_vI (some (V 14 1)) = _
    rw [hk]
    rfl
  have h97 : ∀ (I0 : Nat → Nat → Int32) (v : Int32), I0 15 = I 15 → fg_104_97 N (.ref 0) (.ref 164) 5 v (fx V I0 L R ++ tl) = some (.inl (some (.int (nI k)), fx (vup V 14 1 (.int (nI (k + 1)))) (iup (iup I0 15 (va_cpy (upd (I0 164) 5 v) (I 15) 0 (15 * k) 15)) 164 (filf (upd (I0 164) 5 v) 0 15)) L R ++ tl)) := by
    intro I0 v hI
    unfold fg_104_97
    refine ev_b (a := fx V (iup I0 164 (upd (I0 164) 5 v)) L R ++ tl) (ev_s rfl rfl rfl rfl) ?_
    refine ev_b (a := .ref 14) rfl ?_
    refine ev_b (a := .ref 164) rfl ?_
    refine ev_i rfl ?_
    have h105 : fm_105 (.ref 14) (.ref 164) (fx V (iup I0 164 (upd (I0 164) 5 v)) L R ++ tl) = some (.inl (some (.int (nI k)), fx (vup V 14 1 (.int (nI (k + 1)))) (iup (iup I0 164 (upd (I0 164) 5 v)) 15 (va_cpy (upd (I0 164) 5 v) (I 15) 0 (15 * k) 15)) L R ++ tl)) := by
      unfold fm_105 fg_105_0
      refine ev_b (a := .ref 15) rfl ?_
      refine ev_b hc ?_
      rw [show nI k * 15 = nI (15 * k) by rw [Nat.mul_comm, nI_mul]; rfl]
      refine ev_b (ev_cpy (n0 := 15) (n1 := 360) (f := upd (I0 164) 5 v) (g := I 15) (sp := 0) (n := 15) (h1 := fx V (iup (iup I0 164 (upd (I0 164) 5 v)) 15 (va_cpy (upd (I0 164) 5 v) (I 15) 0 (15 * k) 15)) L R ++ tl) rfl (by rw [← hI]; rfl) (by omega) (by omega) (by omega) (by omega) rfl) ?_
      refine ev_b hc ?_
      rw [nI_1]
      refine ev_b (a := fx (vup V 14 1 (.int (nI (k + 1)))) (iup (iup I0 164 (upd (I0 164) 5 v)) 15 (va_cpy (upd (I0 164) 5 v) (I 15) 0 (15 * k) 15)) L R ++ tl) (ev_p rfl rfl rfl rfl) ?_
      refine ev_b (a := nI (k + 1)) rfl ?_
      rw [nI_pred]
    refine ev_cI h105 ?_
    refine ev_b (a := .ref 164) rfl ?_
    refine ev_cV (e_53 (n := 15) (f := upd (I0 164) 5 v) rfl (by omega) (by omega)) ?_
    rfl
  unfold fm_104 fg_104_0
  refine ev_f c1 ?_
  refine ev_t c2 ?_
  refine ev_b (a := .ref 14) rfl ?_
  refine ev_b hc ?_
  refine ev_t (nI_lt hk24 (by decide)) ?_
  refine ev_b (a := .ref 164) rfl ?_
  refine ev_b (a := fx V (iup I 164 (upd (I 164) 0 x)) L R ++ tl) (ev_s rfl rfl rfl rfl) ?_
  refine ev_b (a := .ref 164) rfl ?_
  refine ev_b (a := fx V (iup I 164 (upd (upd (I 164) 0 x) 1 y)) L R ++ tl) (ev_s rfl rfl rfl rfl) ?_
  refine ev_b (a := .ref 164) rfl ?_
  refine ev_b (a := fx V (iup I 164 (upd (upd (upd (I 164) 0 x) 1 y) 2 z)) L R ++ tl) (ev_s rfl rfl rfl rfl) ?_
  refine ev_b (a := .ref 164) rfl ?_
  refine ev_b (a := fx V (iup I 164 (upd (upd (upd (upd (I 164) 0 x) 1 y) 2 z) 3 w)) L R ++ tl) (ev_s rfl rfl rfl rfl) ?_
  refine ev_b (a := .ref 164) rfl ?_
  refine ev_b (a := fx V (iup I 164 (upd (upd (upd (upd (upd (I 164) 0 x) 1 y) 2 z) 3 w) 4 g)) L R ++ tl) (ev_s rfl rfl rfl rfl) ?_
  refine ev_b (a := .ref 164) rfl ?_
  by_cases c3 : i = 0
  · refine ev_t c3 ?_
    rw [if_pos c3]
    exact h97 (iup I 164 (upd (upd (upd (upd (upd (I 164) 0 x) 1 y) 2 z) 3 w) 4 g)) 0 rfl
  · refine ev_f c3 ?_
    rw [if_neg c3]
    exact h97 (iup I 164 (upd (upd (upd (upd (upd (I 164) 0 x) 1 y) 2 z) 3 w) 4 g)) 1 rfl
/-- the reference's row of a case, i numbers of it laid -/
def rws (Q row : Nat → Int32) (r k : Nat) : Nat → Nat → Int32
  | 0 => Q
  | i + 1 => upd (rws Q row r k i) (8 * k + i) (if i < r then row i else 0)
set_option maxRecDepth 100000 in
set_option maxHeartbeats 4000000 in
theorem r_396 {V : Nat → Nat → Value} {I : Nat → Nat → Int32} {L : Nat → Nat → Int64} {R : Nat → Nat → Option Nat} {tl : am_H} {N k r : Nat} (hk : V 174 31 = .int (nI k)) (hk24 : k < 24) (hr : V 174 40 = .int (nI r)) (hr8 : r ≤ 8) (hN : 10 < N) {x y z w g i : Int32} (hi : am_afit 2 i = true) (c1 : ¬ g < 1) (c2 : g ≤ 9) :
    fm_396 N (.ref 174) x y z w g i (fx V I L R ++ tl) = some (.inl (some (.int (nI k)), fx (vup (vup (vup V 174 0 (.int 0)) 174 40 (.int 0)) 174 31 (.int (nI (k + 1)))) (iup (iup (iup (iup (iup (iup (iup (iup I 197 (upd (I 197) k x)) 198 (upd (I 198) k y)) 199 (upd (I 199) k z)) 200 (upd (I 200) k w)) 201 (upd (I 201) k g)) 202 (upd (I 202) k i)) 203 (upd (I 203) k (nI r))) 204 (rws (I 204) (I 205) r k 8)) L R ++ tl)) := by
  have hin : am_inb (nI k) 24 = true := am_inb_n hk24 (by omega)
  have hcl : (nI k).toNatClampNeg = k := nI_clamp (by omega)
  have hc : ∀ {I : Nat → Nat → Int32}, am_vI (am_pG 3103 (.ref 174) (fx (vup V 174 0 (.int 0)) I L R ++ tl)) = some (nI k) := fun {I} => by
    show am_vI (some (V 174 31)) = _
    rw [hk]
    rfl
  have hrr : ∀ {I : Nat → Nat → Int32}, am_vI (am_pG 3112 (.ref 174) (fx (vup V 174 0 (.int 0)) I L R ++ tl)) = some (nI r) := fun {I} => by
    show am_vI (some (V 174 40)) = _
    rw [hr]
    rfl
  have loop : ∀ (J : Nat → Nat → Int32), J 205 = I 205 → ∀ (m j K : Nat), j + m = 8 → m < K → fg_396_123 N K (.ref 174) (nI j) (fx (vup V 174 0 (.int 0)) (iup J 204 (rws (I 204) (I 205) r k j)) L R ++ tl) = some (.inl (some (.int (nI k)), fx (vup (vup (vup V 174 0 (.int 0)) 174 40 (.int 0)) 174 31 (.int (nI (k + 1)))) (iup J 204 (rws (I 204) (I 205) r k 8)) L R ++ tl)) := by
    intro J hJ m
    induction m with
    | zero =>
      intro j K hm hK
      obtain ⟨K, rfl⟩ : ∃ k, K = k + 1 := ⟨K - 1, by omega⟩
      obtain rfl : j = 8 := by omega
      rw [fg_396_123]
      refine ev_t (by decide) ?_
      refine ev_b (a := fx (vup (vup V 174 0 (.int 0)) 174 40 (.int 0)) (iup J 204 (rws (I 204) (I 205) r k 8)) L R ++ tl) (ev_p rfl rfl rfl rfl) ?_
      refine ev_b (a := nI k) (by show am_vI (some (V 174 31)) = _; rw [hk]; rfl) ?_
      rw [nI_1]
      refine ev_b (a := fx (vup (vup (vup V 174 0 (.int 0)) 174 40 (.int 0)) 174 31 (.int (nI (k + 1)))) (iup J 204 (rws (I 204) (I 205) r k 8)) L R ++ tl) (ev_p rfl rfl rfl rfl) ?_
      refine ev_b (a := nI (k + 1)) rfl ?_
      rw [nI_pred]
    | succ m ih =>
      intro j K hm hK
      obtain ⟨K, rfl⟩ : ∃ k, K = k + 1 := ⟨K - 1, by omega⟩
      rw [fg_396_123]
      refine ev_f (nI_ge (show j < 8 by omega) (by decide)) ?_
      refine ev_b (a := .ref 204) rfl ?_
      refine ev_b hc ?_
      refine ev_b hrr ?_
      rw [show 8 * nI k + nI j = nI (8 * k + j) by rw [← nI_add, nI_mul]; rfl]
      have hst : ∀ v : Int32, v = (if j < r then I 205 j else 0) → fg_396_164 N (fg_396_123 N K) (.ref 174) (nI j) (.ref 204) (nI (8 * k + j)) v (fx (vup V 174 0 (.int 0)) (iup J 204 (rws (I 204) (I 205) r k j)) L R ++ tl) = some (.inl (some (.int (nI k)), fx (vup (vup (vup V 174 0 (.int 0)) 174 40 (.int 0)) 174 31 (.int (nI (k + 1)))) (iup J 204 (rws (I 204) (I 205) r k 8)) L R ++ tl)) := by
        intro v hv
        unfold fg_396_164
        refine ev_b (ev_s (f := rws (I 204) (I 205) r k j) (n := 192) (h1 := fx (vup V 174 0 (.int 0)) (iup J 204 (rws (I 204) (I 205) r k (j + 1))) L R ++ tl) rfl (am_inb_n (by omega) (by omega)) rfl (by rw [nI_clamp (by omega), hv]; rfl)) ?_
        rw [nI_1]
        exact ih (j + 1) K (by omega) (by omega)
      by_cases c : r ≤ j
      · refine ev_t (nI_le c (by omega)) ?_
        exact hst 0 (by rw [if_neg (by omega)])
      · refine ev_f (nI_ge (by omega) (by omega)) ?_
        refine ev_b (a := .ref 205) rfl ?_
        refine ev_b (ev_a (f := I 205) (n := 8) (by rw [← hJ]; rfl) (am_inb_n (by omega) (by omega))) ?_
        rw [nI_clamp (by omega)]
        exact hst _ (by rw [if_pos (by omega)])
  unfold fm_396 fg_396_0
  refine ev_cI (pe_327 _ _ _ _) ?_
  rw [show pv_327 g.toInt64 1 9 = 1 from in_ok (w64le (a := 1) (Int32.not_lt.mp c1)) (w64le (b := 9) c2)]
  refine ev_t (by decide) ?_
  refine ev_b (a := nI k) (by show am_vI (some (V 174 31)) = _; rw [hk]; rfl) ?_
  refine ev_t (fun e => absurd ((nI_eq (by omega) (by decide)).mp e) (Nat.ne_of_lt hk24)) ?_
  unfold fg_396_32
  refine ev_b (a := fx (vup V 174 0 (.int 0)) I L R ++ tl) (ev_p rfl rfl rfl rfl) ?_
  refine ev_b (a := 0) rfl ?_
  refine ev_t (by decide) ?_
  refine ev_b (a := .ref 197) rfl ?_
  refine ev_b hc ?_
  refine ev_b (ev_s (f := I 197) (n := 24) (h1 := fx (vup V 174 0 (.int 0)) (iup I 197 (upd (I 197) k x)) L R ++ tl) rfl hin rfl (by rw [hcl]; rfl)) ?_
  refine ev_b (a := .ref 198) rfl ?_
  refine ev_b hc ?_
  refine ev_b (ev_s (f := I 198) (n := 24) (h1 := fx (vup V 174 0 (.int 0)) (iup (iup I 197 (upd (I 197) k x)) 198 (upd (I 198) k y)) L R ++ tl) rfl hin rfl (by rw [hcl]; rfl)) ?_
  refine ev_b (a := .ref 199) rfl ?_
  refine ev_b hc ?_
  refine ev_b (ev_s (f := I 199) (n := 24) (h1 := fx (vup V 174 0 (.int 0)) (iup (iup (iup I 197 (upd (I 197) k x)) 198 (upd (I 198) k y)) 199 (upd (I 199) k z)) L R ++ tl) rfl hin rfl (by rw [hcl]; rfl)) ?_
  refine ev_b (a := .ref 200) rfl ?_
  refine ev_b hc ?_
  refine ev_b (ev_s (f := I 200) (n := 24) (h1 := fx (vup V 174 0 (.int 0)) (iup (iup (iup (iup I 197 (upd (I 197) k x)) 198 (upd (I 198) k y)) 199 (upd (I 199) k z)) 200 (upd (I 200) k w)) L R ++ tl) rfl hin rfl (by rw [hcl]; rfl)) ?_
  refine ev_b (a := .ref 201) rfl ?_
  refine ev_b hc ?_
  refine ev_b (ev_s (f := I 201) (n := 24) (h1 := fx (vup V 174 0 (.int 0)) (iup (iup (iup (iup (iup I 197 (upd (I 197) k x)) 198 (upd (I 198) k y)) 199 (upd (I 199) k z)) 200 (upd (I 200) k w)) 201 (upd (I 201) k g)) L R ++ tl) rfl hin rfl (by rw [hcl]; rfl)) ?_
  refine ev_b (a := .ref 202) rfl ?_
  refine ev_b hc ?_
  refine ev_b (ev_s (f := I 202) (n := 24) (h1 := fx (vup V 174 0 (.int 0)) (iup (iup (iup (iup (iup (iup I 197 (upd (I 197) k x)) 198 (upd (I 198) k y)) 199 (upd (I 199) k z)) 200 (upd (I 200) k w)) 201 (upd (I 201) k g)) 202 (upd (I 202) k i)) L R ++ tl) rfl hin hi (by rw [hcl]; rfl)) ?_
  refine ev_b (a := .ref 203) rfl ?_
  refine ev_b hc ?_
  refine ev_b hrr ?_
  refine ev_b (ev_s (f := I 203) (n := 24) (h1 := fx (vup V 174 0 (.int 0)) (iup (iup (iup (iup (iup (iup (iup I 197 (upd (I 197) k x)) 198 (upd (I 198) k y)) 199 (upd (I 199) k z)) 200 (upd (I 200) k w)) 201 (upd (I 201) k g)) 202 (upd (I 202) k i)) 203 (upd (I 203) k (nI r))) L R ++ tl) rfl hin rfl (by rw [hcl]; rfl)) ?_
  exact loop (iup (iup (iup (iup (iup (iup (iup I 197 (upd (I 197) k x)) 198 (upd (I 198) k y)) 199 (upd (I 199) k z)) 200 (upd (I 200) k w)) 201 (upd (I 201) k g)) 202 (upd (I 202) k i)) 203 (upd (I 203) k (nI r))) rfl 8 0 N rfl (by omega)
set_option maxRecDepth 100000 in
set_option maxHeartbeats 4000000 in
theorem fits_fx {V : Nat → Nat → Value} {I : Nat → Nat → Int32} {L : Nat → Nat → Int64} {R : Nat → Nat → Option Nat} {tl : am_H} (h1 : tl.length ≤ 1000) (h2 : am_sz tl ≤ 1000000) : fits (fx V I L R ++ tl) := by
  have e : (fx V I L R).map am_sz1 = szl := rfl
  have e2 : szl.sum = 104763 := by decide +kernel
  refine ⟨?_, ?_⟩
  · rw [List.length_append, fx_len]
    omega
  · show ((fx V I L R ++ tl).map am_sz1).sum ≤ _
    rw [List.map_append, List.sum_append, e, e2]
    show 104763 + am_sz tl ≤ _
    omega
set_option maxRecDepth 100000 in
set_option maxHeartbeats 4000000 in
theorem p_13 (q : rkQ) (N : Nat) (hN : 100 < N) (a1 a2 a3 a4 a5 a6 : Int32) : ∃ h', opBI (fm_103 N (.ref 0) a1 a2 a3 a4 a5 (if a6 = 0 then 0 else 1) (.ref 268) (hp0 q)) (fun h1 => fm_396 N (.ref 174) a1 a2 a3 a4 a5 (if a6 = 0 then 0 else 1) h1) vfI h' ∧ fits h' := by
  have hbad : (a5 < 1 ∨ 9 < a5) → ∃ h', opBI (fm_103 N (.ref 0) a1 a2 a3 a4 a5 (if a6 = 0 then 0 else 1) (.ref 268) (hp0 q)) (fun h1 => fm_396 N (.ref 174) a1 a2 a3 a4 a5 (if a6 = 0 then 0 else 1) h1) vfI h' ∧ fits h' := by
    intro hn
    refine ⟨hpT q 1, ⟨1, hpE q, 0, 0, ?_, rfl, ?_, rfl, rfl, fun e => absurd e (by decide)⟩, hpT_fits q 1⟩
    · have hz : fm_104 N (.ref 0) a1 a2 a3 a4 a5 (if a6 = 0 then 0 else 1) (hp0 q) = some (.inr (0, hpE q)) := by
        unfold fm_104 fg_104_0
        by_cases c : a5 < 1
        · exact ev_t c rfl
        · refine ev_f c ?_
          exact ev_f (Int32.not_le.mpr (hn.resolve_left c)) rfl
      simp only [fm_103, fg_103_0, hz]
      rfl
    · unfold fm_396 fg_396_0
      refine ev_cI (pe_327 _ _ _ _) ?_
      rw [show pv_327 a5.toInt64 1 9 = 0 from hn.elim (fun h9 => in_lo (w64lt (b := 1) h9)) (fun h9 => in_hi (w64lt (a := 9) h9))]
      rfl
  by_cases c1 : a5 < 1
  · exact hbad (.inl c1)
  · by_cases c2 : a5 ≤ 9
    · have hi : am_afit 2 (if a6 = 0 then 0 else 1) = true := by
        by_cases c : a6 = 0
        · rw [if_pos c]; rfl
        · rw [if_neg c]; rfl
      generalize (if a6 = 0 then (0 : Int32) else 1) = z at hi ⊢
      have hz : fm_104 N (.ref 0) a1 a2 a3 a4 a5 z (hp0 q) = some (.inl (some (.int 0), fx (vup V0 14 1 (.int (nI (0 + 1)))) (iup (iup I0 15 (va_cpy (dft (I0 164) a1 a2 a3 a4 a5 (if z = 0 then 0 else 1)) (I0 15) 0 (15 * 0) 15)) 164 (filf (dft (I0 164) a1 a2 a3 a4 a5 (if z = 0 then 0 else 1)) 0 15)) (L0 q) R0 ++ [])) := c_104 (V := V0) (I := I0) (L := L0 q) (R := R0) (tl := []) (k := 0) rfl (by omega) (by omega) c1 c2
      have hr := r_396 (V := vup V0 14 1 (.int (nI (0 + 1)))) (I := iup (iup I0 15 (va_cpy (dft (I0 164) a1 a2 a3 a4 a5 (if z = 0 then 0 else 1)) (I0 15) 0 (15 * 0) 15)) 164 (filf (dft (I0 164) a1 a2 a3 a4 a5 (if z = 0 then 0 else 1)) 0 15)) (L := lup (L0 q) 268 (vp_updL (L0 q 268) 0 0)) (R := R0) (tl := []) (N := N) (k := 0) (r := 0) (x := a1) (y := a2) (z := a3) (w := a4) (g := a5) (i := z) rfl (by omega) rfl (by omega) (by omega) hi c1 c2
      refine ⟨_, ⟨0, fx (vup V0 14 1 (.int (nI (0 + 1)))) (iup (iup I0 15 (va_cpy (dft (I0 164) a1 a2 a3 a4 a5 (if z = 0 then 0 else 1)) (I0 15) 0 (15 * 0) 15)) 164 (filf (dft (I0 164) a1 a2 a3 a4 a5 (if z = 0 then 0 else 1)) 0 15)) (lup (L0 q) 268 (vp_updL (L0 q 268) 0 0)) R0 ++ [], 0, 0, ?_, rfl, hr, rfl, rfl, fun _ => ⟨rfl, rfl⟩⟩, fits_fx (Nat.zero_le _) (Nat.zero_le _)⟩
      simp only [fm_103, fg_103_0, hz]
      rfl
    · exact hbad (.inr (Int32.not_le.mp c2))
