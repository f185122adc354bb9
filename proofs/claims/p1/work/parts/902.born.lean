/-- numbers copied one by one -/
def csq (D S : Nat → Int32) (x : Nat) : Nat → Nat → Int32
  | 0 => D
  | n + 1 => upd (csq D S x n) (x + n) (S n)
set_option maxRecDepth 100000 in
set_option maxHeartbeats 4000000 in
theorem x_356 {V : Nat → Nat → Value} {I : Nat → Nat → Int32} {L : Nat → Nat → Int64} {R : Nat → Nat → Option Nat} {tl : am_H} {N s m : Nat} {kd nt : Int32} (h1 : V 174 1 = .int (nI m)) (h13 : V 174 13 = .int kd) (h14 : V 174 14 = .int (nI s)) (h15 : V 174 15 = .int nt) (hm : m < 600) (hs : s ≤ 60) (hN : 70 < N) (x1 x2 x3 x4 x5 : Int32) (x6 : Int64) :
    fm_356 N (.ref 174) x1 x2 x3 x4 x5 x6 (fx V I L R ++ tl) = some (.inl (some (.int (nI m)), fx (vup V 174 1 (.int (nI (m + 1)))) (iup (iup (iup (iup (iup (iup (iup (iup (iup (iup I 175 (upd (I 175) m kd)) 176 (upd (I 176) m (nI s))) 177 (upd (I 177) m (if kd = 3 then nt else 0))) 178 (upd (I 178) m x1)) 179 (upd (I 179) m x2)) 180 (upd (I 180) m x3)) 181 (upd (I 181) m x4)) 182 (upd (I 182) m x5)) 184 (csq (I 184) (I 186) (60 * m) s)) 185 (csq (I 185) (I 187) (60 * m) s)) (lup L 183 (vp_updL (L 183) m x6)) R ++ tl)) := by
  have hin : am_inb (nI m) 600 = true := am_inb_n hm (by omega)
  have hcl : (nI m).toNatClampNeg = m := nI_clamp (by omega)
  have g1 : ∀ {I : Nat → Nat → Int32} {L : Nat → Nat → Int64}, am_vI (am_pG 3073 (.ref 174) (fx V I L R ++ tl)) = some (nI m) := fun {I L} => by show am_vI (some (V 174 1)) = _; rw [h1]; rfl
  have g13 : ∀ {I : Nat → Nat → Int32} {L : Nat → Nat → Int64}, am_vI (am_pG 3085 (.ref 174) (fx V I L R ++ tl)) = some kd := fun {I L} => by show am_vI (some (V 174 13)) = _; rw [h13]; rfl
  have g14 : ∀ {I : Nat → Nat → Int32} {L : Nat → Nat → Int64}, am_vI (am_pG 3086 (.ref 174) (fx V I L R ++ tl)) = some (nI s) := fun {I L} => by show am_vI (some (V 174 14)) = _; rw [h14]; rfl
  have g15 : ∀ {I : Nat → Nat → Int32} {L : Nat → Nat → Int64}, am_vI (am_pG 3087 (.ref 174) (fx V I L R ++ tl)) = some nt := fun {I L} => by show am_vI (some (V 174 15)) = _; rw [h15]; rfl
  have loop : ∀ (j i K : Nat), i + j = s → j < K → fg_356_105 N K (.ref 174) (nI m) (nI i) (fx V (iup (iup (iup (iup (iup (iup (iup (iup (iup (iup I 175 (upd (I 175) m kd)) 176 (upd (I 176) m (nI s))) 177 (upd (I 177) m (if kd = 3 then nt else 0))) 178 (upd (I 178) m x1)) 179 (upd (I 179) m x2)) 180 (upd (I 180) m x3)) 181 (upd (I 181) m x4)) 182 (upd (I 182) m x5)) 184 (csq (I 184) (I 186) (60 * m) i)) 185 (csq (I 185) (I 187) (60 * m) i)) (lup L 183 (vp_updL (L 183) m x6)) R ++ tl) = some (.inl (some (.int (nI m)), fx (vup V 174 1 (.int (nI (m + 1)))) (iup (iup (iup (iup (iup (iup (iup (iup (iup (iup I 175 (upd (I 175) m kd)) 176 (upd (I 176) m (nI s))) 177 (upd (I 177) m (if kd = 3 then nt else 0))) 178 (upd (I 178) m x1)) 179 (upd (I 179) m x2)) 180 (upd (I 180) m x3)) 181 (upd (I 181) m x4)) 182 (upd (I 182) m x5)) 184 (csq (I 184) (I 186) (60 * m) s)) 185 (csq (I 185) (I 187) (60 * m) s)) (lup L 183 (vp_updL (L 183) m x6)) R ++ tl)) := by
    intro j
    induction j with
    | zero =>
      intro i K hi hK
      obtain ⟨K, rfl⟩ : ∃ k, K = k + 1 := ⟨K - 1, by omega⟩
      obtain rfl : i = s := by omega
      rw [fg_356_105]
      refine ev_b g14 ?_
      refine ev_t (nI_le (Nat.le_refl _) (by omega)) ?_
      refine ev_b g1 ?_
      rw [nI_1]
      exact ev_b (pu_174_1 rfl) rfl
    | succ j ih =>
      intro i K hi hK
      obtain ⟨K, rfl⟩ : ∃ k, K = k + 1 := ⟨K - 1, by omega⟩
      rw [fg_356_105]
      refine ev_b g14 ?_
      refine ev_f (nI_ge (by omega) (by omega)) ?_
      refine ev_b (a := .ref 184) rfl ?_
      refine ev_b (a := .ref 186) rfl ?_
      refine ev_b (ev_a (f := I 186) (n := 400) rfl (am_inb_n (by omega) (by omega))) ?_
      rw [show 60 * nI m + nI i = nI (60 * m + i) by rw [← nI_add, nI_mul]; rfl, nI_clamp (by omega : i < 2 ^ 31)]
      refine ev_b (ev_s (f := csq (I 184) (I 186) (60 * m) i) (n := 36000) (h1 := fx V (iup (iup (iup (iup (iup (iup (iup (iup (iup (iup I 175 (upd (I 175) m kd)) 176 (upd (I 176) m (nI s))) 177 (upd (I 177) m (if kd = 3 then nt else 0))) 178 (upd (I 178) m x1)) 179 (upd (I 179) m x2)) 180 (upd (I 180) m x3)) 181 (upd (I 181) m x4)) 182 (upd (I 182) m x5)) 184 (csq (I 184) (I 186) (60 * m) (i + 1))) 185 (csq (I 185) (I 187) (60 * m) i)) (lup L 183 (vp_updL (L 183) m x6)) R ++ tl) rfl (am_inb_n (by omega) (by omega)) rfl (by rw [nI_clamp (by omega)]; rfl)) ?_
      refine ev_b (a := .ref 185) rfl ?_
      refine ev_b (a := .ref 187) rfl ?_
      refine ev_b (ev_a (f := I 187) (n := 400) rfl (am_inb_n (by omega) (by omega))) ?_
      rw [nI_clamp (by omega : i < 2 ^ 31)]
      refine ev_b (ev_s (f := csq (I 185) (I 187) (60 * m) i) (n := 36000) (h1 := fx V (iup (iup (iup (iup (iup (iup (iup (iup (iup (iup I 175 (upd (I 175) m kd)) 176 (upd (I 176) m (nI s))) 177 (upd (I 177) m (if kd = 3 then nt else 0))) 178 (upd (I 178) m x1)) 179 (upd (I 179) m x2)) 180 (upd (I 180) m x3)) 181 (upd (I 181) m x4)) 182 (upd (I 182) m x5)) 184 (csq (I 184) (I 186) (60 * m) (i + 1))) 185 (csq (I 185) (I 187) (60 * m) (i + 1))) (lup L 183 (vp_updL (L 183) m x6)) R ++ tl) rfl (am_inb_n (by omega) (by omega)) rfl (by rw [nI_clamp (by omega)]; rfl)) ?_
      rw [nI_1]
      exact ih (i + 1) K (by omega) (by omega)
  unfold fm_356 fg_356_0
  refine ev_b g1 ?_
  refine ev_b (a := .ref 175) rfl ?_
  refine ev_b g13 ?_
  refine ev_b (ev_s (f := I 175) (n := 600) (h1 := fx V (iup I 175 (upd (I 175) m kd)) L R ++ tl) rfl hin rfl (by rw [hcl]; rfl)) ?_
  refine ev_b (a := .ref 176) rfl ?_
  refine ev_b g14 ?_
  refine ev_b (ev_s (f := I 176) (n := 600) (h1 := fx V (iup (iup I 175 (upd (I 175) m kd)) 176 (upd (I 176) m (nI s))) L R ++ tl) rfl hin rfl (by rw [hcl]; rfl)) ?_
  refine ev_b (a := .ref 177) rfl ?_
  refine ev_b g13 ?_
  have h50 : ∀ v, v = (if kd = 3 then nt else 0) → fg_356_50 N (.ref 174) x1 x2 x3 x4 x5 x6 (nI m) (.ref 177) (nI m) v (fx V (iup (iup I 175 (upd (I 175) m kd)) 176 (upd (I 176) m (nI s))) L R ++ tl) = some (.inl (some (.int (nI m)), fx (vup V 174 1 (.int (nI (m + 1)))) (iup (iup (iup (iup (iup (iup (iup (iup (iup (iup I 175 (upd (I 175) m kd)) 176 (upd (I 176) m (nI s))) 177 (upd (I 177) m (if kd = 3 then nt else 0))) 178 (upd (I 178) m x1)) 179 (upd (I 179) m x2)) 180 (upd (I 180) m x3)) 181 (upd (I 181) m x4)) 182 (upd (I 182) m x5)) 184 (csq (I 184) (I 186) (60 * m) s)) 185 (csq (I 185) (I 187) (60 * m) s)) (lup L 183 (vp_updL (L 183) m x6)) R ++ tl)) := by
    intro v hv
    subst hv
    unfold fg_356_50
    refine ev_b (ev_s (f := I 177) (n := 600) (h1 := fx V (iup (iup (iup I 175 (upd (I 175) m kd)) 176 (upd (I 176) m (nI s))) 177 (upd (I 177) m (if kd = 3 then nt else 0))) L R ++ tl) rfl hin rfl (by rw [hcl]; rfl)) ?_
    refine ev_b (a := .ref 178) rfl ?_
    refine ev_b (ev_s (f := I 178) (n := 600) (h1 := fx V (iup (iup (iup (iup I 175 (upd (I 175) m kd)) 176 (upd (I 176) m (nI s))) 177 (upd (I 177) m (if kd = 3 then nt else 0))) 178 (upd (I 178) m x1)) L R ++ tl) rfl hin rfl (by rw [hcl]; rfl)) ?_
    refine ev_b (a := .ref 179) rfl ?_
    refine ev_b (ev_s (f := I 179) (n := 600) (h1 := fx V (iup (iup (iup (iup (iup I 175 (upd (I 175) m kd)) 176 (upd (I 176) m (nI s))) 177 (upd (I 177) m (if kd = 3 then nt else 0))) 178 (upd (I 178) m x1)) 179 (upd (I 179) m x2)) L R ++ tl) rfl hin rfl (by rw [hcl]; rfl)) ?_
    refine ev_b (a := .ref 180) rfl ?_
    refine ev_b (ev_s (f := I 180) (n := 600) (h1 := fx V (iup (iup (iup (iup (iup (iup I 175 (upd (I 175) m kd)) 176 (upd (I 176) m (nI s))) 177 (upd (I 177) m (if kd = 3 then nt else 0))) 178 (upd (I 178) m x1)) 179 (upd (I 179) m x2)) 180 (upd (I 180) m x3)) L R ++ tl) rfl hin rfl (by rw [hcl]; rfl)) ?_
    refine ev_b (a := .ref 181) rfl ?_
    refine ev_b (ev_s (f := I 181) (n := 600) (h1 := fx V (iup (iup (iup (iup (iup (iup (iup I 175 (upd (I 175) m kd)) 176 (upd (I 176) m (nI s))) 177 (upd (I 177) m (if kd = 3 then nt else 0))) 178 (upd (I 178) m x1)) 179 (upd (I 179) m x2)) 180 (upd (I 180) m x3)) 181 (upd (I 181) m x4)) L R ++ tl) rfl hin rfl (by rw [hcl]; rfl)) ?_
    refine ev_b (a := .ref 182) rfl ?_
    refine ev_b (ev_s (f := I 182) (n := 600) (h1 := fx V (iup (iup (iup (iup (iup (iup (iup (iup I 175 (upd (I 175) m kd)) 176 (upd (I 176) m (nI s))) 177 (upd (I 177) m (if kd = 3 then nt else 0))) 178 (upd (I 178) m x1)) 179 (upd (I 179) m x2)) 180 (upd (I 180) m x3)) 181 (upd (I 181) m x4)) 182 (upd (I 182) m x5)) L R ++ tl) rfl hin rfl (by rw [hcl]; rfl)) ?_
    refine ev_b (a := .ref 183) rfl ?_
    refine ev_b (ev_sL (f := L 183) (n := 600) (h1 := fx V (iup (iup (iup (iup (iup (iup (iup (iup I 175 (upd (I 175) m kd)) 176 (upd (I 176) m (nI s))) 177 (upd (I 177) m (if kd = 3 then nt else 0))) 178 (upd (I 178) m x1)) 179 (upd (I 179) m x2)) 180 (upd (I 180) m x3)) 181 (upd (I 181) m x4)) 182 (upd (I 182) m x5)) (lup L 183 (vp_updL (L 183) m x6)) R ++ tl) rfl hin (by rw [hcl]; rfl)) ?_
    exact loop s 0 N (by omega) (by omega)
  by_cases c3 : kd = 3
  · refine ev_f (fun e9 => e9 c3) ?_
    refine ev_b g15 ?_
    exact h50 nt (by rw [if_pos c3])
  · refine ev_t c3 ?_
    exact h50 0 (by rw [if_neg c3])
