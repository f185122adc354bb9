/-! ===== running a machine ===== -/
/-- the items from k on, m of them: fault, steps, state -/
def mrun (nx : Nat → Nat → Nat) (cl : Nat → Nat) (lm : Nat) : Nat → Nat → Nat → Nat → Int32 × Nat × Nat
  | 0, _, u, q => (0, u, q)
  | m + 1, k, u, q => if u < lm then mrun nx cl lm m (k + 1) (u + 1) (nx q (cl k)) else (3, u, q)
theorem mrun_q {nx : Nat → Nat → Nat} {cl : Nat → Nat} {lm sz : Nat} (h : ∀ q c, q < sz → c < 4 → nx q c < sz) (hc : ∀ k, cl k < 4) : ∀ (m k u q : Nat), q < sz → (mrun nx cl lm m k u q).2.2 < sz := by
  intro m
  induction m with
  | zero => intro k u q hq; exact hq
  | succ m ih =>
    intro k u q hq
    rw [mrun]
    by_cases c : u < lm
    · rw [if_pos c]; exact ih _ _ _ (h q _ hq (hc k))
    · rw [if_neg c]; exact hq
theorem mrun_f {nx : Nat → Nat → Nat} {cl : Nat → Nat} {lm : Nat} : ∀ (m k u q : Nat), u ≤ lm → ((mrun nx cl lm m k u q).1 = 0 ∨ (mrun nx cl lm m k u q).1 = 3) ∧ (mrun nx cl lm m k u q).2.1 ≤ lm := by
  intro m
  induction m with
  | zero => intro k u q hu; exact ⟨.inl rfl, hu⟩
  | succ m ih =>
    intro k u q hu
    rw [mrun]
    by_cases d : u < lm
    · rw [if_pos d]; exact ih _ _ _ (by omega)
    · rw [if_neg d]; exact ⟨.inr rfl, hu⟩
set_option maxRecDepth 100000 in
set_option maxHeartbeats 4000000 in
theorem c_124l {V : Nat → Nat → Value} {I : Nat → Nat → Int32} {L : Nat → Nat → Int64} {R : Nat → Nat → Option Nat} {tl : am_H} {N a it ln sz m0 lm len : Nat} {f : Nat → Int32} {nx : Nat → Nat → Nat} {cl : Nat → Nat} (hp : prA V I tl a it 2 ln sz m0 f) (ha : a ≠ 16) (h4 : V 16 4 = .ref a) (hl : V 16 0 = .int (nI lm)) (hlm : lm ≤ 2000) (hsz : sz ≤ 6) (hm0 : sz * wdN 2 ≤ m0) (hm1 : m0 ≤ 1000) (h10 : V 16 10 = .int (nI len)) (hlen : len ≤ 8) (hnx : ∀ q c, q < sz → c < 4 → f (q * 5 + (1 + c)) = nI (nx q c) ∧ nx q c < sz) (hcl : ∀ k, k < len → cl k < 4 ∧ ∀ h, fm_125 (I 25 k) 4 h = some (.inl (some (.int (nI (cl k))), h))) : ∀ (m k K u q : Nat), k + m = len → m + 1 < K → u ≤ lm → q < sz → fg_124_9 N K (.ref 16) (nI q) (nI k) (fx (rsC V 0 u) I L R ++ tl) = fg_124_58 N (.ref 16) (nI (mrun nx cl lm m k u q).2.2) (fx (rsC V (mrun nx cl lm m k u q).1 (mrun nx cl lm m k u q).2.1) I L R ++ tl) := by
  have hpg : ∀ (x : Int32) (u : Nat), pg (fx (rsC V x u) I L R ++ tl) a it 2 ln sz m0 f := fun x u => hp _ _ _ _ (fun j => by show vup (vup V 16 1 _) 16 2 _ a j = _; rw [vup_na ha, vup_na ha]) rfl
  have h4' : ∀ (x : Int32) (u : Nat), am_vR (am_pG 1540 (.ref 16) (fx (rsC V x u) I L R ++ tl)) = some (.ref a) := fun x u => by
    show am_vR (some (V 16 4)) = _
    rw [h4]
    rfl
  have h10' : ∀ (x : Int32) (u : Nat), am_vI (am_pG 1546 (.ref 16) (fx (rsC V x u) I L R ++ tl)) = some (nI len) := fun x u => by
    show am_vI (some (V 16 10)) = _
    rw [h10]
    rfl
  intro m
  induction m with
  | zero =>
    intro k K u q hk hK hu hq
    obtain ⟨K, rfl⟩ : ∃ k, K = k + 1 := ⟨K - 1, by omega⟩
    rw [fg_124_9]
    exact ev_b (h10' 0 u) (ev_t (nI_le (by omega) (by omega)) rfl)
  | succ m ih =>
    intro k K u q hk hK hu hq
    obtain ⟨K, rfl⟩ : ∃ k, K = k + 1 := ⟨K - 1, by omega⟩
    by_cases d : u < lm
    · have e : mrun nx cl lm (m + 1) k u q = mrun nx cl lm m (k + 1) (u + 1) (nx q (cl k)) := if_pos d
      obtain ⟨c1, c2⟩ := hcl k (by omega)
      obtain ⟨n1, n2⟩ := hnx q (cl k) hq c1
      have g0 := c_54 (k := q) (w := 1 + cl k) (hpg 0 (u + 1)) hm0 hm1 (by omega) hq (by show 1 + cl k < 5; omega)
      rw [show q * wdN 2 + (1 + cl k) = q * 5 + (1 + cl k) from rfl, n1] at g0
      obtain ⟨x1, x2, x3, x4, x5, x6, p1, p2⟩ := hpg 0 (u + 1)
      rw [e, fg_124_9]
      refine ev_b (h10' 0 u) (ev_f (nI_ge (by omega) (by omega)) (ev_b (a := (0 : Int32)) rfl (ev_f (fun e => e rfl) (ev_i rfl (ev_cI (c_118 hl d hlm) (ev_f (by decide) (ev_b (h4' 0 (u + 1)) (ev_b (a := Value.ref 25) rfl (ev_b (qa_25 (by omega)) (ev_cI (c2 _) (ev_i (ev_ok p1) ?_)))))))))))
      rw [show (1 : Int32) + nI (cl k) = nI (1 + cl k) from nI_add 1 (cl k)]
      refine ev_cI g0 ?_
      unfold fg_124_52
      rw [nI_1]
      exact ih (k + 1) K (u + 1) (nx q (cl k)) (by omega) (by omega) (by omega) n2
    · have e : mrun nx cl lm (m + 1) k u q = (3, u, q) := if_neg d
      rw [e, fg_124_9]
      refine ev_b (h10' 0 u) (ev_f (nI_ge (by omega) (by omega)) (ev_b (a := (0 : Int32)) rfl (ev_f (fun e => e rfl) (ev_i rfl (ev_cI (c_118n hl (by omega) (by omega)) (ev_t rfl ?_))))))
      unfold fg_124_52
      rw [nI_1]
      obtain ⟨K, rfl⟩ : ∃ k, K = k + 1 := ⟨K - 1, by omega⟩
      rw [fg_124_9]
      refine ev_b (h10' 3 u) ?_
      by_cases c : nI len ≤ nI (k + 1)
      · exact ev_t c rfl
      · exact ev_f c (ev_b (a := (3 : Int32)) rfl (ev_t (by decide) rfl))
set_option maxRecDepth 100000 in
set_option maxHeartbeats 4000000 in
theorem c_124 {V : Nat → Nat → Value} {I : Nat → Nat → Int32} {L : Nat → Nat → Int64} {R : Nat → Nat → Option Nat} {tl : am_H} {N a it ln sz m0 lm len : Nat} {f : Nat → Int32} {nx : Nat → Nat → Nat} {cl : Nat → Nat} (hN : 100 < N) (hp : prA V I tl a it 2 ln sz m0 f) (ha : a ≠ 16) (h4 : V 16 4 = .ref a) (hl : V 16 0 = .int (nI lm)) (hl1 : 1 ≤ lm) (hlm : lm ≤ 2000) (hz : 1 ≤ sz) (hsz : sz ≤ 6) (hm0 : sz * wdN 2 ≤ m0) (hm1 : m0 ≤ 1000) (h10 : V 16 10 = .int (nI len)) (hlen : len ≤ 8) (hnx : ∀ q c, q < sz → c < 4 → f (q * 5 + (1 + c)) = nI (nx q c) ∧ nx q c < sz) (hcl : ∀ k, k < len → cl k < 4 ∧ ∀ h, fm_125 (I 25 k) 4 h = some (.inl (some (.int (nI (cl k))), h))) (hq : (mrun nx cl lm len 0 1 0).2.2 < sz) : fm_124 N (.ref 16) (fx (rsC V 0 0) I L R ++ tl) = some (.inl (some (.int (f ((mrun nx cl lm len 0 1 0).2.2 * 5))), fx (rsC V (mrun nx cl lm len 0 1 0).1 (mrun nx cl lm len 0 1 0).2.1) I L R ++ tl)) := by
  have k2 := c_124l (V := V) (I := I) (L := L) (R := R) (tl := tl) (N := N) hp ha h4 hl hlm hsz hm0 hm1 h10 hlen hnx hcl len 0 N 1 0 (by omega) (by omega) (by omega) (by omega)
  generalize mrun nx cl lm len 0 1 0 = q at k2 hq ⊢
  have hpg := hp (rsC V q.1 q.2.1) I L R (fun j => by show vup (vup V 16 1 _) 16 2 _ a j = _; rw [vup_na ha, vup_na ha]) rfl
  have g0 := c_54 (k := q.2.2) (w := 0) hpg hm0 hm1 (by omega) hq (by decide)
  rw [show q.2.2 * wdN 2 + 0 = q.2.2 * 5 from rfl] at g0
  obtain ⟨x1, x2, x3, x4, x5, x6, p1, p2⟩ := hpg
  unfold fm_124 fg_124_0
  refine ev_i rfl (ev_cI (c_118 hl (by omega) hlm) ?_)
  refine k2.trans ?_
  unfold fg_124_58
  exact ev_b (a := Value.ref a) (by show am_vR (some (V 16 4)) = _; rw [h4]; rfl) (ev_i (ev_ok p1) (ev_cI g0 rfl))
set_option maxRecDepth 100000 in
set_option maxHeartbeats 4000000 in
theorem r_416l {V : Nat → Nat → Value} {I : Nat → Nat → Int32} {L : Nat → Nat → Int64} {R : Nat → Nat → Option Nat} {tl : am_H} {N sz lm len : Nat} {nx : Nat → Nat → Nat} {cl : Nat → Nat} (h54 : V 174 54 = .int (nI len)) (hlen : len ≤ 8) (hl : I 206 0 = nI lm) (hlm : lm ≤ 2000) (hsz : sz ≤ 6) (hnx : ∀ q c, q < sz → c < 4 → pv_367 (I 187 q) (nI c) = nI (nx q c) ∧ nx q c < sz) (hcl : ∀ k, k < len → cl k < 4 ∧ I 212 k &&& 3 = nI (cl k)) : ∀ (m k K u q : Nat), k + m = len → m + 1 < K → u ≤ lm → q < sz → fg_416_9 N K (.ref 174) (nI q) 1 (nI k) (fx (rsR V 0 u) I L R ++ tl) = fg_416_54 N (.ref 174) (nI (mrun nx cl lm m k u q).2.2) (fx (rsR V (mrun nx cl lm m k u q).1 (mrun nx cl lm m k u q).2.1) I L R ++ tl) := by
  have h54' : ∀ (x : Int32) (u : Nat), am_vI (am_pG 3126 (.ref 174) (fx (rsR V x u) I L R ++ tl)) = some (nI len) := fun x u => by
    show am_vI (some (V 174 54)) = _
    rw [h54]
    rfl
  intro m
  induction m with
  | zero =>
    intro k K u q hk hK hu hq
    obtain ⟨K, rfl⟩ : ∃ k, K = k + 1 := ⟨K - 1, by omega⟩
    rw [fg_416_9]
    exact ev_b (h54' 0 u) (ev_t (nI_le (by omega) (by omega)) rfl)
  | succ m ih =>
    intro k K u q hk hK hu hq
    obtain ⟨K, rfl⟩ : ∃ k, K = k + 1 := ⟨K - 1, by omega⟩
    by_cases d : u < lm
    · have e : mrun nx cl lm (m + 1) k u q = mrun nx cl lm m (k + 1) (u + 1) (nx q (cl k)) := if_pos d
      obtain ⟨c1, c2⟩ := hcl k (by omega)
      obtain ⟨n1, n2⟩ := hnx q (cl k) hq c1
      rw [e, fg_416_9]
      refine ev_b (h54' 0 u) (ev_f (nI_ge (by omega) (by omega)) (ev_f (by decide) (ev_i rfl (ev_cI (r_407 hl d hlm) (ev_f (by decide) (ev_b (a := Value.ref 187) rfl (ev_b (qa_187 (by omega)) (ev_b (a := Value.ref 212) rfl (ev_b (qa_212 (by omega)) ?_)))))))))
      rw [c2]
      refine ev_cI (pe_367 _ _ _) ?_
      rw [n1]
      unfold fg_416_48
      rw [nI_1]
      exact ih (k + 1) K (u + 1) (nx q (cl k)) (by omega) (by omega) (by omega) n2
    · have e : mrun nx cl lm (m + 1) k u q = (3, u, q) := if_neg d
      obtain rfl : u = lm := by omega
      rw [e, fg_416_9]
      refine ev_b (h54' 0 u) (ev_f (nI_ge (by omega) (by omega)) (ev_f (by decide) (ev_i rfl (ev_cI (r_407n hl) (ev_t rfl ?_)))))
      unfold fg_416_48
      rw [nI_1]
      obtain ⟨K, rfl⟩ : ∃ k, K = k + 1 := ⟨K - 1, by omega⟩
      rw [fg_416_9]
      refine ev_b (h54' 3 u) ?_
      by_cases c : nI len ≤ nI (k + 1)
      · exact ev_t c rfl
      · exact ev_f c (ev_t rfl rfl)
set_option maxRecDepth 100000 in
set_option maxHeartbeats 4000000 in
theorem r_416 {V : Nat → Nat → Value} {I : Nat → Nat → Int32} {L : Nat → Nat → Int64} {R : Nat → Nat → Option Nat} {tl : am_H} {N sz lm len : Nat} {nx : Nat → Nat → Nat} {cl : Nat → Nat} (hN : 100 < N) (h54 : V 174 54 = .int (nI len)) (hlen : len ≤ 8) (hl : I 206 0 = nI lm) (hl1 : 1 ≤ lm) (hlm : lm ≤ 2000) (hz : 1 ≤ sz) (hsz : sz ≤ 6) (hnx : ∀ q c, q < sz → c < 4 → pv_367 (I 187 q) (nI c) = nI (nx q c) ∧ nx q c < sz) (hcl : ∀ k, k < len → cl k < 4 ∧ I 212 k &&& 3 = nI (cl k)) (hq : (mrun nx cl lm len 0 1 0).2.2 < sz) : fm_416 N (.ref 174) (fx (rsR V 0 0) I L R ++ tl) = some (.inl (none, fx (vup (rsR V (mrun nx cl lm len 0 1 0).1 (mrun nx cl lm len 0 1 0).2.1) 174 49 (.int (I 186 (mrun nx cl lm len 0 1 0).2.2))) I L R ++ tl)) := by
  have k2 := r_416l (V := V) (I := I) (L := L) (R := R) (tl := tl) (N := N) h54 hlen hl hlm hsz hnx hcl len 0 N 1 0 (by omega) (by omega) (by omega) (by omega)
  generalize mrun nx cl lm len 0 1 0 = q at k2 hq ⊢
  unfold fm_416 fg_416_0
  refine ev_i rfl (ev_cI (r_407 hl (by omega) hlm) ?_)
  refine k2.trans ?_
  unfold fg_416_54
  exact ev_b (a := Value.ref 186) rfl (ev_b (qa_186 (by omega)) (ev_b qp_174_49 rfl))
