/-! ===== which rule fits, further ===== -/
theorem rcI_s {q : Nat} : rcI (some (q + 2, 0)) = nI q := rcI_n
set_option maxRecDepth 100000 in
set_option maxHeartbeats 1600000 in
theorem c_277 {V : Nat → Nat → Value} {I : Nat → Nat → Int32} {L : Nat → Nat → Int64} {R : Nat → Nat → Option Nat} {tl : am_H} {A it s a b : Nat} {P : xT} (hc : rcH (fx V I L R ++ tl) A it P) (h20 : ∀ j, j < P.length → xS P j ≤ 20) (hs : s ≤ 20) (ha : a ≤ 90) (hl : s = 20 → a < P.length ∧ b < P.length) : fm_277 (.ref 118) (nI s) (nI a) (nI b) (fx V I L R ++ tl) = some (.inl (some (.int (rcI (ru3 P s a b))), fx V I L R ++ tl)) ∧ ∀ v, ru3 P s a b ≠ some (0, v) := by
  obtain ⟨o7, o3, g3⟩ := rc_7 hc
  have r5 := hc.2.1
  have ok5 := hc.2.2.2.1
  have q : ∀ n, n ≤ 30 → (nI s = nI n ↔ s = n) := fun n hn => nI_eq (by omega) (by omega)
  unfold fm_277 fg_277_0 ru3
  by_cases c1 : s = 20
  · obtain ⟨al, bl⟩ := hl c1
    have sa := (rc_s hc al).1
    have a20 := h20 a al
    have qa : ∀ n, n ≤ 30 → (nI (xS P a) = nI n ↔ xS P a = n) := fun n hn => nI_eq (by omega) (by omega)
    have e1 := c_273 (k := a + 1) hc (by omega) h20
    have e2 := c_273 (k := a + 2) hc (by omega) h20
    rw [if_pos c1]
    have h0 : ∀ o, (if nI (xS P a) = 15 then (fg_277_31 (.ref 118) (nI a) (nI b) (nI (xS P a)) (fx V I L R ++ tl)) else (if ¬ nI (xS P a) = 16 then (fg_277_51 (fx V I L R ++ tl)) else (fg_277_31 (.ref 118) (nI a) (nI b) (nI (xS P a)) (fx V I L R ++ tl)))) = o → ((am_vR (am_pG 1285 (.ref 118) (fx V I L R ++ tl))).bind fun v1 => (if am_pOk 3 v1 (fx V I L R ++ tl) then am_cI true (fm_54 v1 (nI a) 0 (fx V I L R ++ tl)) (fun v4 h5 => (if ¬ nI s = 20 then (fg_277_51 h5) else (if v4 = 15 then (fg_277_31 (.ref 118) (nI a) (nI b) v4 h5) else (if ¬ v4 = 16 then (fg_277_51 h5) else (fg_277_31 (.ref 118) (nI a) (nI b) v4 h5))))) else none)) = o := fun o h => ev_b r5 (ev_i o3 (ev_cI sa (ev_f (fun e => e ((q 20 (by omega)).mpr c1)) h)))
    by_cases c2 : xS P a = 15 ∨ xS P a = 16
    · rw [if_pos c2]
      have h1 : ∀ o, fg_277_31 (.ref 118) (nI a) (nI b) (nI (xS P a)) (fx V I L R ++ tl) = o → (if nI (xS P a) = 15 then (fg_277_31 (.ref 118) (nI a) (nI b) (nI (xS P a)) (fx V I L R ++ tl)) else (if ¬ nI (xS P a) = 16 then (fg_277_51 (fx V I L R ++ tl)) else (fg_277_31 (.ref 118) (nI a) (nI b) (nI (xS P a)) (fx V I L R ++ tl)))) = o := fun o h => by
        rcases c2 with c | c
        · exact ev_t ((qa 15 (by omega)).mpr c) h
        · exact ev_f (fun e => by have := (qa 15 (by omega)).mp e; omega) (ev_f (fun e => e ((qa 16 (by omega)).mpr c)) h)
      cases d1 : cB P (a + 1) with
      | false =>
        rw [d1] at e1
        rw [if_neg (show ¬ false = true by decide)]
        refine ⟨h0 _ (h1 _ ?_), fun _ => n_none⟩
        unfold fg_277_31
        rw [nI_1]
        exact ev_i ok5 (ev_cI e1 (ev_t rfl rfl))
      | true =>
      rw [d1] at e1
      rw [if_pos (show true = true from rfl)]
      cases d2 : cB P (a + 2) with
      | false =>
        rw [d2] at e2
        rw [if_neg (show ¬ false = true by decide)]
        refine ⟨h0 _ (h1 _ ?_), fun _ => n_none⟩
        unfold fg_277_31
        rw [nI_1, show nI a + 2 = nI (a + 2) from nI_add a 2]
        exact ev_i ok5 (ev_cI e1 (ev_f (by decide) (ev_i ok5 (ev_cI e2 (ev_f (fun e => e rfl) rfl)))))
      | true =>
      rw [d2] at e2
      rw [if_pos (show true = true from rfl)]
      have v1 := (rc_s hc (of_decide_eq_true d1).1).2
      have v2 := (rc_s hc (of_decide_eq_true d2).1).2
      have f7 : fg_277_107 (.ref 118) (nI b) (fx V I L R ++ tl) = some (.inl (some (.int (rcI (some (xE P b + 2, 0)))), fx V I L R ++ tl)) := by
        rw [rcI_n]
        unfold fg_277_107
        exact ev_b hc.2.2.1 (ev_i o7 (ev_cI (rc_e hc (by omega)) rfl))
      have f3 : fg_277_103 (nI b) (fx V I L R ++ tl) = some (.inl (some (.int (rcI (some (b + 2, 0)))), fx V I L R ++ tl)) := by
        rw [rcI_n]
        rfl
      have h2 : ∀ o, (if ¬ nI (xS P a) = 15 then (if ¬ xV P (a + 1) = xV P (a + 2) then (fg_277_107 (.ref 118) (nI b) (fx V I L R ++ tl)) else (fg_277_103 (nI b) (fx V I L R ++ tl))) else (if xV P (a + 2) ≤ xV P (a + 1) then (fg_277_107 (.ref 118) (nI b) (fx V I L R ++ tl)) else (fg_277_103 (nI b) (fx V I L R ++ tl)))) = o → fg_277_31 (.ref 118) (nI a) (nI b) (nI (xS P a)) (fx V I L R ++ tl) = o := fun o h => by
        unfold fg_277_31
        rw [nI_1, show nI a + 2 = nI (a + 2) from nI_add a 2]
        exact ev_i ok5 (ev_cI e1 (ev_f (by decide) (ev_i ok5 (ev_cI e2 (ev_t (by decide) (ev_b r5 (ev_i o3 (ev_cI v1 (ev_b r5 (ev_i o3 (ev_cI v2 h)))))))))))
      by_cases c3 : xS P a = 15
      · rw [if_pos c3]
        by_cases c4 : xV P (a + 2) ≤ xV P (a + 1)
        · rw [if_pos c4]
          exact ⟨h0 _ (h1 _ (h2 _ (ev_f (fun e => e ((qa 15 (by omega)).mpr c3)) (ev_t c4 f7)))), fun _ => n_some⟩
        · rw [if_neg c4]
          exact ⟨h0 _ (h1 _ (h2 _ (ev_f (fun e => e ((qa 15 (by omega)).mpr c3)) (ev_f c4 f3)))), fun _ => n_some⟩
      · rw [if_neg c3]
        by_cases c4 : xV P (a + 1) = xV P (a + 2)
        · rw [if_pos c4]
          exact ⟨h0 _ (h1 _ (h2 _ (ev_t (fun e => c3 ((qa 15 (by omega)).mp e)) (ev_f (fun e => e c4) f3)))), fun _ => n_some⟩
        · rw [if_neg c4]
          exact ⟨h0 _ (h1 _ (h2 _ (ev_t (fun e => c3 ((qa 15 (by omega)).mp e)) (ev_t c4 f7)))), fun _ => n_some⟩
    · rw [if_neg c2]
      refine ⟨h0 _ (ev_f (fun e => c2 (.inl ((qa 15 (by omega)).mp e))) (ev_t (fun e => c2 (.inr ((qa 16 (by omega)).mp e))) rfl)), fun _ => n_none⟩
  · rw [if_neg c1]
    obtain ⟨v, ev⟩ := rc_z hc (show a ≤ 100 by omega)
    exact ⟨ev_b r5 (ev_i o3 (ev_cI ev (ev_t (fun e => c1 ((q 20 (by omega)).mp e)) rfl))), fun _ => n_none⟩
set_option maxRecDepth 100000 in
set_option maxHeartbeats 1600000 in
theorem c_281 {V : Nat → Nat → Value} {I : Nat → Nat → Int32} {L : Nat → Nat → Int64} {R : Nat → Nat → Option Nat} {tl : am_H} {N A it s a b : Nat} {P : xT} {y0 : Int32} (hN : 100 < N) (ho : okP P) (hc : rcH (fx V I L R ++ tl) A it P) (h20 : ∀ j, j < P.length → xS P j ≤ 20) (hy : V 118 6 = .int y0) (hs : s ≤ 20) (ha : a ≤ 90) (hl : s = 20 ∨ s = 11 → a < P.length ∧ b < P.length) : ∃ y, fm_281 N (.ref 118) (nI s) (nI a) (nI b) (fx V I L R ++ tl) = some (.inl (some (.int (rcI (ru5 P s a b))), fx (vup V 118 6 (.int y)) I L R ++ tl)) ∧ ∀ v, ru5 P s a b = some (0, v) → y = v := by
  obtain ⟨o7, o3, g3⟩ := rc_7 hc
  have r5 := hc.2.1
  have r3 := hc.2.2.1
  have ok5 := hc.2.2.2.1
  have q : ∀ n, n ≤ 30 → (nI s = nI n ↔ s = n) := fun n hn => nI_eq (by omega) (by omega)
  refine fitD hy ?_
  unfold fm_281 fg_281_0 ru5
  by_cases c1 : s = 11
  · rw [if_pos c1]
    obtain ⟨al, bl⟩ := hl (.inr c1)
    have e1 := c_280 (N := N) hN hc h20 al bl
    have e2 := c_278 (N := N) hN hc h20 al
    cases d1 : lkB P a b with
    | false =>
      rw [d1] at e1
      rw [if_neg (show ¬ false = true by decide)]
      exact .inl ⟨ev_f (fun e => e ((q 11 (by omega)).mpr c1)) (ev_i ok5 (ev_cI e1 (ev_t rfl rfl))), fun _ => n_none⟩
    | true =>
    rw [d1] at e1
    rw [if_pos (show true = true from rfl)]
    cases d2 : sfB P a with
    | false =>
      rw [d2] at e2
      rw [if_neg (show ¬ false = true by decide)]
      exact .inl ⟨ev_f (fun e => e ((q 11 (by omega)).mpr c1)) (ev_i ok5 (ev_cI e1 (ev_f (by decide) (ev_i ok5 (ev_cI e2 (ev_t rfl rfl)))))), fun _ => n_none⟩
    | true =>
    rw [d2] at e2
    rw [if_pos (show true = true from rfl)]
    exact .inr ⟨0, rfl, ev_f (fun e => e ((q 11 (by omega)).mpr c1)) (ev_i ok5 (ev_cI e1 (ev_f (by decide) (ev_i ok5 (ev_cI e2 (ev_f (by decide) (ev_i ok5 (ev_cI c_274 rfl))))))))⟩
  rw [if_neg c1]
  by_cases c2 : s = 20
  · rw [if_pos c2]
    obtain ⟨al, bl⟩ := hl (.inl c2)
    have sa := (rc_s hc al).1
    have a20 := h20 a al
    have qa : ∀ n, n ≤ 30 → (nI (xS P a) = nI n ↔ xS P a = n) := fun n hn => nI_eq (by omega) (by omega)
    by_cases c3 : xS P a = 15 ∨ xS P a = 16
    · rw [if_pos c3]
      obtain ⟨-, -, -, n4, n5, -⟩ := nd_at ho al
      have a1 := (n4 (by omega)).1
      have a2 := (n5 (by omega)).1
      have e1 := c_280 (N := N) hN hc h20 a1 a2
      have e2 := c_278 (N := N) hN hc h20 a1
      have ee := rc_e hc (k := a + 1) (by omega)
      have eb := rc_e hc (k := b) (by omega)
      have h1 : ∀ o, fg_281_64 N (.ref 118) (nI a) (nI b) (nI (xS P a)) (fx V I L R ++ tl) = o → (if ¬ nI s = 11 then ((am_vR (am_pG 1285 (.ref 118) (fx V I L R ++ tl))).bind fun v2 => (if am_pOk 3 v2 (fx V I L R ++ tl) then am_cI true (fm_54 v2 (nI a) 0 (fx V I L R ++ tl)) (fun v5 h6 => (if ¬ nI s = 20 then (fg_281_94 N h6) else (if v5 = 15 then (fg_281_64 N (.ref 118) (nI a) (nI b) v5 h6) else (if ¬ v5 = 16 then (fg_281_94 N h6) else (fg_281_64 N (.ref 118) (nI a) (nI b) v5 h6))))) else none)) else (if am_pOk 5 (.ref 118) (fx V I L R ++ tl) then am_cI true (fm_280 N (.ref 118) (nI a) (nI b) (fx V I L R ++ tl)) (fun v12 h13 => (if v12 = 0 then (fg_281_31 N h13) else (if am_pOk 5 (.ref 118) h13 then am_cI true (fm_278 N (.ref 118) (nI a) h13) (fun v17 h18 => (if v17 = 0 then (fg_281_31 N h18) else (if am_pOk 5 (.ref 118) h18 then am_cI true (fm_274 (.ref 118) 0 h18) (fun v22 h23 => (fg_281_32 N v22 h23)) else none))) else none))) else none)) = o := fun o h => ev_t (fun e => c1 ((q 11 (by omega)).mp e)) (ev_b r5 (ev_i o3 (ev_cI sa (ev_f (fun e => e ((q 20 (by omega)).mpr c2)) (by
        rcases c3 with c | c
        · exact ev_t ((qa 15 (by omega)).mpr c) h
        · exact ev_f (fun e => by have := (qa 15 (by omega)).mp e; omega) (ev_f (fun e => e ((qa 16 (by omega)).mpr c)) h))))))
      cases d1 : lkB P (a + 1) (xE P (a + 1)) with
      | false =>
        rw [d1] at e1
        rw [if_neg (show ¬ false = true by decide)]
        refine .inl ⟨h1 _ ?_, fun _ => n_none⟩
        unfold fg_281_64
        rw [nI_1]
        exact ev_b r3 (ev_i o7 (ev_cI ee (ev_i ok5 (ev_cI e1 (ev_t rfl rfl)))))
      | true =>
      rw [d1] at e1
      rw [if_pos (show true = true from rfl)]
      cases d2 : sfB P (a + 1) with
      | false =>
        rw [d2] at e2
        rw [if_neg (show ¬ false = true by decide)]
        refine .inl ⟨h1 _ ?_, fun _ => n_none⟩
        unfold fg_281_64
        rw [nI_1]
        exact ev_b r3 (ev_i o7 (ev_cI ee (ev_i ok5 (ev_cI e1 (ev_f (by decide) (ev_i ok5 (ev_cI e2 (ev_f (fun e => e rfl) rfl))))))))
      | true =>
      rw [d2] at e2
      rw [if_pos (show true = true from rfl)]
      by_cases c4 : xS P a = 16
      · rw [if_pos c4, rcI_n]
        refine .inl ⟨h1 _ ?_, fun _ => n_some⟩
        unfold fg_281_64
        rw [nI_1]
        exact ev_b r3 (ev_i o7 (ev_cI ee (ev_i ok5 (ev_cI e1 (ev_f (by decide) (ev_i ok5 (ev_cI e2 (ev_t (by decide) (ev_f (fun e => e ((qa 16 (by omega)).mpr c4)) rfl)))))))))
      · rw [if_neg c4, rcI_n]
        refine .inl ⟨h1 _ ?_, fun _ => n_some⟩
        unfold fg_281_64
        rw [nI_1]
        exact ev_b r3 (ev_i o7 (ev_cI ee (ev_i ok5 (ev_cI e1 (ev_f (by decide) (ev_i ok5 (ev_cI e2 (ev_t (by decide) (ev_t (fun e => c4 ((qa 16 (by omega)).mp e)) (ev_b r3 (ev_i o7 (ev_cI eb rfl))))))))))))
    · rw [if_neg c3]
      exact .inl ⟨ev_t (fun e => c1 ((q 11 (by omega)).mp e)) (ev_b r5 (ev_i o3 (ev_cI sa (ev_f (fun e => e ((q 20 (by omega)).mpr c2)) (ev_f (fun e => c3 (.inl ((qa 15 (by omega)).mp e))) (ev_t (fun e => c3 (.inr ((qa 16 (by omega)).mp e))) rfl)))))), fun _ => n_none⟩
  · rw [if_neg c2]
    obtain ⟨v, ev⟩ := rc_z hc (show a ≤ 100 by omega)
    exact .inl ⟨ev_t (fun e => c1 ((q 11 (by omega)).mp e)) (ev_b r5 (ev_i o3 (ev_cI ev (ev_t (fun e => c2 ((q 20 (by omega)).mp e)) rfl)))), fun _ => n_none⟩
set_option maxRecDepth 100000 in
set_option maxHeartbeats 1600000 in
/-- which node comes for a node by a rule -/
theorem c_271 {V : Nat → Nat → Value} {I : Nat → Nat → Int32} {L : Nat → Nat → Int64} {R : Nat → Nat → Option Nat} {tl : am_H} {N A it k w : Nat} {P : xT} {y0 : Int32} (hN : 100 < N) (ho : okP P) (hc : rcH (fx V I L R ++ tl) A it P) (hy : V 118 6 = .int y0) (hk : k < P.length) (hw : w < 9) : ∃ y, fm_271 N (.ref 118) (nI k) (nI w) (fx V I L R ++ tl) = some (.inl (some (.int (rcI (ru P k w))), fx (vup V 118 6 (.int y)) I L R ++ tl)) ∧ ∀ v, ru P k w = some (0, v) → y = v := by
  have h20 : ∀ j, j < P.length → xS P j ≤ 20 := fun j hj => (nd_at ho hj).1
  have l60 := hc.1
  obtain ⟨o7, o3, g3⟩ := rc_7 hc
  have r5 := hc.2.1
  have r3 := hc.2.2.1
  have ok5 := hc.2.2.2.1
  have s20 := h20 k hk
  have sk := (rc_s hc hk).1
  obtain ⟨-, -, -, n4, n5, n6, -⟩ := nd_at ho hk
  have eb := rc_e hc (k := k + 1) (by omega)
  have bl := xE_le (P := P) (k := k + 1) (by omega)
  have q : ∀ n, n ≤ 30 → (nI (xS P k) = nI n ↔ xS P k = n) := fun n hn => nI_eq (by omega) (by omega)
  have qw : ∀ n, n ≤ 30 → (nI w = nI n ↔ w = n) := fun n hn => nI_eq (by omega) (by omega)
  have nw : ∀ n, n ≤ 30 → w ≠ n → ¬ nI w = nI n := fun n hn h e => h ((qw n hn).mp e)
  have head : ∀ o, (if nI w = 0 then (if am_pOk 5 (.ref 118) (fx V I L R ++ tl) then am_cI true (fm_272 (.ref 118) (nI (xS P k)) (nI (k + 1)) (nI (xE P (k + 1))) (fx V I L R ++ tl)) (fun v15 h16 => some (.inl (some (.int v15), h16))) else none) else (if nI w = 1 then (if am_pOk 5 (.ref 118) (fx V I L R ++ tl) then am_cI true (fm_275 (.ref 118) (nI (xS P k)) (nI (k + 1)) (nI (xE P (k + 1))) (fx V I L R ++ tl)) (fun v20 h21 => some (.inl (some (.int v20), h21))) else none) else (if nI w = 2 then (if nI (xS P k) = 7 then (fg_271_104 N (.ref 118) (nI (xS P k)) (nI (k + 1)) (fx V I L R ++ tl)) else (if ¬ nI (xS P k) = 9 then (fg_271_125 N (fx V I L R ++ tl)) else (fg_271_104 N (.ref 118) (nI (xS P k)) (nI (k + 1)) (fx V I L R ++ tl)))) else (if nI w = 3 then (if am_pOk 5 (.ref 118) (fx V I L R ++ tl) then am_cI true (fm_277 (.ref 118) (nI (xS P k)) (nI (k + 1)) (nI (xE P (k + 1))) (fx V I L R ++ tl)) (fun v28 h29 => some (.inl (some (.int v28), h29))) else none) else (if nI w = 4 then (if ¬ nI (xS P k) = 20 then (fg_271_175 N (fx V I L R ++ tl)) else (if am_pOk 5 (.ref 118) (fx V I L R ++ tl) then am_cI true (fm_278 N (.ref 118) (nI (k + 1)) (fx V I L R ++ tl)) (fun v34 h35 => (if v34 = 0 then (fg_271_175 N h35) else ((am_vR (am_pG 1283 (.ref 118) h35)).bind fun v38 => (if am_pOk 7 v38 h35 then am_cI true (fm_100 v38 (nI (xE P (k + 1))) h35) (fun v41 h42 => (if am_pOk 5 (.ref 118) h42 then am_cI true (fm_280 N (.ref 118) (nI (xE P (k + 1))) v41 h42) (fun v45 h46 => (if v45 = 0 then (fg_271_175 N h46) else (fg_271_176 N (nI (xE P (k + 1))) h46))) else none)) else none)))) else none)) else (if nI w = 5 then (if am_pOk 5 (.ref 118) (fx V I L R ++ tl) then am_cI true (fm_281 N (.ref 118) (nI (xS P k)) (nI (k + 1)) (nI (xE P (k + 1))) (fx V I L R ++ tl)) (fun v51 h52 => some (.inl (some (.int v51), h52))) else none) else (if nI w = 6 then (if ¬ nI (xS P k) = 20 then (fg_271_213 N (fx V I L R ++ tl)) else ((am_vR (am_pG 1285 (.ref 118) (fx V I L R ++ tl))).bind fun v56 => (if am_pOk 3 v56 (fx V I L R ++ tl) then am_cI true (fm_54 v56 (nI (k + 1)) 0 (fx V I L R ++ tl)) (fun v59 h60 => (if ¬ v59 = 9 then (fg_271_213 N h60) else (fg_271_214 N ((-3)) h60))) else none))) else (if nI w = 7 then (if ¬ nI (xS P k) = 12 then (fg_271_267 N (fx V I L R ++ tl)) else (if am_pOk 5 (.ref 118) (fx V I L R ++ tl) then am_cI true (fm_276 (.ref 118) (nI (k + 1)) 0 (fx V I L R ++ tl)) (fun v66 h67 => (if v66 = 0 then (fg_271_240 N (.ref 118) (nI (k + 1)) (nI (xE P (k + 1))) h67) else (if am_pOk 5 (.ref 118) h67 then am_cI true (fm_278 N (.ref 118) (nI (xE P (k + 1))) h67) (fun v71 h72 => (if ¬ v71 = 0 then (fg_271_259 N (.ref 118) h72) else (fg_271_240 N (.ref 118) (nI (k + 1)) (nI (xE P (k + 1))) h72))) else none))) else none)) else (if ¬ nI (xS P k) = 14 then (fg_271_302 N (fx V I L R ++ tl)) else (if am_pOk 5 (.ref 118) (fx V I L R ++ tl) then am_cI true (fm_276 (.ref 118) (nI (xE P (k + 1))) 1 (fx V I L R ++ tl)) (fun v77 h78 => (if v77 = 0 then (fg_271_302 N h78) else (if am_pOk 5 (.ref 118) h78 then am_cI true (fm_278 N (.ref 118) (nI (k + 1)) h78) (fun v82 h83 => (if v82 = 0 then (fg_271_302 N h83) else (if am_pOk 5 (.ref 118) h83 then am_cI true (fm_274 (.ref 118) 0 h83) (fun v87 h88 => (fg_271_303 N v87 h88)) else none))) else none))) else none)))))))))) = o → fm_271 N (.ref 118) (nI k) (nI w) (fx V I L R ++ tl) = o := fun o h => by
    unfold fm_271 fg_271_0
    rw [nI_1]
    exact ev_b r5 (ev_i o3 (ev_cI sk (ev_b r3 (ev_i o7 (ev_cI eb h)))))
  unfold ru
  by_cases w0 : w = 0
  · rw [if_pos w0]
    obtain ⟨y, e1, e2⟩ := c_272 (a := k + 1) (b := xE P (k + 1)) hc h20 hy s20 (by omega) (by omega)
    exact ⟨y, head _ (ev_t ((qw 0 (by omega)).mpr w0) (ev_i ok5 (ev_cI e1 rfl))), e2⟩
  rw [if_neg w0]
  by_cases w1 : w = 1
  · rw [if_pos w1]
    obtain ⟨e1, e2⟩ := c_275 (a := k + 1) (b := xE P (k + 1)) hc h20 s20 (by omega) (by omega)
    exact fitD hy (.inl ⟨head _ (ev_f (nw 0 (by omega) w0) (ev_t ((qw 1 (by omega)).mpr w1) (ev_i ok5 (ev_cI e1 rfl)))), e2⟩)
  rw [if_neg w1]
  by_cases w2 : w = 2
  · rw [if_pos w2]
    refine fitD hy ?_
    unfold ru2
    by_cases c : xS P k = 7 ∨ xS P k = 9
    · rw [if_pos c]
      have al := (n4 (by omega)).1
      have sa := (rc_s hc al).1
      have f : fg_271_104 N (.ref 118) (nI (xS P k)) (nI (k + 1)) (fx V I L R ++ tl) = some (.inl (some (.int (rcI (if xS P (k + 1) = xS P k then some (k + 1 + 1 + 2, 0) else none))), fx V I L R ++ tl)) := by
        have q2 : nI (xS P (k + 1)) = nI (xS P k) ↔ xS P (k + 1) = xS P k := nI_eq (by have := h20 _ al; omega) (by omega)
        unfold fg_271_104
        by_cases d : xS P (k + 1) = xS P k
        · rw [if_pos d, rcI_n, nI_1]
          exact ev_b r5 (ev_i o3 (ev_cI sa (ev_f (fun e => e (q2.mpr d)) rfl)))
        · rw [if_neg d]
          exact ev_b r5 (ev_i o3 (ev_cI sa (ev_t (fun e => d (q2.mp e)) rfl)))
      refine .inl ⟨head _ (ev_f (nw 0 (by omega) w0) (ev_f (nw 1 (by omega) w1) (ev_t ((qw 2 (by omega)).mpr w2) ?_))), fun v => ?_⟩
      · rcases c with c | c
        · exact ev_t ((q 7 (by omega)).mpr c) f
        · exact ev_f (fun e => by have := (q 7 (by omega)).mp e; omega) (ev_f (fun e => e ((q 9 (by omega)).mpr c)) f)
      · split
        · exact n_some
        · exact n_none
    · rw [if_neg c]
      exact .inl ⟨head _ (ev_f (nw 0 (by omega) w0) (ev_f (nw 1 (by omega) w1) (ev_t ((qw 2 (by omega)).mpr w2) (ev_f (fun e => c (.inl ((q 7 (by omega)).mp e))) (ev_t (fun e => c (.inr ((q 9 (by omega)).mp e))) rfl))))), fun _ => n_none⟩
  rw [if_neg w2]

  by_cases w3 : w = 3
  · rw [if_pos w3]
    obtain ⟨e1, e2⟩ := c_277 (s := xS P k) (a := k + 1) (b := xE P (k + 1)) hc h20 s20 (by omega) (fun e => ⟨(n4 (by omega)).1, (n5 (by omega)).1⟩)
    exact fitD hy (.inl ⟨head _ (ev_f (nw 0 (by omega) w0) (ev_f (nw 1 (by omega) w1) (ev_f (nw 2 (by omega) w2) (ev_t ((qw 3 (by omega)).mpr w3) (ev_i ok5 (ev_cI e1 rfl)))))), e2⟩)
  rw [if_neg w3]
  by_cases w4 : w = 4
  · rw [if_pos w4]
    refine fitD hy ?_
    have h4 := fun o h => head o (ev_f (nw 0 (by omega) w0) (ev_f (nw 1 (by omega) w1) (ev_f (nw 2 (by omega) w2) (ev_f (nw 3 (by omega) w3) (ev_t ((qw 4 (by omega)).mpr w4) h)))))
    unfold ru4
    by_cases c : xS P k = 20
    · rw [if_pos c]
      have al := (n4 (by omega)).1
      have bl := (n5 (by omega)).1
      have cl := (n6 c).1
      have e1 := c_278 (N := N) hN hc h20 al
      have e2 := c_280 (N := N) hN hc h20 bl cl
      have ec := rc_e hc (k := xE P (k + 1)) (by omega)
      cases d1 : sfB P (k + 1) with
      | false =>
        rw [d1] at e1
        rw [if_neg (show ¬ false = true by decide)]
        exact .inl ⟨h4 _ (ev_f (fun e => e ((q 20 (by omega)).mpr c)) (ev_i ok5 (ev_cI e1 (ev_t rfl rfl)))), fun _ => n_none⟩
      | true =>
      rw [d1] at e1
      rw [if_pos (show true = true from rfl)]
      cases d2 : lkB P (xE P (k + 1)) (xE P (xE P (k + 1))) with
      | false =>
        rw [d2] at e2
        rw [if_neg (show ¬ false = true by decide)]
        exact .inl ⟨h4 _ (ev_f (fun e => e ((q 20 (by omega)).mpr c)) (ev_i ok5 (ev_cI e1 (ev_f (by decide) (ev_b r3 (ev_i o7 (ev_cI ec (ev_i ok5 (ev_cI e2 (ev_t rfl rfl)))))))))), fun _ => n_none⟩
      | true =>
      rw [d2] at e2
      rw [if_pos (show true = true from rfl), rcI_n]
      exact .inl ⟨h4 _ (ev_f (fun e => e ((q 20 (by omega)).mpr c)) (ev_i ok5 (ev_cI e1 (ev_f (by decide) (ev_b r3 (ev_i o7 (ev_cI ec (ev_i ok5 (ev_cI e2 (ev_f (by decide) rfl)))))))))), fun _ => n_some⟩
    · rw [if_neg c]
      exact .inl ⟨h4 _ (ev_t (fun e => c ((q 20 (by omega)).mp e)) rfl), fun _ => n_none⟩
  rw [if_neg w4]
  by_cases w5 : w = 5
  · rw [if_pos w5]
    obtain ⟨y, e1, e2⟩ := c_281 (N := N) (s := xS P k) (a := k + 1) (b := xE P (k + 1)) hN ho hc h20 hy s20 (by omega) (fun e => ⟨(n4 (by omega)).1, (n5 (by omega)).1⟩)
    exact ⟨y, head _ (ev_f (nw 0 (by omega) w0) (ev_f (nw 1 (by omega) w1) (ev_f (nw 2 (by omega) w2) (ev_f (nw 3 (by omega) w3) (ev_f (nw 4 (by omega) w4) (ev_t ((qw 5 (by omega)).mpr w5) (ev_i ok5 (ev_cI e1 rfl)))))))), e2⟩
  rw [if_neg w5]
  by_cases w6 : w = 6
  · rw [if_pos w6]
    refine fitD hy ?_
    have h6 := fun o h => head o (ev_f (nw 0 (by omega) w0) (ev_f (nw 1 (by omega) w1) (ev_f (nw 2 (by omega) w2) (ev_f (nw 3 (by omega) w3) (ev_f (nw 4 (by omega) w4) (ev_f (nw 5 (by omega) w5) (ev_t ((qw 6 (by omega)).mpr w6) h)))))))
    unfold ru6
    by_cases c : xS P k = 20
    · rw [if_pos c]
      have al := (n4 (by omega)).1
      have sa := (rc_s hc al).1
      have q2 : nI (xS P (k + 1)) = nI 9 ↔ xS P (k + 1) = 9 := nI_eq (by have := h20 _ al; omega) (by omega)
      by_cases d : xS P (k + 1) = 9
      · rw [if_pos d]
        refine .inl ⟨h6 _ (ev_f (fun e => e ((q 20 (by omega)).mpr c)) (ev_b r5 (ev_i o3 (ev_cI sa (ev_f (fun e => e (q2.mpr d)) rfl))))), fun _ e => ?_⟩
        injection e with e
        injection e with e1 e2
        exact absurd e1 (by omega)
      · rw [if_neg d]
        exact .inl ⟨h6 _ (ev_f (fun e => e ((q 20 (by omega)).mpr c)) (ev_b r5 (ev_i o3 (ev_cI sa (ev_t (fun e => d (q2.mp e)) rfl))))), fun _ => n_none⟩
    · rw [if_neg c]
      exact .inl ⟨h6 _ (ev_t (fun e => c ((q 20 (by omega)).mp e)) rfl), fun _ => n_none⟩
  rw [if_neg w6]
  by_cases w7 : w = 7
  · rw [if_pos w7]
    refine fitD hy ?_
    have h7 := fun o h => head o (ev_f (nw 0 (by omega) w0) (ev_f (nw 1 (by omega) w1) (ev_f (nw 2 (by omega) w2) (ev_f (nw 3 (by omega) w3) (ev_f (nw 4 (by omega) w4) (ev_f (nw 5 (by omega) w5) (ev_f (nw 6 (by omega) w6) (ev_t ((qw 7 (by omega)).mpr w7) h))))))))
    unfold ru7
    by_cases c : xS P k = 12
    · rw [if_pos c]
      have al := (n4 (by omega)).1
      have bl := (n5 (by omega)).1
      have ia := c_276 (k := k + 1) (v := 0) hc (by omega) h20
      have ib := c_276 (k := xE P (k + 1)) (v := 0) hc (by omega) h20
      have sa := c_278 (N := N) hN hc h20 al
      have sb := c_278 (N := N) hN hc h20 bl
      have f9 : fg_271_259 N (.ref 118) (fx V I L R ++ tl) = some (.inl (some (.int (rcI (bcm 0))), fx (vup V 118 6 (.int 0)) I L R ++ tl)) := by
        unfold fg_271_259
        exact ev_i ok5 (ev_cI c_274 rfl)
      have f0 : (iB P (xE P (k + 1)) 0 = true ∧ sfB P (k + 1) = true → fg_271_240 N (.ref 118) (nI (k + 1)) (nI (xE P (k + 1))) (fx V I L R ++ tl) = some (.inl (some (.int (rcI (bcm 0))), fx (vup V 118 6 (.int 0)) I L R ++ tl))) ∧ (¬ (iB P (xE P (k + 1)) 0 = true ∧ sfB P (k + 1) = true) → fg_271_240 N (.ref 118) (nI (k + 1)) (nI (xE P (k + 1))) (fx V I L R ++ tl) = some (.inl (some (.int (rcI none)), fx V I L R ++ tl))) := by
        unfold fg_271_240
        cases d1 : iB P (xE P (k + 1)) 0 with
        | false =>
          rw [d1] at ib
          exact ⟨fun e => absurd e.1 (by decide), fun _ => ev_i ok5 (ev_cI ib (ev_t rfl rfl))⟩
        | true =>
        rw [d1] at ib
        cases d2 : sfB P (k + 1) with
        | false =>
          rw [d2] at sa
          exact ⟨fun e => absurd e.2 (by decide), fun _ => ev_i ok5 (ev_cI ib (ev_f (by decide) (ev_i ok5 (ev_cI sa (ev_t rfl rfl)))))⟩
        | true =>
        rw [d2] at sa
        exact ⟨fun _ => ev_i ok5 (ev_cI ib (ev_f (by decide) (ev_i ok5 (ev_cI sa (ev_f (by decide) f9))))), fun e => absurd ⟨rfl, rfl⟩ e⟩
      have run : ∀ o, ((iB P (k + 1) 0 = true ∧ sfB P (xE P (k + 1)) = true) → fg_271_259 N (.ref 118) (fx V I L R ++ tl) = o) → (¬ (iB P (k + 1) 0 = true ∧ sfB P (xE P (k + 1)) = true) → fg_271_240 N (.ref 118) (nI (k + 1)) (nI (xE P (k + 1))) (fx V I L R ++ tl) = o) → fm_271 N (.ref 118) (nI k) (nI w) (fx V I L R ++ tl) = o := fun o g1 g2 => by
        refine h7 o (ev_f (fun e => e ((q 12 (by omega)).mpr c)) (ev_i ok5 (ev_cI ia ?_)))
        cases d1 : iB P (k + 1) 0 with
        | false =>
          exact ev_t rfl (g2 (fun e => by rw [d1] at e; exact absurd e.1 (by decide)))
        | true =>
        refine ev_f (by decide) (ev_i ok5 (ev_cI sb ?_))
        cases d2 : sfB P (xE P (k + 1)) with
        | false => exact ev_f (fun e => e rfl) (g2 (fun e => by rw [d2] at e; exact absurd e.2 (by decide)))
        | true => exact ev_t (by decide) (g1 ⟨d1, d2⟩)
      by_cases d : iB P (k + 1) 0 = true ∧ sfB P (xE P (k + 1)) = true ∨ iB P (xE P (k + 1)) 0 = true ∧ sfB P (k + 1) = true
      · rw [if_pos d]
        exact .inr ⟨0, rfl, run _ (fun _ => f9) (fun e => f0.1 (d.resolve_left e))⟩
      · rw [if_neg d]
        exact .inl ⟨run _ (fun e => absurd (.inl e) d) (fun _ => f0.2 (fun e => d (.inr e))), fun _ => n_none⟩
    · rw [if_neg c]
      exact .inl ⟨h7 _ (ev_t (fun e => c ((q 12 (by omega)).mp e)) rfl), fun _ => n_none⟩
  rw [if_neg w7]
  refine fitD hy ?_
  have h8 := fun o h => head o (ev_f (nw 0 (by omega) w0) (ev_f (nw 1 (by omega) w1) (ev_f (nw 2 (by omega) w2) (ev_f (nw 3 (by omega) w3) (ev_f (nw 4 (by omega) w4) (ev_f (nw 5 (by omega) w5) (ev_f (nw 6 (by omega) w6) (ev_f (nw 7 (by omega) w7) h))))))))
  unfold ru8
  by_cases c : xS P k = 14
  · rw [if_pos c]
    have al := (n4 (by omega)).1
    have ib := c_276 (k := xE P (k + 1)) (v := 1) hc (by omega) h20
    have sa := c_278 (N := N) hN hc h20 al
    cases d1 : iB P (xE P (k + 1)) 1 with
    | false =>
      rw [d1] at ib
      rw [if_neg (show ¬ (false = true ∧ sfB P (k + 1) = true) from fun e => absurd e.1 (by decide))]
      exact .inl ⟨h8 _ (ev_f (fun e => e ((q 14 (by omega)).mpr c)) (ev_i ok5 (ev_cI ib (ev_t rfl rfl)))), fun _ => n_none⟩
    | true =>
    rw [d1] at ib
    cases d2 : sfB P (k + 1) with
    | false =>
      rw [d2] at sa
      rw [if_neg (show ¬ (true = true ∧ false = true) from fun e => absurd e.2 (by decide))]
      exact .inl ⟨h8 _ (ev_f (fun e => e ((q 14 (by omega)).mpr c)) (ev_i ok5 (ev_cI ib (ev_f (by decide) (ev_i ok5 (ev_cI sa (ev_t rfl rfl))))))), fun _ => n_none⟩
    | true =>
    rw [d2] at sa
    rw [if_pos (show true = true ∧ true = true from ⟨rfl, rfl⟩)]
    exact .inr ⟨0, rfl, h8 _ (ev_f (fun e => e ((q 14 (by omega)).mpr c)) (ev_i ok5 (ev_cI ib (ev_f (by decide) (ev_i ok5 (ev_cI sa (ev_f (by decide) (ev_i ok5 (ev_cI c_274 rfl)))))))))⟩
  · rw [if_neg c]
    exact .inl ⟨h8 _ (ev_t (fun e => c ((q 14 (by omega)).mp e)) rfl), fun _ => n_none⟩
