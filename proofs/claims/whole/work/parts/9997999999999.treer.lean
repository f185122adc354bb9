/-! ===== read: whole trees, reference ===== -/
def aft (N K M : Nat) (h : am_H) : Option am_O := am_cI true (fg_342_14 N M (.ref 174) h) (fun v11 h12 => (if v11 = 0 then (fg_328_36 N (fg_328_7 N K) (.ref 174) h12) else (fg_328_37 N (fg_328_7 N K) (.ref 174) 1 h12)))
theorem aft_0 {N K M : Nat} {h h' : am_H} (e : fg_342_14 N M (.ref 174) h = some (.inl (some (.int 0), h'))) : aft N (K + 1) M h = fg_328_41 N (.ref 174) h' := by
  unfold aft
  exact ev_cI e (ev_t rfl (hd_328_36 (hd_328_37 (hd_328_7 (ev_t rfl rfl)))))
theorem aft_1 {N K M : Nat} {h h' : am_H} (e : fg_342_14 N M (.ref 174) h = some (.inl (some (.int 1), h'))) : aft N K M h = fg_328_7 N K (.ref 174) 1 h' := by
  unfold aft
  exact ev_cI e (ev_f (by decide) (hd_328_37 rfl))
def pM (r : Nat ⊕ (Nat × xT)) (g : Nat → xT → Nat ⊕ (Nat × xT)) : Nat ⊕ (Nat × xT) := match r with
  | .inl e => .inl e
  | .inr (q, Q') => g q Q'
theorem pK_s {T : Nat → Nat} {f : Nat → Nat → Nat → xT → Nat ⊕ (Nat × xT)} {s inn mm k p : Nat} {Q : xT} : pK T f s inn (mm + 1) k p Q = if T p = 32 then pM (f (twN s k) (if s = 19 ∧ k = 1 then 1 else inn) (p + 1) Q) (fun q Q' => pK T f s inn mm (k + 1) q Q') else .inl p := by
  rw [pK]
  rfl
def resT (N : Nat) (L : Nat → Nat → Int64) (R : Nat → Nat → Option Nat) (tl : am_H) (T : Nat → Nat) (m o : Nat) (V : Nat → Nat → Value) (I : Nat → Nat → Int32) (r : Nat ⊕ (Nat × xT)) (run : Option am_O) : Prop := match r with
  | .inl e => ∃ W J, run = fg_328_41 N (.ref 174) (fx W J L R ++ tl) ∧ e ≤ m ∧ W 174 70 = .int (nI e) ∧ frRd V W I J
  | .inr (q, Q') => ∃ W J K' M, run = aft N K' M (fx W J L R ++ tl) ∧ stR W J T m q (-1) ∧ dkL W J (tI Q') ∧ W 174 73 = .int (nI o) ∧ W 174 77 = .int 0 ∧ q ≤ m ∧ Q'.length ≤ 60 ∧ 62 ≤ K' + Q'.length ∧ o < M ∧ (∀ y j, 220 ≤ y → y ≤ 222 → j < o → J y j = I y j) ∧ frRd V W I J
theorem resT_f {L : Nat → Nat → Int64} {R : Nat → Nat → Option Nat} {tl : am_H} {T : Nat → Nat} {m N : Nat} {o : Nat} {V V1 : Nat → Nat → Value} {I I1 : Nat → Nat → Int32} {r : Nat ⊕ (Nat × xT)} {run run1 : Option am_O} (e : run = run1) (f : frRd V V1 I I1) (a : ∀ y j, 220 ≤ y → y ≤ 222 → j < o → I1 y j = I y j) (h : resT N L R tl T m o V1 I1 r run1) : resT N L R tl T m o V I r run := by
  subst e
  cases r with
  | inl w =>
    obtain ⟨W, J, h1, h2, h3, h4⟩ := h
    exact ⟨W, J, h1, h2, h3, frRd_t f h4⟩
  | inr w =>
    obtain ⟨W, J, K', M, h1, h2, h3, h4, h5, h6, h7, h8, h9, h10, h11⟩ := h
    exact ⟨W, J, K', M, h1, h2, h3, h4, h5, h6, h7, h8, h9, fun y j u v w => (h10 y j u v w).trans (a y j u v w), frRd_t f h11⟩
theorem r_342s {V : Nat → Nat → Value} {I : Nat → Nat → Int32} {L : Nat → Nat → Int64} {R : Nat → Nat → Option Nat} {tl : am_H} {T : Nat → Nat} {m N M o s k q : Nat} (h : stR V I T m q (-1)) (hq : q ≤ m) (ho : V 174 73 = .int (nI (o + 1))) (o12 : o < 12) (hs : s < 21) (hk : k < 3) (g0 : I 220 o = nI s) (g1 : I 221 o = nI k) : fg_342_14 N (M + 1) (.ref 174) (fx V I L R ++ tl) = (if k + 1 < arN s then (if T q = 32 then some (.inl (some (.int 1), fx (vup V 174 69 (.int (nI (q + 1)))) (iup I 221 (upd (I 221) o (nI (k + 1)))) L R ++ tl)) else some (.inl (some (.int 0), fx (vup V 174 70 (.int (nI q))) (iup I 221 (upd (I 221) o (nI (k + 1)))) L R ++ tl))) else (if T q = 41 then fg_342_14 N M (.ref 174) (fx (vup (vup V 174 69 (.int (nI (q + 1)))) 174 73 (.int (nI o))) (iup I 221 (upd (I 221) o (nI (k + 1)))) L R ++ tl) else some (.inl (some (.int 0), fx (vup V 174 70 (.int (nI q))) (iup I 221 (upd (I 221) o (nI (k + 1)))) L R ++ tl)))) := by
  have e1 : nI (o + 1) - 1 = nI o := nI_sub (b := 1) (by omega)
  have a3 := ar_le s
  obtain ⟨J, eJ⟩ : ∃ X, X = iup I 221 (upd (I 221) o (nI (k + 1))) := ⟨_, rfl⟩
  rw [← eJ]
  have s1 : stR V J T m q (-1) := ⟨h.1, h.2.1, h.2.2.1, by rw [eJ, iup_na (by decide)]; exact h.2.2.2⟩
  have a1 : am_pA 0 (.ref 221) (nI (o + 1) - 1) (fx V I L R ++ tl) = some (nI k) := by rw [e1]; exact (qa_221 (by omega)).trans (congrArg some g1)
  have a2 : am_pS 0 (.ref 221) (nI (o + 1) - 1) (nI k + 1) (fx V I L R ++ tl) = some (fx V J L R ++ tl) := by rw [e1, nI_1, eJ]; exact qs_221 (by omega)
  have a3' : am_pA 0 (.ref 221) (nI (o + 1) - 1) (fx V J L R ++ tl) = some (nI (k + 1)) := by rw [e1]; exact (qa_221 (by omega)).trans (congrArg some (by rw [eJ, iup_eq]; exact upd_eq))
  have a4 : am_pA 0 (.ref 220) (nI (o + 1) - 1) (fx V J L R ++ tl) = some (nI s) := by rw [e1]; exact (qa_220 (by omega)).trans (congrArg some (by rw [eJ, iup_na (by decide)]; exact g0))
  apply hd_342_14
  refine ev_b (rdI ho) (ev_f (nI_ge (a := 0) (by omega) (by omega)) (ev_b (rdR rfl) (ev_b (rdI ho) (ev_b a1 (ev_b a2 (ev_b (rdR rfl) (ev_b (rdI ho) (ev_b a3' (ev_b (rdR rfl) (ev_b (rdI ho) (ev_b a4 (ev_cI ((pe_343 _ _).trans (by rw [(ar343 s hs).1])) ?_))))))))))))
  by_cases c : k + 1 < arN s
  · rw [if_pos c]
    have e := r_336 (V := V) (I := J) (L := L) (R := R) (tl := tl) (c := 32) (by omega) (by omega) (x := 32) rfl s1 hq
    refine ev_f (nI_ge c (by omega)) (ev_i rfl ?_)
    by_cases d : T q = 32
    · rw [if_pos d] at e ⊢
      exact ev_cI e (ev_i rfl rfl)
    · rw [if_neg d] at e ⊢
      exact ev_cI e (ev_i rfl rfl)
  · rw [if_neg c]
    have e := r_336 (V := V) (I := J) (L := L) (R := R) (tl := tl) (c := 41) (by omega) (by omega) (x := 41) rfl s1 hq
    refine ev_t (nI_le (by omega) (by omega)) (ev_i rfl ?_)
    by_cases d : T q = 41
    · rw [if_pos d] at e ⊢
      refine ev_cI e (ev_t (by decide) (ev_b (rdI ((vup_o (by decide)).trans ho)) ?_))
      rw [e1]
      exact ev_b qp_174_73 rfl
    · rw [if_neg d] at e ⊢
      exact ev_cI e (ev_f (fun u => u rfl) rfl)
def RT (N : Nat) (L : Nat → Nat → Int64) (R : Nat → Nat → Option Nat) (tl : am_H) (T : Nat → Nat) (m d : Nat) : Prop := ∀ (o : Nat) (V : Nat → Nat → Value) (I : Nat → Nat → Int32) (p : Nat) (Q : xT) (tr inn K : Nat), o + d = 12 → stR V I T m p (-1) → dkL V I (tI Q) → V 174 73 = .int (nI o) → V 174 77 = .int 0 → topR I o tr inn → tr ≤ 1 → inn ≤ 1 → Q.length ≤ 60 → p ≤ m → 62 ≤ K + Q.length → resT N L R tl T m o V I (pN T d tr inn p Q) (fg_328_7 N K (.ref 174) 1 (fx V I L R ++ tl))
set_option maxRecDepth 100000 in
set_option maxHeartbeats 4000000 in
theorem r_328c {L : Nat → Nat → Int64} {R : Nat → Nat → Option Nat} {tl : am_H} {T : Nat → Nat} {m N : Nat} {d o s inn : Nat} (IH : RT N L R tl T m d) (hod : o + 1 + d = 12) (hs : s < 21) (hinn : inn ≤ 1) : ∀ (mm k : Nat) (V : Nat → Nat → Value) (I : Nat → Nat → Int32) (p : Nat) (Q : xT) (K : Nat), k + mm + 1 = arN s → stR V I T m p (-1) → dkL V I (tI Q) → V 174 73 = .int (nI (o + 1)) → V 174 77 = .int 0 → I 220 o = nI s → I 221 o = nI k → I 222 o = nI inn → Q.length ≤ 60 → p ≤ m → 62 ≤ K + Q.length → resT N L R tl T m o V I (pM (pN T d (twN s k) (if s = 19 ∧ k = 1 then 1 else inn) p Q) (fun q Q' => pK T (pN T d) s inn mm (k + 1) q Q')) (fg_328_7 N K (.ref 174) 1 (fx V I L R ++ tl)) := by
  have a3 := ar_le s
  intro mm
  induction mm with
  | zero =>
    intro k V I p Q K hk h hd ho hg g0 g1 g2 hl hp hK
    have r := IH (o + 1) V I p Q (twN s k) (if s = 19 ∧ k = 1 then 1 else inn) K hod h hd ho hg (.inr ⟨s, k, inn, by omega, hs, by omega, hinn, g0, g1, g2, rfl, rfl⟩) tw_le1 (by split <;> omega) hl hp hK
    cases q : pN T d (twN s k) (if s = 19 ∧ k = 1 then 1 else inn) p Q with
    | inl e =>
      rw [q] at r
      exact r
    | inr a =>
      rw [q] at r
      obtain ⟨W, J, K', M, e1, s1, d1, o1, w1, q1, l1, k1, m1, arr, f1⟩ := r
      obtain ⟨M, rfl⟩ : ∃ j, M = j + 1 := ⟨M - 1, by omega⟩
      obtain ⟨K', rfl⟩ : ∃ j, K' = j + 1 := ⟨K' - 1, by omega⟩
      have st := r_342s (V := W) (I := J) (L := L) (R := R) (tl := tl) (N := N) (M := M) (o := o) (s := s) (k := k) s1 q1 o1 (by omega) hs (by omega) ((arr 220 o (by omega) (by omega) (by omega)).trans g0) ((arr 221 o (by omega) (by omega) (by omega)).trans g1)
      rw [if_neg (by omega)] at st
      obtain ⟨J2, eJ2⟩ : ∃ X, X = iup J 221 (upd (J 221) o (nI (k + 1))) := ⟨_, rfl⟩
      rw [← eJ2] at st
      have jf : ∀ y, y ≠ 221 → J2 y = J y := fun y hy => by rw [eJ2]; exact iup_na hy
      have f2 : frRd W W J J2 := ⟨fun _ _ _ => rfl, fun y hy => jf y (by omega), id⟩
      have ar2 : ∀ y j, 220 ≤ y → y ≤ 222 → j < o → J2 y j = I y j := fun y j u v w => by
        by_cases c : y = 221
        · rw [c, eJ2, iup_eq, upd_ne (by omega)]
          exact arr 221 j (by omega) (by omega) (by omega)
        · rw [jf y c]
          exact arr y j u v (by omega)
      show resT N L R tl T m o V I (pK T (pN T d) s inn 0 (k + 1) a.1 a.2) _
      rw [pK, e1]
      by_cases c : T a.1 = 41
      · rw [if_pos c] at st ⊢
        have pm := tq_m s1.2.2.2 (p := a.1) (by omega)
        refine ⟨vup (vup W 174 69 (.int (nI (a.1 + 1)))) 174 73 (.int (nI o)), J2, K' + 1, M, ?_, ?_, ⟨?_, ?_⟩, vup_eq, ?_, by omega, l1, k1, by omega, ar2, frRd_t f1 (frRd_t f2 (frRd_t (frRd_v (by decide)) (frRd_v (by decide))))⟩
        · unfold aft
          rw [st]
        · have := stR_o (j := 73) (x := .int (nI o)) (by decide) (stR_a (q := a.1 + 1) s1)
          exact ⟨this.1, this.2.1, this.2.2.1, by rw [jf 218 (by decide)]; exact this.2.2.2⟩
        · rw [vup_o (by decide), vup_o (by decide)]
          exact d1.1
        · rw [jf 186 (by decide), jf 187 (by decide)]
          exact d1.2
        · rw [vup_o (by decide), vup_o (by decide)]
          exact w1
      · rw [if_neg c] at st ⊢
        exact ⟨_, J2, aft_0 st, q1, vup_eq, frRd_t f1 (frRd_t f2 (frRd_v (by decide)))⟩
  | succ mm ih =>
    intro k V I p Q K hk h hd ho hg g0 g1 g2 hl hp hK
    have r := IH (o + 1) V I p Q (twN s k) (if s = 19 ∧ k = 1 then 1 else inn) K hod h hd ho hg (.inr ⟨s, k, inn, by omega, hs, by omega, hinn, g0, g1, g2, rfl, rfl⟩) tw_le1 (by split <;> omega) hl hp hK
    cases q : pN T d (twN s k) (if s = 19 ∧ k = 1 then 1 else inn) p Q with
    | inl e =>
      rw [q] at r
      exact r
    | inr a =>
      rw [q] at r
      obtain ⟨W, J, K', M, e1, s1, d1, o1, w1, q1, l1, k1, m1, arr, f1⟩ := r
      obtain ⟨M, rfl⟩ : ∃ j, M = j + 1 := ⟨M - 1, by omega⟩
      obtain ⟨K', rfl⟩ : ∃ j, K' = j + 1 := ⟨K' - 1, by omega⟩
      have j0 := (arr 220 o (by omega) (by omega) (by omega)).trans g0
      have j1 := (arr 221 o (by omega) (by omega) (by omega)).trans g1
      have j2 := (arr 222 o (by omega) (by omega) (by omega)).trans g2
      have st := r_342s (V := W) (I := J) (L := L) (R := R) (tl := tl) (N := N) (M := M) (o := o) (s := s) (k := k) s1 q1 o1 (by omega) hs (by omega) j0 j1
      rw [if_pos (by omega)] at st
      obtain ⟨J2, eJ2⟩ : ∃ X, X = iup J 221 (upd (J 221) o (nI (k + 1))) := ⟨_, rfl⟩
      rw [← eJ2] at st
      have jf : ∀ y, y ≠ 221 → J2 y = J y := fun y hy => by rw [eJ2]; exact iup_na hy
      have f2 : frRd W W J J2 := ⟨fun _ _ _ => rfl, fun y hy => jf y (by omega), id⟩
      have ar2 : ∀ y j, 220 ≤ y → y ≤ 222 → j < o → J2 y j = I y j := fun y j u v w => by
        by_cases c : y = 221
        · rw [c, eJ2, iup_eq, upd_ne (by omega)]
          exact arr 221 j (by omega) (by omega) (by omega)
        · rw [jf y c]
          exact arr y j u v (by omega)
      show resT N L R tl T m o V I (pK T (pN T d) s inn (mm + 1) (k + 1) a.1 a.2) _
      rw [pK_s, e1]
      by_cases c : T a.1 = 32
      · rw [if_pos c] at st ⊢
        have pm := tq_m s1.2.2.2 (p := a.1) (by omega)
        have s2 := stR_a (q := a.1 + 1) s1
        refine resT_f (aft_1 st) (frRd_t f1 (frRd_t f2 (frRd_v (by decide)))) ar2 (ih (k + 1) (vup W 174 69 (.int (nI (a.1 + 1)))) J2 (a.1 + 1) a.2 (K' + 1) (by omega) ⟨s2.1, s2.2.1, s2.2.2.1, by rw [jf 218 (by decide)]; exact s2.2.2.2⟩ ⟨(vup_o (by decide)).trans d1.1, by rw [jf 186 (by decide), jf 187 (by decide)]; exact d1.2⟩ ((vup_o (by decide)).trans o1) ((vup_o (by decide)).trans w1) (by rw [jf 220 (by decide)]; exact j0) (by rw [eJ2, iup_eq]; exact upd_eq) (by rw [jf 222 (by decide)]; exact j2) l1 (by omega) k1)
      · rw [if_neg c] at st ⊢
        exact ⟨_, J2, aft_0 st, q1, vup_eq, frRd_t f1 (frRd_t f2 (frRd_v (by decide)))⟩
set_option maxRecDepth 100000 in
set_option maxHeartbeats 4000000 in
theorem r_328s {L : Nat → Nat → Int64} {R : Nat → Nat → Option Nat} {tl : am_H} {T : Nat → Nat} {m N : Nat} {d : Nat} (hN : 100 < N) (IH : ∀ d', d = d' + 1 → RT N L R tl T m d') : RT N L R tl T m d := by
  intro o V I p Q tr inn K hod h hd ho hg ht htr hin hl hp hK
  obtain ⟨K, rfl⟩ : ∃ j, K = j + 1 + 1 := ⟨K - 2, by omega⟩
  have pre : ∀ (x : Int32) (W : Nat → Nat → Value) (J : Nat → Nat → Int32), fm_329 (.ref 174) (fx V I L R ++ tl) = some (.inl (some (.int x), fx W J L R ++ tl)) → ∀ o', (if x = 0 then (fg_328_36 N (fg_328_7 N (K + 1)) (.ref 174) (fx W J L R ++ tl)) else (if am_pOk 12 (.ref 174) (fx W J L R ++ tl) then am_cI true (fm_342 N (.ref 174) (fx W J L R ++ tl)) (fun v11 h12 => (if v11 = 0 then (fg_328_36 N (fg_328_7 N (K + 1)) (.ref 174) h12) else (fg_328_37 N (fg_328_7 N (K + 1)) (.ref 174) 1 h12))) else none)) = o' → fg_328_7 N (K + 1 + 1) (.ref 174) 1 (fx V I L R ++ tl) = o' := fun x W J e o' k_ => by
    apply hd_328_7
    exact ev_f (by decide) (ev_b (rdI h.2.2.1) (ev_f (by decide) (ev_i rfl (ev_cI e k_))))
  rcases r_329 (V := V) (I := I) (L := L) (R := R) (tl := tl) h hd ho hg (by omega) hl hp ht htr hin with ⟨W, J, e, e1, em, e70, f, sp⟩ | ⟨W, J, q, Q', e1, s1, d1, o1, w1, q1, l1, l2, f, ar, sp⟩ | ⟨W, J, s, e1, oo, s7, s21, c32, p3, s1, d1, l1, o1, w1, g0, g1, g2, ar, f, sp⟩
  · rw [sp d hod]
    exact ⟨W, J, pre _ _ _ e1 _ (ev_t rfl (hd_328_36 (hd_328_37 (hd_328_7 (ev_t rfl rfl))))), em, e70, f⟩
  · rw [sp d hod]
    refine ⟨W, J, K + 1, N, pre _ _ _ e1 _ (ev_f (by decide) (ev_i rfl ?_)), s1, d1, o1, w1, q1, l2, by omega, by omega, fun y j u v w => by rw [ar y u v], f⟩
    have e342 : fm_342 N (.ref 174) (fx W J L R ++ tl) = fg_342_14 N N (.ref 174) (fx W J L R ++ tl) := hm_342 (hd_342_0 (ev_b (rdI w1) (ev_t rfl rfl)))
    rw [e342]
    rfl
  · obtain ⟨d', rfl⟩ : ∃ j, d = j + 1 := ⟨d - 1, by omega⟩
    rw [sp d' hod]
    obtain ⟨aa, ea⟩ : ∃ aa, arN s = aa + 1 := ⟨arN s - 1, by
      have : arN s ≠ 0 := fun e => by have := ar_0.mp e; omega
      omega⟩
    rw [ea, pK_s, if_pos c32]
    have e2 : fg_328_7 N (K + 1 + 1) (.ref 174) 1 (fx V I L R ++ tl) = fg_328_7 N (K + 1) (.ref 174) 1 (fx (vup W 174 77 (.int 0)) J L R ++ tl) := pre _ _ _ e1 _ (ev_f (by decide) (ev_i rfl (ev_cI (hm_342 (hd_342_0 (ev_b (rdI w1) (ev_f (by decide) (ev_b (qp_174_77 rfl) rfl))))) (ev_f (by decide) (hd_328_37 rfl)))))
    exact resT_f e2 (frRd_t f (frRd_v (by decide))) ar (r_328c (IH d' rfl) (by omega) s21 hin aa 0 (vup W 174 77 (.int 0)) J (p + 3) (Q ++ [(s, 0)]) (K + 1) (by omega) (stR_o (by decide) s1) ⟨(vup_o (by decide)).trans d1.1, d1.2⟩ ((vup_o (by decide)).trans o1) vup_eq g0 g1 g2 (by rw [List.length_append]; show Q.length + 1 ≤ 60; omega) p3 (by rw [List.length_append]; show 62 ≤ K + 1 + (Q.length + 1); omega))
theorem r_328a {L : Nat → Nat → Int64} {R : Nat → Nat → Option Nat} {tl : am_H} {T : Nat → Nat} {m N : Nat} (hN : 100 < N) : ∀ d, RT N L R tl T m d := by
  intro d
  induction d with
  | zero => exact r_328s hN (fun d' h => by omega)
  | succ d ih => exact r_328s hN (fun d' h => by cases h; exact ih)
def treeP (T : Nat → Nat) (m : Nat) : Nat ⊕ xT := match pN T 12 0 0 0 [] with
  | .inl e => .inl e
  | .inr (q, Q) => if q < m then .inl q else .inr Q
theorem r_328 {V : Nat → Nat → Value} {I : Nat → Nat → Int32} {L : Nat → Nat → Int64} {R : Nat → Nat → Option Nat} {tl : am_H} {T : Nat → Nat} {m N : Nat} (hN : 100 < N) (h : stR V I T m 0 (-1)) (hd : dkL V I []) (hg : V 174 77 = .int 0) : ∃ W J, fm_328 N (.ref 174) (fx V I L R ++ tl) = some (.inl (none, fx W J L R ++ tl)) ∧ frRd V W I J ∧ match treeP T m with
    | .inl e => e ≤ m ∧ W 174 70 = .int (nI e)
    | .inr Q => W 174 70 = .int (-1) ∧ dkL W J (tI Q) ∧ Q.length ≤ 60 := by
  have r := r_328a (L := L) (R := R) (tl := tl) (T := T) (m := m) hN 12 0 (vup V 174 73 (.int 0)) I 0 [] 0 0 N (by omega) (stR_o (by decide) h) ⟨(vup_o (by decide)).trans hd.1, hd.2⟩ vup_eq ((vup_o (by decide)).trans hg) (.inl ⟨rfl, rfl, rfl⟩) (by omega) (by omega) (Nat.zero_le _) (Nat.zero_le _) (by show 62 ≤ N + 0; omega)
  have f0 : frRd V (vup V 174 73 (.int 0)) I I := frRd_v (by decide)
  have m240 := h.2.2.2.1
  unfold treeP
  cases q : pN T 12 0 0 0 [] with
  | inl e =>
    rw [q] at r
    obtain ⟨W, J, e1, em, e70, f⟩ := r
    refine ⟨W, J, hm_328 (hd_328_0 (ev_b qp_174_73 (e1.trans ?_))), frRd_t f0 f, em, e70⟩
    apply hd_328_41
    exact ev_b (rdI e70) (ev_t (nI_pos' (by omega)) (hd_328_68 rfl))
  | inr a =>
    rw [q] at r
    obtain ⟨W, J, K', M, e1, s1, d1, o1, w1, q1, l1, k1, m1, arr, f⟩ := r
    obtain ⟨M, rfl⟩ : ∃ j, M = j + 1 := ⟨M - 1, by omega⟩
    obtain ⟨K', rfl⟩ : ∃ j, K' = j + 1 := ⟨K' - 1, by omega⟩
    have e2 : fg_342_14 N (M + 1) (.ref 174) (fx W J L R ++ tl) = some (.inl (some (.int 0), fx W J L R ++ tl)) := hd_342_14 (ev_b (rdI o1) (ev_t (by decide) rfl))
    dsimp only
    by_cases c : a.1 < m
    · rw [if_pos c]
      refine ⟨vup W 174 70 (.int (nI a.1)), J, hm_328 (hd_328_0 (ev_b qp_174_73 (e1.trans ((aft_0 e2).trans ?_)))), frRd_t f0 (frRd_t f (frRd_v (by decide))), q1, vup_eq⟩
      apply hd_328_41
      exact ev_b (rdI s1.2.2.1) (ev_f (by decide) (ev_b (rdI s1.2.1) (ev_b (rdI s1.1) (ev_f (nI_ge c (by omega)) (ev_b (rdI s1.2.1) (ev_i rfl (ev_cI (r_331 s1) (hd_328_68 rfl))))))))
    · rw [if_neg c]
      refine ⟨W, J, hm_328 (hd_328_0 (ev_b qp_174_73 (e1.trans ((aft_0 e2).trans ?_)))), frRd_t f0 f, s1.2.2.1, d1, l1⟩
      apply hd_328_41
      exact ev_b (rdI s1.2.2.1) (ev_f (by decide) (ev_b (rdI s1.2.1) (ev_b (rdI s1.1) (ev_t (nI_le (by omega) (by omega)) (hd_328_68 rfl)))))
