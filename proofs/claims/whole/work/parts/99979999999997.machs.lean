/-! ===== read: machines in the reference, and what trees are read ===== -/
def resMR (r : Nat ⊕ xM) (W : Nat → Nat → Value) (J : Nat → Nat → Int32) (T : Nat → Nat) (m : Nat) : Prop := match r with
  | .inl e => e ≤ m ∧ W 174 70 = .int (nI e)
  | .inr Q => stR W J T m m (-1) ∧ dkL W J (mIx T Q) ∧ 1 ≤ Q.length ∧ Q.length ≤ 6 ∧ plR J T Q
set_option maxRecDepth 100000 in
set_option maxHeartbeats 4000000 in
theorem r_351l {L : Nat → Nat → Int64} {R : Nat → Nat → Option Nat} {tl : am_H} {T : Nat → Nat} {m N : Nat} (hN : 10 < N) : ∀ (f K : Nat) (V : Nat → Nat → Value) (I : Nat → Nat → Int32) (p : Nat) (Q : xM), f + Q.length = 6 → f + 1 < K → p ≤ m → stR V I T m p (-1) → dkL V I (mIx T Q) → plR I T Q → ∃ W J, fg_351_2 N K (.ref 174) 1 (fx V I L R ++ tl) = fg_351_61 N (.ref 174) (fx W J L R ++ tl) ∧ frRd V W I J ∧ resMR (mcSq T m f p Q) W J T m := by
  intro f
  induction f with
  | zero =>
    intro K V I p Q hf hK hp h hd hS
    obtain ⟨K, rfl⟩ : ∃ k, K = k + 1 := ⟨K - 1, by omega⟩
    have lm : (mIx T Q).length = Q.length := List.length_map ..
    have h14 : V 174 14 = .int (nI 6) := by rw [show 6 = Q.length by omega, ← lm]; exact hd.1
    refine ⟨vup V 174 70 (.int (nI p)), I, ?_, frRd_v (by decide), hp, vup_eq⟩
    apply hd_351_2
    exact ev_f (by decide) (ev_i rfl (ev_cI (v := 0) (hm_352 (hd_352_0 (ev_b (rdI h14) (ev_f (fun q => q rfl) (ev_b (rdI h.2.1) (ev_i rfl (ev_cI (r_331 h) (ev_i rfl rfl)))))))) (ev_t rfl rfl)))
  | succ f ih =>
    intro K V I p Q hf hK hp h hd hS
    obtain ⟨K, rfl⟩ : ∃ k, K = k + 1 + 1 := ⟨K - 2, by omega⟩
    have m240 := h.2.2.2.1
    obtain ⟨x, W, J, e2, f2, r2⟩ := r_352 (V := V) (I := I) (L := L) (R := R) (tl := tl) (N := N) (Q := Q) hN h hp (by omega) hd hS
    have z61 : ∀ h', fg_351_2 N (K + 1) (.ref 174) 0 h' = fg_351_61 N (.ref 174) h' := fun h' => hd_351_2 (ev_t rfl rfl)
    rw [mcSq]
    cases q : mcTx T p with
    | inl e =>
      rw [q] at r2
      obtain ⟨r1, rfl, p', rp, s2⟩ := r2
      exact ⟨W, J, hd_351_2 (ev_f (by decide) (ev_i rfl (ev_cI e2 (ev_t rfl rfl)))), f2, r1, s2.2.2.1⟩
    | inr a =>
      rw [q] at r2
      obtain ⟨r1, rfl, s2, d2, S2⟩ := r2
      have l2 : (Q ++ [a.2]).length = Q.length + 1 := by rw [List.length_append]; rfl
      have go : ∀ o, (if nI m ≤ nI a.1 then (fg_351_29 N (fg_351_2 N (K + 1)) (.ref 174) 0 (fx W J L R ++ tl)) else (fg_351_29 N (fg_351_2 N (K + 1)) (.ref 174) 1 (fx W J L R ++ tl))) = o → fg_351_2 N (K + 1 + 1) (.ref 174) 1 (fx V I L R ++ tl) = o := fun o k_ => hd_351_2 (ev_f (by decide) (ev_i rfl (ev_cI e2 (ev_f (by decide) (ev_b (rdI s2.2.1) (ev_b (rdI s2.1) k_))))))
      show ∃ W' J', _ ∧ _ ∧ resMR (if a.1 < m then (if T a.1 = 59 then mcSq T m f (a.1 + 1) (Q ++ [a.2]) else .inl a.1) else .inr (Q ++ [a.2])) W' J' T m
      by_cases c : a.1 < m
      · rw [if_pos c]
        have e := r_336 (V := W) (I := J) (L := L) (R := R) (tl := tl) (c := 59) (by omega) (by omega) (x := 59) rfl s2 r1
        by_cases d : T a.1 = 59
        · rw [if_pos d] at e ⊢
          have s3 := stR_a (q := a.1 + 1) s2
          obtain ⟨W', J', e3, f3, r3⟩ := ih (K + 1) (vup W 174 69 (.int (nI (a.1 + 1)))) J (a.1 + 1) (Q ++ [a.2]) (by omega) (by omega) (by omega) s3 ⟨(vup_o (by decide)).trans d2.1, d2.2⟩ S2
          refine ⟨W', J', go _ (ev_f (nI_ge c (by omega)) (hd_351_29 (ev_f (by decide) (ev_i rfl (ev_cI e (hd_351_41 (ev_f (by decide) (ev_b (rdI s3.2.2.1) (ev_f (by decide) (hd_351_57 e3)))))))))), frRd_t f2 (frRd_t (frRd_v (by decide)) f3), r3⟩
        · rw [if_neg d] at e ⊢
          have s3 := stR_w (x := nI a.1) s2
          refine ⟨_, J, go _ (ev_f (nI_ge c (by omega)) (hd_351_29 (ev_f (by decide) (ev_i rfl (ev_cI e (hd_351_41 (ev_f (by decide) (ev_b (rdI s3.2.2.1) (ev_t (nI_pos' (by omega)) (hd_351_56 (hd_351_57 (z61 _)))))))))))), frRd_t f2 (frRd_v (by decide)), r1, vup_eq⟩
      · rw [if_neg c]
        have ea : a.1 = m := by omega
        refine ⟨W, J, go _ (ev_t (nI_le (by omega) (by omega)) (hd_351_29 (ev_t rfl (hd_351_41 (ev_t rfl (hd_351_56 (hd_351_57 (z61 _)))))))), f2, by rw [← ea]; rw [← ea] at s2; exact s2, d2, by omega, by omega, S2⟩
theorem r_351e {V : Nat → Nat → Value} {I : Nat → Nat → Int32} {L : Nat → Nat → Int64} {R : Nat → Nat → Option Nat} {tl : am_H} {T : Nat → Nat} {m p N : Nat} {Q : xM} (h : stR V I T m p (-1)) (hd : dkL V I (mIx T Q)) (hS : plR I T Q) (l6 : Q.length ≤ 6) (hT : ∀ p, T p < 256) (hb : ∀ k, plM Q k < 2000) : ∀ (n k K : Nat), k + n = 4 * Q.length → n + 1 < K → fg_351_63 N K (.ref 174) (nI k) (fx V I L R ++ tl) = some (.inl (none, fx (match lstE T Q.length Q n k with | none => V | some e => vup V 174 70 (.int (nI e))) I L R ++ tl)) := by
  have lm : (mIx T Q).length = Q.length := List.length_map ..
  have h14 : V 174 14 = .int (nI Q.length) := by rw [← lm]; exact hd.1
  have e4 : (4 : Int32) * nI Q.length = nI (4 * Q.length) := (nI_mul 4 _).symm
  intro n
  induction n with
  | zero =>
    intro k K hk hK
    obtain ⟨K, rfl⟩ : ∃ k, K = k + 1 := ⟨K - 1, by omega⟩
    apply hd_351_63
    refine ev_b (rdI h14) ?_
    rw [e4]
    exact ev_t (nI_le (by omega) (by omega)) (hd_351_116 rfl)
  | succ n ih =>
    intro k K hk hK
    obtain ⟨K, rfl⟩ : ∃ k, K = k + 1 + 1 := ⟨K - 2, by omega⟩
    obtain ⟨q1, q2⟩ := dv4 k (by omega)
    have hg := gDm (Q := Q) (k := k / 4) (by omega)
    obtain ⟨y1, y2⟩ := hS _ _ hg
    have y3 := y2 (k % 4) (by omega)
    rw [show 4 * (k / 4) + k % 4 = k by omega] at y3
    have t := hT (plM Q k)
    have tb := hb k
    have hpl : plM Q k = (Q.getD (k / 4) (0, 0)).2 + k % 4 := rfl
    rw [← hpl] at y3
    have g1 : am_pA 0 (.ref 194) (nI k) (fx V I L R ++ tl) = some (nI (T (plM Q k) - 48)) := (qa_194 (by omega)).trans (congrArg some y3)
    have go : ∀ o, (if nI (T (plM Q k) - 48) < nI Q.length then (fg_351_110 N (fg_351_63 N (K + 1)) (.ref 174) (nI k) (fx V I L R ++ tl)) else ((am_vR (am_pG 3143 (.ref 174) (fx V I L R ++ tl))).bind fun v14 => ((am_pA 0 v14 (nI k / 4) (fx V I L R ++ tl)).bind fun v16 => (if am_pOk 12 (.ref 174) (fx V I L R ++ tl) then am_cI true (fm_331 (.ref 174) ((v16 + (nI k - nI k / 4 * 4))) (fx V I L R ++ tl)) (fun v19 h20 => (fg_351_110 N (fg_351_63 N (K + 1)) (.ref 174) (nI k) h20)) else none)))) = o → fg_351_63 N (K + 1 + 1) (.ref 174) (nI k) (fx V I L R ++ tl) = o := fun o k_ => by
      apply hd_351_63
      refine ev_b (rdI h14) ?_
      rw [e4]
      exact ev_f (nI_ge (by omega) (by omega)) (ev_b (rdI h.2.2.1) (ev_f (by decide) (ev_b (rdR rfl) (ev_b g1 (ev_b (rdI h14) k_)))))
    rw [lstE]
    by_cases c : T (plM Q k) - 48 < Q.length
    · rw [if_pos c]
      refine go _ (ev_t (nI_lt c (by omega)) (hd_351_110 ?_))
      rw [nI_1]
      exact ih (k + 1) (K + 1) (by omega) (by omega)
    · rw [if_neg c]
      refine go _ (ev_f (nI_nlt (by omega) (by omega)) (ev_b (rdR rfl) ?_))
      rw [q2, q1]
      refine ev_b ((qa_219 (by omega)).trans (congrArg some y1)) (ev_i rfl ?_)
      rw [nI_add, ← hpl]
      refine ev_cI (r_331 h) (hd_351_110 ?_)
      have s1 := stR_w (x := nI (plM Q k)) h
      apply hd_351_63
      refine ev_b (rdI ((vup_o (by decide)).trans h14)) ?_
      rw [e4, nI_1]
      by_cases z : 4 * Q.length ≤ k + 1
      · exact ev_t (nI_le z (by omega)) (hd_351_116 rfl)
      · exact ev_f (nI_ge (by omega) (by omega)) (ev_b (rdI s1.2.2.1) (ev_t (nI_pos' (by omega)) (hd_351_116 rfl)))
/-! what is read is a tree -/
def itO (x : Nat × Int32) : Prop := (x.1 = 0 → two x.2) ∧ (x.1 ≠ 0 → x.2 = 0)
theorem dgS_b {T : Nat → Nat} {p : Nat} {a : Nat × Nat} (h : dgS T p = .inr a) : a.2 < 100 := by
  unfold dgS at h
  by_cases c : dgB (T p) = true
  · rw [if_pos c] at h
    have := dgB_t.mp c
    by_cases d : dgB (T (p + 1)) = true
    · rw [if_pos d] at h
      have := dgB_t.mp d
      rw [← Sum.inr.inj h]
      show 10 * (T p - 48) + (T (p + 1) - 48) < 100
      omega
    · rw [if_neg d] at h
      rw [← Sum.inr.inj h]
      show T p - 48 < 100
      omega
  · rw [if_neg c] at h
    cases h
theorem csT_two {T : Nat → Nat} {p : Nat} {a : Nat × Int32} (h : csT T p = .inr a) : two a.2 := by
  unfold csT at h
  cases q : dgS T (if T p = 45 then p + 1 else p) with
  | inl e => rw [q] at h; cases h
  | inr b =>
    rw [q] at h
    have hb := dgS_b q
    rw [← Sum.inr.inj h]
    show two (sgn (decide (T p = 45)) (nI b.2))
    cases decide (T p = 45) with
    | true => exact .inr ⟨b.2, by omega, rfl⟩
    | false => exact .inl ⟨b.2, by omega, rfl⟩
theorem sl_app2 {P Q : xT} : sl (P ++ Q) = sl P ++ sl Q := List.map_append ..
theorem pK_ok {T : Nat → Nat} {F : Nat → Nat → Nat → xT → Nat ⊕ (Nat × xT)} {s inn dp : Nat} (hF : ∀ tr inn p Q a, F tr inn p Q = .inr a → ∃ l, a.2 = Q ++ l ∧ okF [(tr, dp, inn)] (sl l) ∧ ∀ x, x ∈ l → itO x) : ∀ (mm k p : Nat) (Q : xT) (a : Nat × xT), pK T F s inn mm k p Q = .inr a → ∃ l, a.2 = Q ++ l ∧ okF ((List.range' k mm).map (fun j => (twN s j, dp, if s = 19 ∧ j = 1 then 1 else inn))) (sl l) ∧ ∀ x, x ∈ l → itO x := by
  intro mm
  induction mm with
  | zero =>
    intro k p Q a h
    rw [pK] at h
    by_cases c : T p = 41
    · rw [if_pos c] at h
      rw [← Sum.inr.inj h]
      exact ⟨[], (List.append_nil Q).symm, trivial, fun x hx => by cases hx⟩
    · rw [if_neg c] at h
      cases h
  | succ mm ih =>
    intro k p Q a h
    rw [pK_s] at h
    by_cases c : T p = 32
    · rw [if_pos c] at h
      cases q : F (twN s k) (if s = 19 ∧ k = 1 then 1 else inn) (p + 1) Q with
      | inl e => rw [q] at h; cases h
      | inr b =>
        rw [q] at h
        obtain ⟨l1, e1, o1, i1⟩ := hF _ _ _ _ _ q
        obtain ⟨l2, e2, o2, i2⟩ := ih (k + 1) b.1 b.2 a h
        refine ⟨l1 ++ l2, by rw [e2, e1, List.append_assoc], ?_, fun x hx => (List.mem_append.mp hx).elim (i1 x) (i2 x)⟩
        rw [sl_app2]
        exact okF_app _ _ _ _ o1 o2
    · rw [if_neg c] at h
      cases h
theorem pN_ok {T : Nat → Nat} (hT : ∀ p, T p < 256) : ∀ (d tr inn p : Nat) (Q : xT) (a : Nat × xT), d ≤ 12 → pN T d tr inn p Q = .inr a → ∃ l, a.2 = Q ++ l ∧ okF [(tr, 13 - d, inn)] (sl l) ∧ ∀ x, x ∈ l → itO x := by
  intro d
  induction d with
  | zero => intro tr inn p Q a hd h; cases h
  | succ d ih =>
    intro tr inn p Q a hd h
    have t0 := hT p
    have t1 := hT (p + 1)
    rw [pN] at h
    by_cases c : 60 ≤ Q.length
    · rw [if_pos c] at h
      cases h
    rw [if_neg c] at h
    by_cases c4 : T p = 40
    · rw [if_pos c4] at h
      by_cases ok : sgT (T (p + 1)) < 21 ∧ truN (sgT (T (p + 1))) = tr ∧ ¬ (sgT (T (p + 1)) = 19 ∧ inn ≠ 0)
      · rw [if_pos ok] at h
        obtain ⟨b7, -, -⟩ := sg_b (T (p + 1)) t1
        generalize sgT (T (p + 1)) = s at *
        obtain ⟨o1, o2, o3⟩ := ok
        obtain ⟨l, e, ol, il⟩ := pK_ok (dp := 13 - d) (fun tr inn p Q a q => ih tr inn p Q a (by omega) q) (arN s) 0 (p + 2) _ a h
        refine ⟨(s, 0) :: l, by rw [e, List.append_assoc]; rfl, ⟨by show s ≤ 20; omega, o2, by show 13 - (d + 1) ≤ 12; omega, fun _ => ⟨by show s ≠ 5; omega, by show s ≠ 6; omega⟩, fun z => fun z2 => o3 ⟨z2, by have z' : inn = 1 := z; omega⟩, ?_⟩, fun x hx => ?_⟩
        · show okF (kid s (tr, 13 - (d + 1), inn) ++ []) (sl l)
          rw [List.append_nil]
          unfold kid
          rw [List.range_eq_range', show (tr, 13 - (d + 1), inn).2.1 + 1 = 13 - d by show 13 - (d + 1) + 1 = 13 - d; omega]
          exact ol
        · rcases List.mem_cons.mp hx with z | z
          · rw [z]
            exact ⟨fun w => absurd w (by show ¬ s = 0; omega), fun _ => rfl⟩
          · exact il x z
      · rw [if_neg ok] at h
        cases h
    · rw [if_neg c4] at h
      by_cases cx : tr ≠ 0 ∨ (5 ≤ lfT (T p) ∧ inn = 0)
      · rw [if_pos cx] at h
        cases h
      rw [if_neg cx] at h
      have z0 : tr = 0 := by omega
      obtain ⟨-, -, l6⟩ := sg_b (T p) t0
      have leaf : ∀ s : Nat, s ≤ 6 → (5 ≤ s → inn ≠ 0) → okF [(tr, 13 - (d + 1), inn)] [(s, 0)] := fun s h6 h5 => ⟨by show s ≤ 20; omega, by show truN s = tr; rw [z0]; unfold truN; rw [if_neg (by omega)], by show 13 - (d + 1) ≤ 12; omega, fun z => by have z' : inn = 0 := z; exact ⟨by show s ≠ 5; omega, by show s ≠ 6; omega⟩, fun _ => by show s ≠ 19; omega, by
        show okF (kid s (tr, 13 - (d + 1), inn) ++ []) []
        have e : arN s = 0 := ar_0.mpr (by omega)
        unfold kid
        rw [e]
        trivial⟩
      by_cases c1 : 1 ≤ lfT (T p)
      · rw [if_pos c1] at h
        rw [← Sum.inr.inj h]
        refine ⟨[(lfT (T p), 0)], rfl, leaf _ l6 (fun z => by omega), fun x hx => ?_⟩
        rw [List.mem_singleton.mp hx]
        exact ⟨fun w => absurd w (by show ¬ lfT (T p) = 0; omega), fun _ => rfl⟩
      · rw [if_neg c1] at h
        cases q : csT T p with
        | inl e => rw [q] at h; cases h
        | inr b =>
          rw [q] at h
          have hb := csT_two q
          rw [← Sum.inr.inj h]
          refine ⟨[(0, b.2)], rfl, leaf 0 (by omega) (fun z => by omega), fun x hx => ?_⟩
          rw [List.mem_singleton.mp hx]
          exact ⟨fun _ => hb, fun w => absurd rfl w⟩
theorem tree_gd {T : Nat → Nat} {m : Nat} {Q : xT} (hT : ∀ p, T p < 256) (h : treeP T m = .inr Q) (hl : Q.length ≤ 60) : gdP 0 0 (tI Q) := by
  unfold treeP at h
  cases q : pN T 12 0 0 0 [] with
  | inl e => rw [q] at h; cases h
  | inr a =>
    rw [q] at h
    have h' : (if a.1 < m then (.inl a.1 : Nat ⊕ xT) else .inr a.2) = .inr Q := h
    by_cases c : a.1 < m
    · rw [if_pos c] at h'
      cases h'
    · rw [if_neg c] at h'
      obtain ⟨l, e, o, i⟩ := pN_ok hT 12 0 0 0 [] a (by omega) q
      have eQ : Q = l := by
        rw [← Sum.inr.inj h', e]
        rfl
      subst eQ
      have hx20 : ∀ x, x ∈ Q → x.1 ≤ 20 := fun x hx => okF_20 _ _ o (x.1, 0) (List.mem_map.mpr ⟨x, hx, rfl⟩)
      have eu : uTx (tI Q) = Q := uTx_tI hx20
      exact ⟨by omega, by rw [tI_len]; exact hl, fun _ => ⟨rfl, by rw [eu]; exact ⟨o, i⟩, by rw [eu]⟩, fun e => absurd e (by decide), fun e => absurd e (by decide), fun e => absurd e (by decide)⟩
