/-! ===== a generation: all children in the reference ===== -/
set_option maxRecDepth 100000 in
set_option maxHeartbeats 4000000 in
theorem r_loop {R : Nat → Nat → Option Nat} {tl : am_H} {N i n0 c s T ch r3 e kd m : Nat} {I0 : Nat → Nat → Int32} {Ob : Nat → Nat → Int32 × Nat × Int32} {bm rk : Nat → Nat} {E : Nat → Nat → Nat} {bt : Nat → Nat → Bool} {fr : Nat → Bool} {Φ : Nat → (Nat → Nat → Value) → (Nat → Nat → Int32) → (Nat → Nat → Int64) → Int64 → (Nat → Nat) → Prop} (ebt : bt = btr (fun x => ctN I0 0 (Ob (bm x)) m) (fun x => szB I0 (bm x)) bm) (efr : fr = frB (fun x => ctN I0 0 (Ob (bm x)) m) (fun x => szB I0 (bm x)) c) (hN : 5000 < N) (hc : c ≤ 16) (c1 : 1 ≤ c) (hs : s ≤ 24) (hT : T ≤ 100) (T1 : 1 ≤ T) (hch : ch < 3) (m24 : m ≤ 24) (cok : ∀ k, k < m → cOk I0 k) (hb : ∀ x, x < c → szB I0 (bm x) < 2 ^ 31 ∧ bm x < 2 ^ 31) (hE : ∀ x r, E x r ≤ 2000000) (r100 : r3 ≤ 100) (k3 : kd ≤ 3) (ec : e ≤ c) (hrk : ∀ x, x < c → rk x < c) : ∀ (t k K n : Nat) (V : Nat → Nat → Value) (I : Nat → Nat → Int32) (L : Nat → Nat → Int64) (st : Int64) (nm : Nat → Nat) (Vg : Nat → Nat → Value) (Ig : Nat → Nat → Int32) (Lg : Nat → Nat → Int64), k + t = c → t < K → isR c s m I0 Ob bm E V I L → I 206 2 = nI T → I 206 3 = nI r3 → I 206 4 = nI ch → V 174 96 = .long st → wt V → rInv V L → agB n V I L Ig Lg → (∀ x, x < c → I 243 x = nI (rk x)) → (∀ x, x < k → I 244 x = nI (nm x)) → gnS ch T c s r3 kd e E bt fr bm rk Φ t k n Vg Ig Lg st nm → ∃ W J M n' Vg' Ig' Lg' st' nm', Φ n' Vg' Ig' Lg' st' nm' ∧ fg_504_21 N K (.ref 174) (nI i) (nI e) (nI k) (fx V I L R ++ tl) = fg_504_66 N N (.ref 174) (nI i) 0 (fx W J M R ++ tl) ∧ (∀ x, x < c → J 244 x = nI (nm' x)) ∧ agB n' W J M Ig' Lg' ∧ W 174 96 = .long st' ∧ frXr 244 V W I J L M ∧ gF Vg Vg' Ig Ig' Lg Lg' ∧ (Vg 174 1 = .int (nI n) → Vg' 174 1 = .int (nI n')) ∧ n ≤ n' := by
  intro t
  induction t with
  | zero =>
    intro k K n V I L st nm Vg Ig Lg hk hK hI t2 t3 t4 h96 hw iv ha h43 hnm hS
    obtain ⟨K, rfl⟩ : ∃ k, K = k + 1 := ⟨K - 1, by omega⟩
    obtain rfl : k = c := by omega
    refine ⟨V, I, L, n, Vg, Ig, Lg, st, nm, hS, ?_, hnm, ha, h96, frXr_r, gF_r, id, Nat.le_refl n⟩
    apply hd_504_21
    exact ev_b (rdI hI.1) (ev_t (nI_le (Nat.le_refl k) (by omega)) rfl)
  | succ t ih =>
    intro k K n V I L st nm Vg Ig Lg hk hK hI t2 t3 t4 h96 hw iv ha h43 hnm hS
    obtain ⟨K, rfl⟩ : ∃ k, K = k + 1 := ⟨K - 1, by omega⟩
    have kc : k < c := by omega
    rcases gnS_1.mp hS with ⟨z, hS⟩ | ⟨z, hn, ln, X, x1, x2, x3, x4, x5, x6, st1, hC, gX, hS⟩
    · have lr := hrk k kc
      obtain ⟨J1, eJ1⟩ : ∃ X, X = iup I 244 (upd (I 244) k (nI (bm (rk k)))) := ⟨_, rfl⟩
      have o1 : ∀ y, y ≠ 244 → J1 y = I y := fun y h => by rw [eJ1]; exact iup_na h
      have f1 : frXr 244 V V I J1 L L := frXr_i (fun y _ _ h => o1 y h)
      obtain ⟨W, J, M, n', Vg', Ig', Lg', st', nm', hΦ, e1, hG, ha', w96, fX, fg, v1, nn⟩ := ih (k + 1) K n V J1 L st (updN nm k (bm (rk k))) Vg Ig Lg (by omega) (by omega) (isR_X (q := 244) (by decide) hI f1) (by rw [o1 206 (by decide)]; exact t2) (by rw [o1 206 (by decide)]; exact t3) (by rw [o1 206 (by decide)]; exact t4) h96 hw iv ⟨ha.1, fun y a b q => (o1 y (by omega)).trans (ha.2.1 y a b q), ha.2.2⟩ (by rw [o1 243 (by decide)]; exact h43) (fun x hx => by
        by_cases q : x = k
        · subst q
          rw [updN_eq, eJ1, iup_eq, upd_eq]
        · rw [updN_ne q, eJ1, iup_eq, upd_ne q]
          exact hnm x (by omega)) hS
      refine ⟨W, J, M, n', Vg', Ig', Lg', st', nm', hΦ, ?_, hG, ha', w96, frXr_t f1 fX, fg, v1, nn⟩
      rw [← e1]
      apply hd_504_21
      refine ev_b (rdI hI.1) (ev_f (nI_ge kc (by omega)) (ev_b (rdR rfl) (ev_f (nI_ge z (by omega)) (ev_b (rdR rfl) (ev_b (rdR rfl) (ev_b (a := nI (rk k)) ((qa_243 (by omega)).trans (congrArg some (h43 k kc))) (ev_b (a := nI (bm (rk k))) ((qa_239 (by omega)).trans (congrArg some (hI.2.2.1 _ lr).2.2.2)) ?_)))))))
      apply hd_504_57
      refine ev_b (qs_244 (by omega)) ?_
      rw [nI_1, ← eJ1]
    · obtain ⟨V1, J1, M1, e1, a1, u96, f1⟩ := r_child (V := V) (I := I) (L := L) (R := R) (tl := tl) ebt efr hN hc c1 hs hT T1 hch m24 cok hb hE hn r100 k3 hI t2 t3 t4 h96 hw iv ha hC gX
      obtain ⟨J2, eJ2⟩ : ∃ X, X = iup J1 244 (upd (J1 244) k (nI n)) := ⟨_, rfl⟩
      have o2 : ∀ y, y ≠ 244 → J2 y = J1 y := fun y h => by rw [eJ2]; exact iup_na h
      have f2 : frXr 244 V1 V1 J1 J2 M1 M1 := frXr_i (fun y _ _ h => o2 y h)
      have f12 := frXr_t (frXr_q f1) f2
      have o12 : ∀ y, ¬ ((175 ≤ y ∧ y ≤ 196) ∨ y = 211 ∨ (226 ≤ y ∧ y ≤ 230) ∨ y = 241 ∨ y = 242 ∨ y = 244) → J2 y = I y := f12.2.1
      -- the row of new members so far
      obtain ⟨W, J, M, n', Vg', Ig', Lg', st', nm', hΦ, e2, hG, ha', w96, fX, fg, v1, nn⟩ := ih (k + 1) K (n + 1) V1 J2 M1 st1 (updN nm k n) _ _ _ (by omega) (by omega) (isR_X (q := 244) (by decide) hI f12) (by rw [o12 206 (by omega)]; exact t2) (by rw [o12 206 (by omega)]; exact t3) (by rw [o12 206 (by omega)]; exact t4) u96 (f12.2.2.2.1 hw) (f12.2.2.2.2 iv) ⟨a1.1, fun y a b q => (o2 y (by omega)).trans (a1.2.1 y a b q), a1.2.2⟩ (by rw [o12 243 (by omega)]; exact h43) (fun x hx => by
        by_cases q : x = k
        · subst q
          rw [updN_eq, eJ2, iup_eq, upd_eq]
        · rw [updN_ne q, eJ2, iup_eq, upd_ne q, f1.2.1 244 (by omega)]
          exact hnm x (by omega)) hS
      refine ⟨W, J, M, n', Vg', Ig', Lg', st', nm', hΦ, ?_, hG, ha', w96, frXr_t f12 fX, gF_t gF_b fg, fun _ => v1 gbV_1, by omega⟩
      rw [← e2]
      apply hd_504_21
      refine ev_b (rdI hI.1) (ev_f (nI_ge kc (by omega)) (ev_b (rdR rfl) (ev_t (nI_le z (by omega)) (ev_i rfl (ev_cI e1 ?_)))))
      apply hd_504_57
      refine ev_b (qs_244 (by omega)) ?_
      rw [nI_1, ← eJ2]
