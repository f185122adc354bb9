/-! ===== a generation: all children in the class ===== -/
def updN (f : Nat → Nat) (k v : Nat) : Nat → Nat := fun x => if x = k then v else f x
theorem updN_eq {f : Nat → Nat} {k v : Nat} : updN f k v k = v := if_pos rfl
theorem updN_ne {f : Nat → Nat} {k v x : Nat} (h : x ≠ k) : updN f k v x = f x := if_neg h
/-- the children of a generation, one by one -/
def gnS (ch T c s r3 kd e : Nat) (E : Nat → Nat → Nat) (bt : Nat → Nat → Bool) (fr : Nat → Bool) (bm rk : Nat → Nat) (Φ : Nat → (Nat → Nat → Value) → (Nat → Nat → Int32) → (Nat → Nat → Int64) → Int64 → (Nat → Nat) → Prop) : Nat → Nat → Nat → (Nat → Nat → Value) → (Nat → Nat → Int32) → (Nat → Nat → Int64) → Int64 → (Nat → Nat) → Prop
  | 0, _, n, V, I, L, st, nm => Φ n V I L st nm
  | t + 1, k, n, V, I, L, st, nm => (k < e ∧ gnS ch T c s r3 kd e E bt fr bm rk Φ t (k + 1) n V I L st (updN nm k (bm (rk k)))) ∨ (e ≤ k ∧ n < 600 ∧ ∃ ln X x1 x2 x3 x4 x5 x6 st', chS ch T c s r3 kd E bt fr bm n I st ln X x1 x2 x3 x4 x5 x6 st' ∧ gdP kd ln X ∧ gnS ch T c s r3 kd e E bt fr bm rk Φ t (k + 1) (n + 1) (gbV V n) (gbI I n kd ln X x1 x2 x3 x4 x5) (gbL L n x6) st' (updN nm k n))
theorem gnS_0 {ch T c s r3 kd e k n : Nat} {E : Nat → Nat → Nat} {bt : Nat → Nat → Bool} {fr : Nat → Bool} {bm rk nm : Nat → Nat} {Φ : Nat → (Nat → Nat → Value) → (Nat → Nat → Int32) → (Nat → Nat → Int64) → Int64 → (Nat → Nat) → Prop} {V : Nat → Nat → Value} {I : Nat → Nat → Int32} {L : Nat → Nat → Int64} {st : Int64} : gnS ch T c s r3 kd e E bt fr bm rk Φ 0 k n V I L st nm ↔ Φ n V I L st nm := Iff.rfl
theorem gnS_1 {ch T c s r3 kd e k n t : Nat} {E : Nat → Nat → Nat} {bt : Nat → Nat → Bool} {fr : Nat → Bool} {bm rk nm : Nat → Nat} {Φ : Nat → (Nat → Nat → Value) → (Nat → Nat → Int32) → (Nat → Nat → Int64) → Int64 → (Nat → Nat) → Prop} {V : Nat → Nat → Value} {I : Nat → Nat → Int32} {L : Nat → Nat → Int64} {st : Int64} : gnS ch T c s r3 kd e E bt fr bm rk Φ (t + 1) k n V I L st nm ↔ (k < e ∧ gnS ch T c s r3 kd e E bt fr bm rk Φ t (k + 1) n V I L st (updN nm k (bm (rk k)))) ∨ (e ≤ k ∧ n < 600 ∧ ∃ ln X x1 x2 x3 x4 x5 x6 st', chS ch T c s r3 kd E bt fr bm n I st ln X x1 x2 x3 x4 x5 x6 st' ∧ gdP kd ln X ∧ gnS ch T c s r3 kd e E bt fr bm rk Φ t (k + 1) (n + 1) (gbV V n) (gbI I n kd ln X x1 x2 x3 x4 x5) (gbL L n x6) st' (updN nm k n)) := Iff.rfl
/-- what births on paper leave -/
def gF (V V' : Nat → Nat → Value) (I I' : Nat → Nat → Int32) (L L' : Nat → Nat → Int64) : Prop := (∀ a j, ¬ (a = 0 ∧ j = 1) → ¬ (a = 174 ∧ j = 1) → V' a j = V a j) ∧ (∀ y, (y < 175 ∨ 187 < y) → I' y = I y) ∧ ∀ y, y ≠ 183 → L' y = L y
theorem gF_r {V : Nat → Nat → Value} {I : Nat → Nat → Int32} {L : Nat → Nat → Int64} : gF V V I I L L := ⟨fun _ _ _ _ => rfl, fun _ _ => rfl, fun _ _ => rfl⟩
theorem gF_t {U V W : Nat → Nat → Value} {G I J : Nat → Nat → Int32} {K L M : Nat → Nat → Int64} (f : gF U V G I K L) (g : gF V W I J L M) : gF U W G J K M := ⟨fun a j h k => (g.1 a j h k).trans (f.1 a j h k), fun y h => (g.2.1 y h).trans (f.2.1 y h), fun y h => (g.2.2 y h).trans (f.2.2 y h)⟩
theorem gF_b {V : Nat → Nat → Value} {I : Nat → Nat → Int32} {L : Nat → Nat → Int64} {n kd ln : Nat} {X : xI} {x1 x2 x3 x4 x5 : Int32} {x6 : Int64} : gF V (gbV V n) I (gbI I n kd ln X x1 x2 x3 x4 x5) L (gbL L n x6) := ⟨fun _ _ h k => gbV_o h k, fun _ h => gbI_o h, fun _ h => gbL_o h⟩
theorem gbI_5 {I : Nat → Nat → Int32} {n kd ln : Nat} {X : xI} {x1 x2 x3 x4 x5 : Int32} : gbI I n kd ln X x1 x2 x3 x4 x5 175 = upd (I 175) n (nI kd) := rfl
set_option maxRecDepth 100000 in
set_option maxHeartbeats 4000000 in
theorem cp_172 {V : Nat → Nat → Value} {I : Nat → Nat → Int32} {L : Nat → Nat → Int64} {R : Nat → Nat → Option Nat} {tl : am_H} {i c : Nat} (hi : i < 4) (hc : c ≤ 16) : am_pCpy (.ref 172) 0 (.ref (41 + 9 * i)) 0 (nI c) (fx V I L R ++ tl) = some (fx V (iup I (41 + 9 * i) (va_cpy (I 172) (I (41 + 9 * i)) 0 0 c)) L R ++ tl) := by
  show am_pCpy (.ref 172) (nI 0) (.ref (41 + 9 * i)) (nI 0) (nI c) (fx V I L R ++ tl) = _
  rcases (by omega : i = 0 ∨ i = 1 ∨ i = 2 ∨ i = 3) with rfl | rfl | rfl | rfl
  · exact ev_cpy (f := I 172) (g := I 41) (n0 := 16) (n1 := 16) rfl rfl (by omega) (by omega) (by omega) (by omega) rfl
  · exact ev_cpy (f := I 172) (g := I 50) (n0 := 16) (n1 := 16) rfl rfl (by omega) (by omega) (by omega) (by omega) rfl
  · exact ev_cpy (f := I 172) (g := I 59) (n0 := 16) (n1 := 16) rfl rfl (by omega) (by omega) (by omega) (by omega) rfl
  · exact ev_cpy (f := I 172) (g := I 68) (n0 := 16) (n1 := 16) rfl rfl (by omega) (by omega) (by omega) (by omega) rfl
set_option maxRecDepth 100000 in
set_option maxHeartbeats 4000000 in
theorem c_loop {L : Nat → Nat → Int64} {N p i c s T ch r3 e kd j : Nat} {bm cm zm rk : Nat → Nat} {E : Nat → Nat → Nat} {bt : Nat → Nat → Bool} {fr : Nat → Bool} (ebt : bt = btr cm zm bm) (efr : fr = frB cm zm c) (hN : 5000 < N) (hi : i < 4) (hc : c ≤ 16) (c1 : 1 ≤ c) (hs : s ≤ 24) (hT : T ≤ 100) (T1 : 1 ≤ T) (hch : ch < 3) (hE : ∀ x r, E x r ≤ 2000000) (hcz : ∀ x, x < c → cm x < 2 ^ 60 ∧ zm x < 2 ^ 31) (r100 : r3 ≤ 100) (ec : e ≤ c) (hrk : ∀ x, x < c → rk x < c) (l7 : L 77 = tW) (l8 : L 78 = tT) (k3 : kd ≤ 3) : ∀ (t k K n : Nat) (V : Nat → Nat → Value) (I : Nat → Nat → Int32) (R : Nat → Nat → Option Nat) (tl : am_H) (st : Int64) (nm : Nat → Nat) (Vg : Nat → Nat → Value) (Ig : Nat → Nat → Int32) (Lg : Nat → Nat → Int64), k + t = c → t < K → n + (c - k) ≤ 600 + (e - k) → (∀ x, x < c → bm x < n) → isK i c s bm cm zm E V I L → V (42 + 9 * i) 0 = .long st → I 38 2 = nI T → I 38 3 = nI r3 → I 38 4 = nI ch → V 0 1 = .int (nI n) → wt V → (∀ x, x < c → I (43 + 9 * i) x = nI (rk x)) → rel Vg Ig Lg R tl n p → room tl n p j → (∀ x, x < c → Ig 175 (bm x) = nI kd) → (∀ x, x < k → I 172 x = nI (nm x) ∧ nm x < n ∧ Ig 175 (nm x) = nI kd) → ∃ W J G R' tl' n' Vg' Ig' Lg' st' nm', fg_217_33 N K (.ref 0) (.ref (40 + 9 * i)) (nI e) (nI kd) (nI k) (fx V I L R ++ tl) = some (.inl (none, fx W (iup J (41 + 9 * i) G) L R' ++ tl')) ∧ (∀ Φ : Nat → (Nat → Nat → Value) → (Nat → Nat → Int32) → (Nat → Nat → Int64) → Int64 → (Nat → Nat) → Prop, Φ n' Vg' Ig' Lg' st' nm' → gnS ch T c s r3 kd e E bt fr bm rk Φ t k n Vg Ig Lg st nm) ∧ rel Vg' Ig' Lg' R' tl' n' p ∧ room tl' n' p j ∧ grw n R tl R' tl' ∧ n' + (e - k) = n + (c - k) ∧ (∀ x, x < c → G x = nI (nm' x) ∧ nm' x < n' ∧ Ig' 175 (nm' x) = nI kd) ∧ W 0 1 = .int (nI n') ∧ W (42 + 9 * i) 0 = .long st' ∧ frS i V W I J ∧ gF Vg Vg' Ig Ig' Lg Lg' := by
  intro t
  induction t with
  | zero =>
    intro k K n V I R tl st nm Vg Ig Lg hk hK hn hbm hI h42 t2 t3 t4 b2 hw h43 hr hm hkd hnm
    obtain ⟨K, rfl⟩ : ∃ k, K = k + 1 := ⟨K - 1, by omega⟩
    obtain rfl : k = c := by omega
    refine ⟨V, I, va_cpy (I 172) (I (41 + 9 * i)) 0 0 k, R, tl, n, Vg, Ig, Lg, st, nm, ?_, fun Φ h => h, hr, hm, grw_r, by omega, fun x hx => ?_, b2, h42, frS_r, gF_r⟩
    · apply hd_217_33
      exact ev_b (iv_0 hi hI.1) (ev_t (nI_le (Nat.le_refl k) (by omega)) (ev_b (rdR rfl) (ev_b (ir_1 hi) (ev_b (iv_0 hi hI.1) (ev_b (cp_172 hi hc) rfl)))))
    · rw [cpy0 hx]
      exact hnm x hx
  | succ t ih =>
    intro k K n V I R tl st nm Vg Ig Lg hk hK hn hbm hI h42 t2 t3 t4 b2 hw h43 hr hm hkd hnm
    obtain ⟨K, rfl⟩ : ∃ k, K = k + 1 := ⟨K - 1, by omega⟩
    have n6 := hr.1.1
    have kc : k < c := by omega
    by_cases z : k < e
    · have lr := hrk k kc
      obtain ⟨J1, eJ1⟩ : ∃ X, X = iup I 172 (upd (I 172) k (nI (bm (rk k)))) := ⟨_, rfl⟩
      have f1 : frS i V V I J1 := by rw [eJ1]; exact frS_172
      have o1 : ∀ y, y ≠ 172 → J1 y = I y := fun y h => by rw [eJ1]; exact iup_na h
      obtain ⟨W, J, G, R', tl', n', Vg', Ig', Lg', st', nm', e1, sp, hr', hm', hg', en, hG, w0, w42, fS, fg⟩ := ih (k + 1) K n V J1 R tl st (updN nm k (bm (rk k))) Vg Ig Lg (by omega) (by omega) (by omega) hbm (isK_S hi hI f1) h42 (by rw [o1 38 (by decide)]; exact t2) (by rw [o1 38 (by decide)]; exact t3) (by rw [o1 38 (by decide)]; exact t4) b2 hw (by rw [o1 _ (by omega)]; exact h43) hr hm hkd (fun x hx => by
        by_cases q : x = k
        · subst q
          rw [updN_eq, eJ1, iup_eq, upd_eq]
          exact ⟨rfl, hbm _ lr, hkd _ lr⟩
        · rw [updN_ne q, eJ1, iup_eq, upd_ne q]
          exact hnm x (by omega))
      refine ⟨W, J, G, R', tl', n', Vg', Ig', Lg', st', nm', ?_, fun Φ h => gnS_1.mpr (.inl ⟨z, sp Φ h⟩), hr', hm', hg', by omega, hG, w0, w42, frS_t f1 fS, fg⟩
      rw [← e1]
      apply hd_217_33
      refine ev_b (iv_0 hi hI.1) (ev_f (nI_ge kc (by omega)) (ev_f (nI_ge z (by omega)) (ev_b (rdR rfl) (ev_b (ir_1 hi) (ev_b (ir_4 hi) (ev_b (a := nI (rk k)) ((ia_43 hi (by omega)).trans (congrArg some (h43 k kc))) (ev_b (a := nI (bm (rk k))) ((ia_41 hi (by omega)).trans (congrArg some (hI.2.2.1 _ lr))) (ev_b (qs_172 (by omega)) ?_))))))))
      apply hd_217_215
      rw [nI_1, ← eJ1]
    · obtain ⟨V1, J1, ln, X, x1, x2, x3, x4, x5, x6, st1, f, e1, hC, gX, hf, hp, hg, u0, u42, u172, f1⟩ := c_child (V := V) (I := I) (L := L) (R := R) (tl := tl) (K := K) (e := e) (k := k) ebt efr hN hi hc c1 hs hT T1 hch hE (fun x hx => ⟨(hcz x hx).1, (hcz x hx).2, hbm x hx⟩) (by omega) kc (by omega) r100 hI h42 t2 t3 t4 b2 hw l7 l8 hr hkd k3
      have hr1 := gb_rel (x6 := x6) hr (by omega) gX hf hp hg
      have hm1 := room_b (ln := ln) (x1 := x1) (x2 := x2) (x3 := x3) (x4 := x4) (x5 := x5) (x6 := x6) (f := f) (gd_w gX) hm
      have o1 : ∀ y, (y < 76 ∨ 117 < y) → y ≠ 48 + 9 * i → y ≠ 172 → J1 y = I y := f1.2.1
      have k5 : ∀ x, x < n → gbI Ig n kd ln X x1 x2 x3 x4 x5 175 x = Ig 175 x := fun x hx => by rw [gbI_5, upd_ne (by omega)]
      obtain ⟨W, J, G, R', tl', n', Vg', Ig', Lg', st', nm', e2, sp, hr', hm', hg', en, hG, w0, w42, fS, fg⟩ := ih (k + 1) K (n + 1) V1 J1 _ _ st1 (updN nm k n) _ _ _ (by omega) (by omega) (by omega) (fun x hx => by have := hbm x hx; omega) (isK_S hi hI f1) u42 (by rw [o1 38 (by omega) (by omega) (by omega)]; exact t2) (by rw [o1 38 (by omega) (by omega) (by omega)]; exact t3) (by rw [o1 38 (by omega) (by omega) (by omega)]; exact t4) u0 (f1.2.2 hw) (by rw [o1 _ (by omega) (by omega) (by omega)]; exact h43) hr1 hm1 (fun x hx => by rw [k5 _ (hbm x hx)]; exact hkd x hx) (fun x hx => by
        by_cases q : x = k
        · subst q
          rw [updN_eq, u172, upd_eq]
          exact ⟨rfl, by omega, by rw [gbI_5, upd_eq]⟩
        · obtain ⟨y1, y2, y3⟩ := hnm x (by omega)
          rw [updN_ne q, u172, upd_ne q, k5 _ y2]
          exact ⟨y1, by omega, y3⟩)
      refine ⟨W, J, G, R', tl', n', Vg', Ig', Lg', st', nm', e1.trans e2, fun Φ h => gnS_1.mpr (.inr ⟨by omega, by omega, ln, X, x1, x2, x3, x4, x5, x6, st1, hC, gX, sp Φ h⟩), hr', hm', grw_t (by omega) grw_b hg', by omega, hG, w0, w42, frS_t f1 fS, gF_t gF_b fg⟩
