/-! ===== add, drop ===== -/
theorem rws_lt {Q row : Nat → Int32} {r k : Nat} : ∀ n j, j < 8 * k → rws Q row r k n j = Q j := by
  intro n
  induction n with
  | zero => intro j _; rfl
  | succ n ih =>
    intro j hj
    show upd (rws Q row r k n) (8 * k + n) _ j = Q j
    rw [upd_ne (by omega)]
    exact ih j hj
theorem rws_at {Q row : Nat → Int32} {r k : Nat} : ∀ n i, i < n → rws Q row r k n (8 * k + i) = if i < r then row i else 0 := by
  intro n
  induction n with
  | zero => intro i hi; omega
  | succ n ih =>
    intro i hi
    show upd (rws Q row r k n) (8 * k + n) (if n < r then row n else 0) (8 * k + i) = _
    by_cases c : i = n
    · rw [c, upd_eq]
    · rw [upd_ne (by omega)]
      exact ih i (by omega)
theorem rws_o {Q row : Nat → Int32} {r k j : Nat} (h : j < 8 * k ∨ 8 * k + 8 ≤ j) : ∀ n, n ≤ 8 → rws Q row r k n j = Q j := by
  intro n
  induction n with
  | zero => intro _; rfl
  | succ n ih =>
    intro hn
    show upd (rws Q row r k n) (8 * k + n) (if n < r then row n else 0) j = _
    rw [upd_ne (by omega)]
    exact ih (by omega)
theorem zr_new {I J : Nat → Nat → Int32} {m s : Nat} (hs : s ≤ 8) (j1 : J 203 = upd (I 203) m (nI s)) (j2 : J 204 = rws (I 204) (I 205) s m 8) (h : ∀ k, k < 24 → zr I k) : ∀ k, k < 24 → zr J k := by
  intro k hk
  unfold zr
  rw [j1, j2]
  by_cases c : k = m
  · subst c
    refine ⟨s, hs, upd_eq, fun i h1 h2 => ?_⟩
    rw [rws_at 8 i h2, if_neg (by omega)]
  · obtain ⟨s', s1, s2, s3⟩ := h k hk
    refine ⟨s', s1, by rw [upd_ne c]; exact s2, fun i h1 h2 => ?_⟩
    rw [rws_o (by omega) 8 (by omega)]
    exact s3 i h1 h2
theorem n19 {g : Int32} (c1 : ¬ g < 1) (c2 : g ≤ 9) : ∃ w, 1 ≤ w ∧ w ≤ 9 ∧ g = nI w := by
  have c0 : ¬ g < 0 := fun h => c1 (Int32.lt_trans h (by decide))
  obtain ⟨k, hk, rfl⟩ := nI_of c0
  have h1 : 1 ≤ k := Nat.not_lt.mp (fun h => c1 (nI_lt (b := 1) h (by decide)))
  have h9 := (nI_leI hk (b := 9) (by decide)).mp c2
  exact ⟨k, h1, h9, rfl⟩
theorem in_19 {g : Int32} (c1 : ¬ g < 1) (c2 : g ≤ 9) : pv_327 g.toInt64 1 9 = 1 := in_ok (w64le (a := 1) (Int32.not_lt.mp c1)) (w64le (b := 9) c2)
theorem dft_7 (D : Nat → Int32) (x y z w g i : Int32) {t : Nat} (ht : 6 ≤ t) : dft D x y z w g i t = D t := by
  unfold dft
  rw [upd_ne (by omega), upd_ne (by omega), upd_ne (by omega), upd_ne (by omega), upd_ne (by omega), upd_ne (by omega)]
set_option maxRecDepth 100000 in
set_option maxHeartbeats 4000000 in
theorem cOk_new {I : Nat → Nat → Int32} {m s : Nat} {x y z w g b : Int32} {gw d : Nat} (hs : s ≤ 8) (s2 : I 164 6 = nI s) (s4 : ∀ i, i < s → I 164 (7 + i) = I 205 i) (s5 : ∀ i, s ≤ i → i < 8 → I 164 (7 + i) = 0) (g1 : 1 ≤ gw) (g9 : gw ≤ 9) (hg : g = nI gw) (d1 : d ≤ 1) (hb : b = nI d) {F D : Nat → Int32} (hF : F = va_cpy (dft (I 164) x y z w g b) (I 15) 0 (15 * m) 15) : ∀ k, k < m + 1 → (k < m → cOk I k) → cOk (iup (iup (iup (iup (iup (iup (iup (iup (iup (iup I 15 F) 164 D) 197 (upd (I 197) m x)) 198 (upd (I 198) m y)) 199 (upd (I 199) m z)) 200 (upd (I 200) m w)) 201 (upd (I 201) m g)) 202 (upd (I 202) m b)) 203 (upd (I 203) m (nI s))) 204 (rws (I 204) (I 205) s m 8)) k := by
  intro k hk ho
  have f0 : ∀ t, t < 15 → F (15 * m + t) = dft (I 164) x y z w g b t := fun t ht => by
    rw [hF]
    unfold va_cpy
    rw [if_pos ⟨by omega, by omega⟩, show 0 + (15 * m + t - 15 * m) = t by omega]
  have f1 : ∀ q, q < 15 * m → F q = I 15 q := fun q hq => by
    rw [hF]
    unfold va_cpy
    rw [if_neg (by omega)]
  show F (15 * k) = upd (I 197) m x k ∧ F (15 * k + 1) = upd (I 198) m y k ∧ F (15 * k + 2) = upd (I 199) m z k ∧ F (15 * k + 3) = upd (I 200) m w k ∧ (∃ w, 1 ≤ w ∧ w ≤ 9 ∧ upd (I 201) m g k = nI w ∧ F (15 * k + 4) = nI w) ∧ (∃ d, d ≤ 1 ∧ upd (I 202) m b k = nI d ∧ F (15 * k + 5) = nI d) ∧ (∃ s', s' ≤ 8 ∧ upd (I 203) m (nI s) k = nI s' ∧ F (15 * k + 6) = nI s') ∧ ∀ i, i < 8 → F (15 * k + (7 + i)) = rws (I 204) (I 205) s m 8 (8 * k + i)
  by_cases c : k = m
  · subst c
    refine ⟨?_, ?_, ?_, ?_, ⟨gw, g1, g9, ?_, ?_⟩, ⟨d, d1, ?_, ?_⟩, ⟨s, hs, ?_, ?_⟩, fun i hi => ?_⟩
    · rw [upd_eq]; exact f0 0 (by omega)
    · rw [upd_eq]; exact f0 1 (by omega)
    · rw [upd_eq]; exact f0 2 (by omega)
    · rw [upd_eq]; exact f0 3 (by omega)
    · rw [upd_eq]; exact hg
    · rw [← hg]; exact f0 4 (by omega)
    · rw [upd_eq]; exact hb
    · rw [← hb]; exact f0 5 (by omega)
    · rw [upd_eq]
    · rw [← s2]; exact (f0 6 (by omega)).trans (dft_7 _ _ _ _ _ _ _ (by omega))
    · rw [rws_at 8 i hi, f0 (7 + i) (by omega), dft_7 _ _ _ _ _ _ _ (by omega)]
      by_cases e : i < s
      · rw [if_pos e]; exact s4 i e
      · rw [if_neg e]; exact s5 i (by omega) hi
  · obtain ⟨o0, o1, o2, o3, o4, o5, o6, o7⟩ := ho (by omega)
    rw [upd_ne c, upd_ne c, upd_ne c, upd_ne c, upd_ne c, upd_ne c, upd_ne c, f1 _ (by omega), f1 _ (by omega), f1 _ (by omega), f1 _ (by omega), f1 _ (by omega), f1 _ (by omega), f1 _ (by omega)]
    refine ⟨o0, o1, o2, o3, o4, o5, o6, fun i hi => ?_⟩
    rw [f1 _ (by omega), rws_lt 8 _ (by omega)]
    exact o7 i hi
set_option maxRecDepth 100000 in
set_option maxHeartbeats 4000000 in
theorem u_13 {V : Nat → Nat → Value} {I : Nat → Nat → Int32} {L : Nat → Nat → Int64} {R : Nat → Nat → Option Nat} {tl : am_H} {n p j : Nat} (hr : rel V I L R tl n p) (hm : room tl n p j) {N : Nat} (hN : 100 < N) (a1 a2 a3 a4 a5 a6 : Int32) : ∃ h', opBI (fm_103 N (.ref 0) a1 a2 a3 a4 a5 (if a6 = 0 then 0 else 1) (.ref 268) (fx V I L R ++ tl)) (fun h1 => fm_396 N (.ref 174) a1 a2 a3 a4 a5 (if a6 = 0 then 0 else 1) h1) vfI h' ∧ invW (j + 1) h' := by
  obtain ⟨z1, z2, z3, ⟨m, b1, b2, b3, b4⟩, ⟨s, s1, s2, s3, s4, s5⟩, z6, z7, z8, z9, z10, z11, z12, w⟩ := hr
  have hr : rel V I L R tl n p := ⟨z1, z2, z3, ⟨m, b1, b2, b3, b4⟩, ⟨s, s1, s2, s3, s4, s5⟩, z6, z7, z8, z9, z10, z11, z12, w⟩
  obtain ⟨d, d1, hd⟩ : ∃ d, d ≤ 1 ∧ (if a6 = 0 then (0 : Int32) else 1) = nI d := by
    by_cases c : a6 = 0
    · exact ⟨0, by omega, by rw [if_pos c]; rfl⟩
    · exact ⟨1, by omega, by rw [if_neg c]; rfl⟩
  rw [hd]
  have hbad : (a5 < 1 ∨ 9 < a5) → ∃ h', opBI (fm_103 N (.ref 0) a1 a2 a3 a4 a5 (nI d) (.ref 268) (fx V I L R ++ tl)) (fun h1 => fm_396 N (.ref 174) a1 a2 a3 a4 a5 (nI d) h1) vfI h' ∧ invW (j + 1) h' := by
    intro hn
    refine ⟨_, opBI_err (c := 1) (b := 0) (by decide) (tl := tl ++ [am_dummy]) ?_ ?_, inv_mk (rel_thr 1 (rel_dum hr)) (room_dum hm)⟩
    · have e : fm_104 N (.ref 0) a1 a2 a3 a4 a5 (nI d) (fx V I L R ++ tl) = some (.inr (0, (fx V I L R ++ (tl ++ [am_dummy])))) := by
        rw [← List.append_assoc]
        unfold fm_104 fg_104_0
        by_cases c : a5 < 1
        · exact ev_t c rfl
        · exact ev_f c (ev_f (Int32.not_le.mpr (hn.resolve_left c)) rfl)
      unfold fm_103 fg_103_0
      refine ev_i rfl ?_
      rw [e]
      rfl
    · show fm_396 N (.ref 174) a1 a2 a3 a4 a5 (nI d) (fx V I L R ++ (tl ++ [am_dummy])) = _
      unfold fm_396 fg_396_0
      refine ev_cI (pe_327 _ _ _ _) ?_
      rw [show pv_327 a5.toInt64 1 9 = 0 from hn.elim (fun h9 => in_lo (w64lt (b := 1) h9)) (fun h9 => in_hi (w64lt (a := 9) h9))]
      exact ev_f (fun e => e rfl) (ev_b qp_174_0 (ev_b (a := 1) rfl (ev_f (by decide) rfl)))
  by_cases c1 : a5 < 1
  · exact hbad (.inl c1)
  · by_cases c2 : a5 ≤ 9
    · by_cases c3 : m < 24
      · obtain ⟨gw, g1, g9, hg⟩ := n19 c1 c2
        have dz : (if nI d = 0 then (0 : Int32) else 1) = nI d := by
          rcases (by omega : d = 0 ∨ d = 1) with rfl | rfl
          · rfl
          · rfl
        have hi : am_afit 2 (nI d) = true := by
          rcases (by omega : d = 0 ∨ d = 1) with rfl | rfl
          · rfl
          · rfl
        have hz := c_104 (V := V) (I := I) (L := L) (R := R) (tl := tl) (N := N) (k := m) b2 c3 (by omega) (x := a1) (y := a2) (z := a3) (w := a4) (g := a5) (i := nI d) c1 c2
        rw [dz] at hz
        have hq := r_396 (V := vup V 14 1 (.int (nI (m + 1)))) (I := iup (iup I 15 (va_cpy (dft (I 164) a1 a2 a3 a4 a5 (nI d)) (I 15) 0 (15 * m) 15)) 164 (filf (dft (I 164) a1 a2 a3 a4 a5 (nI d)) 0 15)) (L := outL L (nI m).toInt64) (R := R) (tl := tl) (N := N) (k := m) (r := s) (x := a1) (y := a2) (z := a3) (w := a4) (g := a5) (i := nI d) b3 c3 s3 s1 (by omega) hi c1 c2
        refine ⟨_, ⟨0, fx (vup V 14 1 (.int (nI (m + 1)))) (iup (iup I 15 (va_cpy (dft (I 164) a1 a2 a3 a4 a5 (nI d)) (I 15) 0 (15 * m) 15)) 164 (filf (dft (I 164) a1 a2 a3 a4 a5 (nI d)) 0 15)) (outL L (nI m).toInt64) R ++ tl, nI m, (nI m).toInt64, ?_, rfl, hq, rfl, rfl, fun _ => ⟨out_a (M := L), rfl⟩⟩, inv_mk ⟨z1, z2, z3, ⟨m + 1, by omega, rfl, rfl, fun k hk => cOk_new s1 s2 s4 s5 g1 g9 hg d1 rfl rfl k hk (fun h => b4 k h)⟩, ⟨0, by omega, rfl, rfl, fun i hi => absurd hi (by omega), fun i _ hi8 => ?_⟩, z6, z7, z8, ⟨z9.1, z9.2.1, zr_new s1 rfl rfl z9.2.2.1, z9.2.2.2⟩, z10, z11, z12, wt_i (wt_i (wt_i (wt_i w (by decide)) (by decide)) (by decide)) (by decide)⟩ (room_up hm)⟩
        · unfold fm_103 fg_103_0
          refine ev_i rfl ?_
          rw [hz]
          exact ev_b out_s rfl
        · show filf (dft (I 164) a1 a2 a3 a4 a5 (nI d)) 0 15 (7 + i) = 0
          unfold filf
          rw [if_pos (by omega)]
      · refine ⟨_, opBI_err (c := 2) (b := 0) (by decide) (tl := tl ++ [am_dummy]) ?_ ?_, inv_mk (rel_thr 2 (rel_dum hr)) (room_dum hm)⟩
        · have e : fm_104 N (.ref 0) a1 a2 a3 a4 a5 (nI d) (fx V I L R ++ tl) = some (.inr (1, (fx V I L R ++ (tl ++ [am_dummy])))) := by
            rw [← List.append_assoc]
            unfold fm_104 fg_104_0
            exact ev_f c1 (ev_t c2 (ev_b (a := Value.ref 14) rfl (ev_b (rdI b2) (ev_f (nI_nlt (b := 24) (by omega) (by omega)) rfl))))
          unfold fm_103 fg_103_0
          refine ev_i rfl ?_
          rw [e]
          rfl
        · show fm_396 N (.ref 174) a1 a2 a3 a4 a5 (nI d) (fx V I L R ++ (tl ++ [am_dummy])) = _
          obtain rfl : m = 24 := by omega
          unfold fm_396 fg_396_0
          refine ev_cI (pe_327 _ _ _ _) ?_
          rw [in_19 c1 c2]
          exact ev_t (by decide) (ev_b (rdI b3) (ev_f (fun e => e rfl) (ev_b qp_174_0 (ev_b (a := 2) rfl (ev_f (by decide) rfl)))))
    · exact hbad (.inr (Int32.not_le.mp c2))
/-! drop(k) -/
def shf (f : Nat → Int32) (k i : Nat) : Nat → Int32 := fun j => if k ≤ j ∧ j < i then f (j + 1) else f j
def sh8 (f : Nat → Int32) (a b : Nat) : Nat → Int32 := fun j => if a ≤ j ∧ j < b then f (j + 8) else f j
theorem shf_0 {f : Nat → Int32} {k : Nat} : shf f k k = f := by
  funext j
  unfold shf
  rw [if_neg (by omega)]
theorem sh8_0 {f : Nat → Int32} {k : Nat} : sh8 f k k = f := by
  funext j
  unfold sh8
  rw [if_neg (by omega)]
theorem shf_s {f : Nat → Int32} {k i : Nat} (h : k ≤ i) : upd (shf f k i) i (shf f k i (i + 1)) = shf f k (i + 1) := by
  funext j
  have e : shf f k i (i + 1) = f (i + 1) := by
    unfold shf
    rw [if_neg (by omega)]
  rw [e]
  by_cases c : j = i
  · rw [c, upd_eq]
    unfold shf
    rw [if_pos ⟨by omega, by omega⟩]
  · rw [upd_ne c]
    unfold shf
    by_cases d : k ≤ j ∧ j < i
    · rw [if_pos d, if_pos ⟨d.1, by omega⟩]
    · rw [if_neg d, if_neg (by omega)]
theorem sh8_s {f : Nat → Int32} {a b : Nat} (h : a ≤ b) : upd (sh8 f a b) b (sh8 f a b (b + 8)) = sh8 f a (b + 1) := by
  funext j
  have e : sh8 f a b (b + 8) = f (b + 8) := by
    unfold sh8
    rw [if_neg (by omega)]
  rw [e]
  by_cases c : j = b
  · rw [c, upd_eq]
    unfold sh8
    rw [if_pos ⟨by omega, by omega⟩]
  · rw [upd_ne c]
    unfold sh8
    by_cases d : a ≤ j ∧ j < b
    · rw [if_pos d, if_pos ⟨d.1, by omega⟩]
    · rw [if_neg d, if_neg (by omega)]
/-- the reference's cases, while they are moved -/
def dInv (I J : Nat → Nat → Int32) (k i c : Nat) : Prop := J 197 = shf (I 197) k i ∧ J 198 = shf (I 198) k i ∧ J 199 = shf (I 199) k i ∧ J 200 = shf (I 200) k i ∧ J 201 = shf (I 201) k i ∧ J 202 = shf (I 202) k i ∧ J 203 = shf (I 203) k i ∧ J 204 = sh8 (I 204) (8 * k) c ∧ ∀ y, y < 197 ∨ 204 < y → J y = I y
set_option maxRecDepth 100000 in
set_option maxHeartbeats 4000000 in
theorem r_397i {V : Nat → Nat → Value} {I : Nat → Nat → Int32} {L : Nat → Nat → Int64} {R : Nat → Nat → Option Nat} {tl : am_H} {N k i : Nat} {rc : Value → Int32 → am_H → Option am_O} (hk : k ≤ i) (hi : i < 23) : ∀ (m q K : Nat) (J : Nat → Nat → Int32), q + m = 8 → m < K → dInv I J k (i + 1) (8 * i + q) → ∃ J', fg_397_146 N rc K (.ref 174) (nI i) (nI q) (fx V J L R ++ tl) = rc (.ref 174) (nI (i + 1)) (fx V J' L R ++ tl) ∧ dInv I J' k (i + 1) (8 * (i + 1)) := by
  intro m
  induction m with
  | zero =>
    intro q K J hq hK hJ
    obtain ⟨K, rfl⟩ : ∃ k, K = k + 1 := ⟨K - 1, by omega⟩
    obtain rfl : q = 8 := by omega
    refine ⟨J, ?_, hJ⟩
    rw [fg_397_146]
    refine ev_t (by decide) ?_
    rw [nI_1]
  | succ m ih =>
    intro q K J hq hK hJ
    obtain ⟨K, rfl⟩ : ∃ k, K = k + 1 := ⟨K - 1, by omega⟩
    obtain ⟨j1, j2, j3, j4, j5, j6, j7, j8, j9⟩ := hJ
    obtain ⟨J', e1, e2⟩ := ih (q + 1) K (iup J 204 (upd (J 204) (8 * i + q) (J 204 (8 * i + q + 8)))) (by omega) (by omega) ⟨j1, j2, j3, j4, j5, j6, j7, by
      show upd (J 204) (8 * i + q) (J 204 (8 * i + q + 8)) = _
      rw [j8, sh8_s (by omega)]
      rfl, fun y hy => by
      show (if y = 204 then _ else J y) = I y
      rw [if_neg (by omega)]
      exact j9 y hy⟩
    refine ⟨J', ?_, e2⟩
    rw [fg_397_146]
    refine ev_f (nI_ge (b := 8) (by omega) (by omega)) (ev_b (a := Value.ref 204) rfl (ev_b (a := Value.ref 204) rfl ?_))
    rw [show (8 : Int32) * nI i + 8 + nI q = nI (8 * i + q + 8) by
      show nI 8 * nI i + nI 8 + nI q = _
      rw [nI_add' i 8 8, nI_add, show 8 * i + 8 + q = 8 * i + q + 8 by omega], show (8 : Int32) * nI i + nI q = nI (8 * i + q) from nI_add' i 8 q]
    refine ev_b (qa_204 (by omega)) (ev_b (qs_204 (by omega)) ?_)
    rw [nI_1]
    exact e1
set_option maxRecDepth 100000 in
set_option maxHeartbeats 4000000 in
theorem r_397l {V : Nat → Nat → Value} {I : Nat → Nat → Int32} {L : Nat → Nat → Int64} {R : Nat → Nat → Option Nat} {tl : am_H} {N k c : Nat} (hN : 100 < N) (hc : V 174 31 = .int (nI c)) (hc24 : c ≤ 23) (h2 : ∀ j, j ≤ c → am_afit 2 (I 202 j) = true) : ∀ (m i K : Nat) (J : Nat → Nat → Int32), i + m = c → k ≤ i → m < K → dInv I J k i (8 * i) → ∃ J', fg_397_38 N K (.ref 174) (nI i) (fx V J L R ++ tl) = some (.inl (some (.int (nI c)), fx V J' L R ++ tl)) ∧ dInv I J' k c (8 * c) := by
  intro m
  induction m with
  | zero =>
    intro i K J hi hk hK hJ
    obtain ⟨K, rfl⟩ : ∃ k, K = k + 1 := ⟨K - 1, by omega⟩
    obtain rfl : i = c := by omega
    refine ⟨J, ?_, hJ⟩
    rw [fg_397_38]
    exact ev_b (rdI hc) (ev_t (nI_le (Nat.le_refl _) (by omega)) (ev_b (rdI hc) rfl))
  | succ m ih =>
    intro i K J hi hk hK hJ
    obtain ⟨K, rfl⟩ : ∃ k, K = k + 1 := ⟨K - 1, by omega⟩
    obtain ⟨j1, j2, j3, j4, j5, j6, j7, j8, j9⟩ := hJ
    have sh : ∀ {y : Nat}, J y = shf (I y) k i → upd (J y) i (J y (i + 1)) = shf (I y) k (i + 1) := fun {y} h => by rw [h, shf_s hk]
    obtain ⟨J1, e1, e2⟩ := r_397i (V := V) (I := I) (L := L) (R := R) (tl := tl) (N := N) (k := k) (i := i) (rc := fg_397_38 N K) hk (by omega) 8 0 N (iup (iup (iup (iup (iup (iup (iup J 197 (upd (J 197) i (J 197 (i + 1)))) 198 (upd (J 198) i (J 198 (i + 1)))) 199 (upd (J 199) i (J 199 (i + 1)))) 200 (upd (J 200) i (J 200 (i + 1)))) 201 (upd (J 201) i (J 201 (i + 1)))) 202 (upd (J 202) i (J 202 (i + 1)))) 203 (upd (J 203) i (J 203 (i + 1)))) rfl (by omega) ⟨sh j1, sh j2, sh j3, sh j4, sh j5, sh j6, sh j7, j8, fun y hy => by
      show (if y = 203 then _ else if y = 202 then _ else if y = 201 then _ else if y = 200 then _ else if y = 199 then _ else if y = 198 then _ else if y = 197 then _ else J y) = I y
      rw [if_neg (by omega), if_neg (by omega), if_neg (by omega), if_neg (by omega), if_neg (by omega), if_neg (by omega), if_neg (by omega)]
      exact j9 y hy⟩
    obtain ⟨J2, e3, e4⟩ := ih (i + 1) K J1 (by omega) (by omega) (by omega) e2
    refine ⟨J2, ?_, e4⟩
    have hf : am_afit 2 (J 202 (i + 1)) = true := by
      rw [j6]
      unfold shf
      rw [if_neg (by omega)]
      exact h2 _ (by omega)
    rw [fg_397_38]
    dsimp only
    rw [nI_1]
    refine ev_b (rdI hc) (ev_f (nI_ge (by omega) (by omega)) ?_)
    refine ev_b (a := Value.ref 197) rfl (ev_b (a := Value.ref 197) rfl (ev_b (qa_197 (by omega)) (ev_b (qs_197 (by omega)) ?_)))
    refine ev_b (a := Value.ref 198) rfl (ev_b (a := Value.ref 198) rfl (ev_b (qa_198 (by omega)) (ev_b (qs_198 (by omega)) ?_)))
    refine ev_b (a := Value.ref 199) rfl (ev_b (a := Value.ref 199) rfl (ev_b (qa_199 (by omega)) (ev_b (qs_199 (by omega)) ?_)))
    refine ev_b (a := Value.ref 200) rfl (ev_b (a := Value.ref 200) rfl (ev_b (qa_200 (by omega)) (ev_b (qs_200 (by omega)) ?_)))
    refine ev_b (a := Value.ref 201) rfl (ev_b (a := Value.ref 201) rfl (ev_b (qa_201 (by omega)) (ev_b (qs_201 (by omega)) ?_)))
    refine ev_b (a := Value.ref 202) rfl (ev_b (a := Value.ref 202) rfl (ev_b (qa_202 (by omega)) (ev_b (qs_202 (by omega) hf) ?_)))
    refine ev_b (a := Value.ref 203) rfl (ev_b (a := Value.ref 203) rfl (ev_b (qa_203 (by omega)) (ev_b (qs_203 (by omega)) ?_)))
    exact e1.trans e3

set_option maxRecDepth 100000 in
set_option maxHeartbeats 4000000 in
theorem c_109 {V : Nat → Nat → Value} {I : Nat → Nat → Int32} {L : Nat → Nat → Int64} {R : Nat → Nat → Option Nat} {tl : am_H} {m k : Nat} (hb : V 14 1 = .int (nI m)) (hm : m ≤ 24) (hk : k < m) : fm_109 (.ref 14) (nI k) (fx V I L R ++ tl) = some (.inl (none, fx (vup V 14 1 (.int (nI (m - 1)))) (iup I 15 (va_cpy (I 15) (I 15) ((k + 1) * 15) (k * 15) ((m - 1 - k) * 15))) L R ++ tl)) := by
  have e0 : nI m - 1 = nI (m - 1) := nI_sub (b := 1) (by omega)
  have e1 : (nI k + 1) * 15 = nI ((k + 1) * 15) := by
    rw [nI_1]
    exact (nI_mul (k + 1) 15).symm
  have e2 : nI k * 15 = nI (k * 15) := (nI_mul k 15).symm
  have e3 : (nI (m - 1) - nI k) * 15 = nI ((m - 1 - k) * 15) := by
    rw [nI_sub (by omega)]
    exact (nI_mul (m - 1 - k) 15).symm
  unfold fm_109 fg_109_0
  refine ev_b (a := Value.ref 15) rfl (ev_b (a := Value.ref 15) rfl (ev_b (rdI hb) ?_))
  rw [e1, e2, e0, e3]
  refine ev_b (ev_cpy (f := I 15) (g := I 15) (n0 := 360) (n1 := 360) (h1 := fx V (iup I 15 (va_cpy (I 15) (I 15) ((k + 1) * 15) (k * 15) ((m - 1 - k) * 15))) L R ++ tl) rfl rfl (by omega) (by omega) (by omega) (by omega) rfl) (ev_b (rdI hb) ?_)
  rw [e0]
  exact ev_b qp_14_1 rfl
theorem zr_drop {I J : Nat → Nat → Int32} {m k : Nat} (hm : m ≤ 24) (j1 : J 203 = shf (I 203) k (m - 1)) (j2 : J 204 = sh8 (I 204) (8 * k) (8 * (m - 1))) (h : ∀ k, k < 24 → zr I k) : ∀ k, k < 24 → zr J k := by
  intro i hi
  unfold zr
  rw [j1, j2]
  unfold shf sh8
  by_cases c : k ≤ i ∧ i < m - 1
  · obtain ⟨s', s1, s2, s3⟩ := h (i + 1) (by omega)
    refine ⟨s', s1, by rw [if_pos c]; exact s2, fun t h1 h2 => ?_⟩
    rw [if_pos (by omega), show 8 * i + t + 8 = 8 * (i + 1) + t by omega]
    exact s3 t h1 h2
  · obtain ⟨s', s1, s2, s3⟩ := h i hi
    refine ⟨s', s1, by rw [if_neg c]; exact s2, fun t h1 h2 => ?_⟩
    rw [if_neg (by omega)]
    exact s3 t h1 h2
theorem cOk_drop {I J : Nat → Nat → Int32} {m k : Nat} (hk : k < m) {F : Nat → Int32} (hF : F = va_cpy (I 15) (I 15) ((k + 1) * 15) (k * 15) ((m - 1 - k) * 15)) (hJ : J 15 = F) (hd : dInv (iup I 15 F) J k (m - 1) (8 * (m - 1))) (ho : ∀ i, i < m → cOk I i) : ∀ i, i < m - 1 → cOk J i := by
  intro i hi
  obtain ⟨j1, j2, j3, j4, j5, j6, j7, j8, j9⟩ := hd
  have j1 : J 197 = shf (I 197) k (m - 1) := j1
  have j2 : J 198 = shf (I 198) k (m - 1) := j2
  have j3 : J 199 = shf (I 199) k (m - 1) := j3
  have j4 : J 200 = shf (I 200) k (m - 1) := j4
  have j5 : J 201 = shf (I 201) k (m - 1) := j5
  have j6 : J 202 = shf (I 202) k (m - 1) := j6
  have j7 : J 203 = shf (I 203) k (m - 1) := j7
  have j8 : J 204 = sh8 (I 204) (8 * k) (8 * (m - 1)) := j8
  obtain ⟨i', hi', f0, s0, r0⟩ : ∃ i', i' < m ∧ (∀ t, t < 15 → F (15 * i + t) = I 15 (15 * i' + t)) ∧ (∀ f : Nat → Int32, shf f k (m - 1) i = f i') ∧ (∀ (f : Nat → Int32) (t : Nat), t < 8 → sh8 f (8 * k) (8 * (m - 1)) (8 * i + t) = f (8 * i' + t)) := by
    by_cases c : k ≤ i
    · refine ⟨i + 1, by omega, fun t ht => ?_, fun f => ?_, fun f t ht => ?_⟩
      · rw [hF]
        unfold va_cpy
        rw [if_pos ⟨by omega, by omega⟩, show (k + 1) * 15 + (15 * i + t - k * 15) = 15 * (i + 1) + t by omega]
      · unfold shf
        rw [if_pos ⟨c, hi⟩]
      · unfold sh8
        rw [if_pos ⟨by omega, by omega⟩, show 8 * i + t + 8 = 8 * (i + 1) + t by omega]
    · refine ⟨i, by omega, fun t ht => ?_, fun f => ?_, fun f t ht => ?_⟩
      · rw [hF]
        unfold va_cpy
        rw [if_neg (by omega)]
      · unfold shf
        rw [if_neg (by omega)]
      · unfold sh8
        rw [if_neg (by omega)]
  obtain ⟨o0, o1, o2, o3, o4, o5, o6, o7⟩ := ho i' hi'
  unfold cOk
  rw [hJ, j1, j2, j3, j4, j5, j6, j7, j8, s0, s0, s0, s0, s0, s0, s0, f0 1 (by omega), f0 2 (by omega), f0 3 (by omega), f0 4 (by omega), f0 5 (by omega), f0 6 (by omega)]
  refine ⟨(f0 0 (by omega)).trans o0, o1, o2, o3, o4, o5, o6, fun t ht => ?_⟩
  rw [f0 (7 + t) (by omega), r0 _ t ht]
  exact o7 t ht
set_option maxRecDepth 100000 in
set_option maxHeartbeats 4000000 in
theorem u_14 {V : Nat → Nat → Value} {I : Nat → Nat → Int32} {L : Nat → Nat → Int64} {R : Nat → Nat → Option Nat} {tl : am_H} {n p j : Nat} (hr : rel V I L R tl n p) (hm : room tl n p j) {N : Nat} (hN : 100 < N) (a1 : Int32) : ∃ h', opBI (fm_106 (.ref 0) a1 (.ref 268) (fx V I L R ++ tl)) (fun h1 => fm_397 N (.ref 174) a1 h1) vfI h' ∧ invW (j + 1) h' := by
  obtain ⟨z1, z2, z3, ⟨m, b1, b2, b3, b4⟩, z5, z6, z7, z8, z9, z10, z11, z12, w⟩ := hr
  have hr : rel V I L R tl n p := ⟨z1, z2, z3, ⟨m, b1, b2, b3, b4⟩, z5, z6, z7, z8, z9, z10, z11, z12, w⟩
  rcases dich a1 (n := m) (by omega) with hn | ⟨k, hk, rfl⟩
  · refine ⟨_, opBI_err (c := 1) (b := 0) (by decide) (tl := tl ++ [am_dummy]) ?_ ?_, inv_mk (rel_thr 1 (rel_dum hr)) (room_dum hm)⟩
    · have e : fm_107 (.ref 0) a1 (fx V I L R ++ tl) = some (.inr (2, (fx V I L R ++ (tl ++ [am_dummy])))) := by
        unfold fm_107 fg_107_0
        refine ev_i rfl ?_
        rw [c_108n b2 hn]
        rfl
      unfold fm_106 fg_106_0
      refine ev_i rfl ?_
      rw [e]
      rfl
    · show fm_397 N (.ref 174) a1 (fx V I L R ++ (tl ++ [am_dummy])) = _
      unfold fm_397 fg_397_0
      exact ev_i rfl (ev_cI (r_398n b3 b1 hn) (ev_t rfl (ev_b qp_174_0 (ev_b (a := 1) rfl (ev_f (by decide) rfl)))))
  · generalize hF : va_cpy (I 15) (I 15) ((k + 1) * 15) (k * 15) ((m - 1 - k) * 15) = F
    have d0 : dInv (iup I 15 F) (iup I 15 F) k k (8 * k) := ⟨shf_0.symm, shf_0.symm, shf_0.symm, shf_0.symm, shf_0.symm, shf_0.symm, shf_0.symm, sh8_0.symm, fun _ _ => rfl⟩
    obtain ⟨J, e1, e2⟩ := r_397l (V := vup (vup (vup V 14 1 (.int (nI (m - 1)))) 174 0 (.int 0)) 174 31 (.int (nI (m - 1)))) (I := iup I 15 F) (L := outL L (nI (m - 1)).toInt64) (R := R) (tl := tl) (N := N) (k := k) (c := m - 1) hN rfl (by omega) (fun q hq => by
      obtain ⟨-, -, -, -, -, ⟨d, d1, d2, -⟩, -⟩ := b4 q (by omega)
      show am_afit 2 (I 202 q) = true
      rw [d2]
      rcases (by omega : d = 0 ∨ d = 1) with rfl | rfl
      · rfl
      · rfl) (m - 1 - k) k N (iup I 15 F) (by omega) (Nat.le_refl _) (by omega) d0
    have jy : ∀ y, y < 197 ∨ 204 < y → y ≠ 15 → J y = I y := fun y hy hy2 => (e2.2.2.2.2.2.2.2.2 y hy).trans (if_neg hy2)
    have j15 : J 15 = F := e2.2.2.2.2.2.2.2.2 15 (by omega)
    refine ⟨_, ⟨0, fx (vup V 14 1 (.int (nI (m - 1)))) (iup I 15 F) (outL L (nI (m - 1)).toInt64) R ++ tl, nI (m - 1), (nI (m - 1)).toInt64, ?_, rfl, ?_, rfl, rfl, fun _ => ⟨out_a (M := L), rfl⟩⟩, inv_mk (V := vup (vup (vup V 14 1 (.int (nI (m - 1)))) 174 0 (.int 0)) 174 31 (.int (nI (m - 1)))) (I := J) (L := outL L (nI (m - 1)).toInt64) ⟨z1, rBp_c (fun y a b => jy y (by omega) (by omega)) rfl z2, rTx_c (jy 3 (by omega) (by omega)) (jy 218 (by omega) (by omega)) rfl rfl z3, ⟨m - 1, by omega, rfl, rfl, cOk_drop hk hF.symm j15 e2 b4⟩, rDr_c (jy 164 (by omega) (by omega)) (jy 205 (by omega) (by omega)) rfl z5, rSe_c (jy 38 (by omega) (by omega)) (jy 206 (by omega) (by omega)) rfl rfl z6, rIs_c (fun y hy => jy y (by omega) (by omega)) (fun a ha => ?_) rfl z7, z8, rUn_m (jy 166 (by omega) (by omega)) (jy 254 (by omega) (by omega)) (jy 165 (by omega) (by omega)) (fun y a b _ => jy y (by omega) (by omega)) (zr_drop b1 e2.2.2.2.2.2.2.1 e2.2.2.2.2.2.2.2.1 z9.2.2.1) z9, rRu_c (jy 119 (by omega) (by omega)) (jy 120 (by omega) (by omega)) (jy 248 (by omega) (by omega)) (jy 249 (by omega) (by omega)) rfl rfl z10, z11, z12, wt_i (wt_i (wt_i w (by decide)) (by decide)) (by decide)⟩ (room_up hm)⟩
    · have e : fm_107 (.ref 0) (nI k) (fx V I L R ++ tl) = some (.inl (some (.int (nI (m - 1))), fx (vup V 14 1 (.int (nI (m - 1)))) (iup I 15 F) L R ++ tl)) := by
        have c9 := c_109 (V := V) (I := I) (L := L) (R := R) (tl := tl) b2 b1 hk
        rw [hF] at c9
        unfold fm_107 fg_107_0
        exact ev_i rfl (ev_cV (c_108 b2 b1 hk) (ev_b (a := Value.ref 14) rfl (ev_i rfl (ev_cV c9 (ev_b (a := Value.ref 14) rfl (ev_b (a := nI (m - 1)) rfl rfl))))))
      unfold fm_106 fg_106_0
      refine ev_i rfl ?_
      rw [e]
      exact ev_b out_s rfl
    · show fm_397 N (.ref 174) (nI k) (fx (vup V 14 1 (.int (nI (m - 1)))) (iup I 15 F) (outL L (nI (m - 1)).toInt64) R ++ tl) = _
      unfold fm_397 fg_397_0
      refine ev_i rfl (ev_cI (r_398 b3 b1 hk) (ev_f (by decide) (ev_b qp_174_0 (ev_b (a := 0) rfl (ev_t (by decide) (ev_b (rdI b3) ?_))))))
      rw [show nI m - 1 = nI (m - 1) from nI_sub (b := 1) (by omega)]
      exact ev_b qp_174_31 e1
    · rcases ha with rfl | rfl | rfl | rfl | rfl | rfl | rfl | rfl <;> rfl
