/-! ===== edits: candidates in the class: machines, a state less, states mixed ===== -/
def lsG (g : Nat) (H : Nat → Nat → Int32) (n k w : Nat) : Int32 := if w ≠ 0 ∧ 4 * k + (w - 1) < n then lsE (nI g) (H k w) else H k w
theorem lsG_s {g n k w : Nat} {H : Nat → Nat → Int32} (hw : w < 5) : (if k = n / 4 ∧ w = 1 + n % 4 then lsE (nI g) (H (n / 4) (1 + n % 4)) else lsG g H n k w) = lsG g H (n + 1) k w := by
  unfold lsG
  by_cases c : k = n / 4 ∧ w = 1 + n % 4
  · rw [if_pos c, if_pos (by omega), c.1, c.2]
  · rw [if_neg c]
    by_cases d : w ≠ 0 ∧ 4 * k + (w - 1) < n
    · rw [if_pos d, if_pos (by omega)]
    · rw [if_neg d, if_neg (by omega)]
set_option maxRecDepth 100000 in
set_option maxHeartbeats 4000000 in
theorem l180 {L : Nat → Nat → Int64} {R : Nat → Nat → Option Nat} {tl : am_H} {N g z : Nat} {H : Nat → Nat → Int32} (hz : z ≤ 6) : ∀ (m n K : Nat) (V : Nat → Nat → Value) (I : Nat → Nat → Int32), n + m = 4 * z → m < K → wt V → hM V I 90 z (lsG g H n) → ∃ W J, fg_180_47 N K (.ref 89) (nI g) (nI n) (fx V I L R ++ tl) = some (.inl (some (.int (bI true)), fx W J L R ++ tl)) ∧ hM W J 90 z (lsG g H (4 * z)) ∧ fr1 90 V W I J := by
  have e4 : (4 : Int32) * nI z = nI (4 * z) := nI_mm 4 z
  intro m
  induction m with
  | zero =>
    intro n K V I hm hK hw hd
    obtain ⟨K, rfl⟩ : ∃ k, K = k + 1 := ⟨K - 1, by omega⟩
    rw [Nat.add_zero] at hm
    subst hm
    exact ⟨V, I, hd_180_47 (ev_b (rdR rfl) (ev_b (rdI hd.2.2.1) (ev_t (by rw [e4]; exact nI_le (Nat.le_refl _) (by omega)) rfl))), hd, fr1_r⟩
  | succ m ih =>
    intro n K V I hm hK hw hd
    obtain ⟨K, rfl⟩ : ∃ k, K = k + 1 := ⟨K - 1, by omega⟩
    obtain ⟨q1, q2⟩ := e_dm (e := n) (by omega)
    have gt := sM_get (L := L) (R := R) (srcM_90 (L := L) (R := R) (tl := tl) hw hd (by omega)) (k := n / 4) (w := 1 + n % 4) (by omega) (by omega)
    rw [show lsG g H n (n / 4) (1 + n % 4) = H (n / 4) (1 + n % 4) by unfold lsG; exact if_neg (by omega)] at gt
    rw [← q2, ← q1] at gt
    obtain ⟨W1, J1, e1, d1, f1⟩ := sM_51 (L := L) (R := R) (tl := tl) (v := lsE (nI g) (H (n / 4) (1 + n % 4))) (i := n / 4) (j := 1 + n % 4) hd (by omega) (by omega) (by omega)
    rw [← q2, ← q1] at e1
    obtain ⟨W, J, e, d, f⟩ := ih (n + 1) K W1 J1 (by omega) (by omega) (f1.2.2 hw) (hM_g d1 (fun k w _ hw => lsG_s hw))
    refine ⟨W, J, ?_, d, fr1_t f1 f⟩
    have go : ∀ y, lsE (nI g) (H (n / 4) (1 + n % 4)) = y → fg_180_109 N (fg_180_47 N K) (.ref 89) (nI g) (nI n) (.ref 90) (nI n / 4) (1 + (nI n - nI n / 4 * 4)) y (fx V I L R ++ tl) = some (.inl (some (.int (bI true)), fx W J L R ++ tl)) := fun y hy => by
      apply hd_180_109
      rw [← hy]
      refine ev_i rfl (ev_cV e1 ?_)
      rw [nI_1]
      exact e
    apply hd_180_47
    refine ev_b (rdR rfl) (ev_b (rdI hd.2.2.1) (ev_f (by rw [e4]; exact nI_ge (by omega) (by omega)) (ev_b (rdR rfl) (ev_i rfl (ev_cI gt (ev_b (rdR rfl) ?_))))))
    by_cases c1 : H (n / 4) (1 + n % 4) = nI g
    · exact ev_f (fun h => h c1) (go 0 (by unfold lsE; rw [if_pos c1]))
    · refine ev_t c1 ?_
      by_cases c2 : H (n / 4) (1 + n % 4) ≤ nI g
      · exact ev_t c2 (go _ (by unfold lsE; rw [if_neg c1, if_neg (Int32.not_lt.mpr c2)]))
      · exact ev_f c2 (go _ (by unfold lsE; rw [if_neg c1, if_pos (Int32.not_le.mp c2)]))
theorem lsE_n {g : Nat} {x : Int32} (hg : g < 100) (hx : ∃ e, e < 8 ∧ x = nI e) : ∃ e, e < 8 ∧ lsE (nI g) x = nI e := by
  obtain ⟨e, h1, rfl⟩ := hx
  unfold lsE
  by_cases c1 : nI e = nI g
  · rw [if_pos c1]; exact ⟨0, by omega, rfl⟩
  · rw [if_neg c1]
    by_cases c2 : nI g < nI e
    · rw [if_pos c2]
      have := (nI_ltI (by omega) (by omega)).mp c2
      exact ⟨e - 1, by omega, nI_sub (b := 1) (by omega)⟩
    · rw [if_neg c2]; exact ⟨e, h1, rfl⟩
theorem lsV_d {g d : Nat} {v : Int32} (hg : g < 100) (hd : d < 4) : pv_367 (lsV (nI g) v) (nI d) = lsE (nI g) (pv_367 v (nI d)) := by
  have k : ∀ c : Int32, ∃ e, e < 8 ∧ lsE (nI g) (pv_367 v c) = nI e := fun c => lsE_n hg ⟨_, (p367 v c).1, (p367 v c).2⟩
  obtain ⟨a, a1, a2⟩ := k 0
  obtain ⟨b, b1, b2⟩ := k 1
  obtain ⟨c, c1, c2⟩ := k 2
  obtain ⟨e, e1, e2⟩ := k 3
  have e : lsV (nI g) v = nI (a + b * 8 + c * 64 + e * 512) := by
    unfold lsV
    rw [a2, b2, c2, e2]
    have s0 : pv_353 0 0 (nI a) = nI (0 + a * 8 ^ 0) := t353 0 (by omega) 0 (by decide) a a1
    have s1 : pv_353 (nI (0 + a * 8 ^ 0)) 1 (nI b) = nI (0 + a * 8 ^ 0 + b * 8 ^ 1) := t353 1 (by omega) _ (by omega) b b1
    have s2 : pv_353 (nI (0 + a * 8 ^ 0 + b * 8 ^ 1)) 2 (nI c) = nI (0 + a * 8 ^ 0 + b * 8 ^ 1 + c * 8 ^ 2) := t353 2 (by omega) _ (by omega) c c1
    have s3 : pv_353 (nI (0 + a * 8 ^ 0 + b * 8 ^ 1 + c * 8 ^ 2)) 3 (nI e) = nI (0 + a * 8 ^ 0 + b * 8 ^ 1 + c * 8 ^ 2 + e * 8 ^ 3) := t353 3 (by omega) _ (by omega) e e1
    rw [s0, s1, s2, s3]
    congr 1
    omega
  rw [e, t367 (by omega) hd]
  rcases (by omega : d = 0 ∨ d = 1 ∨ d = 2 ∨ d = 3) with rfl | rfl | rfl | rfl
  · rw [show pv_367 v (nI 0) = pv_367 v 0 from rfl, a2]; congr 1; omega
  · rw [show pv_367 v (nI 1) = pv_367 v 1 from rfl, b2]; congr 1; omega
  · rw [show pv_367 v (nI 2) = pv_367 v 2 from rfl, c2]; congr 1; omega
  · rw [show pv_367 v (nI 3) = pv_367 v 3 from rfl, e2]; congr 1; omega
theorem srt_map {P : xI} {f : Int32 × Int32 → Int32 × Int32} {k : Nat} (hk : k < P.length) : srt (P.map f) k = (f (srt P k, vlu P k)).1 ∧ vlu (P.map f) k = (f (srt P k, vlu P k)).2 := by
  unfold srt vlu
  rw [List.getD_eq_getElem?_getD, List.getElem?_map, List.getElem?_eq_getElem hk, List.getD_eq_getElem?_getD, List.getElem?_eq_getElem hk]
  exact ⟨rfl, rfl⟩
theorem rG_take {P : xI} {g k w : Nat} (h : k < g) : rG (P.take g) k w = rG P k w := by
  unfold rG srt vlu
  rw [List.getD_eq_getElem?_getD, List.getD_eq_getElem?_getD, List.getElem?_take_of_lt h]
theorem rG_drop {P : xI} {g k w : Nat} : rG (P.drop g) k w = rG P (g + k) w := by
  unfold rG srt vlu
  rw [List.getD_eq_getElem?_getD, List.getD_eq_getElem?_getD, List.getElem?_drop]
set_option maxRecDepth 100000 in
set_option maxHeartbeats 4000000 in
theorem m_13 {V : Nat → Nat → Value} {I : Nat → Nat → Int32} {L : Nat → Nat → Int64} {R : Nat → Nat → Option Nat} {tl : am_H} {N A it ac c : Nat} {P : xI} (hN : 100 < N) (hw : wt V) (hx : cxM V I tl A it 13 ac P) (hl : P.length ≤ 6) (hc : c < P.length - 1) : ∃ W J b, fm_163 N (.ref 89) (nI c) (fx V I L R ++ tl) = some (.inl (some (.int (bI b)), fx W J L R ++ tl)) ∧ outN W J (cd23 P c) b ∧ frM V W I J := by
  obtain ⟨h5, h7, h8, h1, h2, hs, hA, hi⟩ := hx
  obtain ⟨o1, o2, -⟩ := sM_ok (L := L) (R := R) hs
  have rb : ∀ (W : Nat → Nat → Value) (J : Nat → Nat → Int32), fr1 90 V W I J → am_vR (am_pG 5 (.ref 89) (fx W J L R ++ tl)) = some (.ref A) := fun W J f => rVR qv_89_5 ((f.1 89 5 (by decide)).trans h5)
  obtain ⟨W1, J1, e1, d1, f1⟩ := sM_34 (V := V) (I := I) (L := L) (R := R) (tl := tl) (G := rG P)
  have s1 := srcM_f f1 (by omega) (by omega) hs
  obtain ⟨W2, J2, e2, d2, f2⟩ := sM_170 (L := L) (R := R) (i := 0) (j := c + 1) s1 d1 (by omega) (by omega) (by omega) 0 (nI (c + 1)) rfl rfl
  have f12 := fr1_t f1 f2
  have s2 := srcM_f f12 (by omega) (by omega) hs
  have o2' := (sM_ok (L := L) (R := R) s2).2.1
  obtain ⟨W3, J3, e3, d3, f3⟩ := sM_170 (L := L) (R := R) (i := c + 2) (j := P.length) s2 d2 (by omega) (by omega) (by omega) (nI (c + 1) + 1) (nI P.length) (nI_1 (c + 1)) rfl
  have f13 := fr1_t f12 f3
  have lp : (P.take (c + 1) ++ P.drop (c + 2)).length = P.length - 1 := by rw [List.length_append, List.length_take, List.length_drop]; omega
  have l1 : (P.take (c + 1)).length = c + 1 := by rw [List.length_take]; omega
  have d3 : hM W3 J3 90 (P.length - 1) (lsG (c + 1) (rG (P.take (c + 1) ++ P.drop (c + 2))) 0) := by
    rw [show 0 + (c + 1 - 0) + (P.length - (c + 2)) = P.length - 1 by omega] at d3
    refine hM_g d3 (fun k w hk _ => ?_)
    unfold lsG
    rw [if_neg (c := w ≠ 0 ∧ 4 * k + (w - 1) < 0) (by omega), rG_app, l1]
    by_cases q : k < c + 1
    · rw [if_pos (by omega), if_neg (by omega), if_pos q, rG_take q, show 0 + (k - 0) = k by omega]
    · rw [if_neg (by omega), if_neg q, rG_drop, show c + 2 + (k - (0 + (c + 1 - 0))) = c + 2 + (k - (c + 1)) by omega]
  obtain ⟨W, J, e, d, f⟩ := l180 (L := L) (R := R) (tl := tl) (N := N) (by omega) (4 * (P.length - 1)) 0 N W3 J3 (by omega) (by omega) (f13.2.2 hw) d3
  refine ⟨W, J, true, ?_, outN_y (o := cd23 P c) (z := P.length - 1) rfl (by rw [List.length_map]; exact lp) (hM_g d (fun k w hk hw => ?_)) (by omega), frM_9 (fr1_t f13 f)⟩
  · have e : fm_180 N (.ref 89) (nI c + 1) (fx V I L R ++ tl) = some (.inl (some (.int (bI true)), fx W J L R ++ tl)) := by
      rw [nI_1]
      apply hm_180
      apply hd_180_0
      exact ev_b (rdR rfl) (ev_i rfl (ev_cV e1 (ev_b (rdR rfl) (ev_b (rb W1 J1 f1) (ev_i rfl (ev_cI e2 (ev_b (rdR rfl) (ev_b (rb W2 J2 f12) (ev_b (rb W2 J2 f12) (ev_b o2' (ev_i rfl (ev_cI e3 e))))))))))))
    apply hm_163
    apply hd_163_0
    exact ev_b (rdI h8) (ev_t (nI_le (a := 1) h1 (by omega)) (ev_b (rdI h7) (ev_f (by decide) (ev_f (by decide) (ev_f (by decide) (ev_f (by decide) (ev_f (by decide) (ev_f (by decide) (ev_f (by decide) (ev_f (by decide) (ev_f (by decide) (ev_f (by decide) (ev_f (by decide) (ev_f (by decide) (ev_f (by decide) (ev_t rfl (ev_i rfl (ev_cI e (ev_i (bI_fit true) rfl)))))))))))))))))))
  · have sm := srt_map (P := P.take (c + 1) ++ P.drop (c + 2)) (f := fun x => (x.1, lsV (nI (c + 1)) x.2)) (k := k) (by omega)
    unfold lsG
    by_cases q : w = 0
    · rw [if_neg (fun e => e.1 q)]
      unfold rG
      rw [if_pos q, if_pos q, sm.1]
    · rw [if_pos (by omega)]
      unfold rG
      rw [if_neg q, if_neg q, sm.2, lsV_d (by omega) (by omega)]
theorem bit_1 : ∀ m, m < 64 → ∀ k, k < 6 → (((nI m >>> (nI k &&& 31)) &&& 1) = 1 ↔ m / 2 ^ k % 2 = 1) := by decide +kernel
def mxG (P Q : xI) (m k w : Nat) : Int32 := if m / 2 ^ k % 2 = 1 then rG Q k w else rG P k w
set_option maxRecDepth 100000 in
set_option maxHeartbeats 4000000 in
theorem l181 {L : Nat → Nat → Int64} {R : Nat → Nat → Option Nat} {tl : am_H} {N A it B ib m : Nat} {P Q : xI} (hA : 130 < A) (hi : 130 < it) (hB : 130 < B) (hib : 130 < ib) (hl : P.length ≤ 6) (hm : m < 64) (hq : Q.length = P.length) : ∀ (n k K : Nat) (V : Nat → Nat → Value) (I : Nat → Nat → Int32), k + n = P.length → n < K → V 89 5 = .ref A → V 89 6 = .ref B → srcM V I tl A it P.length (rG P) → srcM V I tl B ib Q.length (rG Q) → hM V I 90 k (mxG P Q m) → ∃ W J, fg_181_11 N K (.ref 89) (nI m) (nI k) (fx V I L R ++ tl) = some (.inl (some (.int (bI true)), fx W J L R ++ tl)) ∧ hM W J 90 P.length (mxG P Q m) ∧ fr1 90 V W I J := by
  intro n
  induction n with
  | zero =>
    intro k K V I hn hK h5 h6 hs ht hd
    obtain ⟨K, rfl⟩ : ∃ k, K = k + 1 := ⟨K - 1, by omega⟩
    rw [Nat.add_zero] at hn
    subst hn
    have rb : am_vR (am_pG 5 (.ref 89) (fx V I L R ++ tl)) = some (.ref A) := rVR qv_89_5 h5
    exact ⟨V, I, hd_181_11 (ev_b rb (ev_b (sM_ok (L := L) (R := R) hs).2.1 (ev_t (nI_le (Nat.le_refl _) (by omega)) rfl))), hd, fr1_r⟩
  | succ n ih =>
    intro k K V I hn hK h5 h6 hs ht hd
    obtain ⟨K, rfl⟩ : ∃ k, K = k + 1 := ⟨K - 1, by omega⟩
    have rb : am_vR (am_pG 5 (.ref 89) (fx V I L R ++ tl)) = some (.ref A) := rVR qv_89_5 h5
    have rm : am_vR (am_pG 6 (.ref 89) (fx V I L R ++ tl)) = some (.ref B) := rVR qv_89_6 h6
    have hb := bit_1 m hm k (by omega)
    have go : ∀ (X ix : Nat) (Y : xI), 130 < X → 130 < ix → srcM V I tl X ix P.length (rG Y) → (∀ w, rG Y k w = mxG P Q m k w) → ∃ W J, fg_181_46 N (fg_181_11 N K) (.ref 89) (nI m) (nI k) (.ref 90) (.ref X) (fx V I L R ++ tl) = some (.inl (some (.int (bI true)), fx W J L R ++ tl)) ∧ hM W J 90 P.length (mxG P Q m) ∧ fr1 90 V W I J := fun X ix Y hX hx hsY hy => by
      obtain ⟨W1, J1, e1, d1, f1⟩ := sM_170 (L := L) (R := R) (i := k) (j := k + 1) hsY hd (by omega) (by omega) (by omega) (nI k) (nI k + 1) rfl (nI_1 k)
      rw [show k + (k + 1 - k) = k + 1 by omega] at d1
      obtain ⟨W, J, e, d, f⟩ := ih (k + 1) K W1 J1 (by omega) (by omega) ((f1.1 89 5 (by decide)).trans h5) ((f1.1 89 6 (by decide)).trans h6) (srcM_f f1 (by omega) (by omega) hs) (srcM_f f1 (by omega) (by omega) ht) (hM_g d1 (fun i w hi _ => by
        by_cases q : i < k
        · rw [if_pos q]
        · rw [if_neg q, show k + (i - k) = k by omega, hy, show i = k by omega]))
      refine ⟨W, J, ?_, d, fr1_t f1 f⟩
      apply hd_181_46
      refine ev_i rfl (ev_cI e1 ?_)
      rw [nI_1]
      exact e
    have hh : ∀ o, (if ¬ ((nI m >>> (nI k &&& 31)) &&& 1) = 1 then ((am_vR (am_pG 5 (.ref 89) (fx V I L R ++ tl))).bind fun v9 => (fg_181_46 N (fg_181_11 N K) (.ref 89) (nI m) (nI k) (.ref 90) v9 (fx V I L R ++ tl))) else ((am_vR (am_pG 6 (.ref 89) (fx V I L R ++ tl))).bind fun v11 => (fg_181_46 N (fg_181_11 N K) (.ref 89) (nI m) (nI k) (.ref 90) v11 (fx V I L R ++ tl)))) = o → fg_181_11 N (K + 1) (.ref 89) (nI m) (nI k) (fx V I L R ++ tl) = o := fun o h => by
      apply hd_181_11
      exact ev_b rb (ev_b (sM_ok (L := L) (R := R) hs).2.1 (ev_f (nI_ge (by omega) (by omega)) (ev_b (rdR rfl) h)))
    by_cases c : m / 2 ^ k % 2 = 1
    · obtain ⟨W, J, e, d, f⟩ := go B ib Q hB hib (by rw [← hq]; exact ht) (fun w => by unfold mxG; rw [if_pos c])
      exact ⟨W, J, hh _ (ev_f (fun h => h (hb.mpr c)) (ev_b rm e)), d, f⟩
    · obtain ⟨W, J, e, d, f⟩ := go A it P hA hi hs (fun w => by unfold mxG; rw [if_neg c])
      exact ⟨W, J, hh _ (ev_t (fun h => c (hb.mp h)) (ev_b rb e)), d, f⟩
theorem srt_rng {n k : Nat} {f : Nat → Int32 × Int32} (hk : k < n) : srt ((List.range n).map f) k = (f k).1 ∧ vlu ((List.range n).map f) k = (f k).2 := by
  unfold srt vlu
  rw [List.getD_eq_getElem?_getD, List.getElem?_map, List.getElem?_range hk]
  exact ⟨rfl, rfl⟩
set_option maxRecDepth 100000 in
set_option maxHeartbeats 4000000 in
theorem m_14 {V : Nat → Nat → Value} {I : Nat → Nat → Int32} {L : Nat → Nat → Int64} {R : Nat → Nat → Option Nat} {tl : am_H} {N A it ac B ib c : Nat} {P Q : xI} (hN : 100 < N) (hx : cxM V I tl A it 14 ac P) (hl : P.length ≤ 6) (h6 : V 89 6 = .ref B) (hB : 130 < B) (hib : 130 < ib) (ht : srcM V I tl B ib Q.length (rG Q)) (hq : Q.length = P.length) (hc : c < 2 ^ P.length - 2) : ∃ W J b, fm_163 N (.ref 89) (nI c) (fx V I L R ++ tl) = some (.inl (some (.int (bI b)), fx W J L R ++ tl)) ∧ outN W J (cdP2 P Q c) b ∧ frM V W I J := by
  obtain ⟨h5, h7, h8, h1, h2, hs, hA, hi⟩ := hx
  have p64 : 2 ^ P.length ≤ 2 ^ 6 := Nat.pow_le_pow_right (by decide) hl
  obtain ⟨W1, J1, e1, d1, f1⟩ := sM_34 (V := V) (I := I) (L := L) (R := R) (tl := tl) (G := mxG P Q (c + 1))
  obtain ⟨W, J, e, d, f⟩ := l181 (L := L) (R := R) (tl := tl) (N := N) hA hi hB hib hl (m := c + 1) (by omega) hq P.length 0 N W1 J1 (by omega) (by omega) ((f1.1 89 5 (by decide)).trans h5) ((f1.1 89 6 (by decide)).trans h6) (srcM_f f1 (by omega) (by omega) hs) (srcM_f f1 (by omega) (by omega) ht) d1
  refine ⟨W, J, true, ?_, outN_y (o := cdP2 P Q c) (z := P.length) rfl (by rw [List.length_map, List.length_range]) (hM_g d (fun k w hk hw => ?_)) (by omega), frM_9 (fr1_t f1 f)⟩
  · have e : fm_181 N (.ref 89) (nI c + 1) (fx V I L R ++ tl) = some (.inl (some (.int (bI true)), fx W J L R ++ tl)) := by
      rw [nI_1]
      apply hm_181
      apply hd_181_0
      exact ev_b (rdR rfl) (ev_i rfl (ev_cV e1 e))
    apply hm_163
    apply hd_163_0
    exact ev_b (rdI h8) (ev_t (nI_le (a := 1) h1 (by omega)) (ev_b (rdI h7) (ev_f (by decide) (ev_f (by decide) (ev_f (by decide) (ev_f (by decide) (ev_f (by decide) (ev_f (by decide) (ev_f (by decide) (ev_f (by decide) (ev_f (by decide) (ev_f (by decide) (ev_f (by decide) (ev_f (by decide) (ev_f (by decide) (ev_f (by decide) (ev_t rfl (ev_i rfl (ev_cI e (ev_i (bI_fit true) rfl))))))))))))))))))))
  · have sm := srt_rng (n := P.length) (k := k) (f := fun k => if (c + 1) / 2 ^ k % 2 = 1 then (srt Q k, vlu Q k) else (srt P k, vlu P k)) hk
    unfold mxG rG
    rw [sm.1, sm.2]
    by_cases q : (c + 1) / 2 ^ k % 2 = 1
    · rw [if_pos q, if_pos q]
    · rw [if_neg q, if_neg q]
