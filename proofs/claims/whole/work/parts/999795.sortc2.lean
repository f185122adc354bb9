/-! ===== edits: candidates in the class: trees, other sorts ===== -/
theorem tw13 : ∀ s, s < 21 → ∀ p, p < 3 → pv_13 (nI s) (nI p) = nI (twN s p) := by decide +kernel
theorem p14 {s : Nat} (hs : s < 21) (h : am_H) : fm_14 (nI s) h = some (.inl (some (.int (nI (arN s))), h)) := by rw [pe_14, ar14 s hs]
theorem p11 {s : Nat} (hs : s < 21) (h : am_H) : fm_11 (nI s) h = some (.inl (some (.int (nI (truN s))), h)) := by rw [pe_11, tr11 s hs]
theorem p13 {s p : Nat} (hs : s < 21) (hp : p < 3) (h : am_H) : fm_13 (nI s) (nI p) h = some (.inl (some (.int (nI (twN s p))), h)) := by rw [pe_13, tw13 s hs p hp]
theorem aN_3 (s : Nat) : arN s ≤ 3 := by unfold arN; split <;> (try split) <;> (try split) <;> omega
theorem tN_1 (s : Nat) : truN s ≤ 1 := by unfold truN; split <;> omega
theorem wN_1 (s p : Nat) : twN s p ≤ 1 := by unfold twN; split <;> omega
/-- a shape holds a tree's form -/
def shT (V : Nat → Nat → Value) (I : Nat → Nat → Int32) (S : Nat) (P : xT) : Prop := V S 7 = .int (nI P.length) ∧ shK I S (sl P)
def pA (P : xT) (k q : Nat) : Nat := if q = 0 then k + 1 else if q = 1 then xE P (k + 1) else xE P (xE P (k + 1))
set_option maxRecDepth 100000 in
set_option maxHeartbeats 4000000 in
theorem c166 {V : Nat → Nat → Value} {I : Nat → Nat → Int32} {L : Nat → Nat → Int64} {R : Nat → Nat → Option Nat} {tl : am_H} {N k q : Nat} {P : xT} (hN : 10 < N) (hs : shT V I 94 P) (hl : P.length ≤ 60) (hk : k < P.length) (hq : q < 3) : fm_166 N (.ref 94) (nI k) (nI q) (fx V I L R ++ tl) = some (.inl (some (.int (nI (pA P k q))), fx V I L R ++ tl)) := by
  have hg : ∀ j, j < P.length → I 95 j = nI (xE P j) := fun j hj => (hs.2 j (by rw [sl_len]; exact hj)).1
  have l1 : xE P (k + 1) ≤ P.length := xE_le (by omega)
  have a1 := e100_94 (L := L) (R := R) (tl := tl) (k := k + 1) hs.1 hl hg (by omega) (nI (k + 1)) rfl
  have a2 := e100_94 (L := L) (R := R) (tl := tl) (k := xE P (k + 1)) hs.1 hl hg l1 (nI (xE P (k + 1))) rfl
  obtain ⟨K, rfl⟩ : ∃ K, N = K + 3 := ⟨N - 3, by omega⟩
  apply hm_166
  apply hd_166_0
  rw [nI_1]
  rcases (by omega : q = 0 ∨ q = 1 ∨ q = 2) with rfl | rfl | rfl
  · exact hd_166_7 (ev_t (by decide) rfl)
  · exact hd_166_7 (ev_f (by decide) (ev_i rfl (ev_cI a1 (hd_166_7 (ev_t (by decide) rfl)))))
  · exact hd_166_7 (ev_f (by decide) (ev_i rfl (ev_cI a1 (hd_166_7 (ev_f (by decide) (ev_i rfl (ev_cI a2 (hd_166_7 (ev_t (by decide) rfl)))))))))
theorem sl_st2 {P : xT} {k s : Nat} {v : Int32} : sl (P.set k (s, v)) = (sl P).set k (s, 0) := by unfold sl; rw [List.map_set]
theorem okP_20b {P : xT} (ho : okP P) : ∀ x, x ∈ P → x.1 ≤ 20 := fun x hx => by
  obtain ⟨i, hi⟩ := List.mem_iff_getElem?.mp hx
  have hk : i < P.length := (List.getElem?_eq_some_iff.mp hi).1
  rw [xS_at hk] at hi
  have := (nd_at ho hk).1
  rw [← Option.some.inj hi]
  exact this
theorem mem_set2 {P : xT} {k : Nat} {y : Nat × Int32} (h : ∀ x, x ∈ P → x.1 ≤ 20) (hy : y.1 ≤ 20) : ∀ x, x ∈ P.set k y → x.1 ≤ 20 := fun x hx => by
  rcases List.mem_or_eq_of_mem_set hx with h1 | h1
  · exact h x h1
  · rw [h1]; exact hy
set_option maxRecDepth 100000 in
set_option maxHeartbeats 4000000 in
theorem m_1 {V : Nat → Nat → Value} {I : Nat → Nat → Int32} {L : Nat → Nat → Int64} {R : Nat → Nat → Option Nat} {tl : am_H} {N A it ac c : Nat} {P : xT} (hN : 10 < N) (hx : cxC V I tl A it 0 0 1 ac P) (ho : okP P) (hsh : shT V I 94 P) (hc : c < 21 * P.length) : ∃ W J b, fm_163 N (.ref 89) (nI c) (fx V I L R ++ tl) = some (.inl (some (.int (bI b)), fx W J L R ++ tl)) ∧ outM W J 0 0 (cd01 (tI P) c) b ∧ frM V W I J := by
  obtain ⟨h5, h7, h8, h1, h2, hs, hA, hi⟩ := hx
  obtain ⟨o1, o2, -, -, l60⟩ := src_ok (L := L) (R := R) hs
  have hk : c / 21 < P.length := by omega
  have d5 : nI c / 21 = nI (c / 21) := nI_dv (b := 21) (by omega) (by omega)
  have m5 : nI c - nI c / 21 * 21 = nI (c % 21) := nI_md (b := 21) (by omega) (by omega)
  have rb : am_vR (am_pG 5 (.ref 89) (fx V I L R ++ tl)) = some (.ref A) := rVR qv_89_5 h5
  obtain ⟨k, ek⟩ : ∃ k, k = c / 21 := ⟨_, rfl⟩
  obtain ⟨s, es⟩ : ∃ s, s = c % 21 := ⟨_, rfl⟩
  have s21 : s < 21 := by omega
  rw [← ek] at d5 hk
  rw [← es] at m5
  have gs := (src_get (L := L) (R := R) hs hk).1
  obtain ⟨x, ex⟩ : ∃ x, x = xS P k := ⟨_, rfl⟩
  have x21 : x < 21 := by have := (nd_at ho hk).1; omega
  rw [← ex] at gs
  have e166 := c166 (V := V) (I := I) (L := L) (R := R) (tl := tl) (N := N) (k := k) (q := 1) hN hsh l60 hk (by omega)
  have e166 : fm_166 N (.ref 94) (nI k) 1 (fx V I L R ++ tl) = some (.inl (some (.int (nI (xE P (k + 1)))), fx V I L R ++ tl)) := e166
  obtain ⟨e2, ee⟩ : ∃ e, e = xE P (k + 1) := ⟨_, rfl⟩
  have e2l : e2 ≤ P.length := by rw [ee]; exact xE_le (by omega)
  rw [← ee] at e166
  have ecd : cd01 (tI P) c = if s ≠ x ∧ likB s x = true then gS2 0 (tI (P.set k (s, (nwS s).2))) else none := by
    unfold cd01
    rw [← ek, ← es, (srt_tI hk).1, sN_n (by have := (nd_at ho hk).1; omega), ← ex, tI_set]
    rfl
  have st0 : ∀ (W : Nat → Nat → Value) (J : Nat → Nat → Int32) (b : Bool), fm_165 N (.ref 89) (nI k) (nI s) (fx V I L R ++ tl) = some (.inl (some (.int (bI b)), fx W J L R ++ tl)) → fm_163 N (.ref 89) (nI c) (fx V I L R ++ tl) = some (.inl (some (.int (bI b)), fx W J L R ++ tl)) := fun W J b e => by
    have e : fm_165 N (.ref 89) (nI c / 21) (nI c - nI c / 21 * 21) (fx V I L R ++ tl) = some (.inl (some (.int (bI b)), fx W J L R ++ tl)) := by rw [m5, d5]; exact e
    apply hm_163
    apply hd_163_0
    exact ev_b (rdI h8) (ev_t (nI_le (a := 1) h1 (by omega)) (ev_b (rdI h7) (ev_f (by decide) (ev_t rfl (ev_i rfl (ev_cI e (ev_i (bI_fit b) rfl)))))))
  have no61 : fg_165_61 N (fx V I L R ++ tl) = some (.inl (some (.int (bI false)), fx V I L R ++ tl)) := hd_165_61 rfl
  have no160 : fg_165_160 N (fx V I L R ++ tl) = some (.inl (some (.int (bI false)), fx V I L R ++ tl)) := hd_165_160 rfl
  have ar3 := aN_3 s
  have ar4 := aN_3 x
  have tr3 := tN_1 s
  have tr4 := tN_1 x
  have tw3 := wN_1 s 0
  have tw4 := wN_1 x 0
  by_cases c0 : s = x
  · refine ⟨V, I, false, st0 V I false ?_, out_n (by rw [ecd, if_neg (fun e => e.1 c0)]), frM_r⟩
    apply hm_165
    apply hd_165_0
    exact ev_b rb (ev_i o1 (ev_cI gs (ev_b (rdR rfl) (ev_i rfl (ev_cI e166 (ev_t (by rw [c0]) no61))))))
  have n0 : ¬ nI s = nI x := fun e => c0 ((nI_eq (by omega) (by omega)).mp e)
  by_cases c1 : likB s x = true
  case neg =>
    refine ⟨V, I, false, st0 V I false ?_, out_n (by rw [ecd, if_neg (fun e => c1 e.2)]), frM_r⟩
    apply hm_165
    apply hd_165_0
    refine ev_b rb (ev_i o1 (ev_cI gs (ev_b (rdR rfl) (ev_i rfl (ev_cI e166 (ev_f n0 (ev_cI (p14 s21 _) (ev_cI (p14 x21 _) ?_))))))))
    by_cases q1 : arN s = arN x
    case neg => exact ev_t (fun e => q1 ((nI_eq (by omega) (by omega)).mp e)) no61
    refine ev_f (fun e => e (by rw [q1])) (ev_cI (p11 s21 _) (ev_cI (p11 x21 _) ?_))
    by_cases q2 : truN s = truN x
    case neg => exact ev_t (fun e => q2 ((nI_eq (by omega) (by omega)).mp e)) no61
    refine ev_f (fun e => e (by rw [q2])) (ev_cI (p13 (p := 0) s21 (by omega) _) (ev_cI (p13 (p := 0) x21 (by omega) _) ?_))
    exact ev_f (fun e => c1 (decide_eq_true ⟨q1, q2, (nI_eq (by omega) (by omega)).mp e⟩)) no61
  obtain ⟨q1, q2, q3⟩ := like_a c1
  rw [if_pos ⟨c0, c1⟩] at ecd
  have hdr : (sl P).drop k = (x, 0) :: (sl P).drop (k + 1) := by rw [ex]; exact sl_at hk
  have key := rs_iff ho.1 (s := s) hdr (by omega) c1 c0
  rw [← sl_st2 (v := (nwS s).2), show enL (sl P) (k + 1) = e2 from ee.symm] at key
  have sn := snd_0 (Q := P.set k (s, (nwS s).2)) (mem_set2 (okP_20b ho) (by show s ≤ 20; omega))
  rw [List.length_set, key] at sn
  have sh := hsh.2 k (by rw [sl_len]; exact hk)
  have in1 : inL (sl P) k ≤ 1 := (cxK_f1 ho.1 (by rw [sl_len]; exact hk)).1
  have r98 : am_pA 2 (.ref 98) (nI k) (fx V I L R ++ tl) = some (nI (inL (sl P) k)) := by rw [qa_98 (by omega)]; exact congrArg some sh.2.2.2.1
  have e2lt : (s = 19 ∨ x = 19) → e2 < P.length := fun h => by
    have a2 : 10 ≤ xS P k := by
      rcases h with h | h
      · rw [h] at q1
        by_cases z : 10 ≤ xS P k
        · exact z
        · exfalso
          have : arN x ≤ 1 := by unfold arN; split <;> (try split) <;> (try split) <;> omega
          rw [← q1] at this
          exact absurd this (by decide)
      · omega
    rw [ee]
    exact ((nd_at ho hk).2.2.2.2.1 a2).1
  have r99 : e2 < P.length → am_pA 2 (.ref 99) (nI e2) (fx V I L R ++ tl) = some (nI (foL (sl P) e2).toNat) := fun h => by rw [qa_99 (by omega)]; exact congrArg some (hsh.2 e2 (by rw [sl_len]; exact h)).2.2.2.2.1
  have r100 : e2 < P.length → am_pA 2 (.ref 100) (nI e2) (fx V I L R ++ tl) = some (nI (loL (sl P) e2).toNat) := fun h => by rw [qa_100 (by omega)]; exact congrArg some (hsh.2 e2 (by rw [sl_len]; exact h)).2.2.2.2.2
  -- the copy
  obtain ⟨W1, J1, x1, y1, f1⟩ := s60_90 (L := L) (R := R) hs (by omega)
  obtain ⟨W2, J2, x2, y2, f2⟩ := s50_90 (L := L) (R := R) (tl := tl) (a := s) y1 hk l60
  obtain ⟨W3, J3, x3, y3, f3⟩ := s51_90 (L := L) (R := R) (tl := tl) (v := (nwS s).2) y2 (i := k) (by rw [List.length_set]; exact hk) (by rw [List.length_set]; exact l60)
  have z2 : xS (P.set k (s, xV P k)) k = s := by
    unfold xS
    rw [List.getD_eq_getElem?_getD, List.getElem?_set_self hk]
    rfl
  rw [z2, List.set_set] at y3
  have y162 : fg_165_162 N (.ref 89) (nI k) (nI s) (fx V I L R ++ tl) = some (.inl (some (.int (bI true)), fx W3 J3 L R ++ tl)) := by
    apply hd_165_162
    refine ev_b (rdR rfl) (ev_b rb (ev_i rfl (ev_cV x1 (ev_b (rdR rfl) (ev_i rfl (ev_cV x2 (ev_b (rdR rfl) ?_)))))))
    by_cases c3 : s = 0
    · subst c3
      exact ev_f (fun e => e rfl) (hd_165_198 (ev_i rfl (ev_cV x3 rfl)))
    · have v0 : (nwS s).2 = 0 := by unfold nwS; rw [if_neg c3]
      rw [v0] at x3
      exact ev_t (fun e => c3 ((nI_eq (b := 0) (by omega) (by decide)).mp e)) (hd_165_198 (ev_i rfl (ev_cV x3 rfl)))
  have f129y : (x = 19 → loL (sl P) e2 = false) → fg_165_129 N (.ref 89) (nI k) (nI s) (nI x) (nI e2) (fx V I L R ++ tl) = some (.inl (some (.int (bI true)), fx W3 J3 L R ++ tl)) := fun h => by
    apply hd_165_129
    by_cases z : x = 19
    · have lt := e2lt (.inr z)
      refine ev_f (fun e => e (by rw [z]; rfl)) (ev_b rb (ev_b o2 (ev_f (nI_ge lt (by omega)) (ev_b (rdR rfl) (ev_b (rdR rfl) (ev_b (r100 lt) ?_))))))
      rw [h z]
      exact ev_t rfl y162
    · exact ev_t (fun e => z ((nI_eq (b := 19) (by omega) (by decide)).mp e)) y162
  have f129n : x = 19 → loL (sl P) e2 = true → fg_165_129 N (.ref 89) (nI k) (nI s) (nI x) (nI e2) (fx V I L R ++ tl) = some (.inl (some (.int (bI false)), fx V I L R ++ tl)) := fun z h => by
    apply hd_165_129
    have lt := e2lt (.inr z)
    refine ev_f (fun e => e (by rw [z]; rfl)) (ev_b rb (ev_b o2 (ev_f (nI_ge lt (by omega)) (ev_b (rdR rfl) (ev_b (rdR rfl) (ev_b (r100 lt) ?_))))))
    rw [h]
    exact ev_f (by decide) no160
  have f86 : ∀ o, ((s = 19 → inL (sl P) k = 0 ∧ foL (sl P) e2 = false) → fg_165_129 N (.ref 89) (nI k) (nI s) (nI x) (nI e2) (fx V I L R ++ tl) = o) → (¬ (s = 19 → inL (sl P) k = 0 ∧ foL (sl P) e2 = false) → some (.inl (some (.int (bI false)), fx V I L R ++ tl)) = o) → fg_165_86 N (.ref 89) (nI k) (nI s) (nI x) (nI e2) (fx V I L R ++ tl) = o := fun o hy hn => by
    apply hd_165_86
    by_cases z : s = 19
    case neg => exact ev_t (fun e => z ((nI_eq (b := 19) (by omega) (by decide)).mp e)) (hy (fun e => absurd e z))
    refine ev_f (fun e => e (by rw [z]; rfl)) (ev_b (rdR rfl) (ev_b (rdR rfl) (ev_b r98 ?_)))
    by_cases i0 : inL (sl P) k = 0
    case neg => exact ev_t (fun e => i0 ((nI_eq (b := 0) (by omega) (by decide)).mp e)) (no160.trans (hn (fun h => i0 (h z).1)))
    have lt := e2lt (.inl z)
    refine ev_f (fun e => e (by rw [i0]; rfl)) (ev_b rb (ev_b o2 (ev_f (nI_ge lt (by omega)) (ev_b (rdR rfl) (ev_b (rdR rfl) (ev_b (r99 lt) ?_))))))
    cases hf : foL (sl P) e2 with
    | false => exact ev_f (fun e => e rfl) (hy (fun _ => ⟨i0, hf⟩))
    | true => exact ev_t (by decide) (no160.trans (hn (fun h => by have := (h z).2; rw [hf] at this; exact Bool.noConfusion this)))
  have f0 : ∀ o, ((s = 5 ∨ s = 6 → inL (sl P) k = 1) → fg_165_86 N (.ref 89) (nI k) (nI s) (nI x) (nI e2) (fx V I L R ++ tl) = o) → (¬ (s = 5 ∨ s = 6 → inL (sl P) k = 1) → some (.inl (some (.int (bI false)), fx V I L R ++ tl)) = o) → fm_165 N (.ref 89) (nI k) (nI s) (fx V I L R ++ tl) = o := fun o hy hn => by
    have f74 : (s = 5 ∨ s = 6) → fg_165_74 N (.ref 89) (nI k) (nI s) (nI x) (nI e2) (fx V I L R ++ tl) = o := fun h => by
      apply hd_165_74
      refine ev_b (rdR rfl) (ev_b (rdR rfl) (ev_b r98 ?_))
      by_cases i0 : inL (sl P) k = 0
      · exact ev_t (by rw [i0]; rfl) (no160.trans (hn (fun g => by have := g h; omega)))
      · exact ev_f (fun e => i0 ((nI_eq (b := 0) (by omega) (by decide)).mp e)) (hy (fun _ => by omega))
    apply hm_165
    apply hd_165_0
    refine ev_b rb (ev_i o1 (ev_cI gs (ev_b (rdR rfl) (ev_i rfl (ev_cI e166 (ev_f n0 (ev_cI (p14 s21 _) (ev_cI (p14 x21 _) (ev_f (fun e => e (by rw [q1])) (ev_cI (p11 s21 _) (ev_cI (p11 x21 _) (ev_f (fun e => e (by rw [q2])) (ev_cI (p13 (p := 0) s21 (by omega) _) (ev_cI (p13 (p := 0) x21 (by omega) _) (ev_t (by rw [q3]) ?_)))))))))))))))
    by_cases z5 : s = 5
    · exact ev_t (by rw [z5]; rfl) (f74 (.inl z5))
    refine ev_f (fun e => z5 ((nI_eq (b := 5) (by omega) (by decide)).mp e)) ?_
    by_cases z6 : s = 6
    · exact ev_f (fun e => e (by rw [z6]; rfl)) (f74 (.inr z6))
    · exact ev_t (fun e => z6 ((nI_eq (b := 6) (by omega) (by decide)).mp e)) (hy (fun e => absurd e (by omega)))
  have neg : ¬ ((s = 5 ∨ s = 6 → inL (sl P) k = 1) ∧ (s = 19 → inL (sl P) k = 0 ∧ foL (sl P) e2 = false) ∧ (x = 19 → loL (sl P) e2 = false)) → gS2 0 (tI (P.set k (s, (nwS s).2))) = none := fun h => by
    unfold gS2
    exact if_neg (fun e => h (sn.mp e).2)
  by_cases C1 : (s = 5 ∨ s = 6 → inL (sl P) k = 1)
  case neg => exact ⟨V, I, false, st0 V I false (f0 _ (fun h => absurd h C1) (fun _ => rfl)), out_n (by rw [ecd]; exact neg (fun h => C1 h.1)), frM_r⟩
  by_cases C2 : (s = 19 → inL (sl P) k = 0 ∧ foL (sl P) e2 = false)
  case neg => exact ⟨V, I, false, st0 V I false (f0 _ (fun _ => f86 _ (fun h => absurd h C2) (fun _ => rfl)) (fun h => absurd C1 h)), out_n (by rw [ecd]; exact neg (fun h => C2 h.2.1)), frM_r⟩
  by_cases C3 : (x = 19 → loL (sl P) e2 = false)
  case neg =>
    have z : x = 19 := by
      by_cases z : x = 19
      · exact z
      · exact absurd (fun e => absurd e z) C3
    have hl : loL (sl P) e2 = true := by
      cases h : loL (sl P) e2 with
      | true => rfl
      | false => exact absurd (fun _ => h) C3
    exact ⟨V, I, false, st0 V I false (f0 _ (fun _ => f86 _ (fun _ => f129n z hl) (fun h => absurd C2 h)) (fun h => absurd C1 h)), out_n (by rw [ecd]; exact neg (fun h => C3 h.2.2)), frM_r⟩
  have ys : sndB 0 (tI (P.set k (s, (nwS s).2))) = true := sn.mpr ⟨l60, C1, C2, C3⟩
  exact ⟨W3, J3, true, st0 W3 J3 true (f0 _ (fun _ => f86 _ (fun _ => f129y C3) (fun h => absurd C2 h)) (fun h => absurd C1 h)), out_y (by rw [ecd]; unfold gS2; rw [ys]; rfl) y3 (by rw [List.length_set]; exact l60), frM_9 (fr1_t f1 (fr1_t f2 f3))⟩
