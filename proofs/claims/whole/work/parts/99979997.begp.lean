/-! ===== pairs(a, b) ===== -/
set_option maxRecDepth 100000 in
set_option maxHeartbeats 4000000 in
theorem beg_P {V : Nat → Nat → Value} {I : Nat → Nat → Int32} {L : Nat → Nat → Int64} {R : Nat → Nat → Option Nat} {tl : am_H} {N A it B ib kd ln kd' ln' : Nat} {P Q : xI} {x3 : Int32} (hN : 400 < N) (hg : gdP kd ln P) (hgq : gdP kd' ln' Q) (wv : wt V) (hs : srcE V I tl A it kd ln P) (ht : srcE V I tl B ib kd' ln' Q) (hA : 130 < A) (hi : 130 < it) (hB : 130 < B) (hib : 130 < ib) : ∃ W J nC, fm_159 N (.ref 89) (.ref A) (.ref B) x3 (fx V I L R ++ tl) = some (.inl (some (.int nC), fx W J L R ++ tl)) ∧ W 89 9 = .int nC ∧ frCg V W I J ∧ (cmpt kd ln kd' ln' P.length Q.length → SP tl A it B ib kd ln P Q W J ∧ nC = nI (ncP kd ln ln P.length Q.length)) ∧ (¬ cmpt kd ln kd' ln' P.length Q.length → nC = 0) := by
  have k3 := hg.1
  have k3' := hgq.1
  have p5 : am_pP 5 (.ref 89) (.ref A) (fx V I L R ++ tl) = some (fx (vup V 89 5 (.ref A)) I L R ++ tl) := qp_89_5
  have p6 : am_pP 6 (.ref 89) (.ref B) (fx (vup V 89 5 (.ref A)) I L R ++ tl) = some (fx (vup (vup V 89 5 (.ref A)) 89 6 (.ref B)) I L R ++ tl) := qp_89_6
  have e7 : (5 : Int32) * nI kd + 4 = nI (5 * kd + 4) := by rw [show (5 : Int32) * nI kd = nI (5 * kd) from nI_mm 5 kd]; exact nI_add (5 * kd) 4
  obtain ⟨V1, ev1⟩ : ∃ X, X = vup (vup V 89 5 (.ref A)) 89 6 (.ref B) := ⟨_, rfl⟩
  obtain ⟨V2, ev2⟩ : ∃ X, X = vup V1 89 7 (.int (nI (5 * kd + 4))) := ⟨_, rfl⟩
  rw [← ev1] at p6
  have f1 : frCg V V1 I I := by rw [ev1]; exact frCg_t (frCg_o (by decide) (by decide) (by decide) (by decide)) (frCg_o (by decide) (by decide) (by decide) (by decide))
  have f2 : frCg V V2 I I := by rw [ev2]; exact frCg_t f1 (frCg_i (by decide) (by decide) (by decide))
  have sA : ∀ (W : Nat → Nat → Value) (J : Nat → Nat → Int32), frCg V W I J → srcE W J tl A it kd ln P := fun W J f => srcE_c (fun j => f.1 A j (by omega)) (f.2.1 it (by omega)) hs
  have sB : ∀ (W : Nat → Nat → Value) (J : Nat → Nat → Int32), frCg V W I J → srcE W J tl B ib kd' ln' Q := fun W J f => srcE_c (fun j => f.1 B j (by omega)) (f.2.1 ib (by omega)) ht
  have oA : ∀ (W : Nat → Nat → Value) (J : Nat → Nat → Int32), frCg V W I J → am_vI (am_pG 769 (.ref A) (fx W J L R ++ tl)) = some (nI kd) := fun W J f => (srcE_ok (L := L) (R := R) (sA W J f)).2.2.1
  have oB : ∀ (W : Nat → Nat → Value) (J : Nat → Nat → Int32), frCg V W I J → am_vI (am_pG 769 (.ref B) (fx W J L R ++ tl)) = some (nI kd') := fun W J f => (srcE_ok (L := L) (R := R) (sB W J f)).2.2.1
  have b5 : V2 89 5 = .ref A := by rw [ev2, ev1]; rfl
  have b6 : V2 89 6 = .ref B := by rw [ev2, ev1]; rfl
  have b7 : V2 89 7 = .int (nI (5 * kd + 4)) := by rw [ev2]; rfl
  -- behind the shapes
  have tail : ∀ (W : Nat → Nat → Value) (J : Nat → Nat → Int32), frCg V W I J → W 89 5 = .ref A → W 89 6 = .ref B → W 89 7 = .int (nI (5 * kd + 4)) → (cmpt kd ln kd' ln' P.length Q.length → (kd = 0 → shT W J 94 (uTx P) ∧ shT W J 102 (uTx Q)) ∧ (kd = 1 → ∃ gP gQ, cdX P P.length 0 g00 = .inr gP ∧ cdX Q Q.length 0 g00 = .inr gQ ∧ htF (J 101) P.length gP ∧ htF (J 109) Q.length gQ)) → fg_159_109 N (.ref 89) (.ref B) x3 (fx W J L R ++ tl) = fm_159 N (.ref 89) (.ref A) (.ref B) x3 (fx V I L R ++ tl) → ∃ W J nC, fm_159 N (.ref 89) (.ref A) (.ref B) x3 (fx V I L R ++ tl) = some (.inl (some (.int nC), fx W J L R ++ tl)) ∧ W 89 9 = .int nC ∧ frCg V W I J ∧ (cmpt kd ln kd' ln' P.length Q.length → SP tl A it B ib kd ln P Q W J ∧ nC = nI (ncP kd ln ln P.length Q.length)) ∧ (¬ cmpt kd ln kd' ln' P.length Q.length → nC = 0) := fun W J f w5 w6 w7 wsh e => by
    obtain ⟨cy, cn⟩ := s161 (L := L) (R := R) hg hgq w5 w6 (sA W J f) (sB W J f)
    by_cases cm : cmpt kd ln kd' ln' P.length Q.length
    · have c1 := cy cm
      obtain ⟨W8, e8⟩ : ∃ X, X = vup W 89 8 (.int (nI (acP kd Q.length))) := ⟨_, rfl⟩
      obtain ⟨W9, e9⟩ : ∃ X, X = vup W8 89 9 (.int (nI (ncP kd ln ln P.length Q.length))) := ⟨_, rfl⟩
      rw [← e8] at c1
      have g8 : frCg W W9 J J := by rw [e9, e8]; exact frCg_t (frCg_i (by decide) (by decide) (by decide)) (frCg_i (by decide) (by decide) (by decide))
      have h9 : W9 89 9 = .int (nI (ncP kd ln ln P.length Q.length)) := by rw [e9]; rfl
      obtain ⟨sh1, sh2⟩ := wsh cm
      have hB' : srcE W9 J tl B ib kd ln Q := by
        have := sB W9 J (frCg_t f g8)
        rw [← cm.1, ← cm.2.1] at this
        exact this
      refine ⟨W9, J, _, ?_, h9, frCg_t f g8, fun _ => ⟨⟨(frCg_t f g8).2.2 wv, ?_, ?_, ?_, ?_, sA W9 J (frCg_t f g8), hB', ⟨hA, hi, hB, hib⟩, fun k0 => ?_, sh2⟩, rfl⟩, fun h => absurd cm h⟩
      · rw [← e]
        apply hd_159_109
        refine ev_b (a := false) rfl (ev_f (fun u => Bool.noConfusion u) (ev_i rfl (ev_cI c1 ?_)))
        apply hd_159_126
        refine ev_b (a := fx W9 J L R ++ tl) (by rw [e9]; exact qp_89_9) (ev_b (rdI h9) rfl)
      · rw [e9, e8]; exact w5
      · rw [e9, e8]; exact w6
      · rw [e9, e8]; exact w7
      · rw [e9, e8]; rfl
      · obtain ⟨⟨x1, x2⟩, y1, y2⟩ := sh1 k0
        exact ⟨⟨by rw [e9, e8]; exact x1, x2⟩, ⟨by rw [e9, e8]; exact y1, y2⟩⟩
    · have c1 := cn cm
      obtain ⟨W9, e9⟩ : ∃ X, X = vup W 89 9 (.int 0) := ⟨_, rfl⟩
      have g8 : frCg W W9 J J := by rw [e9]; exact frCg_i (by decide) (by decide) (by decide)
      have h9 : W9 89 9 = .int 0 := by rw [e9]; rfl
      refine ⟨W9, J, 0, ?_, h9, frCg_t f g8, fun h => absurd h cm, fun _ => rfl⟩
      rw [← e]
      apply hd_159_109
      refine ev_b (a := false) rfl (ev_f (fun u => Bool.noConfusion u) (ev_i rfl (ev_cI c1 ?_)))
      apply hd_159_126
      refine ev_b (a := fx W9 J L R ++ tl) (by rw [e9]; exact qp_89_9) (ev_b (rdI h9) rfl)
  have st0 : ∀ o, (if ¬ nI kd = 0 then (fg_159_45 N (.ref 89) (.ref A) (.ref B) x3 (fx V2 I L R ++ tl)) else ((am_vR (am_pG 2 (.ref 89) (fx V2 I L R ++ tl))).bind fun v6 => (if am_pOk 7 v6 (fx V2 I L R ++ tl) then am_cV true (fm_76 N v6 (.ref A) (fx V2 I L R ++ tl)) (fun h10 => (fg_159_45 N (.ref 89) (.ref A) (.ref B) x3 h10)) else none))) = o → fm_159 N (.ref 89) (.ref A) (.ref B) x3 (fx V I L R ++ tl) = o := fun o e => by
    apply hm_159
    apply hd_159_0
    refine ev_b p5 (ev_b p6 (ev_b (oA V1 I f1) (ev_b (a := false) rfl (ev_f (fun u => Bool.noConfusion u) ?_))))
    apply hd_159_26
    rw [e7]
    exact ev_b (a := fx V2 I L R ++ tl) (by rw [ev2]; exact qp_89_7) (ev_b (oA V2 I f2) e)
  have nf : ¬ (false = true) := fun u => Bool.noConfusion u
  by_cases k0 : kd = 0
  · subst k0
    obtain ⟨l0, ho, et⟩ := hg.2.2.1 rfl
    subst l0
    have sP : srcP V2 I tl A it 0 0 (uTx P) := srcE_P (by omega) (by omega) (by rw [uTx_len]; exact hg.2.1) (by rw [et]; exact sA V2 I f2)
    obtain ⟨J, j1, j2, j3, j4⟩ := sh_94 (L := L) (R := R) (N := N) (by omega) hA hi sP ho
    obtain ⟨V3, ev3⟩ : ∃ X, X = vup V2 94 7 (.int (nI (uTx P).length)) := ⟨_, rfl⟩
    rw [← ev3] at j1 j2 j3
    have f3 := frCg_t f2 j3
    have st1 : ∀ o, fg_159_45 N (.ref 89) (.ref A) (.ref B) x3 (fx V3 J L R ++ tl) = o → fm_159 N (.ref 89) (.ref A) (.ref B) x3 (fx V I L R ++ tl) = o := fun o e => st0 _ (ev_f (fun e => e rfl) (ev_b (rdR rfl) (ev_i rfl (ev_cV j1 e))))
    have c5 : V3 89 5 = .ref A := by rw [ev3]; exact b5
    have c6 : V3 89 6 = .ref B := by rw [ev3]; exact b6
    have c7 : V3 89 7 = .int (nI (5 * 0 + 4)) := by rw [ev3]; exact b7
    by_cases k0' : kd' = 0
    · subst k0'
      obtain ⟨l0', ho', et'⟩ := hgq.2.2.1 rfl
      subst l0'
      have sQ : srcP V3 J tl B ib 0 0 (uTx Q) := srcE_P (by omega) (by omega) (by rw [uTx_len]; exact hgq.2.1) (by rw [et']; exact sB V3 J f3)
      obtain ⟨J', i1, i2, i3, i4⟩ := sh_102 (L := L) (R := R) (N := N) (by omega) hB hib sQ ho'
      obtain ⟨V4, ev4⟩ : ∃ X, X = vup V3 102 7 (.int (nI (uTx Q).length)) := ⟨_, rfl⟩
      rw [← ev4] at i1 i2 i3
      have f4 := frCg_t f3 i3
      refine tail V4 J' f4 (by rw [ev4]; exact c5) (by rw [ev4]; exact c6) (by rw [ev4]; exact c7) (fun _ => ⟨fun _ => ⟨⟨by rw [ev4]; exact j2.1, fun j hj => ?_⟩, i2⟩, fun e => absurd e (by decide)⟩) (st1 _ ?_).symm
      · rw [i4 _ (by decide), i4 _ (by decide), i4 _ (by decide), i4 _ (by decide), i4 _ (by decide), i4 _ (by decide)]
        exact j2.2 j hj
      · apply hd_159_45
        refine ev_b (a := false) rfl (ev_f nf (ev_b (oA V3 J f3) (ev_f (fun u => u rfl) (ev_b (oB V3 J f3) (ev_f (fun u => u rfl) (ev_b (rdR rfl) (ev_i rfl (ev_cV i1 ?_))))))))
        apply hd_159_71
        exact ev_b (a := false) rfl (ev_f nf (ev_b (oA V4 J' f4) (ev_t (by decide) rfl)))
    · refine tail V3 J f3 c5 c6 c7 (fun cm => absurd cm.1.symm k0') (st1 _ ?_).symm
      apply hd_159_45
      refine ev_b (a := false) rfl (ev_f nf (ev_b (oA V3 J f3) (ev_f (fun u => u rfl) (ev_b (oB V3 J f3) (ev_t (fun u => k0' ((nI_eq (b := 0) (by omega) (by decide)).mp u)) ?_)))))
      apply hd_159_71
      exact ev_b (a := false) rfl (ev_f nf (ev_b (oA V3 J f3) (ev_t (by decide) rfl)))
  have n0 : ¬ nI kd = 0 := fun u => k0 ((nI_eq (b := 0) (by omega) (by decide)).mp u)
  have st1 : ∀ o, fg_159_71 N (.ref 89) (.ref A) (.ref B) x3 (fx V2 I L R ++ tl) = o → fm_159 N (.ref 89) (.ref A) (.ref B) x3 (fx V I L R ++ tl) = o := fun o e => st0 _ (ev_t n0 (hd_159_45 (ev_b (a := false) rfl (ev_f nf (ev_b (oA V2 I f2) (ev_t n0 e))))))
  by_cases k1 : kd = 1
  case neg =>
    refine tail V2 I f2 b5 b6 b7 (fun _ => ⟨fun e => absurd e k0, fun e => absurd e k1⟩) (st1 _ ?_).symm
    apply hd_159_71
    exact ev_b (a := false) rfl (ev_f nf (ev_b (oA V2 I f2) (ev_t (fun u => k1 ((nI_eq (b := 1) (by omega) (by decide)).mp u)) rfl)))
  subst k1
  by_cases k1' : kd' = 1
  case neg =>
    refine tail V2 I f2 b5 b6 b7 (fun cm => absurd cm.1.symm k1') (st1 _ ?_).symm
    apply hd_159_71
    exact ev_b (a := false) rfl (ev_f nf (ev_b (oA V2 I f2) (ev_f (fun u => u rfl) (ev_b (oB V2 I f2) (ev_t (fun u => k1' ((nI_eq (b := 1) (by omega) (by decide)).mp u)) rfl)))))
  subst k1'
  obtain ⟨l0, l1, hoI, -, -, gP, xP⟩ := hg.2.2.2.1 rfl
  obtain ⟨l0', l1', hqI, -, -, gQ, xQ⟩ := hgq.2.2.2.1 rfl
  subst l0
  subst l0'
  have et := gd_et hg (by decide)
  have eq := gd_et hgq (by decide)
  have lu := uTx_len (P := P)
  have lv := uTx_len (P := Q)
  obtain ⟨F1, e1, d1⟩ := k_52_94 (V := V2) (I := I) (L := L) (R := R) (tl := tl) (N := N) (Q := uTx P) hN (srcE_P (kd := 1) (ln := 0) (by omega) (by omega) (by rw [lu]; exact hg.2.1) (by rw [et]; exact sA V2 I f2)) (by omega) (by omega) (by rw [et]; exact hoI)
  obtain ⟨V3, ev3⟩ : ∃ X, X = vup V2 94 7 (.int (nI (uTx P).length)) := ⟨_, rfl⟩
  rw [← ev3] at e1
  have f3 : frCg V V3 I (iup I 101 F1) := frCg_t f2 ⟨fun a j h => by rw [ev3]; exact vup_o (fun e => by omega), fun y h => iup_na (by omega), fun w => by rw [ev3]; exact wt_i w (by decide)⟩
  obtain ⟨F2, e2, d2⟩ := k_52_102 (V := V3) (I := iup I 101 F1) (L := L) (R := R) (tl := tl) (N := N) (Q := uTx Q) hN (srcE_P (kd := 1) (ln := 0) (by omega) (by omega) (by rw [lv]; exact hgq.2.1) (by rw [eq]; exact sB V3 _ f3)) (by omega) (by omega) (by rw [eq]; exact hqI)
  obtain ⟨V4, ev4⟩ : ∃ X, X = vup V3 102 7 (.int (nI (uTx Q).length)) := ⟨_, rfl⟩
  rw [← ev4] at e2
  have f4 : frCg V V4 I (iup (iup I 101 F1) 109 F2) := frCg_t f3 ⟨fun a j h => by rw [ev4]; exact vup_o (fun e => by omega), fun y h => iup_na (by omega), fun w => by rw [ev4]; exact wt_i w (by decide)⟩
  have h1 := d1 (by omega)
  have h2 := d2 (by omega)
  rw [et, lu, xP] at h1
  rw [eq, lv, xQ] at h2
  refine tail V4 _ f4 (by rw [ev4, ev3]; exact b5) (by rw [ev4, ev3]; exact b6) (by rw [ev4, ev3]; exact b7) (fun _ => ⟨fun e => absurd e (by decide), fun _ => ⟨gP, gQ, xP, xQ, ?_, ?_⟩⟩) (st1 _ ?_).symm
  · rw [iup_na (by decide), iup_eq]; exact h1
  · rw [iup_eq]; exact h2
  · apply hd_159_71
    exact ev_b (a := false) rfl (ev_f nf (ev_b (oA V2 I f2) (ev_f (fun u => u rfl) (ev_b (oB V2 I f2) (ev_f (fun u => u rfl) (ev_b (rdR rfl) (ev_i rfl (ev_cI e1 (ev_b (rdR rfl) (ev_i rfl (ev_cI e2 rfl)))))))))))
def fr48 (V W : Nat → Nat → Value) (I J : Nat → Nat → Int32) : Prop := (∀ a j, ¬ (a = 174 ∧ j = 23) → W a j = V a j) ∧ (∀ y, y ≠ 190 → y ≠ 191 → y ≠ 193 → J y = I y) ∧ (wt V → wt W)
theorem keep_48 {V W : Nat → Nat → Value} {I J : Nat → Nat → Int32} (f : fr48 V W I J) : keep V W I J := ⟨fun a j h => f.1 a j (fun e => by obtain ⟨rfl, rfl⟩ := e; exact absurd h (by decide)), fun y h => f.2.1 y (fun e => by subst e; exact absurd h (by decide)) (fun e => by subst e; exact absurd h (by decide)) (fun e => by subst e; exact absurd h (by decide)), f.2.2⟩
theorem dk3_fr {V : Nat → Nat → Value} {I : Nat → Nat → Int32} {sz b : Nat} : fr48 V (vup V 174 23 (.int (nI sz))) I (dk3I I b sz) := by
  refine ⟨fun a j h => vup_o (fun e => h ⟨e.1, e.2⟩), fun y h1 h2 _ => ?_, fun w => wt_i w (by decide)⟩
  unfold dk3I
  rw [iup_na h2, iup_na h1]
set_option maxRecDepth 100000 in
set_option maxHeartbeats 4000000 in
theorem ld_B {V : Nat → Nat → Value} {I : Nat → Nat → Int32} {L : Nat → Nat → Int64} {R : Nat → Nat → Option Nat} {tl : am_H} {N kd ln b : Nat} {P : xI} (hN : 100 < N) (hb : b < 600) (hg : gdP kd ln P) (q1 : I 175 b = nI kd) (q2 : I 176 b = nI P.length) (hl : lay2 (fun k => I 184 (60 * b + k)) (fun k => I 185 (60 * b + k)) P) : ∃ W J, fm_480 N (.ref 174) (nI b) (fx V I L R ++ tl) = some (.inl (none, fx W J L R ++ tl)) ∧ fr48 V W I J ∧ dsT kd P W J := by
  have ds : ∀ J, J 190 = dk3I I b P.length 190 → J 191 = dk3I I b P.length 191 → dsB (vup V 174 23 (.int (nI P.length))) J P := fun J j1 j2 => by
    refine ⟨rfl, fun k x hx => ?_⟩
    have hk : k < P.length := (List.getElem?_eq_some_iff.mp hx).1
    rw [j1, j2]
    have := hl k x hx
    show dk3I I b P.length 190 k = x.1 ∧ dk3I I b P.length 191 k = x.2
    unfold dk3I
    rw [iup_na (by decide), iup_eq, iup_eq, ldr_at hk, ldr_at hk]
    exact this
  by_cases k0 : kd = 0
  · subst k0
    obtain ⟨l0, ho, et⟩ := hg.2.2.1 rfl
    have lu := uTx_len (P := P)
    obtain ⟨g, g1, g2⟩ := r_480t (V := V) (I := I) (L := L) (R := R) (tl := tl) (N := N) (l := sl (uTx P)) hN hb (by rw [sl_len, lu]; exact hg.2.1) (okF_F _ _ ho.1) q1 (by rw [sl_len, lu]; exact q2) (fun k x r e => by
      have hk : k < (uTx P).length := by
        by_cases c : k < (uTx P).length
        · exact c
        · rw [List.drop_of_length_le (by rw [sl_len]; omega)] at e; exact absurd e (by simp)
      rw [sl_at hk] at e
      injection e with e1 e2
      rw [← e1]
      have h2 := hl k _ (srt_at (by rw [← lu]; exact hk))
      refine ⟨h2.1.trans ?_, (nd_at ho hk).1⟩
      show srt P k = nI (xS (uTx P) k)
      have := (srt_tI hk).1
      rw [et] at this
      exact this)
    rw [sl_len, lu] at g2
    refine ⟨_, _, g2, ?_, ds _ (iup_na (by decide)) (iup_na (by decide)), fun _ k hk => ?_⟩
    · have := dk3_fr (V := V) (I := I) (sz := P.length) (b := b)
      exact ⟨this.1, fun y h1 h2 h3 => (iup_na h3).trans (this.2.1 y h1 h2 h3), this.2.2⟩
    · rw [iup_eq, g1 k (Nat.zero_le _) (by rw [sl_len, lu]; exact hk)]
      congr 1
      show _ = k + tk 1 ((sl (uTx P)).drop k) - k
      omega
  · exact ⟨_, _, r_480 hN hb hg.2.1 k0 hg.1 q1 q2, dk3_fr, ds _ rfl rfl, fun e => absurd e k0⟩
theorem dsE_48 {kd ln : Nat} {P : xI} {V W : Nat → Nat → Value} {I J : Nat → Nat → Int32} (h : dsE kd ln P V I) (f : fr48 V W I J) : dsE kd ln P W J := dsE_c h ⟨f.1 174 18 (by decide), f.1 174 19 (by decide), f.1 174 20 (by decide)⟩ ⟨f.2.1 188 (by decide) (by decide) (by decide), f.2.1 189 (by decide) (by decide) (by decide), f.2.1 192 (by decide) (by decide) (by decide)⟩
