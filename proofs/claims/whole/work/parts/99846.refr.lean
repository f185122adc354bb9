/-! ===== faults are 0 to 3 ===== -/
def fOk (f : Int32) : Prop := f = 0 ∨ f = 1 ∨ f = 2 ∨ f = 3
theorem fOk_le {f : Int32} (h : fOk f) : f ≤ 0 ↔ f = 0 := by
  rcases h with rfl | rfl | rfl | rfl <;> decide
theorem oneV_k {len : Nat} {row : Nat → Int32} {s : Nat} {a : Int32} {st : eSt} (h : fOk st.1) : fOk (oneV len row s a st).2.1 := by
  unfold oneV
  by_cases c1 : s = 9
  · rw [if_pos c1]; exact h
  · rw [if_neg c1]
    by_cases c2 : s = 7
    · rw [if_pos c2]; exact h
    · rw [if_neg c2]
      by_cases c3 : a < 0 ∨ nI len ≤ a
      · rw [if_pos c3]; exact .inr (.inr (.inl rfl))
      · rw [if_neg c3]; exact h
theorem twoV_k {s : Nat} {a b : Int32} {st : eSt} (h : fOk st.1) : fOk (twoV s a b st).2.1 := by
  unfold twoV
  by_cases c1 : s = 10
  · rw [if_pos c1]; exact h
  · rw [if_neg c1]
    by_cases c2 : s = 11
    · rw [if_pos c2]; exact h
    · rw [if_neg c2]
      by_cases c3 : s = 12
      · rw [if_pos c3]; exact h
      · rw [if_neg c3]
        by_cases c4 : s = 15
        · rw [if_pos c4]; exact h
        · rw [if_neg c4]
          by_cases c5 : s = 16
          · rw [if_pos c5]; exact h
          · rw [if_neg c5]
            by_cases c6 : b = 0
            · rw [if_pos c6]; exact .inr (.inl rfl)
            · rw [if_neg c6]
              by_cases c7 : s = 13
              · rw [if_pos c7]; exact h
              · rw [if_neg c7]; exact h
theorem fld_k {row : Nat → Int32} {ev : eSt → Int32 × eSt} (h : ∀ st : eSt, fOk st.1 → fOk (ev st).2.1) : ∀ (m i : Nat) (r : Int32) (st : eSt), fOk st.1 → fOk (fld row ev m i r st).2.1 := by
  intro m
  induction m with
  | zero => intro i r st hs; exact hs
  | succ m ih =>
    intro i r st hs
    rw [fld]
    by_cases c : st.1 ≠ 0
    · rw [if_pos c]; exact hs
    · rw [if_neg c]; exact ih _ _ _ (h _ hs)
theorem evR_k {s : Nat} {a : Int32} {q : Int32 × eSt} (h : fOk q.2.1) : fOk (evR s a q).2.1 := by
  unfold evR
  by_cases c7 : q.2.1 ≠ 0
  · rw [if_pos c7]; exact h
  · rw [if_neg c7]
    by_cases c8 : s = 17 ∨ s = 18 ∨ s = 20
    · rw [if_pos c8]; exact h
    · rw [if_neg c8]; exact twoV_k h
theorem evP_k {len : Nat} {row : Nat → Int32} {s : Nat} {a : Int32} {st : eSt} {e2 e3 : eSt → Int32 × eSt} (h2 : ∀ st : eSt, fOk st.1 → fOk (e2 st).2.1) (h3 : ∀ st : eSt, fOk st.1 → fOk (e3 st).2.1) (hs : fOk st.1) : fOk (evP len row s a st e2 e3).2.1 := by
  unfold evP
  by_cases c1 : st.1 ≠ 0
  · rw [if_pos c1]; exact hs
  · rw [if_neg c1]
    by_cases c2 : s = 17 ∧ a = 0
    · rw [if_pos c2]; exact hs
    · rw [if_neg c2]
      by_cases c3 : s = 18 ∧ ¬ a = 0
      · rw [if_pos c3]; exact hs
      · rw [if_neg c3]
        unfold evQ
        by_cases c4 : s < 10
        · rw [if_pos c4]; exact oneV_k hs
        · rw [if_neg c4]
          by_cases c5 : s = 19
          · rw [if_pos c5]; exact fld_k h2 _ _ _ _ hs
          · rw [if_neg c5]
            by_cases c6 : s = 20 ∧ a = 0
            · rw [if_pos c6]; exact h3 _ hs
            · rw [if_neg c6]; exact evR_k (h2 _ hs)
theorem evN_k {x y z : Int32} {len : Nat} {row : Nat → Int32} {lm : Nat} {s : Nat → Nat} {v : Nat → Int32} {en : Nat → Nat} : ∀ (d k : Nat) (st : eSt), fOk st.1 → fOk (evN x y z len row lm s v en d k st).2.1 := by
  intro d
  induction d with
  | zero => intro k st hs; exact hs
  | succ d ih =>
    intro k st hs
    rw [evN]
    by_cases c1 : st.1 ≠ 0
    · rw [if_pos c1]; exact hs
    · rw [if_neg c1]
      by_cases c2 : st.2.1 < lm
      · rw [if_pos c2]
        by_cases c3 : s k < 7
        · rw [if_pos c3]; exact hs
        · rw [if_neg c3]; exact evP_k (fun st hs => ih _ st hs) (fun st hs => ih _ st hs) (ih _ _ hs)
      · rw [if_neg c2]; exact .inr (.inr (.inr rfl))
theorem crun_k {x y z : Int32} {len : Nat} {row : Nat → Int32} {lm sz : Nat} {s a : Nat → Nat} {v : Nat → Int32} {ht : Nat → Nat} : ∀ (m k : Nat) (g : Nat → Int32) (st : eSt), fOk st.1 → fOk (crun x y z len row lm sz s a v ht m k g st).2.1 := by
  intro m
  induction m with
  | zero => intro k g st hs; exact hs
  | succ m ih =>
    intro k g st hs
    rw [crun]
    by_cases c1 : sz ≤ k
    · rw [if_pos c1]; exact hs
    · rw [if_neg c1]
      by_cases c2 : st.1 ≠ 0
      · rw [if_pos c2]; exact hs
      · rw [if_neg c2]
        by_cases c3 : st.2.1 < lm
        · rw [if_pos c3]
          refine ih _ _ _ ?_
          have h0 : st.1 = 0 := Classical.not_not.mp c2
          rcases cdS_f (x := x) (y := y) (z := z) (len := len) (row := row) (s := s k) (c := v k) (T := ht k) (g := g) (st := (st.1, st.2.1 + 1, st.2.2)) h0 with e | e | e
          · exact .inl e
          · exact .inr (.inl e)
          · exact .inr (.inr (.inl e))
        · rw [if_neg c3]; exact .inr (.inr (.inr rfl))
/-! ===== the reference runs what is on its desk ===== -/
def frR (V W : Nat → Nat → Value) (I J : Nat → Nat → Int32) : Prop := (∀ a j, a ≠ 174 ∨ (j ≠ 48 ∧ j ≠ 49 ∧ j ≠ 50 ∧ j ≠ 58 ∧ j ≠ 59 ∧ j ≠ 65 ∧ j ≠ 66) → W a j = V a j) ∧ (∀ y, y ≠ 194 → y ≠ 213 → y ≠ 214 → y ≠ 215 → y ≠ 217 → J y = I y) ∧ (wt V → wt W)
/-- a program on the desk -/
def ldR (V : Nat → Nat → Value) (I : Nat → Nat → Int32) (kd ln sz : Nat) (s v : Nat → Int32) (lm : Nat) : Prop := V 174 13 = .int (nI kd) ∧ V 174 14 = .int (nI sz) ∧ (kd = 3 → V 174 15 = .int (nI ln)) ∧ (∀ k, k < sz → I 186 k = s k ∧ I 187 k = v k) ∧ sound kd ln sz s v ∧ I 206 0 = nI lm ∧ 10 ≤ lm ∧ lm ≤ 2000
/-- what it is asked -/
def inR (V : Nat → Nat → Value) (I : Nat → Nat → Int32) (x y z : Int32) (len : Nat) (row : Nat → Int32) : Prop := V 174 51 = .int x ∧ V 174 52 = .int y ∧ V 174 53 = .int z ∧ V 174 54 = .int (nI len) ∧ len ≤ 8 ∧ ∀ i, i < len → I 212 i = row i
theorem drop_lt {α : Type} {l r : List α} {w : α} {k : Nat} (hd : l.drop k = w :: r) : k < l.length := by
  rcases Nat.lt_or_ge k l.length with h | h
  · exact h
  · rw [List.drop_eq_nil_of_le h] at hd; cases hd
theorem evG_mk {V : Nat → Nat → Value} {I : Nat → Nat → Int32} {l : List (Nat × Nat)} {v : Nat → Int32} {x y z : Int32} {len lm : Nat} (ho : okF [(0, 1, 0)] l) (hl : l.length ≤ 60) (h51 : V 174 51 = .int x) (h52 : V 174 52 = .int y) (h53 : V 174 53 = .int z) (h54 : V 174 54 = .int (nI len)) (hlen : len ≤ 8) (h6 : I 206 0 = nI lm) (hlm : lm ≤ 2000) (hs : ∀ k w r, l.drop k = w :: r → I 186 k = nI w.1) (hv : ∀ k, k < l.length → I 187 k = v k) (hsp : rowT (I 217) l 0) : evG V I (sL l) v (enL l) (fun k => (cxK l k).2.1) x y z len lm l.length := by
  have at_ : ∀ k, k < l.length → ∃ w r, l.drop k = w :: r := fun k hk => by
    obtain ⟨w, r, m, hd, -⟩ := isF_at (okF_F l _ ho) hk
    exact ⟨w, r, hd⟩
  refine ⟨h51, h52, h53, h54, hlen, h6, hlm, hl, fun k hk => ?_⟩
  obtain ⟨w, r, hd⟩ := at_ k hk
  obtain ⟨f1, f2, f3, f4, f5, f6, f7, f8, f9⟩ := form_ev ho k w r hd
  rw [sL_at hd]
  refine ⟨hs k w r hd, hv k hk, ?_, f3, f1, f2, f5, f6, f7, fun h => ?_, fun h => ?_⟩
  · rw [hsp k (Nat.zero_le _) hk]
    unfold enL
    rw [Nat.add_sub_cancel_left]
  · obtain ⟨y, r2, hy⟩ := at_ (k + 1) (f5 (by omega)).1
    rw [sL_at hy]
    exact f8 y r2 h hy
  · obtain ⟨y, r2, hy⟩ := at_ (enL l (k + 1)) (f6 (by omega)).1
    rw [sL_at hy]
    exact f9 y r2 h hy
theorem gW_o {V : Nat → Nat → Value} {st : eSt} {D : Nat} {g : Int32} {a j : Nat} (h : a ≠ 174 ∨ (j ≠ 48 ∧ j ≠ 50 ∧ j ≠ 58 ∧ j ≠ 59 ∧ j ≠ 65 ∧ j ≠ 66)) : gW V st D g a j = V a j := by
  unfold gW rsR
  by_cases c : a = 174
  · subst c
    rcases h with h | ⟨h1, h2, h3, h4, h5, h6⟩
    · exact absurd rfl h
    · rw [vup_nj h2, vup_nj h1, vup_nj h6, vup_nj h5, vup_nj h4, vup_nj h3]
  · rw [vup_na c, vup_na c, vup_na c, vup_na c, vup_na c, vup_na c]
theorem wt_gW {V : Nat → Nat → Value} {st : eSt} {D : Nat} {g : Int32} (h : wt V) : wt (gW V st D g) := wt_i (wt_i (wt_i (wt_i (wt_i (wt_i h (by decide)) (by decide)) (by decide)) (by decide)) (by decide)) (by decide)
set_option maxRecDepth 100000 in
set_option maxHeartbeats 1600000 in
theorem d_404 {V : Nat → Nat → Value} {I : Nat → Nat → Int32} {L : Nat → Nat → Int64} {R : Nat → Nat → Option Nat} {tl : am_H} {N K D : Nat} {st : eSt} {g : Int32} {fr ph on : Nat → Int32} (h : st.1 ≠ 0 ∨ D = 0) : fg_404_14 N (K + 1) (.ref 174) (fx (gW V st D g) (gJ I fr ph on) L R ++ tl) = some (.inl (none, fx (vup (gW V st D g) 174 49 (.int g)) (gJ I fr ph on) L R ++ tl)) := by
  have fin : fg_404_84 N (.ref 174) (fx (gW V st D g) (gJ I fr ph on) L R ++ tl) = some (.inl (none, fx (vup (gW V st D g) 174 49 (.int g)) (gJ I fr ph on) L R ++ tl)) := by
    unfold fg_404_84
    exact ev_b (a := g) rfl (ev_b qp_174_49 rfl)
  rw [fg_404_14]
  refine ev_b (a := nI D) rfl ?_
  by_cases c : nI D ≤ 0
  · exact ev_t c fin
  · refine ev_f c (ev_b (a := st.1) rfl (ev_t ?_ fin))
    rcases h with h | h
    · exact h
    · exact absurd (by rw [h]; decide) c
set_option maxRecDepth 100000 in
set_option maxHeartbeats 1600000 in
theorem r_404 {V : Nat → Nat → Value} {I : Nat → Nat → Int32} {L : Nat → Nat → Int64} {R : Nat → Nat → Option Nat} {tl : am_H} {N lm len : Nat} {v row : Nat → Int32} {x y z : Int32} {l : List (Nat × Nat)} (hN : 5000 < N) (hw : wt V) (h48 : V 174 48 = .int 0) (h50 : V 174 50 = .int (nI 0)) (h14 : V 174 14 = .int (nI l.length)) (hl : l.length ≤ 60) (ho : okF [(0, 1, 0)] l) (hin : inR V I x y z len row) (h6 : I 206 0 = nI lm) (hlo : 10 ≤ lm) (hhi : lm ≤ 2000) (hs : ∀ k w r, l.drop k = w :: r → I 186 k = nI w.1) (hv : ∀ k, k < l.length → I 187 k = v k) : ∃ W J w, fm_404 N (.ref 174) (fx V I L R ++ tl) = some (.inl (none, fx W J L R ++ tl)) ∧ W 174 48 = .int (eT x y z len row lm l v).2.1 ∧ W 174 50 = .int (nI (eT x y z len row lm l v).2.2.1) ∧ W 174 49 = .int w ∧ ((eT x y z len row lm l v).2.1 = 0 → w = (eT x y z len row lm l v).1) ∧ frR V W I J := by
  obtain ⟨h51, h52, h53, h54, hlen, hrow⟩ := hin
  obtain ⟨s0, h58⟩ := hw.1 174 58 (by decide)
  obtain ⟨e0, h59⟩ := hw.1 174 59 (by decide)
  obtain ⟨g0, h66⟩ := hw.1 174 66 (by decide)
  obtain ⟨gs, hg, e5⟩ := r_405 (V := V) (I := I) (L := L) (R := R) (tl := tl) (N := N) (l := l) (by omega) hl h14 (fun k w r hd => ⟨hs k w r hd, (form_at ho hd).1⟩) (okF_F l _ ho)
  obtain ⟨V1, hV1⟩ : ∃ V1, V1 = vup V 174 65 (.int (nI 0)) := ⟨_, rfl⟩
  obtain ⟨I1, hI1⟩ : ∃ I1, I1 = iup I 217 gs := ⟨_, rfl⟩
  have vj : ∀ j, j ≠ 65 → V1 174 j = V 174 j := fun j hj => by rw [hV1]; exact vup_nj hj
  have ij : ∀ y, y ≠ 217 → I1 y = I y := fun y hy => by rw [hI1]; exact iup_na hy
  have eV : V1 = gW V1 (0, 0, s0, e0) 0 g0 := by
    show V1 = vup (vup (vup (vup (vup (vup V1 174 58 (.int s0)) 174 59 (.int e0)) 174 65 (.int (nI 0))) 174 66 (.int g0)) 174 48 (.int 0)) 174 50 (.int (nI 0))
    rw [vup_self (V := V1) (a := 174) (j := 58) ((vj 58 (by decide)).trans h58), vup_self (V := V1) (a := 174) (j := 59) ((vj 59 (by decide)).trans h59), vup_self (V := V1) (a := 174) (j := 65) (by rw [hV1]; exact vup_eq), vup_self (V := V1) (a := 174) (j := 66) ((vj 66 (by decide)).trans h66), vup_self (V := V1) (a := 174) (j := 48) ((vj 48 (by decide)).trans h48), vup_self (V := V1) (a := 174) (j := 50) ((vj 50 (by decide)).trans h50)]
  have eI : I1 = gJ I1 (I1 213) (I1 214) (I1 215) := by
    unfold gJ
    rw [iup_self (I := I1) (a := 213), iup_self (I := I1) (a := 214), iup_self (I := I1) (a := 215)]
  have hG : evG V1 I1 (sL l) v (enL l) (fun k => (cxK l k).2.1) x y z len lm l.length := evG_mk ho hl ((vj 51 (by decide)).trans h51) ((vj 52 (by decide)).trans h52) ((vj 53 (by decide)).trans h53) ((vj 54 (by decide)).trans h54) hlen (by rw [ij 206 (by decide)]; exact h6) hhi (fun k w r hd => by rw [ij 186 (by decide)]; exact hs k w r hd) (fun k hk => by rw [ij 187 (by decide)]; exact hv k hk) (by rw [hI1]; show rowT (iup I 217 gs 217) l 0; rw [show iup I 217 gs 217 = gs from if_pos rfl]; exact hg)
  have e6 := r_406 (V := V1) (I := I1) (L := L) (R := R) (tl := tl) (lm := lm) (k := 0) (D := 0) (st := (0, 0, s0, e0)) (g := g0) (fr := I1 213) (ph := I1 214) (on := I1 215) (by rw [ij 206 (by decide)]; exact h6) hhi rfl (show 0 < lm by omega) (by omega)
  rw [← eV, ← eI] at e6
  have e7 := r_run (V := V1) (I := I1) (L := L) (R := R) (tl := tl) (N := N) hG 11 0 0 (0, 1, s0, e0) g0 (upd (I1 213) 0 (nI 0)) (upd (I1 214) 0 0) (I1 215) (by show (cxK l 0).2.1 + 11 = 12; rw [(cx0 ho).1]) (by show 0 + 1 ≤ (cxK l 0).2.1; rw [(cx0 ho).1]; exact Nat.le_refl _) (cx0 ho).2 rfl (show 1 ≤ lm by omega) upd_eq upd_eq
  have hE : evB x y z len (I1 212) lm (sL l) v (enL l) 11 0 (0, 1, s0, e0) = evN x y z len (I1 212) lm (sL l) v (enL l) 12 0 (0, 0, s0, e0) := (evN_B (st := (0, 0, s0, e0)) rfl (show 0 < lm by omega)).symm
  have hu := evN_u (x := x) (y := y) (z := z) (len := len) (row := I1 212) (lm := lm) (s := sL l) (v := v) (en := enL l) 12 0 (0, 0, s0, e0) (Nat.zero_le _)
  have i1 := evN_i (x := x) (y := y) (z := z) (len := len) (lm := lm) (row := I1 212) (v := v) (sN := sL l) ho (fun k w r hd => sL_at hd) 12 0 (0, 0, s0, e0) (0, 0, 0, 0) (cx0 ho).2 (by rw [(cx0 ho).1]) ⟨rfl, rfl⟩
  have e1 : evN x y z len (I1 212) lm (sL l) v (enL l) 12 0 (0, 0, 0, 0) = eT x y z len row lm l v := evN_r hlen (fun i hi => by rw [ij 212 (by decide)]; exact hrow i hi) 12 0 _
  rw [e1] at i1
  rw [hE] at e7
  generalize evN x y z len (I1 212) lm (sL l) v (enL l) 12 0 (0, 0, s0, e0) = q at e7 hu i1
  obtain ⟨t, D', g2, fr', ph', on', u1, u2, u3, u4⟩ := e7
  have u3' := u3 (N - t)
  have ht : t ≤ 2 * (q.2.2.1 - 1) + 1 := u2
  rw [Nat.sub_add_cancel (by omega)] at u3'
  obtain ⟨K, hK⟩ : ∃ K, N - t = K + 1 := ⟨N - t - 1, by omega⟩
  rw [hK] at u3'
  have e9 := d_404 (V := V1) (I := I1) (L := L) (R := R) (tl := tl) (N := N) (K := K) (D := D') (st := q.2) (g := g2) (fr := fr') (ph := ph') (on := on') (by
    by_cases c : q.2.1 = 0
    · exact .inr (u4 c).1
    · exact .inl c)
  refine ⟨vup (gW V1 q.2 D' g2) 174 49 (.int g2), gJ I1 fr' ph' on', g2, ?_, ?_, ?_, ?_, fun h => ?_, fun a j hj => ?_, fun y y1 y2 y3 y4 y5 => ?_, fun hw => ?_⟩
  · unfold fm_404 fg_404_0
    refine ev_i rfl (ev_cV e5 (ev_b (a := fx V1 I1 L R ++ tl) (by rw [hV1, hI1]; exact qp_174_65) (ev_i rfl (ev_cV e6 (u3'.trans e9)))))
  · show Value.int q.2.1 = _
    rw [i1.2.1]
  · show Value.int (nI q.2.2.1) = _
    rw [i1.2.2]
  · rfl
  · rw [(u4 (i1.2.1.trans h)).2.1, i1.1]
  · rcases hj with hj | hj
    · rw [vup_na hj, gW_o (.inl hj), hV1, vup_na hj]
    · by_cases c : a = 174
      · subst c
        rw [vup_nj hj.2.1, gW_o (.inr ⟨hj.1, hj.2.2.1, hj.2.2.2.1, hj.2.2.2.2.1, hj.2.2.2.2.2.1, hj.2.2.2.2.2.2⟩), vj j hj.2.2.2.2.2.1]
      · rw [vup_na c, gW_o (.inl c), hV1, vup_na c]
  · unfold gJ
    rw [iup_na y4, iup_na y3, iup_na y2, ij y y5]
  · exact wt_i (wt_gW (by rw [hV1]; exact wt_i hw (by decide))) (by decide)
theorem rW_o {V : Nat → Nat → Value} {st : eSt} {a j : Nat} (h : a ≠ 174 ∨ (j ≠ 48 ∧ j ≠ 50 ∧ j ≠ 58 ∧ j ≠ 59)) : rW V st a j = V a j := by
  unfold rW rsR
  by_cases c : a = 174
  · subst c
    rcases h with h | ⟨h1, h2, h3, h4⟩
    · exact absurd rfl h
    · rw [vup_nj h2, vup_nj h1, vup_nj h4, vup_nj h3]
  · rw [vup_na c, vup_na c, vup_na c, vup_na c]
theorem wt_rW {V : Nat → Nat → Value} {st : eSt} (h : wt V) : wt (rW V st) := wt_i (wt_i (wt_i (wt_i h (by decide)) (by decide)) (by decide)) (by decide)
theorem rsR_o {V : Nat → Nat → Value} {f : Int32} {u a j : Nat} (h : a ≠ 174 ∨ (j ≠ 48 ∧ j ≠ 50)) : rsR V f u a j = V a j := by
  unfold rsR
  by_cases c : a = 174
  · subst c
    rcases h with h | ⟨h1, h2⟩
    · exact absurd rfl h
    · rw [vup_nj h2, vup_nj h1]
  · rw [vup_na c, vup_na c]
set_option maxRecDepth 100000 in
set_option maxHeartbeats 1600000 in
theorem r_415 {V : Nat → Nat → Value} {I : Nat → Nat → Int32} {L : Nat → Nat → Int64} {R : Nat → Nat → Option Nat} {tl : am_H} {N sz lm len : Nat} {s a : Nat → Nat} {v row : Nat → Int32} {ht : Nat → Nat} {x y z : Int32} (hN : 100 < N) (hw : wt V) (h48 : V 174 48 = .int 0) (h50 : V 174 50 = .int (nI 0)) (hE : cdG V I sz s v x y z len lm) (hO : cdO sz s a v ht) (hrow : ∀ i, i < len → I 212 i = row i) : ∃ W J w, fm_415 N (.ref 174) (fx V I L R ++ tl) = some (.inl (none, fx W J L R ++ tl)) ∧ W 174 48 = .int (eC x y z len row lm sz s a v ht).2.1 ∧ W 174 50 = .int (nI (eC x y z len row lm sz s a v ht).2.2.1) ∧ W 174 49 = .int w ∧ ((eC x y z len row lm sz s a v ht).2.1 = 0 → w = (eC x y z len row lm sz s a v ht).1 0) ∧ frR V W I J := by
  have hlen : len ≤ 8 := hE.2.2.2.2.1
  obtain ⟨s0, h58⟩ := hw.1 174 58 (by decide)
  obtain ⟨e0, h59⟩ := hw.1 174 59 (by decide)
  have eV : V = rW V (0, 0, s0, e0) := by
    show V = vup (vup (vup (vup V 174 58 (.int s0)) 174 59 (.int e0)) 174 48 (.int 0)) 174 50 (.int (nI 0))
    rw [vup_self (V := V) (a := 174) (j := 58) h58, vup_self (V := V) (a := 174) (j := 59) h59, vup_self (V := V) (a := 174) (j := 48) h48, vup_self (V := V) (a := 174) (j := 50) h50]
  have h1 := r_415l (V := V) (I := I) (L := L) (R := R) (tl := tl) (N := N) (a := a) (ht := ht) hE hO sz 0 N (I 194) (0, 0, s0, e0) (by omega) (by omega) (by have := hO.1; omega) (Nat.zero_le _) rfl (by rw [hO.2.2.1]; omega)
  rw [hO.2.2.1, ← eV, iup_self] at h1
  have c1 := crun_c (x := x) (y := y) (z := z) (lm := lm) hlen hrow hO sz 0 (I 194) (fun _ => 0) (0, 0, s0, e0) (by omega) (by omega) (fun i hi => by rw [hO.2.2.1] at hi; omega)
  have c2 := crun_i (x := x) (y := y) (z := z) (len := len) (lm := lm) (sz := sz) (row := row) (s := s) (a := a) (v := v) (ht := ht) sz 0 (fun _ => 0) (0, 0, s0, e0) (0, 0, 0, 0) ⟨rfl, rfl⟩
  have e0' : crun x y z len row lm sz s a v ht sz 0 (fun _ => 0) (0, 0, 0, 0) = eC x y z len row lm sz s a v ht := rfl
  rw [e0'] at c2
  generalize crun x y z len (I 212) lm sz s a v ht sz 0 (I 194) (0, 0, s0, e0) = q at h1 c1
  generalize crun x y z len row lm sz s a v ht sz 0 (fun _ => 0) (0, 0, s0, e0) = q1 at c1 c2
  refine ⟨_, _, q.1 0, h1, ?_, ?_, rfl, fun h => ?_, fun b j hj => ?_, fun y y1 y2 y3 y4 y5 => iup_na y1, fun hw => wt_i (wt_rW hw) (by decide)⟩
  · show Value.int q.2.1 = _
    rw [c1.1, c2.2.1]
  · show Value.int (nI q.2.2.1) = _
    rw [c1.1, c2.2.2]
  · have hq : q.2.1 = 0 := by rw [c1.1, c2.2.1]; exact h
    rw [c1.2 hq, c2.1]
  · rcases hj with hj | hj
    · rw [vup_na hj, rW_o (.inl hj)]
    · by_cases c : b = 174
      · subst c
        rw [vup_nj hj.2.1, rW_o (.inr ⟨hj.1, hj.2.2.1, hj.2.2.2.1, hj.2.2.2.2.1⟩)]
      · rw [vup_na c, rW_o (.inl c)]
def zrV (V : Nat → Nat → Value) : Nat → Nat → Value := vup (vup (vup V 174 48 (.int 0)) 174 50 (.int 0)) 174 49 (.int 0)
theorem zrV_o {V : Nat → Nat → Value} {a j : Nat} (h : a ≠ 174 ∨ (j ≠ 48 ∧ j ≠ 49 ∧ j ≠ 50)) : zrV V a j = V a j := by
  unfold zrV
  by_cases c : a = 174
  · subst c
    rcases h with h | ⟨h1, h2, h3⟩
    · exact absurd rfl h
    · rw [vup_nj h2, vup_nj h3, vup_nj h1]
  · rw [vup_na c, vup_na c, vup_na c]
set_option maxRecDepth 100000 in
set_option maxHeartbeats 1600000 in
theorem d_403 {V : Nat → Nat → Value} {I : Nat → Nat → Int32} {L : Nat → Nat → Int64} {R : Nat → Nat → Option Nat} {tl : am_H} {N : Nat} {w f : Int32} (h : V 174 48 = .int f) (h9 : V 174 49 = .int w) (hf : fOk f) : fg_403_63 N (.ref 174) (fx V I L R ++ tl) = some (.inl (none, fx (vup V 174 49 (.int (if f = 0 then w else 0))) I L R ++ tl)) := by
  unfold fg_403_63
  refine ev_b (rdI h) ?_
  by_cases c : f = 0
  · rw [if_pos c]
    refine ev_t ((fOk_le hf).mpr c) (ev_b (rdI h9) ?_)
    unfold fg_403_79
    exact ev_b qp_174_49 rfl
  · rw [if_neg c]
    refine ev_f (fun e => c ((fOk_le hf).mp e)) ?_
    unfold fg_403_79
    exact ev_b qp_174_49 rfl
theorem r_fin {V : Nat → Nat → Value} {I : Nat → Nat → Int32} {L : Nat → Nat → Int64} {R : Nat → Nat → Option Nat} {tl : am_H} {N : Nat} {o : Int32 × Nat × Int32} {RUN : Option am_O} (h : ∃ W J w, RUN = some (.inl (none, fx W J L R ++ tl)) ∧ W 174 48 = .int o.1 ∧ W 174 50 = .int (nI o.2.1) ∧ W 174 49 = .int w ∧ (if o.1 = 0 then w else 0) = o.2.2 ∧ fOk o.1 ∧ frR (zrV V) W I J) : ∃ W J, am_cV true RUN (fun h => fg_403_63 N (.ref 174) h) = some (.inl (none, fx W J L R ++ tl)) ∧ W 174 48 = .int o.1 ∧ W 174 50 = .int (nI o.2.1) ∧ W 174 49 = .int o.2.2 ∧ frR V W I J := by
  obtain ⟨W, J, w, e, w1, w2, w3, w4, w5, f1, f2, f3⟩ := h
  refine ⟨_, _, ev_cV e (d_403 w1 w3 w5), ?_, ?_, ?_, fun a j hj => ?_, f2, fun hw => wt_i (f3 (wt_i (wt_i (wt_i hw (by decide)) (by decide)) (by decide))) (by decide)⟩
  · exact (vup_nj (by decide)).trans w1
  · exact (vup_nj (by decide)).trans w2
  · rw [← w4]; exact vup_eq
  · rcases hj with hj | hj
    · exact (vup_na hj).trans ((f1 a j (.inl hj)).trans (zrV_o (.inl hj)))
    · by_cases c : a = 174
      · subst c
        exact (vup_nj hj.2.1).trans ((f1 174 j (.inr hj)).trans (zrV_o (.inr ⟨hj.1, hj.2.1, hj.2.2.1⟩)))
      · exact (vup_na c).trans ((f1 a j (.inl c)).trans (zrV_o (.inl c)))
set_option maxRecDepth 100000 in
set_option maxHeartbeats 1600000 in
theorem r_403 {V : Nat → Nat → Value} {I : Nat → Nat → Int32} {L : Nat → Nat → Int64} {R : Nat → Nat → Option Nat} {tl : am_H} {N kd ln sz lm len : Nat} {s v row : Nat → Int32} {x y z : Int32} {o : Int32 × Nat × Int32} (hN : 5000 < N) (hw : wt V) (hd : ldR V I kd ln sz s v lm) (hin : inR V I x y z len row) (ho : rP kd ln sz s v lm x y z len row o) : ∃ W J, fm_403 N (.ref 174) (fx V I L R ++ tl) = some (.inl (none, fx W J L R ++ tl)) ∧ W 174 48 = .int o.1 ∧ W 174 50 = .int (nI o.2.1) ∧ W 174 49 = .int o.2.2 ∧ frR V W I J := by
  obtain ⟨d13, d14, d15, dsv, hs, h6, hlo, hhi⟩ := hd
  obtain ⟨h51, h52, h53, h54, hlen, hrow⟩ := hin
  obtain ⟨o0, o1, o2, o3⟩ := ho
  have hk := hs.1
  have hsz := hs.2.1
  have hwz : wt (zrV V) := wt_i (wt_i (wt_i hw (by decide)) (by decide)) (by decide)
  have zj : ∀ j, j ≠ 48 → j ≠ 49 → j ≠ 50 → zrV V 174 j = V 174 j := fun j a b c => zrV_o (.inr ⟨a, b, c⟩)
  have pre : ∀ {q : Option am_O}, ((am_vI (am_pG 3085 (.ref 174) (fx (zrV V) I L R ++ tl))).bind fun v7 => (if ¬ v7 = 0 then ((am_vI (am_pG 3085 (.ref 174) (fx (zrV V) I L R ++ tl))).bind fun v10 => (if ¬ v10 = 1 then ((am_vI (am_pG 3085 (.ref 174) (fx (zrV V) I L R ++ tl))).bind fun v13 => (if ¬ v13 = 2 then (if am_pOk 12 (.ref 174) (fx (zrV V) I L R ++ tl) then am_cV true (fm_417 N (.ref 174) (fx (zrV V) I L R ++ tl)) (fun h18 => (fg_403_63 N (.ref 174) h18)) else none) else (if am_pOk 12 (.ref 174) (fx (zrV V) I L R ++ tl) then am_cV true (fm_416 N (.ref 174) (fx (zrV V) I L R ++ tl)) (fun h22 => (fg_403_63 N (.ref 174) h22)) else none))) else (if am_pOk 12 (.ref 174) (fx (zrV V) I L R ++ tl) then am_cV true (fm_415 N (.ref 174) (fx (zrV V) I L R ++ tl)) (fun h26 => (fg_403_63 N (.ref 174) h26)) else none))) else (if am_pOk 12 (.ref 174) (fx (zrV V) I L R ++ tl) then am_cV true (fm_404 N (.ref 174) (fx (zrV V) I L R ++ tl)) (fun h30 => (fg_403_63 N (.ref 174) h30)) else none))) = q → fm_403 N (.ref 174) (fx V I L R ++ tl) = q := fun hq => by
    unfold fm_403 fg_403_0
    exact ev_b qp_174_48 (ev_b qp_174_50 (ev_b qp_174_49 hq))
  have rdk : am_vI (am_pG 3085 (.ref 174) (fx (zrV V) I L R ++ tl)) = some (nI kd) := by
    show am_vI (some (V 174 13)) = _
    rw [d13]
    rfl
  have eV : rsR (zrV V) 0 0 = zrV V := by
    unfold rsR
    rw [show vup (zrV V) 174 48 (.int 0) = zrV V from vup_self rfl, show vup (zrV V) 174 50 (.int (nI 0)) = zrV V from vup_self rfl]
  rcases (by omega : kd = 0 ∨ kd = 1 ∨ kd = 2 ∨ kd = 3) with rfl | rfl | rfl | rfl
  · obtain ⟨t1, t2⟩ := lsT_ok (hs.2.2.2.1 rfl)
    obtain ⟨W, J, w, e, w1, w2, w3, w4, w5⟩ := r_404 (V := zrV V) (I := I) (L := L) (R := R) (tl := tl) (N := N) (l := lsT sz s) (v := v) (row := row) (x := x) (y := y) (z := z) (len := len) (lm := lm) hN hwz rfl rfl (by rw [lsT_len]; exact d14) (by rw [lsT_len]; exact hsz) t1 ⟨h51, h52, h53, h54, hlen, hrow⟩ h6 hlo hhi (fun k w r hd => ((dsv k (by have := drop_lt hd; rw [lsT_len] at this; exact this)).1).trans (t2 k w r hd).1) (fun k hk => (dsv k (by rw [lsT_len] at hk; exact hk)).2)
    have hf : fOk (eT x y z len row lm (lsT sz s) v).2.1 := evN_k 12 0 (0, 0, 0, 0) (.inl rfl)
    obtain ⟨W', J', e', rest⟩ := r_fin (V := V) (I := I) (L := L) (R := R) (tl := tl) (N := N) (o := o) ⟨W, J, w, e, by rw [o0 rfl]; exact w1, by rw [o0 rfl]; exact w2, w3, by
      rw [o0 rfl]
      show (if (eT x y z len row lm (lsT sz s) v).2.1 = 0 then w else 0) = (if (eT x y z len row lm (lsT sz s) v).2.1 = 0 then (eT x y z len row lm (lsT sz s) v).1 else 0)
      by_cases c : (eT x y z len row lm (lsT sz s) v).2.1 = 0
      · rw [if_pos c, if_pos c, w4 c]
      · rw [if_neg c, if_neg c], by rw [o0 rfl]; exact hf, w5⟩
    exact ⟨W', J', pre (ev_b rdk (ev_f (fun e => e rfl) (ev_i rfl e'))), rest⟩
  · obtain ⟨ht, hO, eo⟩ := o1 rfl
    obtain ⟨-, hc⟩ := so_1 hs
    obtain ⟨W, J, w, e, w1, w2, w3, w4, w5⟩ := r_415 (V := zrV V) (I := I) (L := L) (R := R) (tl := tl) (N := N) (row := row) (a := clN v) (ht := ht) (by omega) hwz rfl rfl (show cdG (zrV V) I sz (clN s) v x y z len lm from ⟨h51, h52, h53, h54, hlen, h6, hhi, d14, fun k hk => ⟨(dsv k hk).1.trans (hc k hk).1, (dsv k hk).2⟩⟩) hO hrow
    have hf : fOk (eC x y z len row lm sz (clN s) (clN v) v ht).2.1 := crun_k sz 0 _ (0, 0, 0, 0) (.inl rfl)
    obtain ⟨W', J', e', rest⟩ := r_fin (V := V) (I := I) (L := L) (R := R) (tl := tl) (N := N) (o := o) ⟨W, J, w, e, by rw [eo]; exact w1, by rw [eo]; exact w2, w3, by
      rw [eo]
      show (if (eC x y z len row lm sz (clN s) (clN v) v ht).2.1 = 0 then w else 0) = (if (eC x y z len row lm sz (clN s) (clN v) v ht).2.1 = 0 then (eC x y z len row lm sz (clN s) (clN v) v ht).1 0 else 0)
      by_cases c : (eC x y z len row lm sz (clN s) (clN v) v ht).2.1 = 0
      · rw [if_pos c, if_pos c, w4 c]
      · rw [if_neg c, if_neg c], by rw [eo]; exact hf, w5⟩
    exact ⟨W', J', pre (ev_b rdk (ev_t (by decide) (ev_b rdk (ev_f (fun e => e rfl) (ev_i rfl e'))))), rest⟩
  · obtain ⟨z1, z6, hnx⟩ := so_2 hs
    have hq : (mrun (nxM v) (clM row) lm len 0 1 0).2.2 < sz := mrun_q (fun q c h1 h2 => (hnx q c h1 h2).2) (fun k => (clM_at row k).1) len 0 1 0 (by omega)
    have k0 := r_416 (V := zrV V) (I := I) (L := L) (R := R) (tl := tl) (N := N) (nx := nxM v) (cl := clM row) (sz := sz) (lm := lm) (len := len) (by omega) h54 hlen h6 (by omega) hhi z1 z6 (fun q c h1 h2 => by rw [(dsv q h1).2]; exact hnx q c h1 h2) (fun k hk => ⟨(clM_at row k).1, by rw [hrow k hk]; exact (clM_at row k).2.2⟩) hq
    rw [(dsv _ hq).1, eV] at k0
    have hf : fOk (mrun (nxM v) (clM row) lm len 0 1 0).1 := by
      rcases (mrun_f (nx := nxM v) (cl := clM row) (lm := lm) len 0 1 0 (by omega)).1 with e | e
      · exact .inl e
      · exact .inr (.inr (.inr e))
    have eo : o = cut (s (mrun (nxM v) (clM row) lm len 0 1 0).2.2) (mrun (nxM v) (clM row) lm len 0 1 0).1 (mrun (nxM v) (clM row) lm len 0 1 0).2.1 := o2 rfl
    generalize mrun (nxM v) (clM row) lm len 0 1 0 = q at k0 hf eo
    obtain ⟨W', J', e', rest⟩ := r_fin (V := V) (I := I) (L := L) (R := R) (tl := tl) (N := N) (o := o) ⟨_, _, _, k0, by rw [eo]; rfl, by rw [eo]; rfl, rfl, by rw [eo]; rfl, by rw [eo]; exact hf, fun b j hj => by
      rcases hj with hj | hj
      · rw [vup_na hj, rsR_o (.inl hj)]
      · by_cases c : b = 174
        · subst c
          rw [vup_nj hj.2.1, rsR_o (.inr ⟨hj.1, hj.2.2.1⟩)]
        · rw [vup_na c, rsR_o (.inl c)], fun _ _ _ _ _ _ => rfl, fun hw => wt_i (wt_i (wt_i hw (by decide)) (by decide)) (by decide)⟩
    exact ⟨W', J', pre (ev_b rdk (ev_t (by decide) (ev_b rdk (ev_t (by decide) (ev_b rdk (ev_f (fun e => e rfl) (ev_i rfl e'))))))), rest⟩
  · obtain ⟨l2, l8, z40, hk3⟩ := so_3 hs
    have k0 := r_417 (V := zrV V) (I := I) (L := L) (R := R) (tl := tl) (N := N) (s := clN s) (v := clN v) (sz := sz) (ln := ln) (lm := lm) (len := len) (by omega) d14 (d15 rfl) h54 hlen l2 l8 h6 (by omega) hhi z40 (fun c hc => ⟨(dsv c hc).1.trans (hk3 c hc).1, (dsv c hc).2.trans (hk3 c hc).2.1, (hk3 c hc).2.2.1, by have := (hk3 c hc).2.2.2; omega⟩)
    rw [eV] at k0
    have c1 := nrun_c (s := clN s) (v := clN v) (lm := lm) (ln := ln) (fun c hc => (hk3 c hc).2.2) sz 0 1 (fil (I 194) (I 212) len ln) (fil (fun _ => 0) row len 8) (by omega) (fun q hq => by
      unfold fil
      have q8 : q < 8 := by omega
      rw [if_pos hq, if_pos q8]
      by_cases c : q < len
      · rw [if_pos c, if_pos c, hrow q c]
      · rw [if_neg c, if_neg c])
    have hf : fOk (nrun (clN s) (clN v) lm sz 0 1 (fil (fun _ => 0) row len 8)).1 := by
      rcases nrun_f (s := clN s) (v := clN v) (lm := lm) sz 0 1 (fil (fun _ => 0) row len 8) with e | e
      · exact .inl e
      · exact .inr (.inr (.inr e))
    have eo : o = cut ((nrun (clN s) (clN v) lm sz 0 1 (fil (fun _ => 0) row len 8)).2.2 ((ln - 1) / 2)) (nrun (clN s) (clN v) lm sz 0 1 (fil (fun _ => 0) row len 8)).1 (nrun (clN s) (clN v) lm sz 0 1 (fil (fun _ => 0) row len 8)).2.1 := o3 rfl
    unfold nOut at k0
    generalize nrun (clN s) (clN v) lm sz 0 1 (fil (I 194) (I 212) len ln) = q at k0 c1
    generalize nrun (clN s) (clN v) lm sz 0 1 (fil (fun _ => 0) row len 8) = q' at c1 hf eo
    obtain ⟨c1, c2, c3⟩ := c1
    rw [c1, c2, c3 _ (by omega)] at k0
    obtain ⟨W', J', e', rest⟩ := r_fin (V := V) (I := I) (L := L) (R := R) (tl := tl) (N := N) (o := o) ⟨_, _, _, k0, by rw [eo]; rfl, by rw [eo]; rfl, rfl, by rw [eo]; rfl, by rw [eo]; exact hf, fun b j hj => by
      rcases hj with hj | hj
      · rw [vup_na hj, rsR_o (.inl hj)]
      · by_cases c : b = 174
        · subst c
          rw [vup_nj hj.2.1, rsR_o (.inr ⟨hj.1, hj.2.2.1⟩)]
        · rw [vup_na c, rsR_o (.inl c)], fun y y1 y2 y3 y4 y5 => iup_na y1, fun hw => wt_i (wt_i (wt_i hw (by decide)) (by decide)) (by decide)⟩
    exact ⟨W', J', pre (ev_b rdk (ev_t (by decide) (ev_b rdk (ev_t (by decide) (ev_b rdk (ev_t (by decide) (ev_i rfl e'))))))), rest⟩
