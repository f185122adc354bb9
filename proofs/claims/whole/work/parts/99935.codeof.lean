/-! ===== the code of a tree: codeOf ===== -/
theorem okI_cO {P : xT} (ho : okP P) (h60 : (cO2 P 0).length ≤ 60) : okI (tI (cO2 P 0)) ∧ vlC (tI (cO2 P 0)) := by
  have key : ∀ k, k < (tI (cO2 P 0)).length → xS (cO2 P 0) k ≤ 18 ∧ (17 ≤ xS (cO2 P 0) k → ∃ a, xV (cO2 P 0) k = nI a ∧ a ≤ 62) ∧ (xS (cO2 P 0) k = 0 → two (xV (cO2 P 0) k)) ∧ (xS (cO2 P 0) k ≠ 0 → xS (cO2 P 0) k < 17 → xV (cO2 P 0) k = 0) ∧ srt (tI (cO2 P 0)) k = nI (xS (cO2 P 0) k) ∧ vlu (tI (cO2 P 0)) k = xV (cO2 P 0) k := fun k hk => by
    rw [tI_len] at hk
    obtain ⟨a1, a2, a3, a4⟩ := cOf_v ho (13 - dpP P 0) 0 (okP_pos ho) _ (List.mem_of_getElem? (xS_at hk))
    obtain ⟨b1, b2⟩ := srt_tI hk
    refine ⟨a1, fun h => ?_, a3, a4, b1, b2⟩
    obtain ⟨a, c1, c2⟩ := a2 h
    have c2 : a ≤ (cO2 P 0).length + 2 := c2
    exact ⟨a, c1, by omega⟩
  refine ⟨fun k hk => ?_, fun k hk => ?_⟩
  · obtain ⟨a1, a2, a3, a4, a5, a6⟩ := key k hk
    rw [a5, a6, sN_nI (by omega)]
    refine ⟨rfl, a1, fun h => ?_⟩
    obtain ⟨a, c1, c2⟩ := a2 h
    rw [c1, sN_nI (by omega)]
    exact ⟨rfl, by omega⟩
  · obtain ⟨a1, a2, a3, a4, a5, a6⟩ := key k hk
    rw [a5, a6, sN_nI (by omega)]
    exact ⟨a3, a4⟩
/-- a tree has code -/
def hasC (P : xT) : Prop := (gdT P 0 ∧ (cO2 P 0).length ≤ 60) ∧ (cdX (tI (cO2 P 0)) (cO2 P 0).length 0 g00).isRight = true
theorem cO_pos {P : xT} (ho : okP P) (hg : gdT P 0) : 1 ≤ (cO2 P 0).length := by
  have hk := okP_pos ho
  have g1 := gd_1 hk hg
  rw [cO_unf ho hk g1.2.2]
  split
  · exact Nat.le_refl _
  · split
    · rw [List.length_append]; show 1 ≤ _ + 2; omega
    · split
      · split
        · rw [List.length_append]; show 1 ≤ _ + 1; omega
        · rw [List.length_append]; show 1 ≤ _ + 1; omega
      · split
        · rw [List.length_append, List.length_append]; show 1 ≤ _ + (1 + _); omega
        · split
          · rw [List.length_append, List.length_append]; show 1 ≤ _ + (3 + _); omega
          · split
            · rw [List.length_append, List.length_append]; show 1 ≤ _ + (1 + _); omega
            · rw [List.length_append, List.length_append]; show 1 ≤ _ + (_ + 1); omega
/-- what writing code touches -/
def frCo (V W : Nat → Nat → Value) (I J : Nat → Nat → Int32) : Prop := (∀ a j, a ≠ 167 → ¬ (a = 131 ∧ (j = 4 ∨ j = 5)) → ¬ (a = 132 ∧ j = 7) → W a j = V a j) ∧ (∀ y, y ≠ 168 → y ≠ 133 → y ≠ 139 → J y = I y) ∧ (wt V → wt W)
set_option maxRecDepth 100000 in
set_option maxHeartbeats 4000000 in
theorem c_205 {V : Nat → Nat → Value} {I : Nat → Nat → Int32} {L : Nat → Nat → Int64} {R : Nat → Nat → Option Nat} {tl : am_H} {N A it : Nat} {P : xT} (hN : 400 < N) (ho : okP P) (hw : wt V) (hs : srcP V I tl A it 0 0 P) (hA : A ≠ 167 ∧ A ≠ 131 ∧ A ≠ 132) (hit : it ≠ 168 ∧ it ≠ 133) : ∃ W J b, fm_205 N (.ref 131) (.ref A) (.ref 167) (fx V I L R ++ tl) = some (.inl (some (.int (bI b)), fx W J L R ++ tl)) ∧ (b = true ↔ hasC P) ∧ (b = true → hold W J 167 1 0 (cO2 P 0)) ∧ frCo V W I J := by
  have hl := (src_ok (L := L) (R := R) hs).2.2.2.2
  obtain ⟨V1, hV1⟩ : ∃ V1, V1 = vup (vup V 131 4 (.ref A)) 131 5 (.ref 167) := ⟨_, rfl⟩
  have w1 : wt V1 := by rw [hV1]; exact wt_o (by decide) (by decide) (wt_o (by decide) (by decide) hw)
  have v1 : ∀ a j, ¬ (a = 131 ∧ (j = 4 ∨ j = 5)) → V1 a j = V a j := fun a j h => by rw [hV1, vup_o (fun e => h ⟨e.1, .inr e.2⟩), vup_o (fun e => h ⟨e.1, .inl e.2⟩)]
  have s1 : srcP V1 I tl A it 0 0 P := srcP_c (fun j => v1 A j (fun e => hA.2.1 e.1)) rfl hs
  obtain ⟨m, f, p1, p2, p3, p4, -⟩ := id s1
  have hF : isF 1 (sl P) := okF_F (sl P) [(0, 1, 0)] ho.1
  rw [← sl_len (P := P)] at p1
  obtain ⟨g, hg, e1⟩ := c_77_132 (L := L) (R := R) (N := N) (by omega) (by omega) p1 hA.2.2 hit.2 (by rw [sl_len]; exact p3) p4 (by rw [sl_len]; exact hl) (sl_S ho p2) hF
  rw [sl_len] at hg e1
  obtain ⟨V2, hV2⟩ : ∃ V2, V2 = vup V1 132 7 (.int (nI P.length)) := ⟨_, rfl⟩
  rw [← hV2] at e1
  have w2 : wt V2 := by rw [hV2]; exact wt_i w1 (by decide)
  have s2 : srcP V2 (iup I 133 g) tl A it 0 0 P := srcP_c (fun j => by rw [hV2]; exact vup_o (fun e => hA.2.2 e.1)) (iup_na hit.2) s1
  obtain ⟨W3, J3, e3, h3, f3⟩ := s34_167 (V := V2) (I := iup I 133 g) (L := L) (R := R) (tl := tl) (kd := 1) (ln := 0) 1 0 rfl rfl (by omega) (by omega)
  have c2 : emC tl A it 0 0 P V2 (iup I 133 g) := ⟨w2, s2, by rw [hV2, hV1]; rfl, by rw [hV2, hV1]; rfl, by rw [hV2]; rfl, fun j hj => hg j hj⟩
  have c3 := emC_f hA.1 hit.1 c2 f3
  have d1 : dpP P 0 = 1 := by
    have h := cx_at ho (okP_pos ho)
    unfold dpP
    have hp := okP_pos ho
    cases P with
    | nil => exact absurd hp (by show ¬ 1 ≤ 0; omega)
    | cons x r =>
      have e : (cxl [(0, 1, 0)] (sl (x :: r)))[0]? = some (0, 1, 0) := by
        show (cxl [(0, 1, 0)] ((x.1, 0) :: sl r))[0]? = _
        rw [cxl_c]
        rfl
      rw [e] at h
      rw [← Option.some.inj h]
  have hE := em_all (L := L) (R := R) (tl := tl) (kd := 0) (ln := 0) (N := N) (by omega) ho hA.1 hit.1 13 0 40 (okP_pos ho) (by omega) (by omega) W3 J3 [] 1 c3 h3 (by show 0 ≤ 60; omega) (by rw [d1]; rfl)
  have F3 : frCo V W3 I J3 := ⟨fun a j x y z => (f3.1 a j x).trans (by rw [hV2, vup_o z]; exact v1 a j y), fun y a b c => (f3.2.1 y a).trans (iup_na b), fun _ => f3.2.2 w2⟩
  have hd : ∀ o, (if am_pOk 10 (.ref 131) (fx W3 J3 L R ++ tl) then am_cI true (fm_206 N (.ref 131) 0 1 (fx W3 J3 L R ++ tl)) (fun v19 h20 => (if v19 = 0 then (fg_205_48 N h20) else ((am_vR (am_pG 2560 (.ref 131) h20)).bind fun v23 => (if am_pOk 7 v23 h20 then am_cI true (fm_52 N v23 (.ref 167) h20) (fun v26 h27 => (if 0 ≤ v26 then (fg_205_48 N h27) else (fg_205_49 N 1 h27))) else none)))) else none) = o → fm_205 N (.ref 131) (.ref A) (.ref 167) (fx V I L R ++ tl) = o := fun o h => by
    apply hm_205
    apply hd_205_0
    refine ev_b qp_131_4 (ev_b qp_131_5 ?_)
    rw [← hV1]
    exact ev_b (rdR rfl) (ev_i rfl (ev_cV e1 (ev_i rfl (ev_cV e3 h))))
  by_cases g1 : gdT P 0 ∧ (0 + (cO2 P 0).length) ≤ 60
  · obtain ⟨W4, J4, e4, h4, f4⟩ := hE.1 g1
    rw [List.nil_append] at h4
    have g60 : (cO2 P 0).length ≤ 60 := by omega
    obtain ⟨o1, o2⟩ := okI_cO ho g60
    have c4 := emC_f hA.1 hit.1 c3 f4
    have s4 := srcP_167 (tl := tl) (L := L) (R := R) c4.1 h4 (by omega) (by omega) g60
    obtain ⟨F5, e5, r5⟩ := k_52_132 (L := L) (R := R) (N := N) hN s4 (by decide) (by decide) o1
    have hp := cO_pos ho g1.1
    rw [if_neg (by omega)] at e5
    have e4' : fm_206 N (.ref 131) 0 1 (fx W3 J3 L R ++ tl) = some (.inl (some (.int 1), fx W4 J4 L R ++ tl)) := e4
    have F5' : frCo V (vup W4 132 7 (.int (nI (cO2 P 0).length))) I (iup J4 139 F5) := ⟨fun a j x y z => by rw [vup_o z, f4.1 a j x]; exact F3.1 a j x y z, fun y a b c => by rw [iup_na c, f4.2.1 y a]; exact F3.2.1 y a b c, fun w => wt_i (f4.2.2 (F3.2.2 w)) (by decide)⟩
    cases ex : cdX (tI (cO2 P 0)) (cO2 P 0).length 0 g00 with
    | inl k =>
      rw [ex] at e5 r5
      have hk : k < (cO2 P 0).length := r5 (by omega)
      refine ⟨_, _, false, hd _ (ev_i rfl (ev_cI e4' (ev_f (by decide) (ev_b (rdR rfl) (ev_i rfl (ev_cI e5 (ev_t (nI_pos' (by omega)) rfl))))))), ⟨fun e => absurd e (by decide), fun e => ?_⟩, fun e => absurd e (by decide), F5'⟩
      have := e.2
      rw [ex] at this
      exact Bool.noConfusion this
    | inr g =>
      rw [ex] at e5
      exact ⟨_, _, true, hd _ (ev_i rfl (ev_cI e4' (ev_f (by decide) (ev_b (rdR rfl) (ev_i rfl (ev_cI e5 (ev_f (show ¬ (0 : Int32) ≤ -1 from by decide) rfl))))))), ⟨fun _ => ⟨⟨g1.1, g60⟩, by rw [ex]; rfl⟩, fun _ => rfl⟩, fun _ => h4, F5'⟩
  · obtain ⟨W4, J4, e4, f4⟩ := hE.2 g1
    have e4' : fm_206 N (.ref 131) 0 1 (fx W3 J3 L R ++ tl) = some (.inl (some (.int 0), fx W4 J4 L R ++ tl)) := e4
    refine ⟨W4, J4, false, hd _ (ev_i rfl (ev_cI e4' (ev_t rfl rfl))), ⟨fun e => absurd e (by decide), fun e => absurd ⟨e.1.1, by have := e.1.2; omega⟩ g1⟩, fun e => absurd e (by decide), ?_⟩
    exact ⟨fun a j x y z => (f4.1 a j x).trans (F3.1 a j x y z), fun y a b c => (f4.2.1 y a).trans (F3.2.1 y a b c), fun w => f4.2.2 (F3.2.2 w)⟩
