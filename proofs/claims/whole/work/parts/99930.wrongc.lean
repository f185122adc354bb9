/-! ===== whether code is sound: the class ===== -/
theorem srt_tI {Q : xT} {k : Nat} (hk : k < Q.length) : srt (tI Q) k = nI (xS Q k) ∧ vlu (tI Q) k = xV Q k := by
  have h := srt_at (Q := tI Q) (k := k) (by rw [tI_len]; exact hk)
  rw [tI_at hk] at h
  injection (Option.some.inj h) with h1 h2
  exact ⟨h1.symm, h2.symm⟩
theorem src_get {V : Nat → Nat → Value} {I : Nat → Nat → Int32} {L : Nat → Nat → Int64} {R : Nat → Nat → Option Nat} {tl : am_H} {A it kd ln : Nat} {Q : xT} (h : srcP V I tl A it kd ln Q) {k : Nat} (hk : k < Q.length) : fm_54 (.ref A) (nI k) 0 (fx V I L R ++ tl) = some (.inl (some (.int (nI (xS Q k))), fx V I L R ++ tl)) ∧ fm_54 (.ref A) (nI k) 1 (fx V I L R ++ tl) = some (.inl (some (.int (xV Q k)), fx V I L R ++ tl)) := by
  obtain ⟨m, f, p1, p2, p3, p4, p5, p6, p7⟩ := h
  have hp := p1 V I L R (fun _ => rfl) rfl
  obtain ⟨f0, f1⟩ := p2 k _ (xS_at hk)
  have w2 := wd2 p6
  have a := c_54 (k := k) (w := 0) hp (by rw [w2]; exact p3) p4 p7 hk (by rw [w2]; decide)
  have b := c_54 (k := k) (w := 1) hp (by rw [w2]; exact p3) p4 p7 hk (by rw [w2]; decide)
  have e0 : f (k * wdN kd + 0) = nI (xS Q k) := by rw [w2]; exact f0
  have e1 : f (k * wdN kd + 1) = xV Q k := by rw [w2]; exact f1
  rw [e0] at a
  rw [e1] at b
  exact ⟨a, b⟩
theorem src_ok {V : Nat → Nat → Value} {I : Nat → Nat → Int32} {L : Nat → Nat → Int64} {R : Nat → Nat → Option Nat} {tl : am_H} {A it kd ln : Nat} {Q : xT} (h : srcP V I tl A it kd ln Q) : am_pOk 3 (.ref A) (fx V I L R ++ tl) = true ∧ am_vI (am_pG 771 (.ref A) (fx V I L R ++ tl)) = some (nI Q.length) ∧ am_vI (am_pG 769 (.ref A) (fx V I L R ++ tl)) = some (nI kd) ∧ am_vI (am_pG 770 (.ref A) (fx V I L R ++ tl)) = some (nI ln) ∧ Q.length ≤ 60 := by
  obtain ⟨m, f, p1, p2, p3, p4, p5, p6, p7⟩ := h
  obtain ⟨x1, x2, x3, x4, x5, x6, q1, q2⟩ := p1 V I L R (fun _ => rfl) rfl
  exact ⟨ev_ok q1, ev_gI q1 rfl rfl, ev_gI q1 rfl rfl, ev_gI q1 rfl rfl, p7⟩
set_option maxRecDepth 100000 in
set_option maxHeartbeats 4000000 in
theorem k_57_132 {V : Nat → Nat → Value} {I : Nat → Nat → Int32} {L : Nat → Nat → Int64} {R : Nat → Nat → Option Nat} {tl : am_H} {sz q h : Nat} {F : Nat → Int32} {g : Nat → Option Nat} (h7 : V 132 7 = .int (nI sz)) (hsz : sz ≤ 60) (hq : q ≤ 400) (hh : h ≤ 8) (hf : htF F sz g) : (rch sz q h g = none → fm_57 (.ref 132) (nI q) (nI h) (fx V (iup I 139 F) L R ++ tl) = some (.inl (some (.int 0), fx V (iup I 139 F) L R ++ tl))) ∧ (∀ g', rch sz q h g = some g' → ∃ F', fm_57 (.ref 132) (nI q) (nI h) (fx V (iup I 139 F) L R ++ tl) = some (.inl (some (.int 1), fx V (iup I 139 F') L R ++ tl)) ∧ htF F' sz g') := by
  unfold rch
  have qe : nI q = nI sz ↔ q = sz := nI_eq (by omega) (by omega)
  have q1 : nI h = 1 ↔ h = 1 := nI_eq (b := 1) (by omega) (by omega)
  by_cases c1 : sz < q
  · rw [if_pos c1]
    refine ⟨fun _ => ?_, fun g' e => absurd e (by simp)⟩
    apply hm_57
    apply hd_57_0
    exact ev_f (nI_pos (by omega)) (ev_b (rdI h7) (ev_t (nI_lt c1 (by omega)) rfl))
  rw [if_neg c1]
  have hd : ∀ o, (¬ (q = sz ∧ h ≠ 1) → fg_57_25 (.ref 132) (nI q) (nI h) (fx V (iup I 139 F) L R ++ tl) = o) → (q = sz ∧ h ≠ 1 → fg_57_44 (fx V (iup I 139 F) L R ++ tl) = o) → fm_57 (.ref 132) (nI q) (nI h) (fx V (iup I 139 F) L R ++ tl) = o := fun o g1 g2 => by
    apply hm_57
    apply hd_57_0
    refine ev_f (nI_pos (by omega)) (ev_b (rdI h7) (ev_f (nI_nlt (by omega) (by omega)) (ev_b (rdI h7) ?_)))
    by_cases c : q = sz
    · refine ev_f (fun e => e (qe.mpr c)) ?_
      by_cases d : h = 1
      · exact ev_f (fun e => e (q1.mpr d)) (g1 (fun e => e.2 d))
      · exact ev_t (fun e => d (q1.mp e)) (g2 ⟨c, d⟩)
    · exact ev_t (fun e => c (qe.mp e)) (g1 (fun e => c e.1))
  by_cases c2 : q = sz ∧ h ≠ 1
  · rw [if_pos c2]
    exact ⟨fun _ => hd _ (fun e => absurd c2 e) (fun _ => rfl), fun g' e => absurd e (by simp)⟩
  rw [if_neg c2]
  have rF : ∀ F : Nat → Int32, am_pA 0 (.ref 139) (nI q) (fx V (iup I 139 F) L R ++ tl) = some (F q) := fun F => (qa_139 (I := iup I 139 F) (by omega)).trans (by rw [iup_eq])
  have st : fg_57_46 (.ref 132) (nI q) (nI h) (fx V (iup I 139 F) L R ++ tl) = some (.inl (some (.int 1), fx V (iup I 139 (upd F q (nI h))) L R ++ tl)) := by
    apply hd_57_46
    exact ev_b (rdR rfl) (ev_b ((qs_139 (I := iup I 139 F) (by omega)).trans (by rw [iup_eq, iup_iup])) rfl)
  obtain ⟨f1, f2⟩ := hf q (by omega)
  cases eg : g q with
  | none =>
    rw [eg] at f1
    refine ⟨fun e => absurd e (by simp), fun g' e => ⟨upd F q (nI h), hd _ (fun _ => ?_) (fun e => absurd e c2), ?_⟩⟩
    · apply hd_57_25
      refine ev_b (rdR rfl) (ev_b (rF F) ?_)
      rw [f1]
      exact ev_t (by decide) st
    · rw [← Option.some.inj e]
      exact htF_u hf hh
  | some y =>
    rw [eg] at f1
    have y8 := f2 y eg
    have f1 : F q = nI y := f1
    dsimp only
    by_cases c3 : y = h
    · rw [if_pos c3]
      refine ⟨fun e => absurd e (by simp), fun g' e => ⟨upd F q (nI h), hd _ (fun _ => ?_) (fun e => absurd e c2), ?_⟩⟩
      · apply hd_57_25
        refine ev_b (rdR rfl) (ev_b (rF F) ?_)
        rw [f1]
        refine ev_f (nI_pos (by omega)) (ev_b (rdR rfl) (ev_b (rF F) ?_))
        rw [f1, c3]
        exact ev_t rfl st
      · rw [← Option.some.inj e, htF_id hf (by omega) (by rw [eg, c3])]
        exact hf
    · rw [if_neg c3]
      refine ⟨fun _ => hd _ (fun _ => ?_) (fun e => absurd e c2), fun g' e => absurd e (by simp)⟩
      apply hd_57_25
      refine ev_b (rdR rfl) (ev_b (rF F) ?_)
      rw [f1]
      refine ev_f (nI_pos (by omega)) (ev_b (rdR rfl) (ev_b (rF F) ?_))
      rw [f1]
      exact ev_f (fun e => c3 ((nI_eq (by omega) (by omega)).mp e)) rfl
set_option maxRecDepth 100000 in
set_option maxHeartbeats 4000000 in
theorem k_52l_132 {V : Nat → Nat → Value} {I : Nat → Nat → Int32} {L : Nat → Nat → Int64} {R : Nat → Nat → Option Nat} {tl : am_H} {N A it kd ln : Nat} {Q : xT} (h7 : V 132 7 = .int (nI Q.length)) (hs : srcP V I tl A it kd ln Q) (hit : it ≠ 139) (hc : okI (tI Q)) : ∀ (m k K : Nat) (F : Nat → Int32) (g : Nat → Option Nat), k + m = Q.length → m < K → htF F Q.length g → ∃ F', fg_52_44 N K (.ref 132) (.ref A) (nI k) (fx V (iup I 139 F) L R ++ tl) = some (.inl (some (.int (cdI (cdX (tI Q) m k g))), fx V (iup I 139 F') L R ++ tl)) ∧ cdQ (cdX (tI Q) m k g) F' Q.length := by
  have sF : ∀ F : Nat → Int32, srcP V (iup I 139 F) tl A it kd ln Q := fun F => srcP_c (fun _ => rfl) (iup_na hit) hs
  have q60 := (src_ok (L := L) (R := R) hs).2.2.2.2
  intro m
  induction m with
  | zero =>
    intro k K F g hk hK hf
    obtain ⟨K, rfl⟩ : ∃ k, K = k + 1 := ⟨K - 1, by omega⟩
    refine ⟨F, ?_, hf⟩
    apply hd_52_44
    exact ev_b (rdI h7) (ev_t (nI_le (by omega) (by omega)) rfl)
  | succ m ih =>
    intro k K F g hk hK hf
    obtain ⟨K, rfl⟩ : ∃ k, K = k + 1 := ⟨K - 1, by omega⟩
    have hkl : k < Q.length := by omega
    obtain ⟨a1, a2, a3⟩ := hc k (by rw [tI_len]; exact hkl)
    obtain ⟨d1, d2⟩ := srt_tI hkl
    obtain ⟨s, hs'⟩ : ∃ s, s = sN (srt (tI Q) k) := ⟨_, rfl⟩
    rw [← hs'] at a1 a2 a3
    have ds : nI (xS Q k) = nI s := d1.symm.trans a1
    have rs : ∀ F : Nat → Int32, fm_54 (.ref A) (nI k) 0 (fx V (iup I 139 F) L R ++ tl) = some (.inl (some (.int (nI s)), fx V (iup I 139 F) L R ++ tl)) := fun F => by rw [(src_get (L := L) (R := R) (sF F) hkl).1, ds]
    have rv : ∀ F : Nat → Int32, fm_54 (.ref A) (nI k) 1 (fx V (iup I 139 F) L R ++ tl) = some (.inl (some (.int (vlu (tI Q) k)), fx V (iup I 139 F) L R ++ tl)) := fun F => by rw [(src_get (L := L) (R := R) (sF F) hkl).2, d2]
    have ok3 : ∀ F : Nat → Int32, am_pOk 3 (.ref A) (fx V (iup I 139 F) L R ++ tl) = true := fun F => (src_ok (sF F)).1
    have rF : ∀ F : Nat → Int32, am_pA 0 (.ref 139) (nI k) (fx V (iup I 139 F) L R ++ tl) = some (F k) := fun F => (qa_139 (I := iup I 139 F) (by omega)).trans (by rw [iup_eq])
    have e55 : ∀ h, fm_55 (nI s) h = some (.inl (some (.int (pv_55 (nI s))), h)) := fun h => pe_55 _ _
    have e56 : ∀ h, fm_56 (nI s) h = some (.inl (some (.int (nI (tkN s))), h)) := fun h => by rw [pe_56, t56 s (by omega)]
    have t2 := tk_2 s
    have p2 := pt_2 s
    obtain ⟨f1, f2⟩ := hf k (by omega)
    have q17 : nI s = 17 ↔ s = 17 := nI_eq (b := 17) (by omega) (by omega)
    have hd0 : ∀ o, (if F k < nI (tkN s) then (fg_52_135 N (nI k) (fx V (iup I 139 F) L R ++ tl)) else (if 8 < (F k + pv_55 (nI s)) then (fg_52_135 N (nI k) (fx V (iup I 139 F) L R ++ tl)) else (if nI s = 17 then (fg_52_110 N (fg_52_44 N K) (.ref 132) (.ref A) (nI k) (nI s) (F k + pv_55 (nI s)) (fx V (iup I 139 F) L R ++ tl)) else (if am_pOk 7 (.ref 132) (fx V (iup I 139 F) L R ++ tl) then am_cI true (fm_57 (.ref 132) (nI (k + 1)) (F k + pv_55 (nI s)) (fx V (iup I 139 F) L R ++ tl)) (fun v26 h27 => (if v26 = 0 then (fg_52_135 N (nI k) h27) else (fg_52_110 N (fg_52_44 N K) (.ref 132) (.ref A) (nI k) (nI s) (F k + pv_55 (nI s)) h27))) else none)))) = o → fg_52_44 N (K + 1) (.ref 132) (.ref A) (nI k) (fx V (iup I 139 F) L R ++ tl) = o := fun o h => by
      apply hd_52_44
      rw [nI_1]
      exact ev_b (rdI h7) (ev_f (nI_ge (by omega) (by omega)) (ev_i (ok3 F) (ev_cI (rs F) (ev_b (rdR rfl) (ev_b (rF F) (ev_cI (e55 _) (ev_b (rdR rfl) (ev_b (rF F) (ev_cI (e56 _) h)))))))))
    rw [cdX]
    cases eg : g k with
    | none =>
      rw [eg] at f1
      refine ⟨F, hd0 _ ?_, hkl⟩
      rw [f1]
      exact ev_t (m1_lt _ (by omega)) rfl
    | some h =>
      rw [eg] at f1
      have f1 : F k = nI h := f1
      have h8 := f2 h eg
      dsimp only
      rw [← hs']
      by_cases c1 : h < tkN s
      · rw [if_pos c1]
        refine ⟨F, hd0 _ ?_, hkl⟩
        rw [f1]
        exact ev_t (nI_lt c1 (by omega)) rfl
      rw [if_neg c1]
      obtain ⟨x, hx⟩ : ∃ x, x = h - tkN s + ptN s := ⟨_, rfl⟩
      have ex : nI h + pv_55 (nI s) = nI x := by rw [t55 s (by omega) h (by omega) (by omega), hx]
      rw [← hx]
      have hd1 : ∀ o, (if 8 < nI x then (fg_52_135 N (nI k) (fx V (iup I 139 F) L R ++ tl)) else (if nI s = 17 then (fg_52_110 N (fg_52_44 N K) (.ref 132) (.ref A) (nI k) (nI s) (nI x) (fx V (iup I 139 F) L R ++ tl)) else (if am_pOk 7 (.ref 132) (fx V (iup I 139 F) L R ++ tl) then am_cI true (fm_57 (.ref 132) (nI (k + 1)) (nI x) (fx V (iup I 139 F) L R ++ tl)) (fun v26 h27 => (if v26 = 0 then (fg_52_135 N (nI k) h27) else (fg_52_110 N (fg_52_44 N K) (.ref 132) (.ref A) (nI k) (nI s) (nI x) h27))) else none))) = o → fg_52_44 N (K + 1) (.ref 132) (.ref A) (nI k) (fx V (iup I 139 F) L R ++ tl) = o := fun o h => by
        refine hd0 o ?_
        rw [f1, ex]
        exact ev_f (nI_nlt (by omega) (by omega)) h
      by_cases c2 : 8 < x
      · rw [if_pos c2]
        exact ⟨F, hd1 _ (ev_t (nI_lt (a := 8) c2 (by omega)) rfl), hkl⟩
      rw [if_neg c2]
      have sec : ∀ (F1 : Nat → Int32) (g1 : Nat → Option Nat), htF F1 Q.length g1 → ∃ F', fg_52_110 N (fg_52_44 N K) (.ref 132) (.ref A) (nI k) (nI s) (nI x) (fx V (iup I 139 F1) L R ++ tl) = some (.inl (some (.int (cdI (match (if s < 17 then some g1 else rch (tI Q).length (k + 1 + sN (vlu (tI Q) k)) x g1) with | none => .inl k | some g2 => cdX (tI Q) m (k + 1) g2))), fx V (iup I 139 F') L R ++ tl)) ∧ cdQ (match (if s < 17 then some g1 else rch (tI Q).length (k + 1 + sN (vlu (tI Q) k)) x g1) with | none => .inl k | some g2 => cdX (tI Q) m (k + 1) g2) F' Q.length := by
        intro F1 g1 hf1
        by_cases c3 : s < 17
        · rw [if_pos c3]
          obtain ⟨F', e, r⟩ := ih (k + 1) K F1 g1 (by omega) (by omega) hf1
          refine ⟨F', ?_, r⟩
          apply hd_52_110
          refine ev_t (nI_lt (b := 17) c3 (by omega)) ?_
          apply hd_52_137
          rw [nI_1]
          exact e
        · rw [if_neg c3]
          obtain ⟨b1, b2⟩ := a3 (by omega)
          have er := k_57_132 (L := L) (R := R) (tl := tl) (I := I) (q := k + 1 + sN (vlu (tI Q) k)) (h := x) h7 q60 (by omega) (by omega) hf1
          rw [tI_len]
          have hd2 : ∀ (v : Int32) (F2 : Nat → Int32) (o : Option am_O), fm_57 (.ref 132) (nI (k + 1 + sN (vlu (tI Q) k))) (nI x) (fx V (iup I 139 F1) L R ++ tl) = some (.inl (some (.int v), fx V (iup I 139 F2) L R ++ tl)) → (if ¬ v = 0 then (fg_52_137 N (fg_52_44 N K) (.ref 132) (.ref A) (nI k) (fx V (iup I 139 F2) L R ++ tl)) else (fg_52_135 N (nI k) (fx V (iup I 139 F2) L R ++ tl))) = o → fg_52_110 N (fg_52_44 N K) (.ref 132) (.ref A) (nI k) (nI s) (nI x) (fx V (iup I 139 F1) L R ++ tl) = o := fun v F2 o e h => by
            apply hd_52_110
            refine ev_f (nI_nlt (b := 17) (by omega) (by omega)) (ev_i (ok3 F1) (ev_cI (rv F1) ?_))
            rw [b1, nI_1, nI_add]
            exact ev_i rfl (ev_cI e h)
          cases ec : rch Q.length (k + 1 + sN (vlu (tI Q) k)) x g1 with
          | none => exact ⟨F1, hd2 0 F1 _ (er.1 ec) (ev_f (fun e => e rfl) rfl), hkl⟩
          | some g2 =>
            obtain ⟨F2, y1, y2⟩ := er.2 g2 ec
            obtain ⟨F', e, r⟩ := ih (k + 1) K F2 g2 (by omega) (by omega) y2
            refine ⟨F', hd2 1 F2 _ y1 (ev_t (by decide) ?_), r⟩
            apply hd_52_137
            rw [nI_1]
            exact e
      by_cases c4 : s = 17
      · rw [if_pos c4]
        obtain ⟨F', e, r⟩ := sec F g hf
        exact ⟨F', hd1 _ (ev_f (nI_nlt (a := 8) (by omega) (by omega)) (ev_t (q17.mpr c4) e)), r⟩
      · rw [if_neg c4]
        have er := k_57_132 (L := L) (R := R) (tl := tl) (I := I) (q := k + 1) (h := x) h7 q60 (by omega) (by omega) hf
        rw [tI_len]
        rw [tI_len] at sec
        cases ec : rch Q.length (k + 1) x g with
        | none => exact ⟨F, hd1 _ (ev_f (nI_nlt (a := 8) (by omega) (by omega)) (ev_f (fun e => c4 (q17.mp e)) (ev_i rfl (ev_cI (er.1 ec) (ev_t rfl rfl))))), hkl⟩
        | some g1 =>
          obtain ⟨F1, y1, y2⟩ := er.2 g1 ec
          obtain ⟨F', e, r⟩ := sec F1 g1 y2
          exact ⟨F', hd1 _ (ev_f (nI_nlt (a := 8) (by omega) (by omega)) (ev_f (fun e => c4 (q17.mp e)) (ev_i rfl (ev_cI y1 (ev_f (by decide) e))))), r⟩
set_option maxRecDepth 100000 in
set_option maxHeartbeats 4000000 in
theorem k_52_132 {V : Nat → Nat → Value} {I : Nat → Nat → Int32} {L : Nat → Nat → Int64} {R : Nat → Nat → Option Nat} {tl : am_H} {N A it kd ln : Nat} {Q : xT} (hN : 400 < N) (hs : srcP V I tl A it kd ln Q) (hA : A ≠ 132) (hit : it ≠ 139) (hc : okI (tI Q)) : ∃ F', fm_52 N (.ref 132) (.ref A) (fx V I L R ++ tl) = some (.inl (some (.int (if Q.length = 0 then 0 else cdI (cdX (tI Q) Q.length 0 g00))), fx (vup V 132 7 (.int (nI Q.length))) (iup I 139 F') L R ++ tl)) ∧ (Q.length ≠ 0 → cdQ (cdX (tI Q) Q.length 0 g00) F' Q.length) := by
  obtain ⟨k1, k2, k3, k4, q60⟩ := src_ok (L := L) (R := R) hs
  have hd : ∀ o, (if nI Q.length < 1 then (fg_52_25 N (fx (vup V 132 7 (.int (nI Q.length))) I L R ++ tl)) else (fg_52_44 N N (.ref 132) (.ref A) 0 (fx (vup V 132 7 (.int (nI Q.length))) (iup I 139 (upd (filf (I 139) (-1) 61) 0 0)) L R ++ tl))) = o → fm_52 N (.ref 132) (.ref A) (fx V I L R ++ tl) = o := fun o h => by
    apply hm_52
    apply hd_52_0
    refine ev_b k2 (ev_b qp_132_7 (ev_b (rdI (V := vup V 132 7 (.int (nI Q.length))) (a := 132) (j := 7) rfl) ?_))
    by_cases c : Q.length < 1
    · rw [if_pos (show nI Q.length < 1 from nI_lt (b := 1) c (by omega))] at h
      exact ev_t (nI_lt (b := 1) c (by omega)) h
    · rw [if_neg (show ¬ nI Q.length < 1 from nI_nlt (b := 1) (by omega) (by omega))] at h
      refine ev_f (nI_nlt (b := 1) (by omega) (by omega)) (ev_b (rdI (V := vup V 132 7 (.int (nI Q.length))) (a := 132) (j := 7) rfl) (ev_t (nI_le (b := 60) q60 (by omega)) (ev_b (rdR rfl) (ev_cV (h1 := fx (vup V 132 7 (.int (nI Q.length))) (iup I 139 (filf (I 139) (-1) 61)) L R ++ tl) (e_53 (a := 139) (n := 61) (f := I 139) rfl (by omega) (by omega)) (ev_b (rdR rfl) (ev_b ((qs_139 (I := iup I 139 (filf (I 139) (-1) 61)) (k := 0) (by omega)).trans (by rw [iup_eq, iup_iup])) h))))))
  by_cases c : Q.length = 0
  · rw [if_pos c]
    refine ⟨I 139, ?_, fun e => absurd c e⟩
    rw [iup_self]
    exact hd _ (ev_t (nI_lt (b := 1) (by omega) (by omega)) rfl)
  · rw [if_neg c]
    have h0 : htF (upd (filf (I 139) (-1) 61) 0 0) Q.length g00 := fun j hj => by
      by_cases c : j = 0
      · subst c
        rw [upd_eq]
        exact ⟨rfl, fun h e => by have := Option.some.inj e; omega⟩
      · rw [upd_ne c]
        unfold g00 filf
        rw [if_neg c, if_pos (by omega)]
        exact ⟨rfl, fun h e => absurd e (by simp)⟩
    obtain ⟨F', e, r⟩ := k_52l_132 (V := vup V 132 7 (.int (nI Q.length))) (I := I) (L := L) (R := R) (tl := tl) (N := N) rfl (srcP_c (fun j => vup_o (fun e => hA e.1)) rfl hs) hit hc Q.length 0 N _ g00 (by omega) (by omega) h0
    exact ⟨F', hd _ (ev_f (nI_nlt (b := 1) (by omega) (by omega)) e), fun _ => r⟩
set_option maxRecDepth 100000 in
set_option maxHeartbeats 4000000 in
theorem k_57_110 {V : Nat → Nat → Value} {I : Nat → Nat → Int32} {L : Nat → Nat → Int64} {R : Nat → Nat → Option Nat} {tl : am_H} {sz q h : Nat} {F : Nat → Int32} {g : Nat → Option Nat} (h7 : V 110 7 = .int (nI sz)) (hsz : sz ≤ 60) (hq : q ≤ 400) (hh : h ≤ 8) (hf : htF F sz g) : (rch sz q h g = none → fm_57 (.ref 110) (nI q) (nI h) (fx V (iup I 117 F) L R ++ tl) = some (.inl (some (.int 0), fx V (iup I 117 F) L R ++ tl))) ∧ (∀ g', rch sz q h g = some g' → ∃ F', fm_57 (.ref 110) (nI q) (nI h) (fx V (iup I 117 F) L R ++ tl) = some (.inl (some (.int 1), fx V (iup I 117 F') L R ++ tl)) ∧ htF F' sz g') := by
  unfold rch
  have qe : nI q = nI sz ↔ q = sz := nI_eq (by omega) (by omega)
  have q1 : nI h = 1 ↔ h = 1 := nI_eq (b := 1) (by omega) (by omega)
  by_cases c1 : sz < q
  · rw [if_pos c1]
    refine ⟨fun _ => ?_, fun g' e => absurd e (by simp)⟩
    apply hm_57
    apply hd_57_0
    exact ev_f (nI_pos (by omega)) (ev_b (rdI h7) (ev_t (nI_lt c1 (by omega)) rfl))
  rw [if_neg c1]
  have hd : ∀ o, (¬ (q = sz ∧ h ≠ 1) → fg_57_25 (.ref 110) (nI q) (nI h) (fx V (iup I 117 F) L R ++ tl) = o) → (q = sz ∧ h ≠ 1 → fg_57_44 (fx V (iup I 117 F) L R ++ tl) = o) → fm_57 (.ref 110) (nI q) (nI h) (fx V (iup I 117 F) L R ++ tl) = o := fun o g1 g2 => by
    apply hm_57
    apply hd_57_0
    refine ev_f (nI_pos (by omega)) (ev_b (rdI h7) (ev_f (nI_nlt (by omega) (by omega)) (ev_b (rdI h7) ?_)))
    by_cases c : q = sz
    · refine ev_f (fun e => e (qe.mpr c)) ?_
      by_cases d : h = 1
      · exact ev_f (fun e => e (q1.mpr d)) (g1 (fun e => e.2 d))
      · exact ev_t (fun e => d (q1.mp e)) (g2 ⟨c, d⟩)
    · exact ev_t (fun e => c (qe.mp e)) (g1 (fun e => c e.1))
  by_cases c2 : q = sz ∧ h ≠ 1
  · rw [if_pos c2]
    exact ⟨fun _ => hd _ (fun e => absurd c2 e) (fun _ => rfl), fun g' e => absurd e (by simp)⟩
  rw [if_neg c2]
  have rF : ∀ F : Nat → Int32, am_pA 0 (.ref 117) (nI q) (fx V (iup I 117 F) L R ++ tl) = some (F q) := fun F => (qa_117 (I := iup I 117 F) (by omega)).trans (by rw [iup_eq])
  have st : fg_57_46 (.ref 110) (nI q) (nI h) (fx V (iup I 117 F) L R ++ tl) = some (.inl (some (.int 1), fx V (iup I 117 (upd F q (nI h))) L R ++ tl)) := by
    apply hd_57_46
    exact ev_b (rdR rfl) (ev_b ((qs_117 (I := iup I 117 F) (by omega)).trans (by rw [iup_eq, iup_iup])) rfl)
  obtain ⟨f1, f2⟩ := hf q (by omega)
  cases eg : g q with
  | none =>
    rw [eg] at f1
    refine ⟨fun e => absurd e (by simp), fun g' e => ⟨upd F q (nI h), hd _ (fun _ => ?_) (fun e => absurd e c2), ?_⟩⟩
    · apply hd_57_25
      refine ev_b (rdR rfl) (ev_b (rF F) ?_)
      rw [f1]
      exact ev_t (by decide) st
    · rw [← Option.some.inj e]
      exact htF_u hf hh
  | some y =>
    rw [eg] at f1
    have y8 := f2 y eg
    have f1 : F q = nI y := f1
    dsimp only
    by_cases c3 : y = h
    · rw [if_pos c3]
      refine ⟨fun e => absurd e (by simp), fun g' e => ⟨upd F q (nI h), hd _ (fun _ => ?_) (fun e => absurd e c2), ?_⟩⟩
      · apply hd_57_25
        refine ev_b (rdR rfl) (ev_b (rF F) ?_)
        rw [f1]
        refine ev_f (nI_pos (by omega)) (ev_b (rdR rfl) (ev_b (rF F) ?_))
        rw [f1, c3]
        exact ev_t rfl st
      · rw [← Option.some.inj e, htF_id hf (by omega) (by rw [eg, c3])]
        exact hf
    · rw [if_neg c3]
      refine ⟨fun _ => hd _ (fun _ => ?_) (fun e => absurd e c2), fun g' e => absurd e (by simp)⟩
      apply hd_57_25
      refine ev_b (rdR rfl) (ev_b (rF F) ?_)
      rw [f1]
      refine ev_f (nI_pos (by omega)) (ev_b (rdR rfl) (ev_b (rF F) ?_))
      rw [f1]
      exact ev_f (fun e => c3 ((nI_eq (by omega) (by omega)).mp e)) rfl
set_option maxRecDepth 100000 in
set_option maxHeartbeats 4000000 in
theorem k_52l_110 {V : Nat → Nat → Value} {I : Nat → Nat → Int32} {L : Nat → Nat → Int64} {R : Nat → Nat → Option Nat} {tl : am_H} {N A it kd ln : Nat} {Q : xT} (h7 : V 110 7 = .int (nI Q.length)) (hs : srcP V I tl A it kd ln Q) (hit : it ≠ 117) (hc : okI (tI Q)) : ∀ (m k K : Nat) (F : Nat → Int32) (g : Nat → Option Nat), k + m = Q.length → m < K → htF F Q.length g → ∃ F', fg_52_44 N K (.ref 110) (.ref A) (nI k) (fx V (iup I 117 F) L R ++ tl) = some (.inl (some (.int (cdI (cdX (tI Q) m k g))), fx V (iup I 117 F') L R ++ tl)) ∧ cdQ (cdX (tI Q) m k g) F' Q.length := by
  have sF : ∀ F : Nat → Int32, srcP V (iup I 117 F) tl A it kd ln Q := fun F => srcP_c (fun _ => rfl) (iup_na hit) hs
  have q60 := (src_ok (L := L) (R := R) hs).2.2.2.2
  intro m
  induction m with
  | zero =>
    intro k K F g hk hK hf
    obtain ⟨K, rfl⟩ : ∃ k, K = k + 1 := ⟨K - 1, by omega⟩
    refine ⟨F, ?_, hf⟩
    apply hd_52_44
    exact ev_b (rdI h7) (ev_t (nI_le (by omega) (by omega)) rfl)
  | succ m ih =>
    intro k K F g hk hK hf
    obtain ⟨K, rfl⟩ : ∃ k, K = k + 1 := ⟨K - 1, by omega⟩
    have hkl : k < Q.length := by omega
    obtain ⟨a1, a2, a3⟩ := hc k (by rw [tI_len]; exact hkl)
    obtain ⟨d1, d2⟩ := srt_tI hkl
    obtain ⟨s, hs'⟩ : ∃ s, s = sN (srt (tI Q) k) := ⟨_, rfl⟩
    rw [← hs'] at a1 a2 a3
    have ds : nI (xS Q k) = nI s := d1.symm.trans a1
    have rs : ∀ F : Nat → Int32, fm_54 (.ref A) (nI k) 0 (fx V (iup I 117 F) L R ++ tl) = some (.inl (some (.int (nI s)), fx V (iup I 117 F) L R ++ tl)) := fun F => by rw [(src_get (L := L) (R := R) (sF F) hkl).1, ds]
    have rv : ∀ F : Nat → Int32, fm_54 (.ref A) (nI k) 1 (fx V (iup I 117 F) L R ++ tl) = some (.inl (some (.int (vlu (tI Q) k)), fx V (iup I 117 F) L R ++ tl)) := fun F => by rw [(src_get (L := L) (R := R) (sF F) hkl).2, d2]
    have ok3 : ∀ F : Nat → Int32, am_pOk 3 (.ref A) (fx V (iup I 117 F) L R ++ tl) = true := fun F => (src_ok (sF F)).1
    have rF : ∀ F : Nat → Int32, am_pA 0 (.ref 117) (nI k) (fx V (iup I 117 F) L R ++ tl) = some (F k) := fun F => (qa_117 (I := iup I 117 F) (by omega)).trans (by rw [iup_eq])
    have e55 : ∀ h, fm_55 (nI s) h = some (.inl (some (.int (pv_55 (nI s))), h)) := fun h => pe_55 _ _
    have e56 : ∀ h, fm_56 (nI s) h = some (.inl (some (.int (nI (tkN s))), h)) := fun h => by rw [pe_56, t56 s (by omega)]
    have t2 := tk_2 s
    have p2 := pt_2 s
    obtain ⟨f1, f2⟩ := hf k (by omega)
    have q17 : nI s = 17 ↔ s = 17 := nI_eq (b := 17) (by omega) (by omega)
    have hd0 : ∀ o, (if F k < nI (tkN s) then (fg_52_135 N (nI k) (fx V (iup I 117 F) L R ++ tl)) else (if 8 < (F k + pv_55 (nI s)) then (fg_52_135 N (nI k) (fx V (iup I 117 F) L R ++ tl)) else (if nI s = 17 then (fg_52_110 N (fg_52_44 N K) (.ref 110) (.ref A) (nI k) (nI s) (F k + pv_55 (nI s)) (fx V (iup I 117 F) L R ++ tl)) else (if am_pOk 7 (.ref 110) (fx V (iup I 117 F) L R ++ tl) then am_cI true (fm_57 (.ref 110) (nI (k + 1)) (F k + pv_55 (nI s)) (fx V (iup I 117 F) L R ++ tl)) (fun v26 h27 => (if v26 = 0 then (fg_52_135 N (nI k) h27) else (fg_52_110 N (fg_52_44 N K) (.ref 110) (.ref A) (nI k) (nI s) (F k + pv_55 (nI s)) h27))) else none)))) = o → fg_52_44 N (K + 1) (.ref 110) (.ref A) (nI k) (fx V (iup I 117 F) L R ++ tl) = o := fun o h => by
      apply hd_52_44
      rw [nI_1]
      exact ev_b (rdI h7) (ev_f (nI_ge (by omega) (by omega)) (ev_i (ok3 F) (ev_cI (rs F) (ev_b (rdR rfl) (ev_b (rF F) (ev_cI (e55 _) (ev_b (rdR rfl) (ev_b (rF F) (ev_cI (e56 _) h)))))))))
    rw [cdX]
    cases eg : g k with
    | none =>
      rw [eg] at f1
      refine ⟨F, hd0 _ ?_, hkl⟩
      rw [f1]
      exact ev_t (m1_lt _ (by omega)) rfl
    | some h =>
      rw [eg] at f1
      have f1 : F k = nI h := f1
      have h8 := f2 h eg
      dsimp only
      rw [← hs']
      by_cases c1 : h < tkN s
      · rw [if_pos c1]
        refine ⟨F, hd0 _ ?_, hkl⟩
        rw [f1]
        exact ev_t (nI_lt c1 (by omega)) rfl
      rw [if_neg c1]
      obtain ⟨x, hx⟩ : ∃ x, x = h - tkN s + ptN s := ⟨_, rfl⟩
      have ex : nI h + pv_55 (nI s) = nI x := by rw [t55 s (by omega) h (by omega) (by omega), hx]
      rw [← hx]
      have hd1 : ∀ o, (if 8 < nI x then (fg_52_135 N (nI k) (fx V (iup I 117 F) L R ++ tl)) else (if nI s = 17 then (fg_52_110 N (fg_52_44 N K) (.ref 110) (.ref A) (nI k) (nI s) (nI x) (fx V (iup I 117 F) L R ++ tl)) else (if am_pOk 7 (.ref 110) (fx V (iup I 117 F) L R ++ tl) then am_cI true (fm_57 (.ref 110) (nI (k + 1)) (nI x) (fx V (iup I 117 F) L R ++ tl)) (fun v26 h27 => (if v26 = 0 then (fg_52_135 N (nI k) h27) else (fg_52_110 N (fg_52_44 N K) (.ref 110) (.ref A) (nI k) (nI s) (nI x) h27))) else none))) = o → fg_52_44 N (K + 1) (.ref 110) (.ref A) (nI k) (fx V (iup I 117 F) L R ++ tl) = o := fun o h => by
        refine hd0 o ?_
        rw [f1, ex]
        exact ev_f (nI_nlt (by omega) (by omega)) h
      by_cases c2 : 8 < x
      · rw [if_pos c2]
        exact ⟨F, hd1 _ (ev_t (nI_lt (a := 8) c2 (by omega)) rfl), hkl⟩
      rw [if_neg c2]
      have sec : ∀ (F1 : Nat → Int32) (g1 : Nat → Option Nat), htF F1 Q.length g1 → ∃ F', fg_52_110 N (fg_52_44 N K) (.ref 110) (.ref A) (nI k) (nI s) (nI x) (fx V (iup I 117 F1) L R ++ tl) = some (.inl (some (.int (cdI (match (if s < 17 then some g1 else rch (tI Q).length (k + 1 + sN (vlu (tI Q) k)) x g1) with | none => .inl k | some g2 => cdX (tI Q) m (k + 1) g2))), fx V (iup I 117 F') L R ++ tl)) ∧ cdQ (match (if s < 17 then some g1 else rch (tI Q).length (k + 1 + sN (vlu (tI Q) k)) x g1) with | none => .inl k | some g2 => cdX (tI Q) m (k + 1) g2) F' Q.length := by
        intro F1 g1 hf1
        by_cases c3 : s < 17
        · rw [if_pos c3]
          obtain ⟨F', e, r⟩ := ih (k + 1) K F1 g1 (by omega) (by omega) hf1
          refine ⟨F', ?_, r⟩
          apply hd_52_110
          refine ev_t (nI_lt (b := 17) c3 (by omega)) ?_
          apply hd_52_137
          rw [nI_1]
          exact e
        · rw [if_neg c3]
          obtain ⟨b1, b2⟩ := a3 (by omega)
          have er := k_57_110 (L := L) (R := R) (tl := tl) (I := I) (q := k + 1 + sN (vlu (tI Q) k)) (h := x) h7 q60 (by omega) (by omega) hf1
          rw [tI_len]
          have hd2 : ∀ (v : Int32) (F2 : Nat → Int32) (o : Option am_O), fm_57 (.ref 110) (nI (k + 1 + sN (vlu (tI Q) k))) (nI x) (fx V (iup I 117 F1) L R ++ tl) = some (.inl (some (.int v), fx V (iup I 117 F2) L R ++ tl)) → (if ¬ v = 0 then (fg_52_137 N (fg_52_44 N K) (.ref 110) (.ref A) (nI k) (fx V (iup I 117 F2) L R ++ tl)) else (fg_52_135 N (nI k) (fx V (iup I 117 F2) L R ++ tl))) = o → fg_52_110 N (fg_52_44 N K) (.ref 110) (.ref A) (nI k) (nI s) (nI x) (fx V (iup I 117 F1) L R ++ tl) = o := fun v F2 o e h => by
            apply hd_52_110
            refine ev_f (nI_nlt (b := 17) (by omega) (by omega)) (ev_i (ok3 F1) (ev_cI (rv F1) ?_))
            rw [b1, nI_1, nI_add]
            exact ev_i rfl (ev_cI e h)
          cases ec : rch Q.length (k + 1 + sN (vlu (tI Q) k)) x g1 with
          | none => exact ⟨F1, hd2 0 F1 _ (er.1 ec) (ev_f (fun e => e rfl) rfl), hkl⟩
          | some g2 =>
            obtain ⟨F2, y1, y2⟩ := er.2 g2 ec
            obtain ⟨F', e, r⟩ := ih (k + 1) K F2 g2 (by omega) (by omega) y2
            refine ⟨F', hd2 1 F2 _ y1 (ev_t (by decide) ?_), r⟩
            apply hd_52_137
            rw [nI_1]
            exact e
      by_cases c4 : s = 17
      · rw [if_pos c4]
        obtain ⟨F', e, r⟩ := sec F g hf
        exact ⟨F', hd1 _ (ev_f (nI_nlt (a := 8) (by omega) (by omega)) (ev_t (q17.mpr c4) e)), r⟩
      · rw [if_neg c4]
        have er := k_57_110 (L := L) (R := R) (tl := tl) (I := I) (q := k + 1) (h := x) h7 q60 (by omega) (by omega) hf
        rw [tI_len]
        rw [tI_len] at sec
        cases ec : rch Q.length (k + 1) x g with
        | none => exact ⟨F, hd1 _ (ev_f (nI_nlt (a := 8) (by omega) (by omega)) (ev_f (fun e => c4 (q17.mp e)) (ev_i rfl (ev_cI (er.1 ec) (ev_t rfl rfl))))), hkl⟩
        | some g1 =>
          obtain ⟨F1, y1, y2⟩ := er.2 g1 ec
          obtain ⟨F', e, r⟩ := sec F1 g1 y2
          exact ⟨F', hd1 _ (ev_f (nI_nlt (a := 8) (by omega) (by omega)) (ev_f (fun e => c4 (q17.mp e)) (ev_i rfl (ev_cI y1 (ev_f (by decide) e))))), r⟩
set_option maxRecDepth 100000 in
set_option maxHeartbeats 4000000 in
theorem k_52_110 {V : Nat → Nat → Value} {I : Nat → Nat → Int32} {L : Nat → Nat → Int64} {R : Nat → Nat → Option Nat} {tl : am_H} {N A it kd ln : Nat} {Q : xT} (hN : 400 < N) (hs : srcP V I tl A it kd ln Q) (hA : A ≠ 110) (hit : it ≠ 117) (hc : okI (tI Q)) : ∃ F', fm_52 N (.ref 110) (.ref A) (fx V I L R ++ tl) = some (.inl (some (.int (if Q.length = 0 then 0 else cdI (cdX (tI Q) Q.length 0 g00))), fx (vup V 110 7 (.int (nI Q.length))) (iup I 117 F') L R ++ tl)) ∧ (Q.length ≠ 0 → cdQ (cdX (tI Q) Q.length 0 g00) F' Q.length) := by
  obtain ⟨k1, k2, k3, k4, q60⟩ := src_ok (L := L) (R := R) hs
  have hd : ∀ o, (if nI Q.length < 1 then (fg_52_25 N (fx (vup V 110 7 (.int (nI Q.length))) I L R ++ tl)) else (fg_52_44 N N (.ref 110) (.ref A) 0 (fx (vup V 110 7 (.int (nI Q.length))) (iup I 117 (upd (filf (I 117) (-1) 61) 0 0)) L R ++ tl))) = o → fm_52 N (.ref 110) (.ref A) (fx V I L R ++ tl) = o := fun o h => by
    apply hm_52
    apply hd_52_0
    refine ev_b k2 (ev_b qp_110_7 (ev_b (rdI (V := vup V 110 7 (.int (nI Q.length))) (a := 110) (j := 7) rfl) ?_))
    by_cases c : Q.length < 1
    · rw [if_pos (show nI Q.length < 1 from nI_lt (b := 1) c (by omega))] at h
      exact ev_t (nI_lt (b := 1) c (by omega)) h
    · rw [if_neg (show ¬ nI Q.length < 1 from nI_nlt (b := 1) (by omega) (by omega))] at h
      refine ev_f (nI_nlt (b := 1) (by omega) (by omega)) (ev_b (rdI (V := vup V 110 7 (.int (nI Q.length))) (a := 110) (j := 7) rfl) (ev_t (nI_le (b := 60) q60 (by omega)) (ev_b (rdR rfl) (ev_cV (h1 := fx (vup V 110 7 (.int (nI Q.length))) (iup I 117 (filf (I 117) (-1) 61)) L R ++ tl) (e_53 (a := 117) (n := 61) (f := I 117) rfl (by omega) (by omega)) (ev_b (rdR rfl) (ev_b ((qs_117 (I := iup I 117 (filf (I 117) (-1) 61)) (k := 0) (by omega)).trans (by rw [iup_eq, iup_iup])) h))))))
  by_cases c : Q.length = 0
  · rw [if_pos c]
    refine ⟨I 117, ?_, fun e => absurd c e⟩
    rw [iup_self]
    exact hd _ (ev_t (nI_lt (b := 1) (by omega) (by omega)) rfl)
  · rw [if_neg c]
    have h0 : htF (upd (filf (I 117) (-1) 61) 0 0) Q.length g00 := fun j hj => by
      by_cases c : j = 0
      · subst c
        rw [upd_eq]
        exact ⟨rfl, fun h e => by have := Option.some.inj e; omega⟩
      · rw [upd_ne c]
        unfold g00 filf
        rw [if_neg c, if_pos (by omega)]
        exact ⟨rfl, fun h e => absurd e (by simp)⟩
    obtain ⟨F', e, r⟩ := k_52l_110 (V := vup V 110 7 (.int (nI Q.length))) (I := I) (L := L) (R := R) (tl := tl) (N := N) rfl (srcP_c (fun j => vup_o (fun e => hA e.1)) rfl hs) hit hc Q.length 0 N _ g00 (by omega) (by omega) h0
    exact ⟨F', hd _ (ev_f (nI_nlt (b := 1) (by omega) (by omega)) e), fun _ => r⟩
set_option maxRecDepth 100000 in
set_option maxHeartbeats 4000000 in
theorem k_57_94 {V : Nat → Nat → Value} {I : Nat → Nat → Int32} {L : Nat → Nat → Int64} {R : Nat → Nat → Option Nat} {tl : am_H} {sz q h : Nat} {F : Nat → Int32} {g : Nat → Option Nat} (h7 : V 94 7 = .int (nI sz)) (hsz : sz ≤ 60) (hq : q ≤ 400) (hh : h ≤ 8) (hf : htF F sz g) : (rch sz q h g = none → fm_57 (.ref 94) (nI q) (nI h) (fx V (iup I 101 F) L R ++ tl) = some (.inl (some (.int 0), fx V (iup I 101 F) L R ++ tl))) ∧ (∀ g', rch sz q h g = some g' → ∃ F', fm_57 (.ref 94) (nI q) (nI h) (fx V (iup I 101 F) L R ++ tl) = some (.inl (some (.int 1), fx V (iup I 101 F') L R ++ tl)) ∧ htF F' sz g') := by
  unfold rch
  have qe : nI q = nI sz ↔ q = sz := nI_eq (by omega) (by omega)
  have q1 : nI h = 1 ↔ h = 1 := nI_eq (b := 1) (by omega) (by omega)
  by_cases c1 : sz < q
  · rw [if_pos c1]
    refine ⟨fun _ => ?_, fun g' e => absurd e (by simp)⟩
    apply hm_57
    apply hd_57_0
    exact ev_f (nI_pos (by omega)) (ev_b (rdI h7) (ev_t (nI_lt c1 (by omega)) rfl))
  rw [if_neg c1]
  have hd : ∀ o, (¬ (q = sz ∧ h ≠ 1) → fg_57_25 (.ref 94) (nI q) (nI h) (fx V (iup I 101 F) L R ++ tl) = o) → (q = sz ∧ h ≠ 1 → fg_57_44 (fx V (iup I 101 F) L R ++ tl) = o) → fm_57 (.ref 94) (nI q) (nI h) (fx V (iup I 101 F) L R ++ tl) = o := fun o g1 g2 => by
    apply hm_57
    apply hd_57_0
    refine ev_f (nI_pos (by omega)) (ev_b (rdI h7) (ev_f (nI_nlt (by omega) (by omega)) (ev_b (rdI h7) ?_)))
    by_cases c : q = sz
    · refine ev_f (fun e => e (qe.mpr c)) ?_
      by_cases d : h = 1
      · exact ev_f (fun e => e (q1.mpr d)) (g1 (fun e => e.2 d))
      · exact ev_t (fun e => d (q1.mp e)) (g2 ⟨c, d⟩)
    · exact ev_t (fun e => c (qe.mp e)) (g1 (fun e => c e.1))
  by_cases c2 : q = sz ∧ h ≠ 1
  · rw [if_pos c2]
    exact ⟨fun _ => hd _ (fun e => absurd c2 e) (fun _ => rfl), fun g' e => absurd e (by simp)⟩
  rw [if_neg c2]
  have rF : ∀ F : Nat → Int32, am_pA 0 (.ref 101) (nI q) (fx V (iup I 101 F) L R ++ tl) = some (F q) := fun F => (qa_101 (I := iup I 101 F) (by omega)).trans (by rw [iup_eq])
  have st : fg_57_46 (.ref 94) (nI q) (nI h) (fx V (iup I 101 F) L R ++ tl) = some (.inl (some (.int 1), fx V (iup I 101 (upd F q (nI h))) L R ++ tl)) := by
    apply hd_57_46
    exact ev_b (rdR rfl) (ev_b ((qs_101 (I := iup I 101 F) (by omega)).trans (by rw [iup_eq, iup_iup])) rfl)
  obtain ⟨f1, f2⟩ := hf q (by omega)
  cases eg : g q with
  | none =>
    rw [eg] at f1
    refine ⟨fun e => absurd e (by simp), fun g' e => ⟨upd F q (nI h), hd _ (fun _ => ?_) (fun e => absurd e c2), ?_⟩⟩
    · apply hd_57_25
      refine ev_b (rdR rfl) (ev_b (rF F) ?_)
      rw [f1]
      exact ev_t (by decide) st
    · rw [← Option.some.inj e]
      exact htF_u hf hh
  | some y =>
    rw [eg] at f1
    have y8 := f2 y eg
    have f1 : F q = nI y := f1
    dsimp only
    by_cases c3 : y = h
    · rw [if_pos c3]
      refine ⟨fun e => absurd e (by simp), fun g' e => ⟨upd F q (nI h), hd _ (fun _ => ?_) (fun e => absurd e c2), ?_⟩⟩
      · apply hd_57_25
        refine ev_b (rdR rfl) (ev_b (rF F) ?_)
        rw [f1]
        refine ev_f (nI_pos (by omega)) (ev_b (rdR rfl) (ev_b (rF F) ?_))
        rw [f1, c3]
        exact ev_t rfl st
      · rw [← Option.some.inj e, htF_id hf (by omega) (by rw [eg, c3])]
        exact hf
    · rw [if_neg c3]
      refine ⟨fun _ => hd _ (fun _ => ?_) (fun e => absurd e c2), fun g' e => absurd e (by simp)⟩
      apply hd_57_25
      refine ev_b (rdR rfl) (ev_b (rF F) ?_)
      rw [f1]
      refine ev_f (nI_pos (by omega)) (ev_b (rdR rfl) (ev_b (rF F) ?_))
      rw [f1]
      exact ev_f (fun e => c3 ((nI_eq (by omega) (by omega)).mp e)) rfl
set_option maxRecDepth 100000 in
set_option maxHeartbeats 4000000 in
theorem k_52l_94 {V : Nat → Nat → Value} {I : Nat → Nat → Int32} {L : Nat → Nat → Int64} {R : Nat → Nat → Option Nat} {tl : am_H} {N A it kd ln : Nat} {Q : xT} (h7 : V 94 7 = .int (nI Q.length)) (hs : srcP V I tl A it kd ln Q) (hit : it ≠ 101) (hc : okI (tI Q)) : ∀ (m k K : Nat) (F : Nat → Int32) (g : Nat → Option Nat), k + m = Q.length → m < K → htF F Q.length g → ∃ F', fg_52_44 N K (.ref 94) (.ref A) (nI k) (fx V (iup I 101 F) L R ++ tl) = some (.inl (some (.int (cdI (cdX (tI Q) m k g))), fx V (iup I 101 F') L R ++ tl)) ∧ cdQ (cdX (tI Q) m k g) F' Q.length := by
  have sF : ∀ F : Nat → Int32, srcP V (iup I 101 F) tl A it kd ln Q := fun F => srcP_c (fun _ => rfl) (iup_na hit) hs
  have q60 := (src_ok (L := L) (R := R) hs).2.2.2.2
  intro m
  induction m with
  | zero =>
    intro k K F g hk hK hf
    obtain ⟨K, rfl⟩ : ∃ k, K = k + 1 := ⟨K - 1, by omega⟩
    refine ⟨F, ?_, hf⟩
    apply hd_52_44
    exact ev_b (rdI h7) (ev_t (nI_le (by omega) (by omega)) rfl)
  | succ m ih =>
    intro k K F g hk hK hf
    obtain ⟨K, rfl⟩ : ∃ k, K = k + 1 := ⟨K - 1, by omega⟩
    have hkl : k < Q.length := by omega
    obtain ⟨a1, a2, a3⟩ := hc k (by rw [tI_len]; exact hkl)
    obtain ⟨d1, d2⟩ := srt_tI hkl
    obtain ⟨s, hs'⟩ : ∃ s, s = sN (srt (tI Q) k) := ⟨_, rfl⟩
    rw [← hs'] at a1 a2 a3
    have ds : nI (xS Q k) = nI s := d1.symm.trans a1
    have rs : ∀ F : Nat → Int32, fm_54 (.ref A) (nI k) 0 (fx V (iup I 101 F) L R ++ tl) = some (.inl (some (.int (nI s)), fx V (iup I 101 F) L R ++ tl)) := fun F => by rw [(src_get (L := L) (R := R) (sF F) hkl).1, ds]
    have rv : ∀ F : Nat → Int32, fm_54 (.ref A) (nI k) 1 (fx V (iup I 101 F) L R ++ tl) = some (.inl (some (.int (vlu (tI Q) k)), fx V (iup I 101 F) L R ++ tl)) := fun F => by rw [(src_get (L := L) (R := R) (sF F) hkl).2, d2]
    have ok3 : ∀ F : Nat → Int32, am_pOk 3 (.ref A) (fx V (iup I 101 F) L R ++ tl) = true := fun F => (src_ok (sF F)).1
    have rF : ∀ F : Nat → Int32, am_pA 0 (.ref 101) (nI k) (fx V (iup I 101 F) L R ++ tl) = some (F k) := fun F => (qa_101 (I := iup I 101 F) (by omega)).trans (by rw [iup_eq])
    have e55 : ∀ h, fm_55 (nI s) h = some (.inl (some (.int (pv_55 (nI s))), h)) := fun h => pe_55 _ _
    have e56 : ∀ h, fm_56 (nI s) h = some (.inl (some (.int (nI (tkN s))), h)) := fun h => by rw [pe_56, t56 s (by omega)]
    have t2 := tk_2 s
    have p2 := pt_2 s
    obtain ⟨f1, f2⟩ := hf k (by omega)
    have q17 : nI s = 17 ↔ s = 17 := nI_eq (b := 17) (by omega) (by omega)
    have hd0 : ∀ o, (if F k < nI (tkN s) then (fg_52_135 N (nI k) (fx V (iup I 101 F) L R ++ tl)) else (if 8 < (F k + pv_55 (nI s)) then (fg_52_135 N (nI k) (fx V (iup I 101 F) L R ++ tl)) else (if nI s = 17 then (fg_52_110 N (fg_52_44 N K) (.ref 94) (.ref A) (nI k) (nI s) (F k + pv_55 (nI s)) (fx V (iup I 101 F) L R ++ tl)) else (if am_pOk 7 (.ref 94) (fx V (iup I 101 F) L R ++ tl) then am_cI true (fm_57 (.ref 94) (nI (k + 1)) (F k + pv_55 (nI s)) (fx V (iup I 101 F) L R ++ tl)) (fun v26 h27 => (if v26 = 0 then (fg_52_135 N (nI k) h27) else (fg_52_110 N (fg_52_44 N K) (.ref 94) (.ref A) (nI k) (nI s) (F k + pv_55 (nI s)) h27))) else none)))) = o → fg_52_44 N (K + 1) (.ref 94) (.ref A) (nI k) (fx V (iup I 101 F) L R ++ tl) = o := fun o h => by
      apply hd_52_44
      rw [nI_1]
      exact ev_b (rdI h7) (ev_f (nI_ge (by omega) (by omega)) (ev_i (ok3 F) (ev_cI (rs F) (ev_b (rdR rfl) (ev_b (rF F) (ev_cI (e55 _) (ev_b (rdR rfl) (ev_b (rF F) (ev_cI (e56 _) h)))))))))
    rw [cdX]
    cases eg : g k with
    | none =>
      rw [eg] at f1
      refine ⟨F, hd0 _ ?_, hkl⟩
      rw [f1]
      exact ev_t (m1_lt _ (by omega)) rfl
    | some h =>
      rw [eg] at f1
      have f1 : F k = nI h := f1
      have h8 := f2 h eg
      dsimp only
      rw [← hs']
      by_cases c1 : h < tkN s
      · rw [if_pos c1]
        refine ⟨F, hd0 _ ?_, hkl⟩
        rw [f1]
        exact ev_t (nI_lt c1 (by omega)) rfl
      rw [if_neg c1]
      obtain ⟨x, hx⟩ : ∃ x, x = h - tkN s + ptN s := ⟨_, rfl⟩
      have ex : nI h + pv_55 (nI s) = nI x := by rw [t55 s (by omega) h (by omega) (by omega), hx]
      rw [← hx]
      have hd1 : ∀ o, (if 8 < nI x then (fg_52_135 N (nI k) (fx V (iup I 101 F) L R ++ tl)) else (if nI s = 17 then (fg_52_110 N (fg_52_44 N K) (.ref 94) (.ref A) (nI k) (nI s) (nI x) (fx V (iup I 101 F) L R ++ tl)) else (if am_pOk 7 (.ref 94) (fx V (iup I 101 F) L R ++ tl) then am_cI true (fm_57 (.ref 94) (nI (k + 1)) (nI x) (fx V (iup I 101 F) L R ++ tl)) (fun v26 h27 => (if v26 = 0 then (fg_52_135 N (nI k) h27) else (fg_52_110 N (fg_52_44 N K) (.ref 94) (.ref A) (nI k) (nI s) (nI x) h27))) else none))) = o → fg_52_44 N (K + 1) (.ref 94) (.ref A) (nI k) (fx V (iup I 101 F) L R ++ tl) = o := fun o h => by
        refine hd0 o ?_
        rw [f1, ex]
        exact ev_f (nI_nlt (by omega) (by omega)) h
      by_cases c2 : 8 < x
      · rw [if_pos c2]
        exact ⟨F, hd1 _ (ev_t (nI_lt (a := 8) c2 (by omega)) rfl), hkl⟩
      rw [if_neg c2]
      have sec : ∀ (F1 : Nat → Int32) (g1 : Nat → Option Nat), htF F1 Q.length g1 → ∃ F', fg_52_110 N (fg_52_44 N K) (.ref 94) (.ref A) (nI k) (nI s) (nI x) (fx V (iup I 101 F1) L R ++ tl) = some (.inl (some (.int (cdI (match (if s < 17 then some g1 else rch (tI Q).length (k + 1 + sN (vlu (tI Q) k)) x g1) with | none => .inl k | some g2 => cdX (tI Q) m (k + 1) g2))), fx V (iup I 101 F') L R ++ tl)) ∧ cdQ (match (if s < 17 then some g1 else rch (tI Q).length (k + 1 + sN (vlu (tI Q) k)) x g1) with | none => .inl k | some g2 => cdX (tI Q) m (k + 1) g2) F' Q.length := by
        intro F1 g1 hf1
        by_cases c3 : s < 17
        · rw [if_pos c3]
          obtain ⟨F', e, r⟩ := ih (k + 1) K F1 g1 (by omega) (by omega) hf1
          refine ⟨F', ?_, r⟩
          apply hd_52_110
          refine ev_t (nI_lt (b := 17) c3 (by omega)) ?_
          apply hd_52_137
          rw [nI_1]
          exact e
        · rw [if_neg c3]
          obtain ⟨b1, b2⟩ := a3 (by omega)
          have er := k_57_94 (L := L) (R := R) (tl := tl) (I := I) (q := k + 1 + sN (vlu (tI Q) k)) (h := x) h7 q60 (by omega) (by omega) hf1
          rw [tI_len]
          have hd2 : ∀ (v : Int32) (F2 : Nat → Int32) (o : Option am_O), fm_57 (.ref 94) (nI (k + 1 + sN (vlu (tI Q) k))) (nI x) (fx V (iup I 101 F1) L R ++ tl) = some (.inl (some (.int v), fx V (iup I 101 F2) L R ++ tl)) → (if ¬ v = 0 then (fg_52_137 N (fg_52_44 N K) (.ref 94) (.ref A) (nI k) (fx V (iup I 101 F2) L R ++ tl)) else (fg_52_135 N (nI k) (fx V (iup I 101 F2) L R ++ tl))) = o → fg_52_110 N (fg_52_44 N K) (.ref 94) (.ref A) (nI k) (nI s) (nI x) (fx V (iup I 101 F1) L R ++ tl) = o := fun v F2 o e h => by
            apply hd_52_110
            refine ev_f (nI_nlt (b := 17) (by omega) (by omega)) (ev_i (ok3 F1) (ev_cI (rv F1) ?_))
            rw [b1, nI_1, nI_add]
            exact ev_i rfl (ev_cI e h)
          cases ec : rch Q.length (k + 1 + sN (vlu (tI Q) k)) x g1 with
          | none => exact ⟨F1, hd2 0 F1 _ (er.1 ec) (ev_f (fun e => e rfl) rfl), hkl⟩
          | some g2 =>
            obtain ⟨F2, y1, y2⟩ := er.2 g2 ec
            obtain ⟨F', e, r⟩ := ih (k + 1) K F2 g2 (by omega) (by omega) y2
            refine ⟨F', hd2 1 F2 _ y1 (ev_t (by decide) ?_), r⟩
            apply hd_52_137
            rw [nI_1]
            exact e
      by_cases c4 : s = 17
      · rw [if_pos c4]
        obtain ⟨F', e, r⟩ := sec F g hf
        exact ⟨F', hd1 _ (ev_f (nI_nlt (a := 8) (by omega) (by omega)) (ev_t (q17.mpr c4) e)), r⟩
      · rw [if_neg c4]
        have er := k_57_94 (L := L) (R := R) (tl := tl) (I := I) (q := k + 1) (h := x) h7 q60 (by omega) (by omega) hf
        rw [tI_len]
        rw [tI_len] at sec
        cases ec : rch Q.length (k + 1) x g with
        | none => exact ⟨F, hd1 _ (ev_f (nI_nlt (a := 8) (by omega) (by omega)) (ev_f (fun e => c4 (q17.mp e)) (ev_i rfl (ev_cI (er.1 ec) (ev_t rfl rfl))))), hkl⟩
        | some g1 =>
          obtain ⟨F1, y1, y2⟩ := er.2 g1 ec
          obtain ⟨F', e, r⟩ := sec F1 g1 y2
          exact ⟨F', hd1 _ (ev_f (nI_nlt (a := 8) (by omega) (by omega)) (ev_f (fun e => c4 (q17.mp e)) (ev_i rfl (ev_cI y1 (ev_f (by decide) e))))), r⟩
set_option maxRecDepth 100000 in
set_option maxHeartbeats 4000000 in
theorem k_52_94 {V : Nat → Nat → Value} {I : Nat → Nat → Int32} {L : Nat → Nat → Int64} {R : Nat → Nat → Option Nat} {tl : am_H} {N A it kd ln : Nat} {Q : xT} (hN : 400 < N) (hs : srcP V I tl A it kd ln Q) (hA : A ≠ 94) (hit : it ≠ 101) (hc : okI (tI Q)) : ∃ F', fm_52 N (.ref 94) (.ref A) (fx V I L R ++ tl) = some (.inl (some (.int (if Q.length = 0 then 0 else cdI (cdX (tI Q) Q.length 0 g00))), fx (vup V 94 7 (.int (nI Q.length))) (iup I 101 F') L R ++ tl)) ∧ (Q.length ≠ 0 → cdQ (cdX (tI Q) Q.length 0 g00) F' Q.length) := by
  obtain ⟨k1, k2, k3, k4, q60⟩ := src_ok (L := L) (R := R) hs
  have hd : ∀ o, (if nI Q.length < 1 then (fg_52_25 N (fx (vup V 94 7 (.int (nI Q.length))) I L R ++ tl)) else (fg_52_44 N N (.ref 94) (.ref A) 0 (fx (vup V 94 7 (.int (nI Q.length))) (iup I 101 (upd (filf (I 101) (-1) 61) 0 0)) L R ++ tl))) = o → fm_52 N (.ref 94) (.ref A) (fx V I L R ++ tl) = o := fun o h => by
    apply hm_52
    apply hd_52_0
    refine ev_b k2 (ev_b qp_94_7 (ev_b (rdI (V := vup V 94 7 (.int (nI Q.length))) (a := 94) (j := 7) rfl) ?_))
    by_cases c : Q.length < 1
    · rw [if_pos (show nI Q.length < 1 from nI_lt (b := 1) c (by omega))] at h
      exact ev_t (nI_lt (b := 1) c (by omega)) h
    · rw [if_neg (show ¬ nI Q.length < 1 from nI_nlt (b := 1) (by omega) (by omega))] at h
      refine ev_f (nI_nlt (b := 1) (by omega) (by omega)) (ev_b (rdI (V := vup V 94 7 (.int (nI Q.length))) (a := 94) (j := 7) rfl) (ev_t (nI_le (b := 60) q60 (by omega)) (ev_b (rdR rfl) (ev_cV (h1 := fx (vup V 94 7 (.int (nI Q.length))) (iup I 101 (filf (I 101) (-1) 61)) L R ++ tl) (e_53 (a := 101) (n := 61) (f := I 101) rfl (by omega) (by omega)) (ev_b (rdR rfl) (ev_b ((qs_101 (I := iup I 101 (filf (I 101) (-1) 61)) (k := 0) (by omega)).trans (by rw [iup_eq, iup_iup])) h))))))
  by_cases c : Q.length = 0
  · rw [if_pos c]
    refine ⟨I 101, ?_, fun e => absurd c e⟩
    rw [iup_self]
    exact hd _ (ev_t (nI_lt (b := 1) (by omega) (by omega)) rfl)
  · rw [if_neg c]
    have h0 : htF (upd (filf (I 101) (-1) 61) 0 0) Q.length g00 := fun j hj => by
      by_cases c : j = 0
      · subst c
        rw [upd_eq]
        exact ⟨rfl, fun h e => by have := Option.some.inj e; omega⟩
      · rw [upd_ne c]
        unfold g00 filf
        rw [if_neg c, if_pos (by omega)]
        exact ⟨rfl, fun h e => absurd e (by simp)⟩
    obtain ⟨F', e, r⟩ := k_52l_94 (V := vup V 94 7 (.int (nI Q.length))) (I := I) (L := L) (R := R) (tl := tl) (N := N) rfl (srcP_c (fun j => vup_o (fun e => hA e.1)) rfl hs) hit hc Q.length 0 N _ g00 (by omega) (by omega) h0
    exact ⟨F', hd _ (ev_f (nI_nlt (b := 1) (by omega) (by omega)) e), fun _ => r⟩
set_option maxRecDepth 100000 in
set_option maxHeartbeats 4000000 in
theorem k_57_102 {V : Nat → Nat → Value} {I : Nat → Nat → Int32} {L : Nat → Nat → Int64} {R : Nat → Nat → Option Nat} {tl : am_H} {sz q h : Nat} {F : Nat → Int32} {g : Nat → Option Nat} (h7 : V 102 7 = .int (nI sz)) (hsz : sz ≤ 60) (hq : q ≤ 400) (hh : h ≤ 8) (hf : htF F sz g) : (rch sz q h g = none → fm_57 (.ref 102) (nI q) (nI h) (fx V (iup I 109 F) L R ++ tl) = some (.inl (some (.int 0), fx V (iup I 109 F) L R ++ tl))) ∧ (∀ g', rch sz q h g = some g' → ∃ F', fm_57 (.ref 102) (nI q) (nI h) (fx V (iup I 109 F) L R ++ tl) = some (.inl (some (.int 1), fx V (iup I 109 F') L R ++ tl)) ∧ htF F' sz g') := by
  unfold rch
  have qe : nI q = nI sz ↔ q = sz := nI_eq (by omega) (by omega)
  have q1 : nI h = 1 ↔ h = 1 := nI_eq (b := 1) (by omega) (by omega)
  by_cases c1 : sz < q
  · rw [if_pos c1]
    refine ⟨fun _ => ?_, fun g' e => absurd e (by simp)⟩
    apply hm_57
    apply hd_57_0
    exact ev_f (nI_pos (by omega)) (ev_b (rdI h7) (ev_t (nI_lt c1 (by omega)) rfl))
  rw [if_neg c1]
  have hd : ∀ o, (¬ (q = sz ∧ h ≠ 1) → fg_57_25 (.ref 102) (nI q) (nI h) (fx V (iup I 109 F) L R ++ tl) = o) → (q = sz ∧ h ≠ 1 → fg_57_44 (fx V (iup I 109 F) L R ++ tl) = o) → fm_57 (.ref 102) (nI q) (nI h) (fx V (iup I 109 F) L R ++ tl) = o := fun o g1 g2 => by
    apply hm_57
    apply hd_57_0
    refine ev_f (nI_pos (by omega)) (ev_b (rdI h7) (ev_f (nI_nlt (by omega) (by omega)) (ev_b (rdI h7) ?_)))
    by_cases c : q = sz
    · refine ev_f (fun e => e (qe.mpr c)) ?_
      by_cases d : h = 1
      · exact ev_f (fun e => e (q1.mpr d)) (g1 (fun e => e.2 d))
      · exact ev_t (fun e => d (q1.mp e)) (g2 ⟨c, d⟩)
    · exact ev_t (fun e => c (qe.mp e)) (g1 (fun e => c e.1))
  by_cases c2 : q = sz ∧ h ≠ 1
  · rw [if_pos c2]
    exact ⟨fun _ => hd _ (fun e => absurd c2 e) (fun _ => rfl), fun g' e => absurd e (by simp)⟩
  rw [if_neg c2]
  have rF : ∀ F : Nat → Int32, am_pA 0 (.ref 109) (nI q) (fx V (iup I 109 F) L R ++ tl) = some (F q) := fun F => (qa_109 (I := iup I 109 F) (by omega)).trans (by rw [iup_eq])
  have st : fg_57_46 (.ref 102) (nI q) (nI h) (fx V (iup I 109 F) L R ++ tl) = some (.inl (some (.int 1), fx V (iup I 109 (upd F q (nI h))) L R ++ tl)) := by
    apply hd_57_46
    exact ev_b (rdR rfl) (ev_b ((qs_109 (I := iup I 109 F) (by omega)).trans (by rw [iup_eq, iup_iup])) rfl)
  obtain ⟨f1, f2⟩ := hf q (by omega)
  cases eg : g q with
  | none =>
    rw [eg] at f1
    refine ⟨fun e => absurd e (by simp), fun g' e => ⟨upd F q (nI h), hd _ (fun _ => ?_) (fun e => absurd e c2), ?_⟩⟩
    · apply hd_57_25
      refine ev_b (rdR rfl) (ev_b (rF F) ?_)
      rw [f1]
      exact ev_t (by decide) st
    · rw [← Option.some.inj e]
      exact htF_u hf hh
  | some y =>
    rw [eg] at f1
    have y8 := f2 y eg
    have f1 : F q = nI y := f1
    dsimp only
    by_cases c3 : y = h
    · rw [if_pos c3]
      refine ⟨fun e => absurd e (by simp), fun g' e => ⟨upd F q (nI h), hd _ (fun _ => ?_) (fun e => absurd e c2), ?_⟩⟩
      · apply hd_57_25
        refine ev_b (rdR rfl) (ev_b (rF F) ?_)
        rw [f1]
        refine ev_f (nI_pos (by omega)) (ev_b (rdR rfl) (ev_b (rF F) ?_))
        rw [f1, c3]
        exact ev_t rfl st
      · rw [← Option.some.inj e, htF_id hf (by omega) (by rw [eg, c3])]
        exact hf
    · rw [if_neg c3]
      refine ⟨fun _ => hd _ (fun _ => ?_) (fun e => absurd e c2), fun g' e => absurd e (by simp)⟩
      apply hd_57_25
      refine ev_b (rdR rfl) (ev_b (rF F) ?_)
      rw [f1]
      refine ev_f (nI_pos (by omega)) (ev_b (rdR rfl) (ev_b (rF F) ?_))
      rw [f1]
      exact ev_f (fun e => c3 ((nI_eq (by omega) (by omega)).mp e)) rfl
set_option maxRecDepth 100000 in
set_option maxHeartbeats 4000000 in
theorem k_52l_102 {V : Nat → Nat → Value} {I : Nat → Nat → Int32} {L : Nat → Nat → Int64} {R : Nat → Nat → Option Nat} {tl : am_H} {N A it kd ln : Nat} {Q : xT} (h7 : V 102 7 = .int (nI Q.length)) (hs : srcP V I tl A it kd ln Q) (hit : it ≠ 109) (hc : okI (tI Q)) : ∀ (m k K : Nat) (F : Nat → Int32) (g : Nat → Option Nat), k + m = Q.length → m < K → htF F Q.length g → ∃ F', fg_52_44 N K (.ref 102) (.ref A) (nI k) (fx V (iup I 109 F) L R ++ tl) = some (.inl (some (.int (cdI (cdX (tI Q) m k g))), fx V (iup I 109 F') L R ++ tl)) ∧ cdQ (cdX (tI Q) m k g) F' Q.length := by
  have sF : ∀ F : Nat → Int32, srcP V (iup I 109 F) tl A it kd ln Q := fun F => srcP_c (fun _ => rfl) (iup_na hit) hs
  have q60 := (src_ok (L := L) (R := R) hs).2.2.2.2
  intro m
  induction m with
  | zero =>
    intro k K F g hk hK hf
    obtain ⟨K, rfl⟩ : ∃ k, K = k + 1 := ⟨K - 1, by omega⟩
    refine ⟨F, ?_, hf⟩
    apply hd_52_44
    exact ev_b (rdI h7) (ev_t (nI_le (by omega) (by omega)) rfl)
  | succ m ih =>
    intro k K F g hk hK hf
    obtain ⟨K, rfl⟩ : ∃ k, K = k + 1 := ⟨K - 1, by omega⟩
    have hkl : k < Q.length := by omega
    obtain ⟨a1, a2, a3⟩ := hc k (by rw [tI_len]; exact hkl)
    obtain ⟨d1, d2⟩ := srt_tI hkl
    obtain ⟨s, hs'⟩ : ∃ s, s = sN (srt (tI Q) k) := ⟨_, rfl⟩
    rw [← hs'] at a1 a2 a3
    have ds : nI (xS Q k) = nI s := d1.symm.trans a1
    have rs : ∀ F : Nat → Int32, fm_54 (.ref A) (nI k) 0 (fx V (iup I 109 F) L R ++ tl) = some (.inl (some (.int (nI s)), fx V (iup I 109 F) L R ++ tl)) := fun F => by rw [(src_get (L := L) (R := R) (sF F) hkl).1, ds]
    have rv : ∀ F : Nat → Int32, fm_54 (.ref A) (nI k) 1 (fx V (iup I 109 F) L R ++ tl) = some (.inl (some (.int (vlu (tI Q) k)), fx V (iup I 109 F) L R ++ tl)) := fun F => by rw [(src_get (L := L) (R := R) (sF F) hkl).2, d2]
    have ok3 : ∀ F : Nat → Int32, am_pOk 3 (.ref A) (fx V (iup I 109 F) L R ++ tl) = true := fun F => (src_ok (sF F)).1
    have rF : ∀ F : Nat → Int32, am_pA 0 (.ref 109) (nI k) (fx V (iup I 109 F) L R ++ tl) = some (F k) := fun F => (qa_109 (I := iup I 109 F) (by omega)).trans (by rw [iup_eq])
    have e55 : ∀ h, fm_55 (nI s) h = some (.inl (some (.int (pv_55 (nI s))), h)) := fun h => pe_55 _ _
    have e56 : ∀ h, fm_56 (nI s) h = some (.inl (some (.int (nI (tkN s))), h)) := fun h => by rw [pe_56, t56 s (by omega)]
    have t2 := tk_2 s
    have p2 := pt_2 s
    obtain ⟨f1, f2⟩ := hf k (by omega)
    have q17 : nI s = 17 ↔ s = 17 := nI_eq (b := 17) (by omega) (by omega)
    have hd0 : ∀ o, (if F k < nI (tkN s) then (fg_52_135 N (nI k) (fx V (iup I 109 F) L R ++ tl)) else (if 8 < (F k + pv_55 (nI s)) then (fg_52_135 N (nI k) (fx V (iup I 109 F) L R ++ tl)) else (if nI s = 17 then (fg_52_110 N (fg_52_44 N K) (.ref 102) (.ref A) (nI k) (nI s) (F k + pv_55 (nI s)) (fx V (iup I 109 F) L R ++ tl)) else (if am_pOk 7 (.ref 102) (fx V (iup I 109 F) L R ++ tl) then am_cI true (fm_57 (.ref 102) (nI (k + 1)) (F k + pv_55 (nI s)) (fx V (iup I 109 F) L R ++ tl)) (fun v26 h27 => (if v26 = 0 then (fg_52_135 N (nI k) h27) else (fg_52_110 N (fg_52_44 N K) (.ref 102) (.ref A) (nI k) (nI s) (F k + pv_55 (nI s)) h27))) else none)))) = o → fg_52_44 N (K + 1) (.ref 102) (.ref A) (nI k) (fx V (iup I 109 F) L R ++ tl) = o := fun o h => by
      apply hd_52_44
      rw [nI_1]
      exact ev_b (rdI h7) (ev_f (nI_ge (by omega) (by omega)) (ev_i (ok3 F) (ev_cI (rs F) (ev_b (rdR rfl) (ev_b (rF F) (ev_cI (e55 _) (ev_b (rdR rfl) (ev_b (rF F) (ev_cI (e56 _) h)))))))))
    rw [cdX]
    cases eg : g k with
    | none =>
      rw [eg] at f1
      refine ⟨F, hd0 _ ?_, hkl⟩
      rw [f1]
      exact ev_t (m1_lt _ (by omega)) rfl
    | some h =>
      rw [eg] at f1
      have f1 : F k = nI h := f1
      have h8 := f2 h eg
      dsimp only
      rw [← hs']
      by_cases c1 : h < tkN s
      · rw [if_pos c1]
        refine ⟨F, hd0 _ ?_, hkl⟩
        rw [f1]
        exact ev_t (nI_lt c1 (by omega)) rfl
      rw [if_neg c1]
      obtain ⟨x, hx⟩ : ∃ x, x = h - tkN s + ptN s := ⟨_, rfl⟩
      have ex : nI h + pv_55 (nI s) = nI x := by rw [t55 s (by omega) h (by omega) (by omega), hx]
      rw [← hx]
      have hd1 : ∀ o, (if 8 < nI x then (fg_52_135 N (nI k) (fx V (iup I 109 F) L R ++ tl)) else (if nI s = 17 then (fg_52_110 N (fg_52_44 N K) (.ref 102) (.ref A) (nI k) (nI s) (nI x) (fx V (iup I 109 F) L R ++ tl)) else (if am_pOk 7 (.ref 102) (fx V (iup I 109 F) L R ++ tl) then am_cI true (fm_57 (.ref 102) (nI (k + 1)) (nI x) (fx V (iup I 109 F) L R ++ tl)) (fun v26 h27 => (if v26 = 0 then (fg_52_135 N (nI k) h27) else (fg_52_110 N (fg_52_44 N K) (.ref 102) (.ref A) (nI k) (nI s) (nI x) h27))) else none))) = o → fg_52_44 N (K + 1) (.ref 102) (.ref A) (nI k) (fx V (iup I 109 F) L R ++ tl) = o := fun o h => by
        refine hd0 o ?_
        rw [f1, ex]
        exact ev_f (nI_nlt (by omega) (by omega)) h
      by_cases c2 : 8 < x
      · rw [if_pos c2]
        exact ⟨F, hd1 _ (ev_t (nI_lt (a := 8) c2 (by omega)) rfl), hkl⟩
      rw [if_neg c2]
      have sec : ∀ (F1 : Nat → Int32) (g1 : Nat → Option Nat), htF F1 Q.length g1 → ∃ F', fg_52_110 N (fg_52_44 N K) (.ref 102) (.ref A) (nI k) (nI s) (nI x) (fx V (iup I 109 F1) L R ++ tl) = some (.inl (some (.int (cdI (match (if s < 17 then some g1 else rch (tI Q).length (k + 1 + sN (vlu (tI Q) k)) x g1) with | none => .inl k | some g2 => cdX (tI Q) m (k + 1) g2))), fx V (iup I 109 F') L R ++ tl)) ∧ cdQ (match (if s < 17 then some g1 else rch (tI Q).length (k + 1 + sN (vlu (tI Q) k)) x g1) with | none => .inl k | some g2 => cdX (tI Q) m (k + 1) g2) F' Q.length := by
        intro F1 g1 hf1
        by_cases c3 : s < 17
        · rw [if_pos c3]
          obtain ⟨F', e, r⟩ := ih (k + 1) K F1 g1 (by omega) (by omega) hf1
          refine ⟨F', ?_, r⟩
          apply hd_52_110
          refine ev_t (nI_lt (b := 17) c3 (by omega)) ?_
          apply hd_52_137
          rw [nI_1]
          exact e
        · rw [if_neg c3]
          obtain ⟨b1, b2⟩ := a3 (by omega)
          have er := k_57_102 (L := L) (R := R) (tl := tl) (I := I) (q := k + 1 + sN (vlu (tI Q) k)) (h := x) h7 q60 (by omega) (by omega) hf1
          rw [tI_len]
          have hd2 : ∀ (v : Int32) (F2 : Nat → Int32) (o : Option am_O), fm_57 (.ref 102) (nI (k + 1 + sN (vlu (tI Q) k))) (nI x) (fx V (iup I 109 F1) L R ++ tl) = some (.inl (some (.int v), fx V (iup I 109 F2) L R ++ tl)) → (if ¬ v = 0 then (fg_52_137 N (fg_52_44 N K) (.ref 102) (.ref A) (nI k) (fx V (iup I 109 F2) L R ++ tl)) else (fg_52_135 N (nI k) (fx V (iup I 109 F2) L R ++ tl))) = o → fg_52_110 N (fg_52_44 N K) (.ref 102) (.ref A) (nI k) (nI s) (nI x) (fx V (iup I 109 F1) L R ++ tl) = o := fun v F2 o e h => by
            apply hd_52_110
            refine ev_f (nI_nlt (b := 17) (by omega) (by omega)) (ev_i (ok3 F1) (ev_cI (rv F1) ?_))
            rw [b1, nI_1, nI_add]
            exact ev_i rfl (ev_cI e h)
          cases ec : rch Q.length (k + 1 + sN (vlu (tI Q) k)) x g1 with
          | none => exact ⟨F1, hd2 0 F1 _ (er.1 ec) (ev_f (fun e => e rfl) rfl), hkl⟩
          | some g2 =>
            obtain ⟨F2, y1, y2⟩ := er.2 g2 ec
            obtain ⟨F', e, r⟩ := ih (k + 1) K F2 g2 (by omega) (by omega) y2
            refine ⟨F', hd2 1 F2 _ y1 (ev_t (by decide) ?_), r⟩
            apply hd_52_137
            rw [nI_1]
            exact e
      by_cases c4 : s = 17
      · rw [if_pos c4]
        obtain ⟨F', e, r⟩ := sec F g hf
        exact ⟨F', hd1 _ (ev_f (nI_nlt (a := 8) (by omega) (by omega)) (ev_t (q17.mpr c4) e)), r⟩
      · rw [if_neg c4]
        have er := k_57_102 (L := L) (R := R) (tl := tl) (I := I) (q := k + 1) (h := x) h7 q60 (by omega) (by omega) hf
        rw [tI_len]
        rw [tI_len] at sec
        cases ec : rch Q.length (k + 1) x g with
        | none => exact ⟨F, hd1 _ (ev_f (nI_nlt (a := 8) (by omega) (by omega)) (ev_f (fun e => c4 (q17.mp e)) (ev_i rfl (ev_cI (er.1 ec) (ev_t rfl rfl))))), hkl⟩
        | some g1 =>
          obtain ⟨F1, y1, y2⟩ := er.2 g1 ec
          obtain ⟨F', e, r⟩ := sec F1 g1 y2
          exact ⟨F', hd1 _ (ev_f (nI_nlt (a := 8) (by omega) (by omega)) (ev_f (fun e => c4 (q17.mp e)) (ev_i rfl (ev_cI y1 (ev_f (by decide) e))))), r⟩
set_option maxRecDepth 100000 in
set_option maxHeartbeats 4000000 in
theorem k_52_102 {V : Nat → Nat → Value} {I : Nat → Nat → Int32} {L : Nat → Nat → Int64} {R : Nat → Nat → Option Nat} {tl : am_H} {N A it kd ln : Nat} {Q : xT} (hN : 400 < N) (hs : srcP V I tl A it kd ln Q) (hA : A ≠ 102) (hit : it ≠ 109) (hc : okI (tI Q)) : ∃ F', fm_52 N (.ref 102) (.ref A) (fx V I L R ++ tl) = some (.inl (some (.int (if Q.length = 0 then 0 else cdI (cdX (tI Q) Q.length 0 g00))), fx (vup V 102 7 (.int (nI Q.length))) (iup I 109 F') L R ++ tl)) ∧ (Q.length ≠ 0 → cdQ (cdX (tI Q) Q.length 0 g00) F' Q.length) := by
  obtain ⟨k1, k2, k3, k4, q60⟩ := src_ok (L := L) (R := R) hs
  have hd : ∀ o, (if nI Q.length < 1 then (fg_52_25 N (fx (vup V 102 7 (.int (nI Q.length))) I L R ++ tl)) else (fg_52_44 N N (.ref 102) (.ref A) 0 (fx (vup V 102 7 (.int (nI Q.length))) (iup I 109 (upd (filf (I 109) (-1) 61) 0 0)) L R ++ tl))) = o → fm_52 N (.ref 102) (.ref A) (fx V I L R ++ tl) = o := fun o h => by
    apply hm_52
    apply hd_52_0
    refine ev_b k2 (ev_b qp_102_7 (ev_b (rdI (V := vup V 102 7 (.int (nI Q.length))) (a := 102) (j := 7) rfl) ?_))
    by_cases c : Q.length < 1
    · rw [if_pos (show nI Q.length < 1 from nI_lt (b := 1) c (by omega))] at h
      exact ev_t (nI_lt (b := 1) c (by omega)) h
    · rw [if_neg (show ¬ nI Q.length < 1 from nI_nlt (b := 1) (by omega) (by omega))] at h
      refine ev_f (nI_nlt (b := 1) (by omega) (by omega)) (ev_b (rdI (V := vup V 102 7 (.int (nI Q.length))) (a := 102) (j := 7) rfl) (ev_t (nI_le (b := 60) q60 (by omega)) (ev_b (rdR rfl) (ev_cV (h1 := fx (vup V 102 7 (.int (nI Q.length))) (iup I 109 (filf (I 109) (-1) 61)) L R ++ tl) (e_53 (a := 109) (n := 61) (f := I 109) rfl (by omega) (by omega)) (ev_b (rdR rfl) (ev_b ((qs_109 (I := iup I 109 (filf (I 109) (-1) 61)) (k := 0) (by omega)).trans (by rw [iup_eq, iup_iup])) h))))))
  by_cases c : Q.length = 0
  · rw [if_pos c]
    refine ⟨I 109, ?_, fun e => absurd c e⟩
    rw [iup_self]
    exact hd _ (ev_t (nI_lt (b := 1) (by omega) (by omega)) rfl)
  · rw [if_neg c]
    have h0 : htF (upd (filf (I 109) (-1) 61) 0 0) Q.length g00 := fun j hj => by
      by_cases c : j = 0
      · subst c
        rw [upd_eq]
        exact ⟨rfl, fun h e => by have := Option.some.inj e; omega⟩
      · rw [upd_ne c]
        unfold g00 filf
        rw [if_neg c, if_pos (by omega)]
        exact ⟨rfl, fun h e => absurd e (by simp)⟩
    obtain ⟨F', e, r⟩ := k_52l_102 (V := vup V 102 7 (.int (nI Q.length))) (I := I) (L := L) (R := R) (tl := tl) (N := N) rfl (srcP_c (fun j => vup_o (fun e => hA e.1)) rfl hs) hit hc Q.length 0 N _ g00 (by omega) (by omega) h0
    exact ⟨F', hd _ (ev_f (nI_nlt (b := 1) (by omega) (by omega)) e), fun _ => r⟩
set_option maxRecDepth 100000 in
set_option maxHeartbeats 4000000 in
theorem k_57_5 {V : Nat → Nat → Value} {I : Nat → Nat → Int32} {L : Nat → Nat → Int64} {R : Nat → Nat → Option Nat} {tl : am_H} {sz q h : Nat} {F : Nat → Int32} {g : Nat → Option Nat} (h7 : V 5 7 = .int (nI sz)) (hsz : sz ≤ 60) (hq : q ≤ 400) (hh : h ≤ 8) (hf : htF F sz g) : (rch sz q h g = none → fm_57 (.ref 5) (nI q) (nI h) (fx V (iup I 12 F) L R ++ tl) = some (.inl (some (.int 0), fx V (iup I 12 F) L R ++ tl))) ∧ (∀ g', rch sz q h g = some g' → ∃ F', fm_57 (.ref 5) (nI q) (nI h) (fx V (iup I 12 F) L R ++ tl) = some (.inl (some (.int 1), fx V (iup I 12 F') L R ++ tl)) ∧ htF F' sz g') := by
  unfold rch
  have qe : nI q = nI sz ↔ q = sz := nI_eq (by omega) (by omega)
  have q1 : nI h = 1 ↔ h = 1 := nI_eq (b := 1) (by omega) (by omega)
  by_cases c1 : sz < q
  · rw [if_pos c1]
    refine ⟨fun _ => ?_, fun g' e => absurd e (by simp)⟩
    apply hm_57
    apply hd_57_0
    exact ev_f (nI_pos (by omega)) (ev_b (rdI h7) (ev_t (nI_lt c1 (by omega)) rfl))
  rw [if_neg c1]
  have hd : ∀ o, (¬ (q = sz ∧ h ≠ 1) → fg_57_25 (.ref 5) (nI q) (nI h) (fx V (iup I 12 F) L R ++ tl) = o) → (q = sz ∧ h ≠ 1 → fg_57_44 (fx V (iup I 12 F) L R ++ tl) = o) → fm_57 (.ref 5) (nI q) (nI h) (fx V (iup I 12 F) L R ++ tl) = o := fun o g1 g2 => by
    apply hm_57
    apply hd_57_0
    refine ev_f (nI_pos (by omega)) (ev_b (rdI h7) (ev_f (nI_nlt (by omega) (by omega)) (ev_b (rdI h7) ?_)))
    by_cases c : q = sz
    · refine ev_f (fun e => e (qe.mpr c)) ?_
      by_cases d : h = 1
      · exact ev_f (fun e => e (q1.mpr d)) (g1 (fun e => e.2 d))
      · exact ev_t (fun e => d (q1.mp e)) (g2 ⟨c, d⟩)
    · exact ev_t (fun e => c (qe.mp e)) (g1 (fun e => c e.1))
  by_cases c2 : q = sz ∧ h ≠ 1
  · rw [if_pos c2]
    exact ⟨fun _ => hd _ (fun e => absurd c2 e) (fun _ => rfl), fun g' e => absurd e (by simp)⟩
  rw [if_neg c2]
  have rF : ∀ F : Nat → Int32, am_pA 0 (.ref 12) (nI q) (fx V (iup I 12 F) L R ++ tl) = some (F q) := fun F => (qa_12 (I := iup I 12 F) (by omega)).trans (by rw [iup_eq])
  have st : fg_57_46 (.ref 5) (nI q) (nI h) (fx V (iup I 12 F) L R ++ tl) = some (.inl (some (.int 1), fx V (iup I 12 (upd F q (nI h))) L R ++ tl)) := by
    apply hd_57_46
    exact ev_b (rdR rfl) (ev_b ((qs_12 (I := iup I 12 F) (by omega)).trans (by rw [iup_eq, iup_iup])) rfl)
  obtain ⟨f1, f2⟩ := hf q (by omega)
  cases eg : g q with
  | none =>
    rw [eg] at f1
    refine ⟨fun e => absurd e (by simp), fun g' e => ⟨upd F q (nI h), hd _ (fun _ => ?_) (fun e => absurd e c2), ?_⟩⟩
    · apply hd_57_25
      refine ev_b (rdR rfl) (ev_b (rF F) ?_)
      rw [f1]
      exact ev_t (by decide) st
    · rw [← Option.some.inj e]
      exact htF_u hf hh
  | some y =>
    rw [eg] at f1
    have y8 := f2 y eg
    have f1 : F q = nI y := f1
    dsimp only
    by_cases c3 : y = h
    · rw [if_pos c3]
      refine ⟨fun e => absurd e (by simp), fun g' e => ⟨upd F q (nI h), hd _ (fun _ => ?_) (fun e => absurd e c2), ?_⟩⟩
      · apply hd_57_25
        refine ev_b (rdR rfl) (ev_b (rF F) ?_)
        rw [f1]
        refine ev_f (nI_pos (by omega)) (ev_b (rdR rfl) (ev_b (rF F) ?_))
        rw [f1, c3]
        exact ev_t rfl st
      · rw [← Option.some.inj e, htF_id hf (by omega) (by rw [eg, c3])]
        exact hf
    · rw [if_neg c3]
      refine ⟨fun _ => hd _ (fun _ => ?_) (fun e => absurd e c2), fun g' e => absurd e (by simp)⟩
      apply hd_57_25
      refine ev_b (rdR rfl) (ev_b (rF F) ?_)
      rw [f1]
      refine ev_f (nI_pos (by omega)) (ev_b (rdR rfl) (ev_b (rF F) ?_))
      rw [f1]
      exact ev_f (fun e => c3 ((nI_eq (by omega) (by omega)).mp e)) rfl
set_option maxRecDepth 100000 in
set_option maxHeartbeats 4000000 in
theorem k_52l_5 {V : Nat → Nat → Value} {I : Nat → Nat → Int32} {L : Nat → Nat → Int64} {R : Nat → Nat → Option Nat} {tl : am_H} {N A it kd ln : Nat} {Q : xT} (h7 : V 5 7 = .int (nI Q.length)) (hs : srcP V I tl A it kd ln Q) (hit : it ≠ 12) (hc : okI (tI Q)) : ∀ (m k K : Nat) (F : Nat → Int32) (g : Nat → Option Nat), k + m = Q.length → m < K → htF F Q.length g → ∃ F', fg_52_44 N K (.ref 5) (.ref A) (nI k) (fx V (iup I 12 F) L R ++ tl) = some (.inl (some (.int (cdI (cdX (tI Q) m k g))), fx V (iup I 12 F') L R ++ tl)) ∧ cdQ (cdX (tI Q) m k g) F' Q.length := by
  have sF : ∀ F : Nat → Int32, srcP V (iup I 12 F) tl A it kd ln Q := fun F => srcP_c (fun _ => rfl) (iup_na hit) hs
  have q60 := (src_ok (L := L) (R := R) hs).2.2.2.2
  intro m
  induction m with
  | zero =>
    intro k K F g hk hK hf
    obtain ⟨K, rfl⟩ : ∃ k, K = k + 1 := ⟨K - 1, by omega⟩
    refine ⟨F, ?_, hf⟩
    apply hd_52_44
    exact ev_b (rdI h7) (ev_t (nI_le (by omega) (by omega)) rfl)
  | succ m ih =>
    intro k K F g hk hK hf
    obtain ⟨K, rfl⟩ : ∃ k, K = k + 1 := ⟨K - 1, by omega⟩
    have hkl : k < Q.length := by omega
    obtain ⟨a1, a2, a3⟩ := hc k (by rw [tI_len]; exact hkl)
    obtain ⟨d1, d2⟩ := srt_tI hkl
    obtain ⟨s, hs'⟩ : ∃ s, s = sN (srt (tI Q) k) := ⟨_, rfl⟩
    rw [← hs'] at a1 a2 a3
    have ds : nI (xS Q k) = nI s := d1.symm.trans a1
    have rs : ∀ F : Nat → Int32, fm_54 (.ref A) (nI k) 0 (fx V (iup I 12 F) L R ++ tl) = some (.inl (some (.int (nI s)), fx V (iup I 12 F) L R ++ tl)) := fun F => by rw [(src_get (L := L) (R := R) (sF F) hkl).1, ds]
    have rv : ∀ F : Nat → Int32, fm_54 (.ref A) (nI k) 1 (fx V (iup I 12 F) L R ++ tl) = some (.inl (some (.int (vlu (tI Q) k)), fx V (iup I 12 F) L R ++ tl)) := fun F => by rw [(src_get (L := L) (R := R) (sF F) hkl).2, d2]
    have ok3 : ∀ F : Nat → Int32, am_pOk 3 (.ref A) (fx V (iup I 12 F) L R ++ tl) = true := fun F => (src_ok (sF F)).1
    have rF : ∀ F : Nat → Int32, am_pA 0 (.ref 12) (nI k) (fx V (iup I 12 F) L R ++ tl) = some (F k) := fun F => (qa_12 (I := iup I 12 F) (by omega)).trans (by rw [iup_eq])
    have e55 : ∀ h, fm_55 (nI s) h = some (.inl (some (.int (pv_55 (nI s))), h)) := fun h => pe_55 _ _
    have e56 : ∀ h, fm_56 (nI s) h = some (.inl (some (.int (nI (tkN s))), h)) := fun h => by rw [pe_56, t56 s (by omega)]
    have t2 := tk_2 s
    have p2 := pt_2 s
    obtain ⟨f1, f2⟩ := hf k (by omega)
    have q17 : nI s = 17 ↔ s = 17 := nI_eq (b := 17) (by omega) (by omega)
    have hd0 : ∀ o, (if F k < nI (tkN s) then (fg_52_135 N (nI k) (fx V (iup I 12 F) L R ++ tl)) else (if 8 < (F k + pv_55 (nI s)) then (fg_52_135 N (nI k) (fx V (iup I 12 F) L R ++ tl)) else (if nI s = 17 then (fg_52_110 N (fg_52_44 N K) (.ref 5) (.ref A) (nI k) (nI s) (F k + pv_55 (nI s)) (fx V (iup I 12 F) L R ++ tl)) else (if am_pOk 7 (.ref 5) (fx V (iup I 12 F) L R ++ tl) then am_cI true (fm_57 (.ref 5) (nI (k + 1)) (F k + pv_55 (nI s)) (fx V (iup I 12 F) L R ++ tl)) (fun v26 h27 => (if v26 = 0 then (fg_52_135 N (nI k) h27) else (fg_52_110 N (fg_52_44 N K) (.ref 5) (.ref A) (nI k) (nI s) (F k + pv_55 (nI s)) h27))) else none)))) = o → fg_52_44 N (K + 1) (.ref 5) (.ref A) (nI k) (fx V (iup I 12 F) L R ++ tl) = o := fun o h => by
      apply hd_52_44
      rw [nI_1]
      exact ev_b (rdI h7) (ev_f (nI_ge (by omega) (by omega)) (ev_i (ok3 F) (ev_cI (rs F) (ev_b (rdR rfl) (ev_b (rF F) (ev_cI (e55 _) (ev_b (rdR rfl) (ev_b (rF F) (ev_cI (e56 _) h)))))))))
    rw [cdX]
    cases eg : g k with
    | none =>
      rw [eg] at f1
      refine ⟨F, hd0 _ ?_, hkl⟩
      rw [f1]
      exact ev_t (m1_lt _ (by omega)) rfl
    | some h =>
      rw [eg] at f1
      have f1 : F k = nI h := f1
      have h8 := f2 h eg
      dsimp only
      rw [← hs']
      by_cases c1 : h < tkN s
      · rw [if_pos c1]
        refine ⟨F, hd0 _ ?_, hkl⟩
        rw [f1]
        exact ev_t (nI_lt c1 (by omega)) rfl
      rw [if_neg c1]
      obtain ⟨x, hx⟩ : ∃ x, x = h - tkN s + ptN s := ⟨_, rfl⟩
      have ex : nI h + pv_55 (nI s) = nI x := by rw [t55 s (by omega) h (by omega) (by omega), hx]
      rw [← hx]
      have hd1 : ∀ o, (if 8 < nI x then (fg_52_135 N (nI k) (fx V (iup I 12 F) L R ++ tl)) else (if nI s = 17 then (fg_52_110 N (fg_52_44 N K) (.ref 5) (.ref A) (nI k) (nI s) (nI x) (fx V (iup I 12 F) L R ++ tl)) else (if am_pOk 7 (.ref 5) (fx V (iup I 12 F) L R ++ tl) then am_cI true (fm_57 (.ref 5) (nI (k + 1)) (nI x) (fx V (iup I 12 F) L R ++ tl)) (fun v26 h27 => (if v26 = 0 then (fg_52_135 N (nI k) h27) else (fg_52_110 N (fg_52_44 N K) (.ref 5) (.ref A) (nI k) (nI s) (nI x) h27))) else none))) = o → fg_52_44 N (K + 1) (.ref 5) (.ref A) (nI k) (fx V (iup I 12 F) L R ++ tl) = o := fun o h => by
        refine hd0 o ?_
        rw [f1, ex]
        exact ev_f (nI_nlt (by omega) (by omega)) h
      by_cases c2 : 8 < x
      · rw [if_pos c2]
        exact ⟨F, hd1 _ (ev_t (nI_lt (a := 8) c2 (by omega)) rfl), hkl⟩
      rw [if_neg c2]
      have sec : ∀ (F1 : Nat → Int32) (g1 : Nat → Option Nat), htF F1 Q.length g1 → ∃ F', fg_52_110 N (fg_52_44 N K) (.ref 5) (.ref A) (nI k) (nI s) (nI x) (fx V (iup I 12 F1) L R ++ tl) = some (.inl (some (.int (cdI (match (if s < 17 then some g1 else rch (tI Q).length (k + 1 + sN (vlu (tI Q) k)) x g1) with | none => .inl k | some g2 => cdX (tI Q) m (k + 1) g2))), fx V (iup I 12 F') L R ++ tl)) ∧ cdQ (match (if s < 17 then some g1 else rch (tI Q).length (k + 1 + sN (vlu (tI Q) k)) x g1) with | none => .inl k | some g2 => cdX (tI Q) m (k + 1) g2) F' Q.length := by
        intro F1 g1 hf1
        by_cases c3 : s < 17
        · rw [if_pos c3]
          obtain ⟨F', e, r⟩ := ih (k + 1) K F1 g1 (by omega) (by omega) hf1
          refine ⟨F', ?_, r⟩
          apply hd_52_110
          refine ev_t (nI_lt (b := 17) c3 (by omega)) ?_
          apply hd_52_137
          rw [nI_1]
          exact e
        · rw [if_neg c3]
          obtain ⟨b1, b2⟩ := a3 (by omega)
          have er := k_57_5 (L := L) (R := R) (tl := tl) (I := I) (q := k + 1 + sN (vlu (tI Q) k)) (h := x) h7 q60 (by omega) (by omega) hf1
          rw [tI_len]
          have hd2 : ∀ (v : Int32) (F2 : Nat → Int32) (o : Option am_O), fm_57 (.ref 5) (nI (k + 1 + sN (vlu (tI Q) k))) (nI x) (fx V (iup I 12 F1) L R ++ tl) = some (.inl (some (.int v), fx V (iup I 12 F2) L R ++ tl)) → (if ¬ v = 0 then (fg_52_137 N (fg_52_44 N K) (.ref 5) (.ref A) (nI k) (fx V (iup I 12 F2) L R ++ tl)) else (fg_52_135 N (nI k) (fx V (iup I 12 F2) L R ++ tl))) = o → fg_52_110 N (fg_52_44 N K) (.ref 5) (.ref A) (nI k) (nI s) (nI x) (fx V (iup I 12 F1) L R ++ tl) = o := fun v F2 o e h => by
            apply hd_52_110
            refine ev_f (nI_nlt (b := 17) (by omega) (by omega)) (ev_i (ok3 F1) (ev_cI (rv F1) ?_))
            rw [b1, nI_1, nI_add]
            exact ev_i rfl (ev_cI e h)
          cases ec : rch Q.length (k + 1 + sN (vlu (tI Q) k)) x g1 with
          | none => exact ⟨F1, hd2 0 F1 _ (er.1 ec) (ev_f (fun e => e rfl) rfl), hkl⟩
          | some g2 =>
            obtain ⟨F2, y1, y2⟩ := er.2 g2 ec
            obtain ⟨F', e, r⟩ := ih (k + 1) K F2 g2 (by omega) (by omega) y2
            refine ⟨F', hd2 1 F2 _ y1 (ev_t (by decide) ?_), r⟩
            apply hd_52_137
            rw [nI_1]
            exact e
      by_cases c4 : s = 17
      · rw [if_pos c4]
        obtain ⟨F', e, r⟩ := sec F g hf
        exact ⟨F', hd1 _ (ev_f (nI_nlt (a := 8) (by omega) (by omega)) (ev_t (q17.mpr c4) e)), r⟩
      · rw [if_neg c4]
        have er := k_57_5 (L := L) (R := R) (tl := tl) (I := I) (q := k + 1) (h := x) h7 q60 (by omega) (by omega) hf
        rw [tI_len]
        rw [tI_len] at sec
        cases ec : rch Q.length (k + 1) x g with
        | none => exact ⟨F, hd1 _ (ev_f (nI_nlt (a := 8) (by omega) (by omega)) (ev_f (fun e => c4 (q17.mp e)) (ev_i rfl (ev_cI (er.1 ec) (ev_t rfl rfl))))), hkl⟩
        | some g1 =>
          obtain ⟨F1, y1, y2⟩ := er.2 g1 ec
          obtain ⟨F', e, r⟩ := sec F1 g1 y2
          exact ⟨F', hd1 _ (ev_f (nI_nlt (a := 8) (by omega) (by omega)) (ev_f (fun e => c4 (q17.mp e)) (ev_i rfl (ev_cI y1 (ev_f (by decide) e))))), r⟩
set_option maxRecDepth 100000 in
set_option maxHeartbeats 4000000 in
theorem k_52_5 {V : Nat → Nat → Value} {I : Nat → Nat → Int32} {L : Nat → Nat → Int64} {R : Nat → Nat → Option Nat} {tl : am_H} {N A it kd ln : Nat} {Q : xT} (hN : 400 < N) (hs : srcP V I tl A it kd ln Q) (hA : A ≠ 5) (hit : it ≠ 12) (hc : okI (tI Q)) : ∃ F', fm_52 N (.ref 5) (.ref A) (fx V I L R ++ tl) = some (.inl (some (.int (if Q.length = 0 then 0 else cdI (cdX (tI Q) Q.length 0 g00))), fx (vup V 5 7 (.int (nI Q.length))) (iup I 12 F') L R ++ tl)) ∧ (Q.length ≠ 0 → cdQ (cdX (tI Q) Q.length 0 g00) F' Q.length) := by
  obtain ⟨k1, k2, k3, k4, q60⟩ := src_ok (L := L) (R := R) hs
  have hd : ∀ o, (if nI Q.length < 1 then (fg_52_25 N (fx (vup V 5 7 (.int (nI Q.length))) I L R ++ tl)) else (fg_52_44 N N (.ref 5) (.ref A) 0 (fx (vup V 5 7 (.int (nI Q.length))) (iup I 12 (upd (filf (I 12) (-1) 61) 0 0)) L R ++ tl))) = o → fm_52 N (.ref 5) (.ref A) (fx V I L R ++ tl) = o := fun o h => by
    apply hm_52
    apply hd_52_0
    refine ev_b k2 (ev_b qp_5_7 (ev_b (rdI (V := vup V 5 7 (.int (nI Q.length))) (a := 5) (j := 7) rfl) ?_))
    by_cases c : Q.length < 1
    · rw [if_pos (show nI Q.length < 1 from nI_lt (b := 1) c (by omega))] at h
      exact ev_t (nI_lt (b := 1) c (by omega)) h
    · rw [if_neg (show ¬ nI Q.length < 1 from nI_nlt (b := 1) (by omega) (by omega))] at h
      refine ev_f (nI_nlt (b := 1) (by omega) (by omega)) (ev_b (rdI (V := vup V 5 7 (.int (nI Q.length))) (a := 5) (j := 7) rfl) (ev_t (nI_le (b := 60) q60 (by omega)) (ev_b (rdR rfl) (ev_cV (h1 := fx (vup V 5 7 (.int (nI Q.length))) (iup I 12 (filf (I 12) (-1) 61)) L R ++ tl) (e_53 (a := 12) (n := 61) (f := I 12) rfl (by omega) (by omega)) (ev_b (rdR rfl) (ev_b ((qs_12 (I := iup I 12 (filf (I 12) (-1) 61)) (k := 0) (by omega)).trans (by rw [iup_eq, iup_iup])) h))))))
  by_cases c : Q.length = 0
  · rw [if_pos c]
    refine ⟨I 12, ?_, fun e => absurd c e⟩
    rw [iup_self]
    exact hd _ (ev_t (nI_lt (b := 1) (by omega) (by omega)) rfl)
  · rw [if_neg c]
    have h0 : htF (upd (filf (I 12) (-1) 61) 0 0) Q.length g00 := fun j hj => by
      by_cases c : j = 0
      · subst c
        rw [upd_eq]
        exact ⟨rfl, fun h e => by have := Option.some.inj e; omega⟩
      · rw [upd_ne c]
        unfold g00 filf
        rw [if_neg c, if_pos (by omega)]
        exact ⟨rfl, fun h e => absurd e (by simp)⟩
    obtain ⟨F', e, r⟩ := k_52l_5 (V := vup V 5 7 (.int (nI Q.length))) (I := I) (L := L) (R := R) (tl := tl) (N := N) rfl (srcP_c (fun j => vup_o (fun e => hA e.1)) rfl hs) hit hc Q.length 0 N _ g00 (by omega) (by omega) h0
    exact ⟨F', hd _ (ev_f (nI_nlt (b := 1) (by omega) (by omega)) e), fun _ => r⟩
