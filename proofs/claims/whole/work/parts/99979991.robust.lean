/-! ===== robust(b, how, what) ===== -/
theorem hd_305_115 {N : Nat} {rec_67 : Value → Int32 → Int64 → Int32 → Int32 → Int32 → am_H → Option am_O} {x0 : Value} {x3 : Int32} {x5 : Int64} {x7 : Int32} {x8 : Int32} {x9 : Int32} {h : am_H} {r_ : Option am_O} (k_ : (rec_67 x0 x3 x5 x7 x8 ((x9 + 1)) h) = r_) : fg_305_115 N rec_67 x0 x3 x5 x7 x8 x9 h = r_ := k_
theorem hd_305_67 {N : Nat} {K : Nat} {x0 : Value} {x3 : Int32} {x5 : Int64} {x7 : Int32} {x8 : Int32} {x9 : Int32} {h : am_H} {r_ : Option am_O} (k_ : (if x7 ≤ x9 then some (.inl (some (.int x8), h)) else ((am_vR (am_pG 2823 x0 h)).bind fun v2 => (if am_pOk 0 v2 h then am_cI true (fm_163 N v2 x9 h) (fun v5 h6 => (if v5 = 0 then (fg_305_115 N (fg_305_67 N K) x0 x3 x5 x7 x8 x9 h6) else ((am_vR (am_pG 2819 x0 h6)).bind fun v9 => ((am_vR (am_pG 2823 x0 h6)).bind fun v11 => ((am_vR (am_pG 0 v11 h6)).bind fun v13 => (if am_pOk 2 v9 h6 then am_cL true (fm_140 N v9 v13 0 h6) (fun v16 h17 => am_cI false (fm_151 v16 x5 h17) (fun v19 h20 => (if ¬ v19 = (x3 - 1) then (fg_305_115 N (fg_305_67 N K) x0 x3 x5 x7 x8 x9 h20) else (fg_305_115 N (fg_305_67 N K) x0 x3 x5 x7 ((x8 + 1)) x9 h20)))) else none)))))) else none))) = r_) : fg_305_67 N (K + 1) x0 x3 x5 x7 x8 x9 h = r_ := by rw [fg_305_67]; exact k_
theorem hd_305_25 {N : Nat} {h : am_H} {r_ : Option am_O} (k_ : some (.inr (0, h ++ [am_dummy])) = r_) : fg_305_25 N h = r_ := k_
theorem hd_305_0 {N : Nat} {x0 : Value} {x1 : Int32} {x2 : Int32} {x3 : Int32} {h : am_H} {r_ : Option am_O} (k_ : (if am_pOk 11 x0 h then am_cR true (fm_63 x0 x1 h) (fun v2 h3 => (if x2 < 0 then (fg_305_25 N h3) else (if 4 ≤ x2 then (fg_305_25 N h3) else (if x3 < 0 then (fg_305_25 N h3) else (if x3 ≤ 2 then ((am_vR (am_pG 2819 x0 h3)).bind fun v9 => (if am_pOk 2 v9 h3 then am_cL true (fm_140 N v9 v2 0 h3) (fun v12 h13 => ((am_vR (am_pG 2823 x0 h13)).bind fun v15 => (if am_pOk 0 v15 h13 then am_cI true (fm_159 N v15 v2 Value.null x2 h13) (fun v18 h19 => (fg_305_67 N N x0 x3 v12 v18 0 0 h19)) else none))) else none)) else (fg_305_25 N h3)))))) else none) = r_) : fg_305_0 N x0 x1 x2 x3 h = r_ := k_
theorem hm_305 {N : Nat} {y0 : Value} {y1 : Int32} {y2 : Int32} {y3 : Int32} {h : am_H} {r_ : Option am_O} (k_ : fg_305_0 N y0 y1 y2 y3 h = r_) : fm_305 N y0 y1 y2 y3 h = r_ := k_
theorem hd_581_165 {N : Nat} {rec_94 : Value → Int32 → Int32 → Int64 → Int64 → Int32 → Int32 → Int32 → am_H → Option am_O} {x0 : Value} {x2 : Int32} {x3 : Int32} {x4 : Int64} {x6 : Int64} {x8 : Int32} {x10 : Int32} {s0 : Int32} {s1 : Int32} {h : am_H} {r_ : Option am_O} (k_ : (rec_94 x0 x2 x3 x4 x6 x8 ((s0 + s1)) ((x10 + 1)) h) = r_) : fg_581_165 N rec_94 x0 x2 x3 x4 x6 x8 x10 s0 s1 h = r_ := k_
theorem hd_581_157 {N : Nat} {rec_94 : Value → Int32 → Int32 → Int64 → Int64 → Int32 → Int32 → Int32 → am_H → Option am_O} {x0 : Value} {x2 : Int32} {x3 : Int32} {x4 : Int64} {x6 : Int64} {x8 : Int32} {x10 : Int32} {s0 : Int32} {s1 : Int32} {s2 : Int32} {h : am_H} {r_ : Option am_O} (k_ : (if ¬ s1 = s2 then (fg_581_165 N rec_94 x0 x2 x3 x4 x6 x8 x10 s0 0 h) else (fg_581_165 N rec_94 x0 x2 x3 x4 x6 x8 x10 s0 1 h)) = r_) : fg_581_157 N rec_94 x0 x2 x3 x4 x6 x8 x10 s0 s1 s2 h = r_ := k_
theorem hd_581_94 {N : Nat} {K : Nat} {x0 : Value} {x2 : Int32} {x3 : Int32} {x4 : Int64} {x6 : Int64} {x8 : Int32} {x9 : Int32} {x10 : Int32} {h : am_H} {r_ : Option am_O} (k_ : (if x8 ≤ x10 then some (.inl (some (.int x9), h)) else (if am_pOk 12 x0 h then am_cI true (fm_439 N x0 x2 x10 h) (fun v3 h4 => (if am_pOk 12 x0 h4 then am_cV true (fm_428 N x0 0 h4) (fun h8 => ((am_vL (am_pG 3163 x0 h8)).bind fun v10 => ((am_vL (am_pG 3164 x0 h8)).bind fun v12 => (if 0 ≤ (lg_cmp ((v10 * x6) - (x4 * v12)) 0) then (if ¬ (lg_cmp ((v10 * x6) - (x4 * v12)) 0) = 0 then (fg_581_157 N (fg_581_94 N K) x0 x2 x3 x4 x6 x8 x10 x9 x3 2 h8) else (fg_581_157 N (fg_581_94 N K) x0 x2 x3 x4 x6 x8 x10 x9 x3 1 h8)) else (fg_581_157 N (fg_581_94 N K) x0 x2 x3 x4 x6 x8 x10 x9 x3 0 h8))))) else none)) else none)) = r_) : fg_581_94 N (K + 1) x0 x2 x3 x4 x6 x8 x9 x10 h = r_ := by rw [fg_581_94]; exact k_
theorem hd_581_42 {N : Nat} {x0 : Value} {x1 : Int32} {x2 : Int32} {x3 : Int32} {s0 : Value} {s1 : Int32} {h : am_H} {r_ : Option am_O} (k_ : ((am_pP 3072 s0 (.int s1) h).bind fun h1 => ((am_vI (am_pG 3072 x0 h1)).bind fun v3 => (if v3 ≤ 0 then (if am_pOk 12 x0 h1 then am_cV true (fm_391 N x0 x1 h1) (fun h8 => (if am_pOk 12 x0 h8 then am_cV true (fm_442 N x0 h8) (fun h12 => (if am_pOk 12 x0 h12 then am_cV true (fm_428 N x0 0 h12) (fun h16 => ((am_vL (am_pG 3163 x0 h16)).bind fun v18 => ((am_vL (am_pG 3164 x0 h16)).bind fun v20 => (if am_pOk 12 x0 h16 then am_cI true (fm_439 N x0 x2 ((-1)) h16) (fun v23 h24 => (fg_581_94 N N x0 x2 x3 v18 v20 v23 0 0 h24)) else none)))) else none)) else none)) else none) else some (.inl (some (.int 0), h1))))) = r_) : fg_581_42 N x0 x1 x2 x3 s0 s1 h = r_ := k_
theorem hd_581_37 {N : Nat} {x0 : Value} {x1 : Int32} {x2 : Int32} {x3 : Int32} {s0 : Value} {h : am_H} {r_ : Option am_O} (k_ : (fg_581_42 N x0 x1 x2 x3 s0 2 h) = r_) : fg_581_37 N x0 x1 x2 x3 s0 h = r_ := k_
theorem hd_581_0 {N : Nat} {x0 : Value} {x1 : Int32} {x2 : Int32} {x3 : Int32} {h : am_H} {r_ : Option am_O} (k_ : (if am_pOk 12 x0 h then am_cI true (fm_358 x0 x1 h) (fun v2 h3 => (if ¬ v2 = 0 then am_cI false (fm_327 ((Int32.toInt64 x2)) 0 3 h3) (fun v6 h7 => (if v6 = 0 then (fg_581_37 N x0 x1 x2 x3 x0 h7) else am_cI false (fm_327 ((Int32.toInt64 x3)) 0 2 h7) (fun v10 h11 => (if ¬ v10 = 0 then (fg_581_42 N x0 x1 x2 x3 x0 0 h11) else (fg_581_37 N x0 x1 x2 x3 x0 h11))))) else (fg_581_42 N x0 x1 x2 x3 x0 1 h3))) else none) = r_) : fg_581_0 N x0 x1 x2 x3 h = r_ := k_
theorem hm_581 {N : Nat} {y0 : Value} {y1 : Int32} {y2 : Int32} {y3 : Int32} {h : am_H} {r_ : Option am_O} (k_ : fg_581_0 N y0 y1 y2 y3 h = r_) : fm_581 N y0 y1 y2 y3 h = r_ := k_
/-- candidates that answer -/
def fcd (cd : Nat → Option xI) (pr : xI → Bool) (c : Nat) : Option xI := match cd c with
  | none => none
  | some Q => if pr Q = true then some Q else none
theorem fcd_n {cd : Nat → Option xI} {pr : xI → Bool} {c : Nat} (h : cd c = none) : (fcd cd pr c).isSome = false := by unfold fcd; rw [h]; rfl
theorem fcd_s {cd : Nat → Option xI} {pr : xI → Bool} {c : Nat} {Q : xI} (h : cd c = some Q) : (fcd cd pr c).isSome = pr Q := by
  unfold fcd
  rw [h]
  show (if pr Q = true then some Q else none).isSome = pr Q
  cases pr Q <;> rfl
theorem fcd_eq {cd : Nat → Option xI} {pr : xI → Bool} {c d : Nat} (h : c ≤ d) (e : cnt cd c 0 = cnt cd d 0) : cnt (fcd cd pr) c 0 = cnt (fcd cd pr) d 0 := by
  obtain ⟨m, rfl⟩ : ∃ m, d = c + m := ⟨d - c, by omega⟩
  have a := cnt_ad cd c m 0
  have b := cnt_ad (fcd cd pr) c m 0
  have z : ∀ m c, cnt cd m c = 0 → cnt (fcd cd pr) m c = 0 := by
    intro m
    induction m with
    | zero => intro c _; rfl
    | succ m ih =>
      intro c hc
      rw [cnt_s2] at hc ⊢
      cases hcd : cd c with
      | none => rw [fcd_n hcd, ih _ (by omega)]; rfl
      | some Q => rw [hcd] at hc; simp at hc
  rw [z m (0 + c) (by omega)] at b
  omega
set_option maxRecDepth 100000 in
set_option maxHeartbeats 4000000 in
theorem l305 {L : Nat → Nat → Int64} {R : Nat → Nat → Option Nat} {tl : am_H} {I0 : Nat → Nat → Int32} {N kd ln w m0 lm wh A it bf : Nat} {nC : Int32} {P : xI} {ct : xI → Nat} (hN : 400 < N) (hg : gdP kd ln P) (hw : w < 4) (hwh : wh < 3) (hb : bf ≤ 432000000) (hct : ∀ Q, ct Q ≤ 432000000) (nb : ncE kd ln P.length w ≤ 4500) (hC : nC = nI (ncE kd ln P.length w) ∨ (ncE kd ln P.length w = 0 ∧ nC ≤ 0)) (hco : ∀ (Q : xI) (X : Nat → Nat → Value) (Y : Nat → Nat → Int32), gdP kd ln Q → jdg I0 m0 lm X Y → srcE X Y tl 90 91 kd ln Q → ∃ W J, fm_140 N (.ref 14) (.ref 90) 0 (fx X Y L R ++ tl) = some (.inl (some (.long (lN (ct Q))), fx W J L R ++ tl)) ∧ frG X W Y J) : ∀ (m c K y : Nat) (V : Nat → Nat → Value) (I : Nat → Nat → Int32), c + m = ncE kd ln P.length w → m < K → y ≤ c → SE tl A it kd ln w P V I → jdg I0 m0 lm V I → ∃ W J, fg_305_67 N K (.ref 0) (nI wh) (lN bf) nC (nI y) (nI c) (fx V I L R ++ tl) = some (.inl (some (.int (nI (y + cnt (fcd (cdE kd ln P w) (fun Q => decide (sgW (ct Q) bf = wh))) m c))), fx W J L R ++ tl)) ∧ keep V W I J := by
  intro m
  induction m with
  | zero =>
    intro c K y V I h hK hy hs hj
    obtain ⟨K, rfl⟩ : ∃ k, K = k + 1 := ⟨K - 1, by omega⟩
    exact ⟨V, I, hd_305_67 (ev_t (nC_le nb hC (by omega) (by omega)) rfl), keep_r⟩
  | succ m ih =>
    intro c K y V I h hK hy hs hj
    obtain ⟨K, rfl⟩ : ∃ k, K = k + 1 := ⟨K - 1, by omega⟩
    obtain ⟨W, J, b, e, o, f⟩ := all_m (L := L) (R := R) (N := N) (c := c) hN hg hw hs (by omega)
    have kf := keep_Cg (frM_Cg f)
    have hs' := SE_f hs f
    have hj' := jdg_k kf hj
    have st0 : ∀ r, (if bI b = 0 then (fg_305_115 N (fg_305_67 N K) (.ref 0) (nI wh) (lN bf) nC (nI y) (nI c) (fx W J L R ++ tl)) else ((am_vR (am_pG 2819 (.ref 0) (fx W J L R ++ tl))).bind fun v9 => ((am_vR (am_pG 2823 (.ref 0) (fx W J L R ++ tl))).bind fun v11 => ((am_vR (am_pG 0 v11 (fx W J L R ++ tl))).bind fun v13 => (if am_pOk 2 v9 (fx W J L R ++ tl) then am_cL true (fm_140 N v9 v13 0 (fx W J L R ++ tl)) (fun v16 h17 => am_cI false (fm_151 v16 (lN bf) h17) (fun v19 h20 => (if ¬ v19 = (nI wh - 1) then (fg_305_115 N (fg_305_67 N K) (.ref 0) (nI wh) (lN bf) nC (nI y) (nI c) h20) else (fg_305_115 N (fg_305_67 N K) (.ref 0) (nI wh) (lN bf) nC ((nI y + 1)) (nI c) h20)))) else none))))) = r → fg_305_67 N (K + 1) (.ref 0) (nI wh) (lN bf) nC (nI y) (nI c) (fx V I L R ++ tl) = r := fun r k_ => by
      apply hd_305_67
      exact ev_f (nC_gt nb hC (by omega)) (ev_b (rdR rfl) (ev_i rfl (ev_cI e k_)))
    cases hcd : cdE kd ln P w c with
    | none =>
      have bf' : b = false := by
        cases b with
        | false => rfl
        | true => have := o.1.mp rfl; rw [hcd] at this; exact Bool.noConfusion this
      subst bf'
      obtain ⟨W', J', e', k'⟩ := ih (c + 1) K y W J (by omega) (by omega) (by omega) hs' hj'
      refine ⟨W', J', st0 _ (ev_t rfl ?_), keep_t kf k'⟩
      rw [cnt_s2, fcd_n hcd, if_neg (fun e => Bool.noConfusion e), Nat.zero_add]
      apply hd_305_115
      rw [nI_1]
      exact e'
    | some Q =>
      have bt : b = true := o.1.mpr (by rw [hcd]; rfl)
      subst bt
      obtain ⟨o1, o2⟩ := o.2 Q hcd
      have gQ := cdE_gd hg hw (by omega) hcd
      obtain ⟨W2, J2, e2, f2⟩ := hco Q W J gQ hj' (srcE_90 hj'.1 o1 (gd_w gQ))
      have kg := frG_k f2
      have hs2 := SE_g hs' f2
      have hj2 := jdg_k kg hj'
      rw [cnt_s2, fcd_s hcd]
      have sgc := sgW_c (c := ct Q) (d := bf) (w := wh) (hct Q) hb hwh
      by_cases q : sgW (ct Q) bf = wh
      · obtain ⟨W', J', e', k'⟩ := ih (c + 1) K (y + 1) W2 J2 (by omega) (by omega) (by omega) hs2 hj2
        refine ⟨W', J', st0 _ (ev_f (by decide) (ev_b (rdR rfl) (ev_b (rdR rfl) (ev_b (rdR rfl) (ev_i rfl (ev_cL e2 (ev_cI (pe_151 _ _ _) (ev_f (fun u => u (sgc.mpr q)) ?_)))))))), keep_t kf (keep_t kg k')⟩
        rw [if_pos (decide_eq_true q), ← Nat.add_assoc]
        apply hd_305_115
        rw [nI_1, nI_1]
        exact e'
      · obtain ⟨W', J', e', k'⟩ := ih (c + 1) K y W2 J2 (by omega) (by omega) (by omega) hs2 hj2
        refine ⟨W', J', st0 _ (ev_f (by decide) (ev_b (rdR rfl) (ev_b (rdR rfl) (ev_b (rdR rfl) (ev_i rfl (ev_cL e2 (ev_cI (pe_151 _ _ _) (ev_t (fun u => q (sgc.mp u)) ?_)))))))), keep_t kf (keep_t kg k')⟩
        rw [if_neg (fun u => q (of_decide_eq_true u)), Nat.zero_add]
        apply hd_305_115
        rw [nI_1]
        exact e'
/-- the second desk holds a program -/
def dsE (kd ln : Nat) (P : xI) (V : Nat → Nat → Value) (I : Nat → Nat → Int32) : Prop := V 174 20 = .int (nI kd) ∧ V 174 19 = .int (nI ln) ∧ dsA V I P ∧ (kd = 0 → ∀ k, k < P.length → I 192 k = nI (xE (uTx P) k - k))
theorem dsE_c {kd ln : Nat} {P : xI} {V W : Nat → Nat → Value} {I J : Nat → Nat → Int32} (h : dsE kd ln P V I) (f : W 174 18 = V 174 18 ∧ W 174 19 = V 174 19 ∧ W 174 20 = V 174 20) (g : J 188 = I 188 ∧ J 189 = I 189 ∧ J 192 = I 192) : dsE kd ln P W J := ⟨f.2.2.trans h.1, f.2.1.trans h.2.1, ⟨f.1.trans h.2.2.1.1, by rw [g.1, g.2.1]; exact h.2.2.1.2⟩, fun e => by rw [g.2.2]; exact h.2.2.2 e⟩
theorem dsE_Sc {kd ln : Nat} {P : xI} {so : Int32} {V W : Nat → Nat → Value} {I J : Nat → Nat → Int32} (h : dsE kd ln P V I) (f : frSc (vSo V so) W I J) : dsE kd ln P W J := dsE_c h ⟨(f.1 174 18 (by decide)).trans (vSo_o (by decide)), (f.1 174 19 (by decide)).trans (vSo_o (by decide)), (f.1 174 20 (by decide)).trans (vSo_o (by decide))⟩ ⟨f.2.1 188 (by decide) (by decide) (by decide) (by decide) (by decide) (by decide), f.2.1 189 (by decide) (by decide) (by decide) (by decide) (by decide) (by decide), f.2.1 192 (by decide) (by decide) (by decide) (by decide) (by decide) (by decide)⟩
theorem dsE_J {kd ln : Nat} {P : xI} {V W : Nat → Nat → Value} {I J : Nat → Nat → Int32} (h : dsE kd ln P V I) (f : frJ V W I J) : dsE kd ln P W J := dsE_c h ⟨f.1 174 18 (fun _ => by decide), f.1 174 19 (fun _ => by decide), f.1 174 20 (fun _ => by decide)⟩ ⟨f.2.1 188 (by decide), f.2.1 189 (by decide), f.2.1 192 (by decide)⟩
theorem dsE_Ed {kd ln : Nat} {P : xI} {V W : Nat → Nat → Value} {I J : Nat → Nat → Int32} (h : dsE kd ln P V I) (f : frEd V W I J) : dsE kd ln P W J := dsE_c h ⟨f.1 174 18 (by decide), f.1 174 19 (by decide), f.1 174 20 (by decide)⟩ ⟨f.2.1 188 (by decide) (by decide), f.2.1 189 (by decide) (by decide), f.2.1 192 (by decide) (by decide)⟩
set_option maxRecDepth 100000 in
set_option maxHeartbeats 4000000 in
theorem rE_439 {V : Nat → Nat → Value} {I : Nat → Nat → Int32} {L : Nat → Nat → Int64} {R : Nat → Nat → Option Nat} {tl : am_H} {N kd ln w : Nat} {P : xI} {so : Int32} (hN : 400 < N) (hg : gdP kd ln P) (hw : w < 4) (hd : dsE kd ln P V I) (wv : wt V) : ∃ W J x, fm_439 N (.ref 174) (nI w) so (fx V I L R ++ tl) = some (.inl (some (.int x), fx W J L R ++ tl)) ∧ outS (vSo V so) I (cdE kd ln P w) so (ncE kd ln P.length w) kd (nI ln) W J ∧ W 174 94 = .int x ∧ dsE kd ln P W J ∧ keep V W I J ∧ W 174 0 = V 174 0 := by
  obtain ⟨W, J, x, e, o, hx⟩ := all_r (L := L) (R := R) (tl := tl) (N := N) (so := so) hN hg hw hd.1 hd.2.1 hd.2.2.1 hd.2.2.2 wv
  have f2 : frSc (vSo V so) W I J := by
    rcases o with o | o
    · exact o.1
    · exact o.1
  exact ⟨W, J, x, e, o, hx, dsE_Sc hd f2, keep_t keep_So (keep_Sc f2), (f2.1 174 0 (by decide)).trans (vSo_o (by decide))⟩
set_option maxRecDepth 100000 in
set_option maxHeartbeats 4000000 in
theorem l581 {L : Nat → Nat → Int64} {R : Nat → Nat → Option Nat} {tl : am_H} {I0 : Nat → Nat → Int32} {N kd ln w m0 lm wh bf ws : Nat} {P : xI} {ct : xI → Nat} (hN : 5000 < N) (hg : gdP kd ln P) (hw : w < 4) (hwh : wh < 3) (hb : bf ≤ 432000000) (hct : ∀ Q, ct Q ≤ 432000000) (h1 : 1 ≤ ws) (h2 : ws ≤ 216) (nb : ncE kd ln P.length w ≤ 4500) (hco : ∀ (Q : xI) (X : Nat → Nat → Value) (Y : Nat → Nat → Int32), gdP kd ln Q → jdg I0 m0 lm X Y → dkL X Y Q → X 174 13 = .int (nI kd) → (kd = 3 → X 174 15 = .int (nI ln)) → ∃ W J, fm_428 N (.ref 174) 0 (fx X Y L R ++ tl) = some (.inl (none, fx W J L R ++ tl)) ∧ W 174 91 = .long (lN (ct Q / Nat.gcd (ct Q) ws)) ∧ W 174 92 = .long (lN (ws / Nat.gcd (ct Q) ws)) ∧ frJ X W Y J) : ∀ (q i K y : Nat) (V : Nat → Nat → Value) (I : Nat → Nat → Int32), i + q = cnt (cdE kd ln P w) (ncE kd ln P.length w) 0 → q < K → dsE kd ln P V I → jdg I0 m0 lm V I → V 174 0 = .int 0 → (∃ c, c ≤ ncE kd ln P.length w ∧ cnt (cdE kd ln P w) c 0 = i ∧ y = cnt (fcd (cdE kd ln P w) (fun Q => decide (sgW (ct Q) bf = wh))) c 0) → ∃ W J, fg_581_94 N K (.ref 174) (nI w) (nI wh) (lN (bf / Nat.gcd bf ws)) (lN (ws / Nat.gcd bf ws)) (nI (cnt (cdE kd ln P w) (ncE kd ln P.length w) 0)) (nI y) (nI i) (fx V I L R ++ tl) = some (.inl (some (.int (nI (cnt (fcd (cdE kd ln P w) (fun Q => decide (sgW (ct Q) bf = wh))) (ncE kd ln P.length w) 0))), fx W J L R ++ tl)) ∧ keep V W I J ∧ W 174 0 = .int 0 := by
  have cm := cnt_m (cdE kd ln P w) (ncE kd ln P.length w) 0
  intro q
  induction q with
  | zero =>
    intro i K y V I h hK hd hj z0 ⟨c, c1, c2, c3⟩
    obtain ⟨K, rfl⟩ : ∃ k, K = k + 1 := ⟨K - 1, by omega⟩
    refine ⟨V, I, ?_, keep_r, z0⟩
    rw [c3, fcd_eq (pr := fun Q => decide (sgW (ct Q) bf = wh)) c1 (by omega)]
    exact hd_581_94 (ev_t (nI_le (by omega) (by omega)) rfl)
  | succ q ih =>
    intro i K y V I h hK hd hj z0 ⟨c, c1, c2, c3⟩
    obtain ⟨K, rfl⟩ : ∃ k, K = k + 1 := ⟨K - 1, by omega⟩
    obtain ⟨W, J, x, e, o, hx, hd1, k1, zz⟩ := rE_439 (L := L) (R := R) (tl := tl) (N := N) (so := nI i) (by omega) hg hw hd hj.1
    have hj1 := jdg_k k1 hj
    rcases o with ⟨-, -, d, Q, d1, d2, d3, d4, d5, d6⟩ | ⟨-, -, -, o4⟩
    case inr => exact absurd (o4 i (by omega) rfl) (by omega)
    have ei := (nI_eq (by omega) (by have := cnt_m (cdE kd ln P w) d 0; omega)).mp d3
    have gQ := cdE_gd hg hw d1 d2
    obtain ⟨W2, J2, e2, x1, x2, f2⟩ := hco Q W J gQ hj1 d4 d5 (fun _ => d6)
    have k2 := frJ_k f2
    have hy : y = cnt (fcd (cdE kd ln P w) (fun Q => decide (sgW (ct Q) bf = wh))) d 0 := by
      rw [c3]
      rcases Nat.le_total c d with u | u
      · exact fcd_eq u (by omega)
      · exact (fcd_eq u (by omega)).symm
    have c0 := cnt_0 (cd := cdE kd ln P w) d
    rw [d2, if_pos (show (some Q).isSome = true from rfl)] at c0
    have c0' := cnt_0 (cd := fcd (cdE kd ln P w) (fun Q => decide (sgW (ct Q) bf = wh))) d
    rw [fcd_s d2] at c0'
    have yb := cnt_m (fcd (cdE kd ln P w) (fun Q => decide (sgW (ct Q) bf = wh))) d 0
    obtain ⟨W', J', e', k', z'⟩ := ih (i + 1) K (y + (if decide (sgW (ct Q) bf = wh) = true then 1 else 0)) W2 J2 (by omega) (by omega) (dsE_J hd1 f2) (jdg_k k2 hj1) ((f2.1 174 0 (fun _ => by decide)).trans (zz.trans z0)) ⟨d + 1, by omega, by omega, by rw [c0', hy]⟩
    refine ⟨W', J', ?_, keep_t k1 (keep_t k2 k'), z'⟩
    have go : ∀ s2 : Nat, s2 < 3 → sgW (ct Q) bf = s2 → fg_581_157 N (fg_581_94 N K) (.ref 174) (nI w) (nI wh) (lN (bf / Nat.gcd bf ws)) (lN (ws / Nat.gcd bf ws)) (nI (cnt (cdE kd ln P w) (ncE kd ln P.length w) 0)) (nI i) (nI y) (nI wh) (nI s2) (fx W2 J2 L R ++ tl) = some (.inl (some (.int (nI (cnt (fcd (cdE kd ln P w) (fun Q => decide (sgW (ct Q) bf = wh))) (ncE kd ln P.length w) 0))), fx W' J' L R ++ tl)) := fun s2 hs2 hsg => by
      apply hd_581_157
      by_cases u : wh = s2
      · refine ev_f (fun v => v (by rw [u])) ?_
        rw [if_pos (decide_eq_true (hsg.trans u.symm))] at e'
        apply hd_581_165
        rw [nI_1, nI_1]
        exact e'
      · refine ev_t (fun v => u ((nI_eq (by omega) (by omega)).mp v)) ?_
        rw [if_neg (fun v => u ((of_decide_eq_true v).symm.trans hsg)), Nat.add_zero] at e'
        apply hd_581_165
        rw [show nI y + 0 = nI y from nI_add y 0, nI_1]
        exact e'
    apply hd_581_94
    obtain ⟨s1, s2⟩ := sgW_r (c := ct Q) (d := bf) (hct Q) hb h1 h2
    refine ev_f (nI_ge (by omega) (by omega)) (ev_i rfl (ev_cI e (ev_i rfl (ev_cV e2 (ev_b (rdL x1) (ev_b (rdL x2) ?_))))))
    by_cases u1 : bf ≤ ct Q
    · refine ev_t (s1.mpr u1) ?_
      by_cases u2 : bf = ct Q
      · exact ev_f (fun v => v (s2.mpr u2)) (go 1 (by omega) (by unfold sgW; rw [if_neg (by omega), if_pos u2.symm]))
      · exact ev_t (fun v => u2 (s2.mp v)) (go 2 (by omega) (by unfold sgW; rw [if_neg (by omega), if_neg (by omega)]))
    · exact ev_f (fun v => u1 (s1.mp v)) (go 0 (by omega) (by unfold sgW; rw [if_pos (by omega)]))
theorem in_3n {a : Int32} (h : a < 0 ∨ nI 3 ≤ a) : pv_327 a.toInt64 0 2 = 0 := by
  have := in_b (a := a) (n := 3) (by omega) h
  rw [show (nI 3).toInt64 - 1 = 2 by decide] at this
  exact this
theorem in_3 : ∀ w, w < 3 → pv_327 (nI w).toInt64 0 2 = 1 := by decide
set_option maxRecDepth 100000 in
set_option maxHeartbeats 4000000 in
theorem u_54 {V : Nat → Nat → Value} {I : Nat → Nat → Int32} {L : Nat → Nat → Int64} {R : Nat → Nat → Option Nat} {tl : am_H} {n p j : Nat} (hr : rel V I L R tl n p) (hm : room tl n p j) {N : Nat} (hN : 5000 < N) (a1 a2 a3 : Int32) : ∃ h', opBI (fm_304 N (.ref 0) a1 a2 a3 (.ref 268) (fx V I L R ++ tl)) (fun h1 => fm_581 N (.ref 174) a1 a2 a3 h1) vfI h' ∧ invW (j + 1) h' := by
  obtain ⟨b1, b2, b3⟩ := hr.1
  have hwt := rel_w hr
  rcases dich a1 (n := n) (by omega) with hn | ⟨b, hb, rfl⟩
  · refine ⟨_, opBI_err (c := 1) (b := 0) (by decide) (tl := tl ++ [am_dummy]) ?_ ?_, inv_mk (rel_thr 1 (rel_dum hr)) (room_dum hm)⟩
    · have e : fm_305 N (.ref 0) a1 a2 a3 (fx V I L R ++ tl) = some (.inr (2, (fx V I L R ++ (tl ++ [am_dummy])))) := by
        apply hm_305
        apply hd_305_0
        refine ev_i rfl ?_
        rw [c_63n b2 hn]
        rfl
      unfold fm_304 fg_304_0
      refine ev_i rfl ?_
      rw [e]
      rfl
    · show fm_581 N (.ref 174) a1 a2 a3 (fx V I L R ++ (tl ++ [am_dummy])) = _
      apply hm_581
      apply hd_581_0
      refine ev_i rfl (ev_cI (r_358n b3 b1 hn) (ev_f (fun e => e rfl) ?_))
      apply hd_581_42
      exact ev_b qp_174_0 (ev_b (a := 1) rfl (ev_f (by decide) rfl))
  obtain ⟨kd, ln, P, a, it, hg, q1, q2, q3, q4, q5, q6, q7⟩ := bth_E hr hb
  have d25 : fg_305_25 N (fx V I L R ++ tl) = some (.inr (0, fx V I L R ++ (tl ++ [am_dummy]))) := by
    apply hd_305_25
    rw [List.append_assoc]
  have bad : fm_305 N (.ref 0) (nI b) a2 a3 (fx V I L R ++ tl) = some (.inr (0, fx V I L R ++ (tl ++ [am_dummy]))) → (∀ t : am_H, fm_581 N (.ref 174) (nI b) a2 a3 (fx V I L R ++ t) = fg_581_37 N (.ref 174) (nI b) a2 a3 (.ref 174) (fx V I L R ++ t)) → ∃ h', opBI (fm_304 N (.ref 0) (nI b) a2 a3 (.ref 268) (fx V I L R ++ tl)) (fun h1 => fm_581 N (.ref 174) (nI b) a2 a3 h1) vfI h' ∧ invW (j + 1) h' := fun e er => by
    refine ⟨_, opBI_err (c := 2) (b := 0) (by decide) (tl := tl ++ [am_dummy]) ?_ ?_, inv_mk (rel_thr 2 (rel_dum hr)) (room_dum hm)⟩
    · unfold fm_304 fg_304_0
      refine ev_i rfl ?_
      rw [e]
      rfl
    · refine (er _).trans ?_
      apply hd_581_37
      apply hd_581_42
      exact ev_b qp_174_0 (ev_b (a := 2) rfl (ev_f (by decide) rfl))
  rcases dich a2 (n := 4) (by omega) with hn | ⟨w, hw, rfl⟩
  · refine bad ?_ (fun t => ?_)
    · apply hm_305
      apply hd_305_0
      refine ev_i rfl (ev_cR (c_63 b2 b1 hb q4) rfl ?_)
      by_cases c : a2 < 0
      · exact ev_t c d25
      · exact ev_f c (ev_t (hn.resolve_left c) d25)
    · apply hm_581
      apply hd_581_0
      refine ev_i rfl (ev_cI (r_358 b3 b1 hb) (ev_t (by decide) (ev_cI (pe_327 _ _ _ _) ?_)))
      rw [in_4n hn]
      exact ev_t rfl rfl
  have n0 : ¬ nI w < 0 := nI_pos (by omega)
  have n4 : ¬ 4 ≤ nI w := nI_ge (b := 4) hw (by decide)
  rcases dich a3 (n := 3) (by omega) with hn | ⟨wh, hwh, rfl⟩
  · refine bad ?_ (fun t => ?_)
    · apply hm_305
      apply hd_305_0
      refine ev_i rfl (ev_cR (c_63 b2 b1 hb q4) rfl (ev_f n0 (ev_f n4 ?_)))
      by_cases c : a3 < 0
      · exact ev_t c d25
      · exact ev_f c (ev_f (Int32.not_le.mpr (Int32.lt_of_lt_of_le (show (2 : Int32) < nI 3 by decide) (hn.resolve_left c))) d25)
    · apply hm_581
      apply hd_581_0
      refine ev_i rfl (ev_cI (r_358 b3 b1 hb) (ev_t (by decide) (ev_cI (pe_327 _ _ _ _) ?_)))
      rw [in_4 w hw]
      refine ev_f (by decide) (ev_cI (pe_327 _ _ _ _) ?_)
      rw [in_3n hn]
      exact ev_f (fun e => e rfl) rfl
  obtain ⟨m, lm, ws, ct, jd, ws1, ws2, ctl, hcc, hcr⟩ := cost_fn hN hr
  have nb := ncE_b hg hw
  obtain ⟨W0, J0, e0, f0⟩ := hcc kd ln P V I L R tl (269 + a) (269 + it) hg jd (q5 V I) (by omega) (by omega)
  have k0 := frG_k f0
  obtain ⟨W1, J1, nC, e1, s1, h9, hC, f1⟩ := beg_E (V := W0) (I := J0) (L := L) (R := R) (tl := tl) (N := N) (by omega) hg hw (k0.2.2 hwt) (q5 W0 J0) (by omega) (by omega)
  have k1 := keep_t k0 (keep_Cg f1)
  obtain ⟨W2, J2, e2, k2⟩ := l305 (L := L) (R := R) (tl := tl) (I0 := I) (N := N) (m0 := m) (lm := lm) (wh := wh) (bf := ct kd ln P) (ct := ct kd ln) (by omega) hg hw hwh (ctl kd ln P) (ctl kd ln) nb hC (fun Q X Y gQ hj hs => hcc kd ln Q X Y L R tl 90 91 gQ hj hs (by decide) (by decide)) (ncE kd ln P.length w) 0 N 0 W1 J1 (by omega) (by omega) (by omega) s1 (jdg_k k1 jd)
  rw [Nat.zero_add] at e2
  obtain ⟨x, ex⟩ : ∃ x, x = nI (cnt (fcd (cdE kd ln P w) (fun Q => decide (sgW (ct kd ln Q) (ct kd ln P) = wh))) (ncE kd ln P.length w) 0) := ⟨_, rfl⟩
  rw [← ex] at e2
  have kW := keep_t k1 k2
  have iR : ∀ y, y ∈ iRel → J2 y = I y := kW.2.1
  -- the reference
  have kz : keep V (vup W2 174 0 (.int 0)) I J2 := keep_t kW (keep_v (a := 174) (j := 0) (by decide) (by decide))
  obtain ⟨W3, J3, r1, f3, g20, g19, gds, gsp⟩ := ld_E (V := vup W2 174 0 (.int 0)) (I := J2) (L := outL L x.toInt64) (R := R) (tl := tl) (N := N) (by omega) (by omega) hg ((congrFun (iR 175 (by decide)) b).trans q1) ((congrFun (iR 176 (by decide)) b).trans q2) ((congrFun (iR 177 (by decide)) b).trans q3) (by rw [iR 184 (by decide), iR 185 (by decide)]; exact q6)
  have k3 := keep_t kz (keep_39 f3)
  obtain ⟨W4, J4, r2, d1, d2, d3, f4⟩ := s442 (L := outL L x.toInt64) (R := R) (tl := tl) (N := N) (by omega) g20 g19 gds (by have := hg.2.1; omega)
  have k4 := keep_t k3 (keep_Ed f4)
  obtain ⟨W5, J5, r3, y1, y2, f5⟩ := hcr kd ln P W4 J4 (outL L x.toInt64) R tl hg (jdg_k k4 jd) d1 d2 (fun _ => d3)
  have k5 := keep_t k4 (frJ_k f5)
  have hds := dsE_J (dsE_Ed ⟨g20, g19, gds, gsp⟩ f4) f5
  obtain ⟨W6, J6, z, r4, o, hz, hd6, k6, z6⟩ := rE_439 (L := outL L x.toInt64) (R := R) (tl := tl) (N := N) (so := -1) (by omega) hg hw hds (k5.2.2 hwt)
  have ez : z = nI (cnt (cdE kd ln P w) (ncE kd ln P.length w) 0) := by
    rcases o with ⟨-, -, c, Q, c1, -, c3, -⟩ | ⟨-, o2, -⟩
    · exact absurd c3 (nI_m1c (by have := cnt_m (cdE kd ln P w) c 0; omega))
    · rw [hz] at o2
      injection o2
  subst ez
  have z5 : W5 174 0 = .int 0 := ((f5.1 174 0 (fun _ => by decide)).trans (f4.1 174 0 (by decide))).trans (f3.1 174 0 (by decide))
  have K6 := keep_t k5 k6
  obtain ⟨W7, J7, r5, k7, z7⟩ := l581 (L := outL L x.toInt64) (R := R) (tl := tl) (I0 := I) (N := N) (m0 := m) (lm := lm) (wh := wh) (bf := ct kd ln P) (ws := ws) (ct := ct kd ln) hN hg hw hwh (ctl kd ln P) (ctl kd ln) ws1 ws2 nb (fun Q X Y gQ hj hd h13 h15 => hcr kd ln Q X Y (outL L x.toInt64) R tl gQ hj hd h13 h15) (cnt (cdE kd ln P w) (ncE kd ln P.length w) 0) 0 N 0 W6 J6 (by omega) (by have := cnt_m (cdE kd ln P w) (ncE kd ln P.length w) 0; omega) hd6 (jdg_k K6 jd) (z6.trans z5) ⟨0, Nat.zero_le _, rfl, rfl⟩
  rw [← ex] at r5
  refine ⟨_, opBI_g (v := x) (W := W2) (J := J2) (M := outL L x.toInt64) (R1 := R) (t1 := tl) ?_ (r := fun h1 => fm_581 N (.ref 174) (nI b) (nI w) (nI wh) h1) ?_ z7 outL_at, inv_mk (rel_k (keep_t K6 k7) (rel_ol _ hr)) (room_up hm)⟩
  · have e : fm_305 N (.ref 0) (nI b) (nI w) (nI wh) (fx V I L R ++ tl) = some (.inl (some (.int x), fx W2 J2 L R ++ tl)) := by
      apply hm_305
      apply hd_305_0
      exact ev_i rfl (ev_cR (c_63 b2 b1 hb q4) rfl (ev_f n0 (ev_f n4 (ev_f (nI_pos (by omega)) (ev_t (nI_le (b := 2) (by omega) (by decide)) (ev_b (rdR rfl) (ev_i rfl (ev_cL e0 (ev_b (rdR rfl) (ev_i rfl (ev_cI e1 e2)))))))))))
    unfold fm_304 fg_304_0
    refine ev_i rfl ?_
    rw [e]
    exact ev_b out_s rfl
  · have b3' : W2 174 1 = .int (nI n) := (kW.1 174 1 (by decide)).trans b3
    show fm_581 N (.ref 174) (nI b) (nI w) (nI wh) _ = _
    apply hm_581
    apply hd_581_0
    refine ev_i rfl (ev_cI (r_358 b3' b1 hb) (ev_t (by decide) (ev_cI (pe_327 _ _ _ _) ?_)))
    rw [in_4 w hw]
    refine ev_f (by decide) (ev_cI (pe_327 _ _ _ _) ?_)
    rw [in_3 wh hwh]
    refine ev_t (by decide) ?_
    apply hd_581_42
    exact ev_b qp_174_0 (ev_b (a := 0) rfl (ev_t (by decide) (ev_i rfl (ev_cV r1 (ev_i rfl (ev_cV r2 (ev_i rfl (ev_cV r3 (ev_b (rdL y1) (ev_b (rdL y2) (ev_i rfl (ev_cI r4 r5)))))))))))) 
