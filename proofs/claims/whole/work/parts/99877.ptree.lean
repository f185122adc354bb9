/-! ===== printing trees ===== -/
def trT : List Nat := [120, 121, 122, 110, 115, 101, 126, 35, 33, 43, 45, 42, 47, 37, 60, 61, 38, 124, 64, 63]
def trN (l : Nat) : Nat := trT.getD (l - 1) 0
theorem tr_r : ∀ l, l < 21 → 1 ≤ l → pv_364 (nI l) = nI (trN l) ∧ trN l < 127 := by decide
theorem tr_3 : ∀ l, l < 7 → 1 ≤ l → am_pTx 3 (nI l - 1) = some (nI (trN l)) := by decide
theorem tr_4 : ∀ l, l < 21 → 7 ≤ l → am_pTx 4 (nI l - 7) = some (nI (trN l)) := by decide
theorem ar_k : ∀ x, x < 21 → pv_14 (nI x) = nI (arN x) := by decide
theorem ar_c (x : Nat) (hx : x ≤ 20) (h : am_H) : fm_14 (nI x) h = some (.inl (some (.int (nI (arN x))), h)) := (pe_14 _ _).trans (by rw [ar_k x (by omega)])
def opL (v : Nat → Int32) (k l : Nat) : List Nat := if l = 0 then nbL (v k) else if l ≤ 6 then [trN l] else [40, trN l]
def clS : List Nat → List Nat × List Nat
  | [] => ([], [])
  | m :: st => if m = 1 then (41 :: (clS st).1, (clS st).2) else ([], (m - 1) :: st)
def txS (v : Nat → Int32) : Nat → List Nat → List (Nat × Nat) → List Nat
  | _, _, [] => []
  | k, st, x :: l => (if k = 0 then [] else [32]) ++ (opL v k x.1 ++ (if arN x.1 = 0 then (clS st).1 ++ txS v (k + 1) (clS st).2 l else txS v (k + 1) (arN x.1 :: st) l))
theorem opL_le {v : Nat → Int32} {k l : Nat} (h : l = 0 → two (v k)) : (opL v k l).length ≤ (if l ≤ 6 then 3 else 2) := by
  unfold opL
  by_cases c : l = 0
  · rw [if_pos c, if_pos (by omega)]
    exact (nbL_le (h c)).1
  · rw [if_neg c]
    by_cases c2 : l ≤ 6
    · rw [if_pos c2, if_pos c2]
      show 1 ≤ 3
      decide
    · rw [if_neg c2, if_neg c2]
      exact Nat.le_refl 2
theorem ar_0 {l : Nat} : arN l = 0 ↔ l ≤ 6 := by
  unfold arN
  by_cases c : l < 7
  · rw [if_pos c]; exact ⟨fun _ => by omega, fun _ => rfl⟩
  · rw [if_neg c]
    by_cases c2 : l < 10
    · rw [if_pos c2]; exact ⟨fun e => by omega, fun e => by omega⟩
    · rw [if_neg c2]
      by_cases c3 : l < 20
      · rw [if_pos c3]; exact ⟨fun e => by omega, fun e => by omega⟩
      · rw [if_neg c3]; exact ⟨fun e => by omega, fun e => by omega⟩
theorem okF_nx {c : Nat × Nat × Nat} {st : List (Nat × Nat × Nat)} {l : List (Nat × Nat)} (h : okF (c :: st) l) : ∃ x r, l = x :: r ∧ x.1 ≤ 20 ∧ c.2.1 ≤ 12 ∧ okF (kid x.1 c ++ st) r := by
  cases l with
  | nil => exact absurd h (fun e => e)
  | cons x r => exact ⟨x, r, rfl, h.1, h.2.2.1, h.2.2.2.2.2⟩
theorem kid_ln (s : Nat) (c : Nat × Nat × Nat) : (kid s c).length = arN s := by
  unfold kid
  rw [List.length_map, List.length_range]
theorem kid_d {s : Nat} {c q : Nat × Nat × Nat} (h : q ∈ kid s c) : q.2.1 = c.2.1 + 1 := by
  unfold kid at h
  obtain ⟨p, -, e⟩ := List.mem_map.mp h
  rw [← e]
/-- what the class knows of the tree that it prints -/
def trK (V : Nat → Nat → Value) (I : Nat → Nat → Int32) (tl : am_H) (A it sz : Nat) (F s v : Nat → Int32) (lst : List (Nat × Nat)) : Prop := V 2 4 = .ref A ∧ A ≠ 2 ∧ it ≠ 13 ∧ prA V I tl A it 0 0 sz (sz * 2) F ∧ itm 0 s v sz F ∧ sz ≤ 60 ∧ lst.length = sz ∧ ∀ k x r, lst.drop k = x :: r → s k = nI x.1 ∧ (x.1 = 0 → two (v k))
def ndO (lst : List (Nat × Nat)) (k r : Nat) (cs : List (Nat × Nat × Nat)) : Prop := k + r ≤ lst.length ∧ okF cs (lst.drop (k + r))
set_option maxRecDepth 100000 in
set_option maxHeartbeats 1600000 in
theorem c_65 {V : Nat → Nat → Value} {I : Nat → Nat → Int32} {L : Nat → Nat → Int64} {R : Nat → Nat → Option Nat} {tl : am_H} {N A it sz : Nat} {F s v : Nat → Int32} {lst : List (Nat × Nat)} (hN : 10 < N) (ht : trK V I tl A it sz F s v lst) : ∀ (n k d K c : Nat) (f : Nat → Int32) (q : Nat × Nat × Nat) (cs : List (Nat × Nat × Nat)), lst.length ≤ n + k → k ≤ lst.length → q.2.1 = d → 14 ≤ K + d → okF (q :: cs) (lst.drop k) → c ≤ 4 * k → ∃ (B : List Nat) (r : Nat), gr_65 N K 65 [.ref 2, .int (nI k), .int (nI d)] (pC V I L R tl c f) = some (.inl (some (.int (nI (k + r))), pC V I L R tl (c + B.length) (wrL f c B))) ∧ 1 ≤ r ∧ ndO lst k r cs ∧ B.length + 1 ≤ 4 * r ∧ ∀ st, txS v k st (lst.drop k) = (if k = 0 then [] else [32]) ++ (B ++ ((clS st).1 ++ txS v (k + r) (clS st).2 (lst.drop (k + r)))) := by
  obtain ⟨h4, hA, hit, hp, hi, hs, hl, ha⟩ := ht
  have rd : ∀ (c : Nat) (f : Nat → Int32), am_vR (am_pG 2308 (.ref 2) (pC V I L R tl c f)) = some (.ref A) := fun c f => by
    show am_vR (some (V 2 4)) = _
    rw [h4]
    rfl
  have gp : ∀ (c : Nat) (f : Nat → Int32), pg (pC V I L R tl c f) A it 0 0 sz (sz * wdN 0) F := fun c f => hp _ _ _ _ (fun j => vup_na hA) (iup_na hit)
  have ok : ∀ (c : Nat) (f : Nat → Int32), am_pOk 3 (.ref A) (pC V I L R tl c f) = true := fun c f => by
    obtain ⟨wy, f1, f2, hw', nb, sd, p1, p2⟩ := gp c f
    exact ev_ok p1
  have g : ∀ (c : Nat) (f : Nat → Int32) (k w : Nat), k < sz → w < 5 → fm_54 (.ref A) (nI k) (nI w) (pC V I L R tl c f) = some (.inl (some (.int (itV 0 s v k w)), pC V I L R tl c f)) := fun c f k w hk hw => itm_get (gp c f) hi hs hk hw
  intro n
  induction n with
  | zero =>
    intro k d K c f q cs hn hk hq hK ho hc
    obtain ⟨x, r, e, -⟩ := okF_nx ho
    have e2 := congrArg List.length e
    rw [List.length_drop, List.length_cons] at e2
    omega
  | succ n ih =>
    intro k d K c f q cs hn hk hq hK ho hc
    obtain ⟨x, r, e, x20, d12, hkid⟩ := okF_nx ho
    have hlt : k < lst.length := by
      have e2 := congrArg List.length e
      rw [List.length_drop, List.length_cons] at e2
      omega
    have er : lst.drop (k + 1) = r := by
      rw [← List.drop_drop, e]
      rfl
    obtain ⟨s1, s2⟩ := ha k x r e
    obtain ⟨K, rfl⟩ : ∃ k, K = k + 1 := ⟨K - 1, by omega⟩
    have i0 : itV 0 s v k 0 = nI x.1 := (show itV 0 s v k 0 = s k from if_pos rfl).trans s1
    have i1 : itV 0 s v k 1 = v k := rfl
    have ol := opL_le (v := v) (k := k) (l := x.1) s2
    have g0 := g c f k 0 (by omega) (by decide)
    rw [i0] at g0
    by_cases c6 : x.1 ≤ 6
    · rw [if_pos c6] at ol
      have a0 : arN x.1 = 0 := ar_0.mpr c6
      have ek : kid x.1 q = [] := List.eq_nil_of_length_eq_zero ((kid_ln _ _).trans a0)
      rw [ek] at hkid
      refine ⟨opL v k x.1, 1, ?_, by decide, ⟨by omega, by rw [er]; exact hkid⟩, by omega, fun st => ?_⟩
      · show fo_65 N _ (.ref 2) (nI k) (nI d) (pC V I L R tl c f) = _
        unfold fo_65 fg_65_0
        refine ev_b (rd c f) (ev_i (ok c f) (ev_cI g0 ?_))
        by_cases c0 : x.1 = 0
        · have eo : opL v k x.1 = nbL (v k) := if_pos c0
          rw [eo] at ol ⊢
          rw [c0]
          have g1 := g c f k 1 (by omega) (by decide)
          rw [i1] at g1
          refine ev_f (fun e => e rfl) (ev_b (rd c f) (ev_i (ok c f) (ev_cI g1 (ev_i rfl (ev_cV (c_66 (s2 c0) (by omega)) ?_)))))
          unfold fg_65_122
          rw [nI_1]
        · have eo : opL v k x.1 = [trN x.1] := (if_neg c0).trans (if_pos c6)
          rw [eo]
          refine ev_t (nI_ne0 (by omega) (by omega)) (ev_f (nI_ge (b := 7) (by omega) (by decide)) (ev_b (tr_3 x.1 (by omega) (by omega)) (ev_i rfl (ev_cV (c_68 (by omega) (tr_r x.1 (by omega) (by omega)).2) ?_))))
          unfold fg_65_122
          rw [nI_1]
          rfl
      · rw [e]
        show (if k = 0 then [] else [32]) ++ (opL v k x.1 ++ (if arN x.1 = 0 then (clS st).1 ++ txS v (k + 1) (clS st).2 r else txS v (k + 1) (arN x.1 :: st) r)) = _
        rw [if_pos a0, er]
    · rw [if_neg c6] at ol
      have eo : opL v k x.1 = [40, trN x.1] := (if_neg (by omega)).trans (if_neg c6)
      have a1 : 1 ≤ arN x.1 := by
        have : arN x.1 ≠ 0 := fun e => c6 (ar_0.mp e)
        omega
      have a3 := ar_le x.1
      -- the parts
      have loop : ∀ (m k' c' J : Nat) (f' : Nat → Int32) (ks : List (Nat × Nat × Nat)), ks.length = m → 1 ≤ m → m ≤ arN x.1 → (∀ y, y ∈ ks → y.2.1 = d + 1) → okF (ks ++ cs) (lst.drop k') → k + 1 ≤ k' → k' ≤ lst.length → c' + 1 ≤ 4 * k' → m < J → ∃ (B : List Nat) (r' : Nat), fg_65_78 N (fun y0 y1 y2 h => gr_65 N K 65 [y0, .int y1, .int y2] h) J (.ref 2) (nI d) (nI x.1) (nI k') (nI (arN x.1 - m)) (pC V I L R tl c' f') = some (.inl (some (.int (nI (k' + r'))), pC V I L R tl (c' + B.length) (wrL f' c' B))) ∧ ndO lst k' r' cs ∧ B.length ≤ 4 * r' + 1 ∧ ∀ st, txS v k' (m :: st) (lst.drop k') = B ++ ((clS st).1 ++ txS v (k' + r') (clS st).2 (lst.drop (k' + r'))) := by
        intro m
        induction m with
        | zero => intro k' c' J f' ks h1 h2; omega
        | succ m ihm =>
          intro k' c' J f' ks h1 h2 h3 h5 h6 h7 h8 h9 hJ
          obtain ⟨J, rfl⟩ : ∃ j, J = j + 1 := ⟨J - 1, by omega⟩
          cases ks with
          | nil => cases h1
          | cons y ks =>
            have hy := h5 y List.mem_cons_self
            have hkl : ks.length = m := by
              have e3 : ks.length + 1 = m + 1 := h1
              omega
            have hlk : k' < lst.length := by
              obtain ⟨x', r', e', -⟩ := okF_nx h6
              have e2 := congrArg List.length e'
              rw [List.length_drop, List.length_cons] at e2
              omega
            obtain ⟨B1, r1, g1, rr1, n1, l1, t1⟩ := ih k' (d + 1) K (c' + 1) (upd f' c' (nI 32)) y (ks ++ cs) (by omega) (by omega) hy (by omega) h6 (by omega)
            have kn : ¬ k' = 0 := by omega
            have sp := c_68 (V := V) (I := I) (L := L) (R := R) (tl := tl) (c := c') (x := 32) (f := f') (by omega) (by decide)
            have ar1 : fm_14 (nI x.1) (pC V I L R tl c' f') = some (.inl (some (.int (nI (arN x.1))), pC V I L R tl c' f')) := ar_c x.1 x20 _
            by_cases m0 : m = 0
            · subst m0
              have kz : ks = [] := List.eq_nil_of_length_eq_zero hkl
              subst kz
              have bl : c' + 1 + B1.length < 240 := by have := n1.1; omega
              refine ⟨32 :: (B1 ++ [41]), r1, ?_, n1, by rw [List.length_cons, List.length_append]; show B1.length + 1 + 1 ≤ _; omega, fun st => ?_⟩
              · rw [fg_65_78]
                refine ev_cI ar1 (ev_f (nI_ge (by omega) (by omega)) (ev_f (nI_nlt (a := 12) (by omega) (by decide)) (ev_i rfl (ev_cV sp (ev_i rfl ?_)))))
                rw [show nI d + 1 = nI (d + 1) from nI_1 d]
                refine ev_cI g1 ?_
                obtain ⟨J', hJ'⟩ : ∃ j, J = j + 1 := ⟨J - 1, by omega⟩
                rw [hJ', fg_65_78, show nI (arN x.1 - (0 + 1)) + 1 = nI (arN x.1) by rw [nI_1]; congr 1; omega]
                have ar2 : fm_14 (nI x.1) (pC V I L R tl (c' + 1 + B1.length) (wrL (upd f' c' (nI 32)) (c' + 1) B1)) = some (.inl (some (.int (nI (arN x.1))), pC V I L R tl (c' + 1 + B1.length) (wrL (upd f' c' (nI 32)) (c' + 1) B1))) := ar_c x.1 x20 _
                refine ev_cI ar2 (ev_t (nI_le (Nat.le_refl _) (by omega)) ?_)
                unfold fg_65_116
                refine ev_i rfl (ev_cV (c_68 (x := 41) bl (by decide)) ?_)
                unfold fg_65_122
                rw [List.length_cons, List.length_append, show c' + (B1.length + [41].length + 1) = c' + 1 + B1.length + 1 by show c' + (B1.length + 1 + 1) = _; omega]
                show _ = (some (.inl (some (.int (nI (k' + r1))), pC V I L R tl (c' + 1 + B1.length + 1) (wrL (upd f' c' (nI 32)) (c' + 1) (B1 ++ [41])))) : Option am_O)
                rw [wrL_app]
                rfl
              · have t2 := t1 ((0 + 1) :: st)
                rw [if_neg kn] at t2
                rw [t2]
                show 32 :: (B1 ++ ((41 :: (clS st).1) ++ txS v (k' + r1) (clS st).2 (lst.drop (k' + r1)))) = 32 :: ((B1 ++ [41]) ++ ((clS st).1 ++ txS v (k' + r1) (clS st).2 (lst.drop (k' + r1))))
                rw [List.append_assoc B1 [41]]
                rfl
            · obtain ⟨B2, r2, g2, n2, l2, t2⟩ := ihm (k' + r1) (c' + 1 + B1.length) J (wrL (upd f' c' (nI 32)) (c' + 1) B1) ks hkl (by omega) (by omega) (fun y' hy' => h5 y' (List.mem_cons_of_mem _ hy')) n1.2 (by omega) n1.1 (by omega) (by omega)
              refine ⟨32 :: (B1 ++ B2), r1 + r2, ?_, ⟨by have := n2.1; omega, by rw [← Nat.add_assoc]; exact n2.2⟩, by rw [List.length_cons, List.length_append]; omega, fun st => ?_⟩
              · rw [fg_65_78]
                refine ev_cI ar1 (ev_f (nI_ge (by omega) (by omega)) (ev_f (nI_nlt (a := 12) (by omega) (by decide)) (ev_i rfl (ev_cV sp (ev_i rfl ?_)))))
                rw [show nI d + 1 = nI (d + 1) from nI_1 d]
                refine ev_cI g1 ?_
                rw [show nI (arN x.1 - (m + 1)) + 1 = nI (arN x.1 - m) by rw [nI_1]; congr 1; omega, g2, List.length_cons, List.length_append, show c' + (B1.length + B2.length + 1) = c' + 1 + B1.length + B2.length by omega, ← Nat.add_assoc]
                show _ = (some (.inl (some (.int (nI (k' + r1 + r2))), pC V I L R tl (c' + 1 + B1.length + B2.length) (wrL (upd f' c' (nI 32)) (c' + 1) (B1 ++ B2)))) : Option am_O)
                rw [wrL_app]
              · have t3 := t1 ((m + 1) :: st)
                have ec : clS ((m + 1) :: st) = ([], m :: st) := if_neg (by omega)
                rw [if_neg kn, ec] at t3
                rw [t3]
                show [32] ++ (B1 ++ ([] ++ txS v (k' + r1) (m :: st) (lst.drop (k' + r1)))) = _
                rw [List.nil_append, t2 st, ← Nat.add_assoc]
                rw [show (32 :: (B1 ++ B2)) = [32] ++ (B1 ++ B2) from rfl, List.append_assoc [32], List.append_assoc B1]
      obtain ⟨B2, r2, g2, n2, l2, t2⟩ := loop (arN x.1) (k + 1) (c + 2) N (upd (upd f c (nI 40)) (c + 1) (nI (trN x.1))) (kid x.1 q) (kid_ln _ _) a1 (Nat.le_refl _) (fun y hy => by rw [kid_d hy, hq]) (by rw [er]; exact hkid) (Nat.le_refl _) (by omega) (by omega) (by omega)
      refine ⟨[40, trN x.1] ++ B2, 1 + r2, ?_, by omega, ⟨by have := n2.1; omega, by rw [← Nat.add_assoc]; exact n2.2⟩, by rw [List.length_append]; show 2 + B2.length + 1 ≤ _; omega, fun st => ?_⟩
      · show fo_65 N _ (.ref 2) (nI k) (nI d) (pC V I L R tl c f) = _
        unfold fo_65 fg_65_0
        refine ev_b (rd c f) (ev_i (ok c f) (ev_cI g0 (ev_t (nI_ne0 (by omega) (by omega)) (ev_t (nI_le (a := 7) (by omega) (by omega)) (ev_i rfl (ev_cV (c_68 (x := 40) (by omega) (by decide)) (ev_b (tr_4 x.1 (by omega) (by omega)) (ev_i rfl (ev_cV (c_68 (by omega) (tr_r x.1 (by omega) (by omega)).2) ?_)))))))))
        rw [nI_1, show (0 : Int32) = nI (arN x.1 - arN x.1) by rw [Nat.sub_self]; rfl, g2, List.length_append, show c + ([40, trN x.1].length + B2.length) = c + 2 + B2.length by show c + (2 + B2.length) = _; omega, ← Nat.add_assoc]
        rfl
      · rw [e]
        show (if k = 0 then [] else [32]) ++ (opL v k x.1 ++ (if arN x.1 = 0 then (clS st).1 ++ txS v (k + 1) (clS st).2 r else txS v (k + 1) (arN x.1 :: st) r)) = _
        rw [if_neg (show ¬ arN x.1 = 0 by omega), eo, ← er, t2 st, ← Nat.add_assoc, List.append_assoc]
