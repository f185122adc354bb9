/-! ===== the reference prints trees ===== -/
def qR (V : Nat → Nat → Value) (I : Nat → Nat → Int32) (L : Nat → Nat → Int64) (R : Nat → Nat → Option Nat) (tl : am_H) (c : Nat) (f : Nat → Int32) (d : Nat) (a b : Nat → Int32) : am_H := pR (vup V 174 73 (.int (nI d))) (iup (iup I 220 a) 221 b) L R tl c f
theorem v73 {V : Nat → Nat → Value} {x y z : Value} : vup (vup (vup V 174 73 x) 174 78 y) 174 73 z = vup (vup V 174 73 z) 174 78 y := by
  funext e j
  by_cases c1 : e = 174 ∧ j = 73
  · obtain ⟨c2, c3⟩ := c1
    subst c2
    subst c3
    rw [vup_eq, vup_nj (by decide), vup_eq]
  · by_cases c2 : e = 174 ∧ j = 78
    · obtain ⟨c3, c4⟩ := c2
      subst c3
      subst c4
      rw [vup_nj (by decide), vup_eq, vup_eq]
    · rw [vup_o c1, vup_o c2, vup_o c1, vup_o c2, vup_o c1]
theorem i220 {I : Nat → Nat → Int32} {a a' b f : Nat → Int32} : iup (iup (iup (iup I 220 a) 221 b) 223 f) 220 a' = iup (iup (iup I 220 a') 221 b) 223 f := by
  funext y
  by_cases c1 : y = 220
  · subst c1; rw [iup_eq, iup_na (by decide), iup_na (by decide), iup_eq]
  · rw [iup_na c1]
    by_cases c2 : y = 223
    · subst c2; rw [iup_eq, iup_eq]
    · rw [iup_na c2, iup_na c2]
      by_cases c3 : y = 221
      · subst c3; rw [iup_eq, iup_eq]
      · rw [iup_na c3, iup_na c3, iup_na c1, iup_na c1]
theorem i221 {I : Nat → Nat → Int32} {a b b' f : Nat → Int32} : iup (iup (iup (iup I 220 a) 221 b) 223 f) 221 b' = iup (iup (iup I 220 a) 221 b') 223 f := by
  funext y
  by_cases c1 : y = 221
  · subst c1; rw [iup_eq, iup_na (by decide), iup_eq]
  · rw [iup_na c1]
    by_cases c2 : y = 223
    · subst c2; rw [iup_eq, iup_eq]
    · rw [iup_na c2, iup_na c2, iup_na c1, iup_na c1]
set_option maxRecDepth 100000 in
set_option maxHeartbeats 1600000 in
theorem q_73 {V : Nat → Nat → Value} {I : Nat → Nat → Int32} {L : Nat → Nat → Int64} {R : Nat → Nat → Option Nat} {tl : am_H} {c d : Nat} {f a b : Nat → Int32} : am_vI (am_pG 3145 (.ref 174) (qR V I L R tl c f d a b)) = some (nI d) := rfl
set_option maxRecDepth 100000 in
set_option maxHeartbeats 1600000 in
theorem q_73p {V : Nat → Nat → Value} {I : Nat → Nat → Int32} {L : Nat → Nat → Int64} {R : Nat → Nat → Option Nat} {tl : am_H} {c d d' : Nat} {f a b : Nat → Int32} : am_pP 3145 (.ref 174) (.int (nI d')) (qR V I L R tl c f d a b) = some (qR V I L R tl c f d' a b) := by
  unfold qR pR
  rw [qp_174_73, v73]
set_option maxRecDepth 100000 in
set_option maxHeartbeats 1600000 in
theorem q_220 {V : Nat → Nat → Value} {I : Nat → Nat → Int32} {L : Nat → Nat → Int64} {R : Nat → Nat → Option Nat} {tl : am_H} {c d k : Nat} {f a b : Nat → Int32} (hk : k < 64) : am_pA 0 (.ref 220) (nI k) (qR V I L R tl c f d a b) = some (a k) := by
  unfold qR pR
  rw [qa_220 hk, iup_na (by decide), iup_na (by decide), iup_eq]
set_option maxRecDepth 100000 in
set_option maxHeartbeats 1600000 in
theorem q_221 {V : Nat → Nat → Value} {I : Nat → Nat → Int32} {L : Nat → Nat → Int64} {R : Nat → Nat → Option Nat} {tl : am_H} {c d k : Nat} {f a b : Nat → Int32} (hk : k < 64) : am_pA 0 (.ref 221) (nI k) (qR V I L R tl c f d a b) = some (b k) := by
  unfold qR pR
  rw [qa_221 hk, iup_na (by decide), iup_eq]
set_option maxRecDepth 100000 in
set_option maxHeartbeats 1600000 in
theorem q_220s {V : Nat → Nat → Value} {I : Nat → Nat → Int32} {L : Nat → Nat → Int64} {R : Nat → Nat → Option Nat} {tl : am_H} {c d k : Nat} {x : Int32} {f a b : Nat → Int32} (hk : k < 64) : am_pS 0 (.ref 220) (nI k) x (qR V I L R tl c f d a b) = some (qR V I L R tl c f d (upd a k x) b) := by
  unfold qR pR
  rw [qs_220 hk, i220, iup_na (by decide), iup_na (by decide), iup_eq]
set_option maxRecDepth 100000 in
set_option maxHeartbeats 1600000 in
theorem q_221s {V : Nat → Nat → Value} {I : Nat → Nat → Int32} {L : Nat → Nat → Int64} {R : Nat → Nat → Option Nat} {tl : am_H} {c d k : Nat} {x : Int32} {f a b : Nat → Int32} (hk : k < 64) : am_pS 0 (.ref 221) (nI k) x (qR V I L R tl c f d a b) = some (qR V I L R tl c f d a (upd b k x)) := by
  unfold qR pR
  rw [qs_221 hk, i221, iup_na (by decide), iup_eq]
set_option maxRecDepth 100000 in
set_option maxHeartbeats 1600000 in
theorem q_362 {V : Nat → Nat → Value} {I : Nat → Nat → Int32} {L : Nat → Nat → Int64} {R : Nat → Nat → Option Nat} {tl : am_H} {c d : Nat} {x : Int32} {f a b : Nat → Int32} (hc : c < 800) : fm_362 (.ref 174) x (qR V I L R tl c f d a b) = some (.inl (none, qR V I L R tl (c + 1) (upd f c x) d a b)) := r_362 hc
set_option maxRecDepth 100000 in
set_option maxHeartbeats 1600000 in
theorem q_363 {V : Nat → Nat → Value} {I : Nat → Nat → Int32} {L : Nat → Nat → Int64} {R : Nat → Nat → Option Nat} {tl : am_H} {c d : Nat} {x : Int32} {f a b : Nat → Int32} (h : two x) (hc : c + (nbL x).length ≤ 800) : fm_363 (.ref 174) x (qR V I L R tl c f d a b) = some (.inl (none, qR V I L R tl (c + (nbL x).length) (wrL f c (nbL x)) d a b)) := r_363 h hc
/-- the open parts: sort, how many are wanted still -/
def skR (a b : Nat → Int32) : List (Nat × Nat) → Prop
  | [] => True
  | x :: st => x.1 ≤ 20 ∧ 1 ≤ x.2 ∧ x.2 ≤ arN x.1 ∧ a st.length = nI x.1 ∧ b st.length = nI (arN x.1 - x.2) ∧ skR a b st
theorem skR_u {a b : Nat → Int32} {k : Nat} {x y : Int32} : ∀ st : List (Nat × Nat), st.length ≤ k → skR a b st → skR (upd a k x) (upd b k y) st := by
  intro st
  induction st with
  | nil => intro _ _; trivial
  | cons z st ih =>
    intro hk h
    have hk' : st.length + 1 ≤ k := hk
    exact ⟨h.1, h.2.1, h.2.2.1, by rw [upd_ne (by omega)]; exact h.2.2.2.1, by rw [upd_ne (by omega)]; exact h.2.2.2.2.1, ih (by omega) h.2.2.2.2.2⟩
theorem skR_b {a b : Nat → Int32} {k : Nat} {y : Int32} : ∀ st : List (Nat × Nat), st.length ≤ k → skR a b st → skR a (upd b k y) st := by
  intro st
  induction st with
  | nil => intro _ _; trivial
  | cons z st ih =>
    intro hk h
    have hk' : st.length + 1 ≤ k := hk
    exact ⟨h.1, h.2.1, h.2.2.1, h.2.2.2.1, by rw [upd_ne (by omega)]; exact h.2.2.2.2.1, ih (by omega) h.2.2.2.2.2⟩
set_option maxRecDepth 100000 in
set_option maxHeartbeats 1600000 in
theorem r_365 {V : Nat → Nat → Value} {I : Nat → Nat → Int32} {L : Nat → Nat → Int64} {R : Nat → Nat → Option Nat} {tl : am_H} {N : Nat} : ∀ (st : List (Nat × Nat)) (K c : Nat) (f a b : Nat → Int32), st.length < 60 → st.length + 1 < K → skR a b st → c + (clS (st.map (fun x => x.2))).1.length ≤ 800 → ∃ (b' : Nat → Int32) (st' : List (Nat × Nat)), fg_365_2 N K (.ref 174) 1 (qR V I L R tl c f st.length a b) = some (.inl (none, qR V I L R tl (c + (clS (st.map (fun x => x.2))).1.length) (wrL f c (clS (st.map (fun x => x.2))).1) st'.length a b')) ∧ skR a b' st' ∧ st'.map (fun x => x.2) = (clS (st.map (fun x => x.2))).2 ∧ st'.length ≤ st.length := by
  intro st
  induction st with
  | nil =>
    intro K c f a b _ hK hs _
    obtain ⟨K, rfl⟩ : ∃ k, K = k + 1 := ⟨K - 1, by omega⟩
    refine ⟨b, [], ?_, trivial, rfl, Nat.le_refl _⟩
    rw [fg_365_2]
    exact ev_f (by decide) (ev_b q_73 (ev_t (by decide) rfl))
  | cons x st ih =>
    intro K c f a b h60 hK hs hc
    obtain ⟨K, rfl⟩ : ∃ k, K = k + 1 := ⟨K - 1, by omega⟩
    obtain ⟨s1, s2, s3, s4, s5, s6⟩ := hs
    have h60' : st.length + 1 < 60 := h60
    have hK' : st.length + 1 + 1 < K + 1 := hK
    have dm : nI (x :: st).length - 1 = nI st.length := by
      show nI (st.length + 1) - 1 = _
      rw [← nI_1]
      exact Int32.add_sub_cancel _ _
    have a3 := ar_le x.1
    have e1 : nI (arN x.1 - x.2) + 1 = nI (arN x.1 - x.2 + 1) := nI_1 _
    have head : ∀ o, ((if ¬ nI (arN x.1 - x.2 + 1) = nI (arN x.1) then (fg_365_61 N (fg_365_2 N K) (.ref 174) 0 (qR V I L R tl c f (x :: st).length a (upd b st.length (nI (arN x.1 - x.2 + 1))))) else (fg_365_61 N (fg_365_2 N K) (.ref 174) 1 (qR V I L R tl c f (x :: st).length a (upd b st.length (nI (arN x.1 - x.2 + 1)))))) = o) → fg_365_2 N (K + 1) (.ref 174) 1 (qR V I L R tl c f (x :: st).length a b) = o := fun o ho => by
      rw [fg_365_2]
      dsimp only
      refine ev_f (by decide) (ev_b q_73 (ev_f (nI_nle (show 1 ≤ (x :: st).length by show 1 ≤ st.length + 1; omega) (by omega)) (ev_b (a := Value.ref 221) rfl (ev_b q_73 ?_))))
      rw [dm]
      refine ev_b (q_221 (by omega)) ?_
      rw [s5, e1]
      refine ev_b (q_221s (by omega)) (ev_b (a := Value.ref 221) rfl (ev_b q_73 ?_))
      rw [dm]
      refine ev_b ((q_221 (by omega)).trans (by rw [upd_eq])) (ev_b (a := Value.ref 220) rfl (ev_b q_73 ?_))
      rw [dm]
      refine ev_b ((q_220 (by omega)).trans (by rw [s4])) (ev_cI (ar_e x.1 s1 _) ho)
    by_cases c1 : x.2 = 1
    · have ec : clS ((x :: st).map (fun x => x.2)) = (41 :: (clS (st.map (fun x => x.2))).1, (clS (st.map (fun x => x.2))).2) := by
        show clS (x.2 :: st.map (fun x => x.2)) = _
        rw [clS, if_pos c1]
      rw [ec] at hc ⊢
      dsimp only at hc ⊢
      have hc' : c + ((clS (st.map (fun x => x.2))).1.length + 1) ≤ 800 := hc
      obtain ⟨b', st', g1, g2, g3, g4⟩ := ih K (c + 1) (upd f c 41) a (upd b st.length (nI (arN x.1 - x.2 + 1))) (by omega) (by omega) (skR_b st (Nat.le_refl _) s6) (by omega)
      refine ⟨b', st', ?_, g2, g3, by show st'.length ≤ st.length + 1; omega⟩
      refine head _ (ev_f (fun e => e (by congr 1; omega)) ?_)
      unfold fg_365_61
      refine ev_f (by decide) (ev_i rfl (ev_cV (q_362 (by omega)) (ev_b q_73 ?_)))
      rw [dm]
      refine ev_b q_73p ?_
      rw [g1, show c + (41 :: (clS (st.map (fun x => x.2))).1).length = c + 1 + (clS (st.map (fun x => x.2))).1.length by show c + ((clS (st.map (fun x => x.2))).1.length + 1) = _; omega]
      rfl
    · have ec : clS ((x :: st).map (fun x => x.2)) = ([], (x.2 - 1) :: st.map (fun x => x.2)) := by
        show clS (x.2 :: st.map (fun x => x.2)) = _
        rw [clS, if_neg c1]
      rw [ec]
      refine ⟨upd b st.length (nI (arN x.1 - x.2 + 1)), (x.1, x.2 - 1) :: st, ?_, ⟨s1, by show 1 ≤ x.2 - 1; omega, by show x.2 - 1 ≤ arN x.1; omega, s4, by rw [upd_eq]; congr 1; show _ = arN x.1 - (x.2 - 1); omega, skR_b st (Nat.le_refl _) s6⟩, rfl, Nat.le_refl _⟩
      refine head _ (ev_t (fun e => by have := (nI_eq (by omega) (by omega)).mp e; omega) ?_)
      unfold fg_365_61
      obtain ⟨K', hK2⟩ : ∃ k, K = k + 1 := ⟨K - 1, by omega⟩
      rw [hK2, fg_365_2]
      exact ev_t rfl (ev_t rfl rfl)
set_option maxRecDepth 100000 in
set_option maxHeartbeats 1600000 in
theorem r_361 {V : Nat → Nat → Value} {I : Nat → Nat → Int32} {L : Nat → Nat → Int64} {R : Nat → Nat → Option Nat} {tl : am_H} {N sz : Nat} {s v : Nat → Int32} {lst : List (Nat × Nat)} (hN : 200 < N) (h14 : V 174 14 = .int (nI sz)) (hs : sz ≤ 60) (hl : lst.length = sz) (ha : ∀ k x r, lst.drop k = x :: r → I 186 k = nI x.1 ∧ I 187 k = v k ∧ x.1 ≤ 20 ∧ (x.1 = 0 → two (v k))) : ∀ (m k K c : Nat) (f a b : Nat → Int32) (st : List (Nat × Nat)), k + m = sz → m < K → st.length ≤ k → skR a b st → c + (txS v k (st.map (fun x => x.2)) (lst.drop k)).length ≤ 240 → ∃ (d : Nat) (a' b' : Nat → Int32), fg_361_7 N K (.ref 174) (nI k) (qR V I L R tl c f st.length a b) = some (.inl (none, qR V I L R tl (c + (txS v k (st.map (fun x => x.2)) (lst.drop k)).length) (wrL f c (txS v k (st.map (fun x => x.2)) (lst.drop k))) d a' b')) := by
  have q14 : ∀ (c d : Nat) (f a b : Nat → Int32), am_vI (am_pG 3086 (.ref 174) (qR V I L R tl c f d a b)) = some (nI sz) := fun c d f a b => by
    show am_vI (some (V 174 14)) = _
    rw [h14]
    rfl
  have q186 : ∀ (c d k : Nat) (f a b : Nat → Int32), k < 60 → am_pA 0 (.ref 186) (nI k) (qR V I L R tl c f d a b) = some (I 186 k) := fun c d k f a b hk => by
    unfold qR pR
    rw [qa_186 (by omega), iup_na (by decide), iup_na (by decide), iup_na (by decide)]
  have q187 : ∀ (c d k : Nat) (f a b : Nat → Int32), k < 60 → am_pA 0 (.ref 187) (nI k) (qR V I L R tl c f d a b) = some (I 187 k) := fun c d k f a b hk => by
    unfold qR pR
    rw [qa_187 (by omega), iup_na (by decide), iup_na (by decide), iup_na (by decide)]
  intro m
  induction m with
  | zero =>
    intro k K c f a b st hk hK _ _ _
    obtain ⟨K, rfl⟩ : ∃ k, K = k + 1 := ⟨K - 1, by omega⟩
    have e : lst.drop k = [] := List.drop_eq_nil_of_le (by omega)
    rw [e]
    refine ⟨st.length, a, b, ?_⟩
    rw [fg_361_7]
    exact ev_b (q14 _ _ _ _ _) (ev_t (nI_le (by omega) (by omega)) rfl)
  | succ m ih =>
    intro k K c f a b st hk hK hst hsk hc
    obtain ⟨K, rfl⟩ : ∃ k, K = k + 1 := ⟨K - 1, by omega⟩
    have hd := List.drop_eq_getElem_cons (l := lst) (i := k) (by omega)
    obtain ⟨x, hx⟩ : ∃ x, x = lst[k]'(by omega) := ⟨_, rfl⟩
    rw [← hx] at hd
    obtain ⟨x1, x2, x20, x3⟩ := ha k x _ hd
    rw [hd] at hc ⊢
    obtain ⟨ts, hts⟩ : ∃ ts, ts = st.map (fun x => x.2) := ⟨_, rfl⟩
    rw [← hts] at hc ⊢
    have etx : txS v k ts (x :: lst.drop (k + 1)) = (if k = 0 then [] else [32]) ++ (opL v k x.1 ++ (if arN x.1 = 0 then (clS ts).1 ++ txS v (k + 1) (clS ts).2 (lst.drop (k + 1)) else txS v (k + 1) (arN x.1 :: ts) (lst.drop (k + 1)))) := rfl
    obtain ⟨rest, hrest⟩ : ∃ rest, rest = (if arN x.1 = 0 then (clS ts).1 ++ txS v (k + 1) (clS ts).2 (lst.drop (k + 1)) else txS v (k + 1) (arN x.1 :: ts) (lst.drop (k + 1))) := ⟨_, rfl⟩
    rw [← hrest] at etx
    rw [etx] at hc ⊢
    rw [List.length_append, List.length_append] at hc
    -- behind the space
    have core : ∀ (c2 : Nat) (f2 : Nat → Int32), c2 + ((opL v k x.1).length + rest.length) ≤ 240 → ∃ (d : Nat) (a' b' : Nat → Int32), fg_361_25 N (fg_361_7 N K) (.ref 174) (nI k) (qR V I L R tl c2 f2 st.length a b) = some (.inl (none, qR V I L R tl (c2 + ((opL v k x.1).length + rest.length)) (wrL (wrL f2 c2 (opL v k x.1)) (c2 + (opL v k x.1).length) rest) d a' b')) := fun c2 f2 hc2 => by
      by_cases c6 : x.1 ≤ 6
      · have a0 : arN x.1 = 0 := ar_0.mpr c6
        rw [if_pos a0] at hrest
        have cl : ∀ (c3 : Nat) (f3 : Nat → Int32), c3 + rest.length ≤ 240 → ∃ (d : Nat) (a' b' : Nat → Int32), fg_361_70 N (fg_361_7 N K) (.ref 174) (nI k) (nI x.1) (qR V I L R tl c3 f3 st.length a b) = some (.inl (none, qR V I L R tl (c3 + rest.length) (wrL f3 c3 rest) d a' b')) := fun c3 f3 hc3 => by
          rw [hrest, List.length_append] at hc3
          obtain ⟨b', st', g1, g2, g3, g4⟩ := r_365 (V := V) (I := I) (L := L) (R := R) (tl := tl) (N := N) st N c3 f3 a b (by omega) (by omega) hsk (by rw [← hts]; omega)
          rw [← hts] at g1 g3
          obtain ⟨d', a'', b'', g5⟩ := ih (k + 1) K (c3 + (clS ts).1.length) (wrL f3 c3 (clS ts).1) a b' st' (by omega) (by omega) (by omega) g2 (by rw [g3]; omega)
          rw [g3] at g5
          refine ⟨d', a'', b'', ?_⟩
          unfold fg_361_70
          refine ev_t (nI_le (b := 6) c6 (by decide)) (ev_i rfl ?_)
          unfold fm_365 fg_365_0
          refine ev_cV g1 ?_
          unfold fg_361_113
          rw [nI_1, g5, hrest, List.length_append, wrL_app, Nat.add_assoc]
        by_cases c0 : x.1 = 0
        · have eo : opL v k x.1 = nbL (v k) := if_pos c0
          rw [eo] at hc2 ⊢
          obtain ⟨d', a', b', g⟩ := cl (c2 + (nbL (v k)).length) (wrL f2 c2 (nbL (v k))) (by omega)
          rw [c0] at g
          refine ⟨d', a', b', ?_⟩
          unfold fg_361_25
          refine ev_b (a := Value.ref 186) rfl (ev_b (a := nI 0) ((q186 _ _ _ _ _ _ (by omega)).trans (by rw [x1, c0])) (ev_f (fun e => e rfl) (ev_b (a := Value.ref 187) rfl (ev_b (a := v k) ((q187 _ _ _ _ _ _ (by omega)).trans (by rw [x2])) (ev_i rfl (ev_cV (q_363 (x3 c0) (by omega)) ?_))))))
          unfold fg_361_46 fg_361_58
          refine ev_t (by decide) (ev_t (by decide) ?_)
          rw [← Nat.add_assoc]
          exact g
        · have eo : opL v k x.1 = [trN x.1] := (if_neg c0).trans (if_pos c6)
          rw [eo] at hc2 ⊢
          have hc4 : c2 + (1 + rest.length) ≤ 240 := hc2
          obtain ⟨d', a', b', g⟩ := cl (c2 + 1) (upd f2 c2 (nI (trN x.1))) (by omega)
          refine ⟨d', a', b', ?_⟩
          unfold fg_361_25
          refine ev_b (a := Value.ref 186) rfl (ev_b (a := nI x.1) ((q186 _ _ _ _ _ _ (by omega)).trans (by rw [x1])) (ev_t (nI_ne0 (by omega) (by omega)) ?_))
          unfold fg_361_46 fg_361_58
          refine ev_t (nI_le (b := 6) c6 (by decide)) (ev_f (nI_nle (by omega) (by omega)) (ev_cI (pe_364 _ _) (ev_i rfl ?_)))
          rw [(tr_r x.1 (by omega) (by omega)).1]
          refine ev_cV (q_362 (by omega)) ?_
          rw [show c2 + ([trN x.1].length + rest.length) = c2 + 1 + rest.length by show c2 + (1 + rest.length) = _; omega]
          exact g
      · have a1 : ¬ arN x.1 = 0 := fun e => c6 (ar_0.mp e)
        have a3 := ar_le x.1
        rw [if_neg a1] at hrest
        have eo : opL v k x.1 = [40, trN x.1] := (if_neg (by omega)).trans (if_neg c6)
        rw [eo] at hc2 ⊢
        have hc4 : c2 + (2 + rest.length) ≤ 240 := hc2
        obtain ⟨d', a', b', g⟩ := ih (k + 1) K (c2 + 2) (upd (upd f2 c2 (nI 40)) (c2 + 1) (nI (trN x.1))) (upd a st.length (nI x.1)) (upd b st.length 0) ((x.1, arN x.1) :: st) (by omega) (by omega) (by show st.length + 1 ≤ k + 1; omega) ⟨x20, by show 1 ≤ arN x.1; omega, Nat.le_refl _, by rw [upd_eq], by rw [upd_eq]; show (0 : Int32) = nI (arN x.1 - arN x.1); rw [Nat.sub_self]; rfl, skR_u st (Nat.le_refl _) hsk⟩ (by
          show c2 + 2 + (txS v (k + 1) (arN x.1 :: st.map (fun x => x.2)) (lst.drop (k + 1))).length ≤ 240
          rw [← hts, ← hrest]
          omega)
        have g' : fg_361_7 N K (.ref 174) (nI (k + 1)) (qR V I L R tl (c2 + 2) (upd (upd f2 c2 (nI 40)) (c2 + 1) (nI (trN x.1))) (st.length + 1) (upd a st.length (nI x.1)) (upd b st.length 0)) = some (.inl (none, qR V I L R tl (c2 + 2 + rest.length) (wrL (upd (upd f2 c2 (nI 40)) (c2 + 1) (nI (trN x.1))) (c2 + 2) rest) d' a' b')) := by
          rw [hrest, hts]
          exact g
        refine ⟨d', a', b', ?_⟩
        unfold fg_361_25
        refine ev_b (a := Value.ref 186) rfl (ev_b (a := nI x.1) ((q186 _ _ _ _ _ _ (by omega)).trans (by rw [x1])) (ev_t (nI_ne0 (by omega) (by omega)) ?_))
        unfold fg_361_46 fg_361_58
        refine ev_f (nI_ge (a := 6) (by omega) (by omega)) (ev_i rfl (ev_cV (q_362 (x := 40) (by omega)) (ev_f (nI_nle (by omega) (by omega)) (ev_cI (pe_364 _ _) (ev_i rfl ?_)))))
        rw [(tr_r x.1 (by omega) (by omega)).1]
        refine ev_cV (q_362 (by omega)) ?_
        unfold fg_361_70
        refine ev_f (nI_ge (a := 6) (by omega) (by omega)) (ev_b (a := Value.ref 220) rfl (ev_b q_73 (ev_b (q_220s (by omega)) (ev_b (a := Value.ref 221) rfl (ev_b q_73 (ev_b (q_221s (by omega)) (ev_b q_73 ?_)))))))
        rw [nI_1]
        refine ev_b q_73p ?_
        unfold fg_361_113
        rw [nI_1, show c2 + ([40, trN x.1].length + rest.length) = c2 + 2 + rest.length by show c2 + (2 + rest.length) = _; omega]
        exact g'
    rw [fg_361_7]
    by_cases k0 : k = 0
    · rw [if_pos k0] at hc ⊢
      have hc' : c + (0 + ((opL v k x.1).length + rest.length)) ≤ 240 := hc
      obtain ⟨d', a', b', g⟩ := core c f (by omega)
      refine ⟨d', a', b', ev_b (q14 _ _ _ _ _) (ev_f (nI_ge (by omega) (by omega)) (ev_t (by rw [k0]; decide) ?_))⟩
      rw [g, List.nil_append, List.length_append, wrL_app]
    · rw [if_neg k0] at hc ⊢
      have hc' : c + (1 + ((opL v k x.1).length + rest.length)) ≤ 240 := hc
      obtain ⟨d', a', b', g⟩ := core (c + 1) (upd f c (nI 32)) (by omega)
      refine ⟨d', a', b', ev_b (q14 _ _ _ _ _) (ev_f (nI_ge (by omega) (by omega)) (ev_f (nI_nle (by omega) (by omega)) (ev_i rfl (ev_cV (q_362 (x := 32) (by omega)) ?_))))⟩
      refine g.trans ?_
      rw [List.length_append, List.length_append, wrL_app, wrL_app, show c + 1 + ((opL v k x.1).length + rest.length) = c + ([32].length + ((opL v k x.1).length + rest.length)) by show _ = c + (1 + _); omega]
      rfl
