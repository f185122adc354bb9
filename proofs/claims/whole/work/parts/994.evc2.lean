/-! ===== running a tree: the class ===== -/
theorem fld_u {row : Nat → Int32} {ev : eSt → Int32 × eSt} {lm : Nat} (h : ∀ st : eSt, st.2.1 ≤ lm → (ev st).2.2.1 ≤ lm) : ∀ (m i : Nat) (r : Int32) (st : eSt), st.2.1 ≤ lm → (fld row ev m i r st).2.2.1 ≤ lm := by
  intro m
  induction m with
  | zero => intro i r st hs; exact hs
  | succ m ih =>
    intro i r st hs
    rw [fld]
    by_cases c : st.1 ≠ 0
    · rw [if_pos c]; exact hs
    · rw [if_neg c]; exact ih _ _ _ (h _ hs)
theorem oneV_u {len : Nat} {row : Nat → Int32} {s : Nat} {a : Int32} {st : eSt} : (oneV len row s a st).2.2.1 = st.2.1 := by
  unfold oneV
  by_cases c1 : s = 9
  · rw [if_pos c1]
  · rw [if_neg c1]
    by_cases c2 : s = 7
    · rw [if_pos c2]
    · rw [if_neg c2]
      by_cases c3 : a < 0 ∨ nI len ≤ a
      · rw [if_pos c3]
      · rw [if_neg c3]
theorem twoV_u {s : Nat} {a b : Int32} {st : eSt} : (twoV s a b st).2.2.1 = st.2.1 := by
  unfold twoV
  by_cases c1 : s = 10
  · rw [if_pos c1]
  · rw [if_neg c1]
    by_cases c2 : s = 11
    · rw [if_pos c2]
    · rw [if_neg c2]
      by_cases c3 : s = 12
      · rw [if_pos c3]
      · rw [if_neg c3]
        by_cases c4 : s = 15
        · rw [if_pos c4]
        · rw [if_neg c4]
          by_cases c5 : s = 16
          · rw [if_pos c5]
          · rw [if_neg c5]
            by_cases c6 : b = 0
            · rw [if_pos c6]
            · rw [if_neg c6]
              by_cases c7 : s = 13
              · rw [if_pos c7]
              · rw [if_neg c7]
theorem evR_u {s lm : Nat} {a : Int32} {q : Int32 × eSt} (h : q.2.2.1 ≤ lm) : (evR s a q).2.2.1 ≤ lm := by
  unfold evR
  by_cases c7 : q.2.1 ≠ 0
  · rw [if_pos c7]; exact h
  · rw [if_neg c7]
    by_cases c8 : s = 17 ∨ s = 18 ∨ s = 20
    · rw [if_pos c8]; exact h
    · rw [if_neg c8, twoV_u]; exact h
theorem evP_u {len : Nat} {row : Nat → Int32} {s lm : Nat} {a : Int32} {st : eSt} {e2 e3 : eSt → Int32 × eSt} (h2 : ∀ st : eSt, st.2.1 ≤ lm → (e2 st).2.2.1 ≤ lm) (h3 : ∀ st : eSt, st.2.1 ≤ lm → (e3 st).2.2.1 ≤ lm) (hs : st.2.1 ≤ lm) : (evP len row s a st e2 e3).2.2.1 ≤ lm := by
  unfold evP
  by_cases c1 : st.1 ≠ 0
  · rw [if_pos c1]; exact hs
  · rw [if_neg c1]
    by_cases c2 : s = 17 ∧ a = 0
    · rw [if_pos c2]; exact hs
    · rw [if_neg c2]
      by_cases c3 : s = 18 ∧ ¬ a = 0
      · rw [if_pos c3]; exact hs
      · rw [if_neg c3]
        unfold evQ
        by_cases c4 : s < 10
        · rw [if_pos c4, oneV_u]; exact hs
        · rw [if_neg c4]
          by_cases c5 : s = 19
          · rw [if_pos c5]; exact fld_u h2 _ _ _ _ hs
          · rw [if_neg c5]
            by_cases c6 : s = 20 ∧ a = 0
            · rw [if_pos c6]; exact h3 _ hs
            · rw [if_neg c6]; exact evR_u (h2 _ hs)
theorem evN_u {x y z : Int32} {len : Nat} {row : Nat → Int32} {lm : Nat} {s : Nat → Nat} {v : Nat → Int32} {en : Nat → Nat} : ∀ (d k : Nat) (st : eSt), st.2.1 ≤ lm → (evN x y z len row lm s v en d k st).2.2.1 ≤ lm := by
  intro d
  induction d with
  | zero => intro k st hs; exact hs
  | succ d ih =>
    intro k st hs
    rw [evN]
    by_cases c1 : st.1 ≠ 0
    · rw [if_pos c1]; exact hs
    · rw [if_neg c1]
      by_cases c2 : st.2.1 < lm
      · rw [if_pos c2]
        by_cases c3 : s k < 7
        · rw [if_pos c3]; exact c2
        · rw [if_neg c3]; exact evP_u (fun st hs => ih _ st hs) (fun st hs => ih _ st hs) (ih _ _ c2)
      · rw [if_neg c2]; exact hs
/-- what the class's runner needs of a tree -/
def evH (V : Nat → Nat → Value) (I : Nat → Nat → Int32) (tl : am_H) (a it ln sz m0 : Nat) (f : Nat → Int32) (s : Nat → Nat) (v : Nat → Int32) (en : Nat → Nat) (x y z : Int32) (len lm : Nat) : Prop := prA V I tl a it 0 ln sz m0 f ∧ a ≠ 16 ∧ V 16 4 = .ref a ∧ V 16 0 = .int (nI lm) ∧ lm ≤ 2000 ∧ sz ≤ 60 ∧ sz * wdN 0 ≤ m0 ∧ m0 ≤ 1000 ∧ V 16 6 = .int x ∧ V 16 7 = .int y ∧ V 16 8 = .int z ∧ V 16 10 = .int (nI len) ∧ len ≤ 8 ∧ V 17 7 = .int (nI sz) ∧ (∀ k, k < sz → I 18 k = nI (en k)) ∧ ∀ k, k < sz → f (k * 2) = nI (s k) ∧ f (k * 2 + 1) = v k ∧ s k ≤ 20 ∧ (7 ≤ s k → k + 1 < sz) ∧ (10 ≤ s k → en (k + 1) < sz) ∧ (s k = 20 → en (en (k + 1)) < sz)
set_option maxRecDepth 100000 in
set_option maxHeartbeats 4000000 in
theorem c_121l {V : Nat → Nat → Value} {I : Nat → Nat → Int32} {L : Nat → Nat → Int64} {R : Nat → Nat → Option Nat} {tl : am_H} {N n2 len : Nat} {dp : Int32} {E2 : eSt → Int32 × eSt} {lm : Nat} {rc : Value → Int32 → Int32 → am_H → Option am_O} {rc2 : Value → Int32 → Int32 → Int32 → am_H → Option am_O} (h10 : V 16 10 = .int (nI len)) (hlen : len ≤ 8) (hu : ∀ st : eSt, st.2.1 ≤ lm → (E2 st).2.2.1 ≤ lm) (he : ∀ st : eSt, st.2.1 ≤ lm → rc (.ref 16) (nI n2) (dp + 1) (fx (eW V st) I L R ++ tl) = some (.inl (some (.int (E2 st).1), (fx (eW V ((E2 st).2)) I L R ++ tl)))) : ∀ (m i K : Nat) (r : Int32) (st : eSt), i + m = len → m < K → st.2.1 ≤ lm → fg_121_6 N rc rc2 K (.ref 16) (nI n2) dp r (nI i) (fx (eW V st) I L R ++ tl) = some (.inl (some (.int (fld (I 25) E2 m i r st).1), (fx (eW V ((fld (I 25) E2 m i r st).2)) I L R ++ tl))) := by
  intro m
  induction m with
  | zero =>
    intro i K r st hi hK hs
    obtain ⟨K, rfl⟩ : ∃ k, K = k + 1 := ⟨K - 1, by omega⟩
    rw [fg_121_6]
    exact ev_b (a := nI len) (by show am_vI (some (V 16 10)) = _; rw [h10]; rfl) (ev_t (nI_le (by omega) (by omega)) rfl)
  | succ m ih =>
    intro i K r st hi hK hs
    obtain ⟨K, rfl⟩ : ∃ k, K = k + 1 := ⟨K - 1, by omega⟩
    by_cases c : st.1 ≠ 0
    · have e : fld (I 25) E2 (m + 1) i r st = (r, st) := by rw [fld, if_pos c]
      rw [e, fg_121_6]
      exact ev_b (a := nI len) (by show am_vI (some (V 16 10)) = _; rw [h10]; rfl) (ev_f (nI_ge (by omega) (by omega)) (ev_b (a := st.1) rfl (ev_t c rfl)))
    · have e : fld (I 25) E2 (m + 1) i r st = fld (I 25) E2 m (i + 1) (E2 (st.1, st.2.1, r, I 25 i)).1 (E2 (st.1, st.2.1, r, I 25 i)).2 := by rw [fld, if_neg c]
      rw [e, fg_121_6]
      refine ev_b (a := nI len) (by show am_vI (some (V 16 10)) = _; rw [h10]; rfl) (ev_f (nI_ge (by omega) (by omega)) (ev_b (a := st.1) rfl (ev_f c ?_)))
      refine ev_b (a := (fx (eW V ((st.1, st.2.1, r, st.2.2.2))) I L R ++ tl)) (ev_p rfl rfl rfl rfl) (ev_b (a := Value.ref 25) rfl (ev_b (qa_25 (by omega)) ?_))
      refine ev_b (a := (fx (eW V ((st.1, st.2.1, r, I 25 i))) I L R ++ tl)) (ev_p rfl rfl rfl rfl) (ev_i rfl (ev_cI (he (st.1, st.2.1, r, I 25 i) hs) ?_))
      rw [nI_1]
      exact ih (i + 1) K _ _ (by omega) (by omega) (hu _ hs)
set_option maxRecDepth 100000 in
set_option maxHeartbeats 4000000 in
/-- behind the first part -/
theorem c_117p {V : Nat → Nat → Value} {I : Nat → Nat → Int32} {L : Nat → Nat → Int64} {R : Nat → Nat → Option Nat} {tl : am_H} {N s n2 n3 len lm : Nat} {dp a : Int32} {st : eSt} {E2 E3 : eSt → Int32 × eSt} {rc : Value → Int32 → Int32 → am_H → Option am_O} {rc2 : Value → Int32 → Int32 → Int32 → am_H → Option am_O} (h10 : V 16 10 = .int (nI len)) (hlen : len ≤ 8) (h7 : 7 ≤ s) (hs : s ≤ 20) (hu : st.2.1 ≤ lm)
    (he : 10 ≤ s → ∀ st : eSt, st.2.1 ≤ lm → rc (.ref 16) (nI n2) (dp + 1) (fx (eW V st) I L R ++ tl) = some (.inl (some (.int (E2 st).1), (fx (eW V ((E2 st).2)) I L R ++ tl))))
    (h3 : s = 20 → fm_100 (.ref 17) (nI n2) (fx (eW V st) I L R ++ tl) = some (.inl (some (.int (nI n3)), (fx (eW V st) I L R ++ tl))))
    (he3 : s = 20 → rc (.ref 16) (nI n3) (dp + 1) (fx (eW V st) I L R ++ tl) = some (.inl (some (.int (E3 st).1), (fx (eW V ((E3 st).2)) I L R ++ tl))))
    (hf : s = 19 → rc2 (.ref 16) a (nI n2) dp (fx (eW V st) I L R ++ tl) = some (.inl (some (.int (fld (I 25) E2 len 0 a st).1), (fx (eW V ((fld (I 25) E2 len 0 a st).2)) I L R ++ tl)))) :
    (if ¬ st.1 = 0 then fg_117_106 N rc rc2 a (fx (eW V st) I L R ++ tl) else if ¬ nI s = 17 then fg_117_95 N rc rc2 (.ref 16) dp (nI s) a (nI n2) (fx (eW V st) I L R ++ tl) else if a = 0 then fg_117_106 N rc rc2 a (fx (eW V st) I L R ++ tl) else fg_117_95 N rc rc2 (.ref 16) dp (nI s) a (nI n2) (fx (eW V st) I L R ++ tl)) = some (.inl (some (.int (evP len (I 25) s a st E2 E3).1), (fx (eW V ((evP len (I 25) s a st E2 E3).2)) I L R ++ tl))) := by
  have ne : ∀ b, b < 100 → s ≠ b → ¬ nI s = nI b := fun b hb h e => h ((nI_eq (by omega) (by omega)).mp e)
  have e167 : 10 ≤ s → s ≠ 19 → fg_117_167 N rc rc2 (.ref 16) dp (nI s) a (nI n2) (fx (eW V st) I L R ++ tl) = some (.inl (some (.int (evR s a (E2 st)).1), (fx (eW V ((evR s a (E2 st)).2)) I L R ++ tl))) := fun c4 c5 => by
    by_cases c7 : (E2 st).2.1 ≠ 0
    · have e : evR s a (E2 st) = E2 st := if_pos c7
      rw [e]
      unfold fg_117_167
      exact ev_i rfl (ev_cI (he c4 st hu) (ev_b (a := (E2 st).2.1) rfl (ev_t c7 rfl)))
    · by_cases c17 : s = 17
      · have e : evR s a (E2 st) = E2 st := (if_neg c7).trans (if_pos (.inl c17))
        rw [e]
        unfold fg_117_167
        exact ev_i rfl (ev_cI (he c4 st hu) (ev_b (a := (E2 st).2.1) rfl (ev_f c7 (ev_t (by rw [c17]; rfl) rfl))))
      · by_cases c18 : s = 18
        · have e : evR s a (E2 st) = E2 st := (if_neg c7).trans (if_pos (.inr (.inl c18)))
          rw [e]
          unfold fg_117_167
          exact ev_i rfl (ev_cI (he c4 st hu) (ev_b (a := (E2 st).2.1) rfl (ev_f c7 (ev_f (ne 17 (by omega) c17) (ev_t (by rw [c18]; rfl) rfl)))))
        · by_cases c20 : s = 20
          · have e : evR s a (E2 st) = E2 st := (if_neg c7).trans (if_pos (.inr (.inr c20)))
            rw [e]
            unfold fg_117_167
            exact ev_i rfl (ev_cI (he c4 st hu) (ev_b (a := (E2 st).2.1) rfl (ev_f c7 (ev_f (ne 17 (by omega) c17) (ev_f (ne 18 (by omega) c18) (ev_f (fun e => e (by rw [c20]; rfl)) rfl))))))
          · have e : evR s a (E2 st) = twoV s a (E2 st).1 (E2 st).2 := (if_neg c7).trans (if_neg (by omega))
            rw [e]
            unfold fg_117_167
            exact ev_i rfl (ev_cI (he c4 st hu) (ev_b (a := (E2 st).2.1) rfl (ev_f c7 (ev_f (ne 17 (by omega) c17) (ev_f (ne 18 (by omega) c18) (ev_t (ne 20 (by omega) c20) (ev_i rfl (ev_cI (c_122 (by omega) (by omega)) rfl))))))))
  have go : fg_117_109 N rc rc2 (.ref 16) dp (nI s) a (nI n2) (fx (eW V st) I L R ++ tl) = some (.inl (some (.int (evQ len (I 25) s a st E2 E3).1), (fx (eW V ((evQ len (I 25) s a st E2 E3).2)) I L R ++ tl))) := by
    by_cases c4 : s < 10
    · have e : evQ len (I 25) s a st E2 E3 = oneV len (I 25) s a st := if_pos c4
      rw [e]
      unfold fg_117_109
      exact ev_f (nI_ge (b := 10) c4 (by omega)) (ev_i rfl (ev_cI (c_120 h10 hlen (by omega)) rfl))
    · by_cases c5 : s = 19
      · have e : evQ len (I 25) s a st E2 E3 = fld (I 25) E2 len 0 a st := (if_neg c4).trans (if_pos c5)
        rw [e]
        unfold fg_117_109
        exact ev_t (nI_le (a := 10) (by omega) (by omega)) (ev_f (fun e => e (by rw [c5]; rfl)) (ev_i rfl (ev_cI (hf c5) rfl)))
      · by_cases c20 : s = 20
        · by_cases c0 : a = 0
          · have e : evQ len (I 25) s a st E2 E3 = E3 st := (if_neg c4).trans ((if_neg c5).trans (if_pos ⟨c20, c0⟩))
            rw [e]
            unfold fg_117_109
            exact ev_t (nI_le (a := 10) (by omega) (by omega)) (ev_t (ne 19 (by omega) c5) (ev_f (fun e => e (by rw [c20]; rfl)) (ev_f (fun e => e c0) (ev_b (a := Value.ref 17) rfl (ev_i rfl (ev_cI (h3 c20) (ev_i rfl (ev_cI (he3 c20) rfl))))))))
          · have e : evQ len (I 25) s a st E2 E3 = evR s a (E2 st) := (if_neg c4).trans ((if_neg c5).trans (if_neg (fun e => c0 e.2)))
            rw [e]
            unfold fg_117_109
            exact ev_t (nI_le (a := 10) (by omega) (by omega)) (ev_t (ne 19 (by omega) c5) (ev_f (fun e => e (by rw [c20]; rfl)) (ev_t c0 (e167 (by omega) c5))))
        · have e : evQ len (I 25) s a st E2 E3 = evR s a (E2 st) := (if_neg c4).trans ((if_neg c5).trans (if_neg (fun e => c20 e.1)))
          rw [e]
          unfold fg_117_109
          exact ev_t (nI_le (a := 10) (by omega) (by omega)) (ev_t (ne 19 (by omega) c5) (ev_t (ne 20 (by omega) c20) (e167 (by omega) c5)))
  by_cases c1 : ¬ st.1 = 0
  · have e : evP len (I 25) s a st E2 E3 = (a, st) := if_pos c1
    rw [e]
    exact ev_t c1 rfl
  · by_cases c17 : s = 17
    · by_cases c0 : a = 0
      · have e : evP len (I 25) s a st E2 E3 = (a, st) := (if_neg c1).trans (if_pos ⟨c17, c0⟩)
        rw [e]
        exact ev_f c1 (ev_f (fun e => e (by rw [c17]; rfl)) (ev_t c0 rfl))
      · have e : evP len (I 25) s a st E2 E3 = evQ len (I 25) s a st E2 E3 := (if_neg c1).trans ((if_neg (fun e => c0 e.2)).trans (if_neg (fun e => absurd e.1 (by omega))))
        rw [e]
        refine ev_f c1 (ev_f (fun e => e (by rw [c17]; rfl)) (ev_f c0 ?_))
        unfold fg_117_95
        exact ev_t (ne 18 (by omega) (by omega)) go
    · by_cases c18 : s = 18
      · by_cases c0 : a = 0
        · have e : evP len (I 25) s a st E2 E3 = evQ len (I 25) s a st E2 E3 := (if_neg c1).trans ((if_neg (fun e => c17 e.1)).trans (if_neg (fun e => e.2 c0)))
          rw [e]
          refine ev_f c1 (ev_t (ne 17 (by omega) c17) ?_)
          unfold fg_117_95
          exact ev_f (fun e => e (by rw [c18]; rfl)) (ev_t c0 go)
        · have e : evP len (I 25) s a st E2 E3 = (a, st) := (if_neg c1).trans ((if_neg (fun e => c17 e.1)).trans (if_pos ⟨c18, c0⟩))
          rw [e]
          refine ev_f c1 (ev_t (ne 17 (by omega) c17) ?_)
          unfold fg_117_95
          exact ev_f (fun e => e (by rw [c18]; rfl)) (ev_f c0 rfl)
      · have e : evP len (I 25) s a st E2 E3 = evQ len (I 25) s a st E2 E3 := (if_neg c1).trans ((if_neg (fun e => c17 e.1)).trans (if_neg (fun e => c18 e.1)))
        rw [e]
        refine ev_f c1 (ev_t (ne 17 (by omega) c17) ?_)
        unfold fg_117_95
        exact ev_t (ne 18 (by omega) c18) go
set_option maxRecDepth 100000 in
set_option maxHeartbeats 4000000 in
theorem c_117 {V : Nat → Nat → Value} {I : Nat → Nat → Int32} {L : Nat → Nat → Int64} {R : Nat → Nat → Option Nat} {tl : am_H} {N a it ln sz m0 len lm : Nat} {f v : Nat → Int32} {s en : Nat → Nat} {x y z : Int32} (hN : 100 < N) (hE : evH V I tl a it ln sz m0 f s v en x y z len lm) : ∀ (d K k : Nat) (st : eSt), d ≤ 13 → 2 * d + 1 < K → k < sz → st.2.1 ≤ lm → gr_117 N K 117 [.ref 16, .int (nI k), .int (nI (13 - d))] (fx (eW V st) I L R ++ tl) = some (.inl (some (.int (evN x y z len (I 25) lm s v en d k st).1), (fx (eW V ((evN x y z len (I 25) lm s v en d k st).2)) I L R ++ tl))) := by
  obtain ⟨hp, ha, h4, hl, hlm, hsz, hm0, hm1, h6, h7, h8, h10, hlen, h17, hen, hs⟩ := hE
  have hpg : ∀ st : eSt, pg (fx (eW V st) I L R ++ tl) a it 0 ln sz m0 f := fun st => hp _ _ _ _ (fun j => eW_na ha) rfl
  have h4' : ∀ st : eSt, am_vR (am_pG 1540 (.ref 16) (fx (eW V st) I L R ++ tl)) = some (.ref a) := fun st => by
    show am_vR (some (V 16 4)) = _
    rw [h4]
    rfl
  have h100 : ∀ (st : eSt) (k : Nat), k < sz → fm_100 (.ref 17) (nI k) (fx (eW V st) I L R ++ tl) = some (.inl (some (.int (nI (en k))), (fx (eW V st) I L R ++ tl))) := fun st k hk => c_100 (fs := [.ref 18, .ref 19, .ref 20, .ref 21, .ref 22, .ref 23, .ref 24, eW V st 17 7]) (f := I 18) rfl rfl (by show some (V 17 7) = _; rw [h17]) rfl hk hsz (hen k hk)
  intro d
  induction d with
  | zero =>
    intro K k st hd hK hk hu
    obtain ⟨K, rfl⟩ : ∃ k, K = k + 1 := ⟨K - 1, by omega⟩
    show fo_117 N _ _ (.ref 16) (nI k) (nI 13) _ = _
    unfold fo_117 fg_117_0
    exact ev_t (by decide) rfl
  | succ d ih =>
    intro K k st hd hK hk hu
    obtain ⟨K, rfl⟩ : ∃ k, K = k + 1 := ⟨K - 1, by omega⟩
    obtain ⟨K, rfl⟩ : ∃ k, K = k + 1 := ⟨K - 1, by omega⟩
    have hx : nI (13 - (d + 1)) + 1 = nI (13 - d) := by rw [nI_1, show 13 - (d + 1) + 1 = 13 - d by omega]
    obtain ⟨s1, s2, s3, s4, s5, s6⟩ := hs k hk
    have dl : ¬ (12 : Int32) < nI (13 - (d + 1)) := nI_nlt (b := 13 - (d + 1)) (a := 12) (by omega) (by omega)
    show fo_117 N _ _ (.ref 16) (nI k) (nI (13 - (d + 1))) _ = _
    by_cases c0 : ¬ st.1 = 0
    · have e : evN x y z len (I 25) lm s v en (d + 1) k st = (0, st) := if_pos c0
      rw [e]
      unfold fo_117 fg_117_0
      exact ev_f dl (ev_b (a := st.1) rfl (ev_t c0 rfl))
    · obtain ⟨f0, u, cs, ce⟩ := st
      obtain rfl : f0 = 0 := Decidable.byContradiction c0
      by_cases c1 : u < lm
      · obtain ⟨w1, w2, w3, w4, w5, w6, p1, p2⟩ := hpg (0, u + 1, cs, ce)
        have g0 := c_54 (k := k) (w := 0) (hpg (0, u + 1, cs, ce)) hm0 hm1 hsz hk (by decide)
        have g1 := c_54 (k := k) (w := 1) (hpg (0, u + 1, cs, ce)) hm0 hm1 hsz hk (by decide)
        rw [show k * wdN 0 + 0 = k * 2 from rfl, s1] at g0
        rw [show k * wdN 0 + 1 = k * 2 + 1 from rfl, s2] at g1
        by_cases c2 : s k < 7
        · have e : evN x y z len (I 25) lm s v en (d + 1) k (0, u, cs, ce) = (lfV x y z len (s k) (v k) (0, u + 1, cs, ce), (0, u + 1, cs, ce)) := (if_neg c0).trans ((if_pos c1).trans (if_pos c2))
          rw [e]
          unfold fo_117 fg_117_0
          exact ev_f dl (ev_b (a := (0 : Int32)) rfl (ev_f c0 (ev_i rfl (ev_cI (c_118 (V := vup (vup V 16 11 (.int cs)) 16 12 (.int ce)) hl c1 hlm) (ev_t (by decide) (ev_b (h4' (0, u + 1, cs, ce)) (ev_i (ev_ok p1) (ev_cI g0 (ev_f (nI_ge (b := 7) c2 (by omega)) (ev_b (h4' (0, u + 1, cs, ce)) (ev_i (ev_ok p1) (ev_cI g1 (ev_i rfl (ev_cI (c_119 h6 h7 h8 h10 c2) rfl))))))))))))))
        · have hk1 := s4 (by omega)
          have i1 := ih (K + 1) (k + 1) (0, u + 1, cs, ce) (by omega) (by omega) hk1 c1
          have ub := evN_u (x := x) (y := y) (z := z) (len := len) (row := I 25) (lm := lm) (s := s) (v := v) (en := en) d (k + 1) (0, u + 1, cs, ce) c1
          have e : evN x y z len (I 25) lm s v en (d + 1) k (0, u, cs, ce) = evP len (I 25) (s k) (evN x y z len (I 25) lm s v en d (k + 1) (0, u + 1, cs, ce)).1 (evN x y z len (I 25) lm s v en d (k + 1) (0, u + 1, cs, ce)).2 (evN x y z len (I 25) lm s v en d (en (k + 1))) (evN x y z len (I 25) lm s v en d (en (en (k + 1)))) := (if_neg c0).trans ((if_pos c1).trans (if_neg c2))
          rw [e]
          generalize evN x y z len (I 25) lm s v en d (k + 1) (0, u + 1, cs, ce) = q at i1 ub ⊢
          unfold fo_117 fg_117_0
          refine ev_f dl (ev_b (a := (0 : Int32)) rfl (ev_f c0 (ev_i rfl (ev_cI (c_118 (V := vup (vup V 16 11 (.int cs)) 16 12 (.int ce)) hl c1 hlm) (ev_t (by decide) (ev_b (h4' (0, u + 1, cs, ce)) (ev_i (ev_ok p1) (ev_cI g0 (ev_t (nI_le (a := 7) (by omega) (by omega)) (ev_i rfl ?_))))))))))
          rw [hx, nI_1]
          refine ev_cI i1 (ev_b (a := Value.ref 17) rfl (ev_i rfl (ev_cI (h100 q.2 (k + 1) hk1) (ev_b (a := q.2.1) rfl ?_))))
          refine c_117p (lm := lm) (n3 := en (en (k + 1))) h10 hlen (by omega) s3 ub (fun h9 st hst => ?_) (fun h9 => h100 _ _ (s5 (by omega))) (fun h9 => ?_) (fun h9 => ?_)
          · rw [hx]
            exact ih (K + 1) _ st (by omega) (by omega) (s5 h9) hst
          · rw [hx]
            exact ih (K + 1) _ _ (by omega) (by omega) (s6 h9) ub
          · show fo_121 N _ _ (.ref 16) q.1 (nI (en (k + 1))) (nI (13 - (d + 1))) _ = _
            unfold fo_121 fg_121_0
            exact c_121l (lm := lm) h10 hlen (fun st hst => evN_u d _ st hst) (fun st hst => by rw [hx]; exact ih K _ st (by omega) (by omega) (s5 (by omega)) hst) len 0 N q.1 q.2 (by omega) (by omega) ub
      · have e : evN x y z len (I 25) lm s v en (d + 1) k (0, u, cs, ce) = (0, ((3, u, cs, ce) : eSt)) := (if_neg c0).trans (if_neg c1)
        have hu' : u ≤ lm := hu
        rw [e]
        unfold fo_117 fg_117_0
        exact ev_f dl (ev_b (a := (0 : Int32)) rfl (ev_f c0 (ev_i rfl (ev_cI (c_118n (u := u) (V := vup (vup V 16 11 (.int cs)) 16 12 (.int ce)) hl (Nat.not_lt.mp c1) (Nat.le_trans hu' hlm)) (ev_f (fun e => e rfl) rfl)))))
