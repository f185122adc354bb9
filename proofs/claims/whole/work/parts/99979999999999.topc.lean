/-! ===== read: the class as a whole ===== -/
theorem hd_33_139 {N : Nat} {x0 : Value} {h : am_H} {r_ : Option am_O} (k_ : ((am_pP 2305 x0 (.int 0) h).bind fun h1 => ((am_vI (am_pG 2307 x0 h1)).bind fun v3 => some (.inl (some (.int v3), h1)))) = r_) : fg_33_139 N x0 h = r_ := k_
theorem hd_33_119 {N : Nat} {x0 : Value} {x1 : Int32} {h : am_H} {r_ : Option am_O} (k_ : ((am_vI (am_pG 2307 x0 h)).bind fun v1 => (if 0 ≤ v1 then (fg_33_139 N x0 h) else (if ¬ x1 = 2 then (fg_33_139 N x0 h) else (if am_pOk 9 x0 h then am_cI true (fm_58 N x0 h) (fun v6 h7 => ((am_pP 2307 x0 (.int v6) h7).bind fun h9 => (fg_33_139 N x0 h9))) else none)))) = r_) : fg_33_119 N x0 x1 h = r_ := k_
theorem hd_33_116 {N : Nat} {x0 : Value} {x1 : Int32} {s0 : Value} {s1 : Int32} {h : am_H} {r_ : Option am_O} (k_ : ((am_pP 2307 s0 (.int s1) h).bind fun h1 => (fg_33_119 N x0 x1 h1)) = r_) : fg_33_116 N x0 x1 s0 s1 h = r_ := k_
theorem hd_33_77 {N : Nat} {x0 : Value} {x1 : Int32} {h : am_H} {r_ : Option am_O} (k_ : ((am_vI (am_pG 2307 x0 h)).bind fun v1 => (if 0 ≤ v1 then (fg_33_119 N x0 x1 h) else (if ¬ x1 = 1 then (fg_33_119 N x0 x1 h) else ((am_vR (am_pG 2310 x0 h)).bind fun v5 => ((am_vR (am_pG 2308 x0 h)).bind fun v7 => (if am_pOk 7 v5 h then am_cI true (fm_52 N v5 v7 h) (fun v10 h11 => (if 0 ≤ v10 then ((am_vR (am_pG 2309 x0 h11)).bind fun v14 => ((am_pA 0 v14 v10 h11).bind fun v16 => (fg_33_116 N x0 x1 x0 v16 h11))) else (fg_33_116 N x0 x1 x0 ((-1)) h11))) else none)))))) = r_) : fg_33_77 N x0 x1 h = r_ := k_
theorem hd_33_55 {N : Nat} {x0 : Value} {x1 : Int32} {h : am_H} {r_ : Option am_O} (k_ : ((am_vI (am_pG 2307 x0 h)).bind fun v1 => (if 0 ≤ v1 then (fg_33_77 N x0 x1 h) else ((am_vI (am_pG 2306 x0 h)).bind fun v4 => ((am_vI (am_pG 2305 x0 h)).bind fun v6 => (if v6 ≤ v4 then (fg_33_77 N x0 x1 h) else (if am_pOk 9 x0 h then am_cV true (fm_39 x0 h) (fun h11 => (fg_33_77 N x0 x1 h11)) else none)))))) = r_) : fg_33_55 N x0 x1 h = r_ := k_
theorem hd_33_0 {N : Nat} {x0 : Value} {x1 : Int32} {x2 : Value} {h : am_H} {r_ : Option am_O} (k_ : ((am_pP 2308 x0 x2 h).bind fun h1 => ((am_vR (am_pG 2308 x0 h1)).bind fun v3 => (if am_pOk 3 v3 h1 then am_cV true (fm_34 v3 x1 0 h1) (fun h7 => ((am_pP 2306 x0 (.int 0) h7).bind fun h9 => ((am_pP 2307 x0 (.int (-1)) h9).bind fun h11 => (if ¬ x1 = 0 then (if ¬ x1 = 3 then (if am_pOk 9 x0 h11 then am_cV true (fm_48 N x0 x1 h11) (fun h17 => (fg_33_55 N x0 x1 h17)) else none) else (if am_pOk 9 x0 h11 then am_cV true (fm_46 N x0 h11) (fun h21 => (fg_33_55 N x0 x1 h21)) else none)) else (if am_pOk 9 x0 h11 then am_cV true (fm_35 N x0 0 1 0 h11) (fun h25 => (fg_33_55 N x0 x1 h25)) else none))))) else none))) = r_) : fg_33_0 N x0 x1 x2 h = r_ := k_
theorem hm_33 {N : Nat} {y0 : Value} {y1 : Int32} {y2 : Value} {h : am_H} {r_ : Option am_O} (k_ : fg_33_0 N y0 y1 y2 h = r_) : fm_33 N y0 y1 y2 h = r_ := k_

def rMp {α : Type} (r : Nat ⊕ α) (g : α → Nat × xI) : Nat ⊕ (Nat × xI) := match r with
  | .inl e => .inl e
  | .inr a => .inr (g a)
def rdP (kd : Nat) (T : Nat → Nat) (m : Nat) : Nat ⊕ (Nat × xI) := if kd = 0 then rMp (treeP T m) (fun Q => (0, tI Q)) else if kd = 1 then rMp (codeP T m) (fun Q => (0, tI Q)) else if kd = 2 then rMp (machP T m) (fun Q => (0, mIx T Q)) else rMp (netP T m) (fun Q => (T 0 - 48, tI Q))
def frPz (V W : Nat → Nat → Value) (I J : Nat → Nat → Int32) : Prop := (∀ a j, a ≠ 2 → a ≠ 167 → a ≠ 5 → W a j = V a j) ∧ (∀ y, y ≠ 168 → y ≠ 4 → y ≠ 12 → J y = I y) ∧ (wt V → wt W)
theorem frPz_t {U V W : Nat → Nat → Value} {G I J : Nat → Nat → Int32} (f : frPz U V G I) (g : frPz V W I J) : frPz U W G J := ⟨fun a j h k l => (g.1 a j h k l).trans (f.1 a j h k l), fun y h k l => (g.2.1 y h k l).trans (f.2.1 y h k l), fun h => g.2.2 (f.2.2 h)⟩
theorem frPz_z {V W : Nat → Nat → Value} {I J : Nat → Nat → Int32} (f : frCz V W I J) : frPz V W I J := ⟨fun a j h k _ => f.1 a j (fun q => h q.1) k, fun y h k _ => f.2.1 y h k, f.2.2⟩
theorem frPz_p {V W : Nat → Nat → Value} {I J : Nat → Nat → Int32} (f : frCp V W I J) : frPz V W I J := frPz_z (frCz_p f)
theorem frPz_2 {V : Nat → Nat → Value} {I : Nat → Nat → Int32} {j : Nat} {x : Int32} (h : j = 1 ∨ j = 2 ∨ j = 3) : frPz V (vup V 2 j (.int x)) I I := ⟨fun a k h1 _ _ => vup_na h1, fun _ _ _ _ => rfl, fun w => wt_i w (by rcases h with rfl | rfl | rfl <;> decide)⟩
theorem t_139 {V : Nat → Nat → Value} {I : Nat → Nat → Int32} {L : Nat → Nat → Int64} {R : Nat → Nat → Option Nat} {tl : am_H} {N : Nat} {w : Int32} (h : V 2 3 = .int w) : fg_33_139 N (.ref 2) (fx V I L R ++ tl) = some (.inl (some (.int w), fx (vup V 2 1 (.int 0)) I L R ++ tl)) := hd_33_139 (ev_b qp_2_1 (ev_b (rdI ((vup_o (by decide)).trans h)) rfl))
theorem t_bad {V : Nat → Nat → Value} {I : Nat → Nat → Int32} {L : Nat → Nat → Int64} {R : Nat → Nat → Option Nat} {tl : am_H} {N kd e : Nat} (h : V 2 3 = .int (nI e)) (he : e ≤ 240) : fg_33_77 N (.ref 2) (nI kd) (fx V I L R ++ tl) = some (.inl (some (.int (nI e)), fx (vup V 2 1 (.int 0)) I L R ++ tl)) := hd_33_77 (ev_b (rdI h) (ev_t (nI_pos' (by omega)) (hd_33_119 (ev_b (rdI h) (ev_t (nI_pos' (by omega)) (t_139 h))))))
theorem t_55b {V : Nat → Nat → Value} {I : Nat → Nat → Int32} {L : Nat → Nat → Int64} {R : Nat → Nat → Option Nat} {tl : am_H} {N kd e : Nat} (h : V 2 3 = .int (nI e)) (he : e ≤ 240) : fg_33_55 N (.ref 2) (nI kd) (fx V I L R ++ tl) = some (.inl (some (.int (nI e)), fx (vup V 2 1 (.int 0)) I L R ++ tl)) := hd_33_55 (ev_b (rdI h) (ev_t (nI_pos' (by omega)) (t_bad h he)))
theorem t_55m {V : Nat → Nat → Value} {I : Nat → Nat → Int32} {L : Nat → Nat → Int64} {R : Nat → Nat → Option Nat} {tl : am_H} {T : Nat → Nat} {m N : Nat} {x : Int32} (h : stC V I T m m (-1)) : fg_33_55 N (.ref 2) x (fx V I L R ++ tl) = fg_33_77 N (.ref 2) x (fx V I L R ++ tl) := by
  have := h.2.2.2.2.1
  exact hd_33_55 (ev_b (rdI h.2.2.1) (ev_f (by decide) (ev_b (rdI h.2.1) (ev_b (rdI h.1) (ev_t (nI_le (Nat.le_refl m) (by omega)) rfl)))))
theorem t_good {V : Nat → Nat → Value} {I : Nat → Nat → Int32} {L : Nat → Nat → Int64} {R : Nat → Nat → Option Nat} {tl : am_H} {T : Nat → Nat} {m N kd : Nat} (h : V 2 3 = .int (-1)) (h1 : kd ≠ 1) (h2 : kd ≠ 2) (h3 : kd ≤ 3) : fg_33_77 N (.ref 2) (nI kd) (fx V I L R ++ tl) = some (.inl (some (.int (-1)), fx (vup V 2 1 (.int 0)) I L R ++ tl)) := hd_33_77 (ev_b (rdI h) (ev_f (by decide) (ev_t (fun q => h1 ((nI_eq (b := 1) (by omega) (by omega)).mp q)) (hd_33_119 (ev_b (rdI h) (ev_f (by decide) (ev_t (fun q => h2 ((nI_eq (b := 2) (by omega) (by omega)).mp q)) (t_139 h))))))))
theorem hE_C {V : Nat → Nat → Value} {I : Nat → Nat → Int32} {kd ln : Nat} {P : xI} (h2 : kd ≠ 2) (k1 : V 167 1 = .int (nI kd)) (k2 : V 167 2 = .int (nI ln)) (h : prC V I P) : holdE V I 167 kd ln P := by
  refine ⟨k1, k2, h.1, ?_, ?_⟩
  · rw [show wdN kd = 2 from if_neg h2]
    exact h.2.1
  · unfold itm
    rw [if_neg h2]
    intro k hk
    have e : P[k]? = some P[k] := List.getElem?_eq_getElem hk
    obtain ⟨a1, a2⟩ := h.2.2 k _ e
    obtain ⟨b1, b2⟩ := lay2_x P k _ e
    rw [Nat.mul_comm k 2, b1, b2]
    exact ⟨a1, a2⟩
theorem hE_M {V : Nat → Nat → Value} {I : Nat → Nat → Int32} {T : Nat → Nat} {Q : xM} (k1 : V 167 1 = .int 2) (k2 : V 167 2 = .int 0) (h : prM V I T Q) (l6 : Q.length ≤ 6) (hn : lstE T Q.length Q (4 * Q.length) 0 = none) : holdE V I 167 2 0 (mIx T Q) := by
  have lm : (mIx T Q).length = Q.length := List.length_map ..
  refine ⟨k1, k2, by rw [lm]; exact h.1, h.2.1, ?_⟩
  unfold itm
  rw [if_pos rfl, lm]
  intro k hk
  obtain ⟨x, hx, g, e1, e2⟩ := mI_at (T := T) hk
  have hg := gDm (Q := Q) hk
  rw [g] at hg
  obtain ⟨a1, a2⟩ := h.2.2 k x hg
  rw [Nat.mul_comm k 5, e1, e2]
  refine ⟨a1, fun c hc => ?_⟩
  have hm := mach_e l6 hn hk hc
  rw [g] at hm
  have hv := vsum_b (T := T) (b := x.2) 4 (by omega)
  have tt := t367a (vsum T x.2 4 / 64) (by omega) (vsum T x.2 4 % 64) (by omega) c hc
  rw [show 64 * (vsum T x.2 4 / 64) + vsum T x.2 4 % 64 = vsum T x.2 4 by omega] at tt
  rw [tt, vsum_d c hc, Nat.mod_eq_of_lt (by omega), show 5 * k + (1 + c) = 5 * k + 1 + c by omega]
  exact a2 c hc
def resP (r : Nat ⊕ (Nat × xI)) (kd : Nat) (W : Nat → Nat → Value) (J : Nat → Nat → Int32) (m : Nat) (x : Int32) : Prop := match r with
  | .inl e => e ≤ m ∧ x = nI e
  | .inr a => x = -1 ∧ holdE W J 167 kd a.1 a.2
theorem hE_l {V : Nat → Nat → Value} {I : Nat → Nat → Int32} {kd ln : Nat} {P : xI} (h : holdE V I 167 kd ln P) : holdE (vup V 2 1 (.int 0)) I 167 kd ln P := ⟨(vup_na (by decide)).trans h.1, (vup_na (by decide)).trans h.2.1, (vup_na (by decide)).trans h.2.2.1, (vup_na (by decide)).trans h.2.2.2.1, h.2.2.2.2⟩
theorem cdSq_b {T : Nat → Nat} {m : Nat} : ∀ (f p : Nat) (Q : xT) (B : List Nat) (a : xT × List Nat), p ≤ m → (∀ b, b ∈ B → b ≤ m) → cdSq T m f p Q B = .inr a → ∀ b, b ∈ a.2 → b ≤ m := by
  intro f
  induction f with
  | zero => intro p Q B a _ _ h; cases h
  | succ f ih =>
    intro p Q B a hp hB h
    rw [cdSq] at h
    obtain ⟨b, e1, e2⟩ := sMt_r h
    have hx := mem_ap hB hp
    by_cases c : b.1 < m
    · rw [if_pos c] at e2
      by_cases d : T b.1 = 32
      · rw [if_pos d] at e2
        exact ih (b.1 + 1) _ _ a (by omega) hx e2
      · rw [if_neg d] at e2
        cases e2
    · rw [if_neg c] at e2
      rw [← Sum.inr.inj e2]
      exact hx
theorem lstE_s {T : Nat → Nat} {sz : Nat} {Q : xM} : ∀ (n k e : Nat), lstE T sz Q n k = some e → ∃ j, k ≤ j ∧ j < k + n ∧ e = plM Q j := by
  intro n
  induction n with
  | zero => intro k e h; cases h
  | succ n ih =>
    intro k e h
    rw [lstE] at h
    by_cases c : T (plM Q k) - 48 < sz
    · rw [if_pos c] at h
      obtain ⟨j, j1, j2, j3⟩ := ih (k + 1) e h
      exact ⟨j, by omega, by omega, j3⟩
    · rw [if_neg c] at h
      exact ⟨k, Nat.le_refl k, by omega, (Option.some.inj h).symm⟩
set_option maxRecDepth 100000 in
set_option maxHeartbeats 4000000 in
theorem c_33 {V : Nat → Nat → Value} {I : Nat → Nat → Int32} {L : Nat → Nat → Int64} {R : Nat → Nat → Option Nat} {tl : am_H} {T : Nat → Nat} {m N kd : Nat} (hN : 5000 < N) (hw : wt V) (h1 : V 2 1 = .int (nI m)) (ht : tqT T m (I 3)) (k3 : kd ≤ 3) : ∃ W J x, fm_33 N (.ref 2) (nI kd) (.ref 167) (fx V I L R ++ tl) = some (.inl (some (.int x), fx W J L R ++ tl)) ∧ frPz V W I J ∧ W 2 1 = .int 0 ∧ resP (rdP kd T m) kd W J m x := by
  have m240 := ht.1
  have hT : ∀ p, T p < 256 := tq_256 ht
  obtain ⟨V1, eV1⟩ : ∃ X, X = vup V 2 4 (.ref 167) := ⟨_, rfl⟩
  have v14 : V1 2 4 = .ref 167 := by rw [eV1]; exact vup_eq
  obtain ⟨z, ez⟩ : ∃ z : Int32, z = if nI kd = 2 then 5 else 2 := ⟨_, rfl⟩
  obtain ⟨V2, eV2⟩ : ∃ X, X = vup (vup (vup (vup V1 167 1 (.int (nI kd))) 167 2 (.int 0)) 167 3 (.int 0)) 167 4 (.int z) := ⟨_, rfl⟩
  obtain ⟨V3, eV3⟩ : ∃ X, X = vup (vup V2 2 2 (.int (nI 0))) 2 3 (.int (-1)) := ⟨_, rfl⟩
  have v2 : ∀ j, V2 2 j = V1 2 j := fun j => by rw [eV2, vup_na (by decide), vup_na (by decide), vup_na (by decide), vup_na (by decide)]
  have s3 : stC V3 I T m 0 (-1) := by
    refine ⟨?_, ?_, ?_, ?_, ht⟩
    · rw [eV3, vup_o (by decide), vup_o (by decide), v2, eV1, vup_o (by decide)]
      exact h1
    · rw [eV3, vup_o (by decide)]
      exact vup_eq
    · rw [eV3]
      exact vup_eq
    · rw [eV3, vup_o (by decide), vup_o (by decide), v2]
      exact v14
  have k1 : V3 167 1 = .int (nI kd) := by rw [eV3, vup_na (by decide), vup_na (by decide), eV2, vup_o (by decide), vup_o (by decide), vup_o (by decide)]; exact vup_eq
  have k2 : V3 167 2 = .int 0 := by rw [eV3, vup_na (by decide), vup_na (by decide), eV2, vup_o (by decide), vup_o (by decide)]; exact vup_eq
  have k3' : V3 167 3 = .int 0 := by rw [eV3, vup_na (by decide), vup_na (by decide), eV2, vup_o (by decide)]; exact vup_eq
  have k4 : V3 167 4 = .int z := by rw [eV3, vup_na (by decide), vup_na (by decide), eV2]; exact vup_eq
  have f3 : frPz V V3 I I := by
    refine ⟨fun a j h h' _ => by rw [eV3, vup_na h, vup_na h, eV2, vup_na h', vup_na h', vup_na h', vup_na h', eV1, vup_na h], fun _ _ _ _ => rfl, fun w => ?_⟩
    rw [eV3, eV2, eV1]
    exact wt_i (wt_i (wt_i (wt_i (wt_i (wt_i (wt_o (by decide) (by decide) w) (by decide)) (by decide)) (by decide)) (by decide)) (by decide)) (by decide)
  have w3 : wt V3 := f3.2.2 hw
  have pre : ∀ o, (if ¬ nI kd = 0 then (if ¬ nI kd = 3 then (if am_pOk 9 (.ref 2) (fx V3 I L R ++ tl) then am_cV true (fm_48 N (.ref 2) (nI kd) (fx V3 I L R ++ tl)) (fun h17 => (fg_33_55 N (.ref 2) (nI kd) h17)) else none) else (if am_pOk 9 (.ref 2) (fx V3 I L R ++ tl) then am_cV true (fm_46 N (.ref 2) (fx V3 I L R ++ tl)) (fun h21 => (fg_33_55 N (.ref 2) (nI kd) h21)) else none)) else (if am_pOk 9 (.ref 2) (fx V3 I L R ++ tl) then am_cV true (fm_35 N (.ref 2) 0 1 0 (fx V3 I L R ++ tl)) (fun h25 => (fg_33_55 N (.ref 2) (nI kd) h25)) else none)) = o → fm_33 N (.ref 2) (nI kd) (.ref 167) (fx V I L R ++ tl) = o := fun o k_ => by
    apply hm_33
    apply hd_33_0
    refine ev_b (a := fx V1 I L R ++ tl) (by rw [eV1]; exact qp_2_4) (ev_b (a := Value.ref 167) (rVR qv_2_4 v14) (ev_i rfl (ev_cV (d_34 (nI kd) 0) ?_)))
    rw [← ez, ← eV2]
    exact ev_b (a := fx (vup V2 2 2 (.int (nI 0))) I L R ++ tl) qp_2_2 (ev_b (a := fx V3 I L R ++ tl) (by rw [eV3]; exact qp_2_3) k_)
  have fin : ∀ {W : Nat → Nat → Value} {J : Nat → Nat → Int32}, frPz V3 W I J → frPz V (vup W 2 1 (.int 0)) I J := fun f => frPz_t f3 (frPz_t f (frPz_2 (.inl rfl)))
  have P0 : kd ≠ 2 → prC V3 I [] := fun hk => ⟨k3', by rw [k4, ez, if_neg (show ¬ nI kd = 2 from fun q => hk ((nI_eq (b := 2) (by omega) (by omega)).mp q))], fun k x hx => absurd hx (by simp)⟩
  unfold rdP
  rcases (by omega : kd = 0 ∨ kd = 1 ∨ kd = 2 ∨ kd = 3) with rfl | rfl | rfl | rfl
  · -- trees
    rw [if_pos rfl]
    obtain ⟨W, J, e4, f4, r4⟩ := c_35 (L := L) (R := R) (tl := tl) (T := T) (m := m) (N := N) (by omega) 12 40 V3 I 0 [] 0 0 (by omega) (by omega) (by omega) (by omega) (Nat.zero_le m) s3 (P0 (by decide)) (Nat.zero_le _)
    have e35 : fm_35 N (.ref 2) 0 1 0 (fx V3 I L R ++ tl) = some (.inl (none, fx W J L R ++ tl)) := e4
    have go : ∀ o, fg_33_55 N (.ref 2) (nI 0) (fx W J L R ++ tl) = o → fm_33 N (.ref 2) (nI 0) (.ref 167) (fx V I L R ++ tl) = o := fun o k_ => pre _ (ev_f (fun q => q rfl) (ev_i rfl (ev_cV e35 k_)))
    unfold treeP
    cases q : pN T 12 0 0 0 [] with
    | inl e =>
      rw [q] at r4
      obtain ⟨em, p', hp', s4⟩ := r4
      exact ⟨_, J, nI e, go _ (t_55b s4.2.2.1 (by omega)), fin (frPz_p f4), vup_eq, em, rfl⟩
    | inr a =>
      rw [q] at r4
      obtain ⟨em, s4, P4, l4⟩ := r4
      show ∃ W J x, _ ∧ _ ∧ _ ∧ resP (rMp (if a.1 < m then .inl a.1 else .inr a.2) (fun Q => (0, tI Q))) 0 W J m x
      by_cases c : a.1 < m
      · rw [if_pos c]
        have s5 := stC_w (x := nI a.1) s4
        refine ⟨_, J, nI a.1, go _ (hd_33_55 (ev_b (rdI s4.2.2.1) (ev_f (by decide) (ev_b (rdI s4.2.1) (ev_b (rdI s4.1) (ev_f (nI_ge c (by omega)) (ev_i rfl (ev_cV (c_39 s4) (t_bad s5.2.2.1 (by omega)))))))))), fin (frPz_t (frPz_p f4) (frPz_2 (.inr (.inr rfl)))), vup_eq, em, rfl⟩
      · rw [if_neg c]
        have ea : a.1 = m := by omega
        rw [ea] at s4
        refine ⟨_, J, -1, go _ ((t_55m s4).trans (t_good (T := T) (m := m) s4.2.2.1 (by decide) (by decide) (by omega))), fin (frPz_p f4), vup_eq, rfl, hE_l (hE_C (by decide) ((f4.1 167 1 (by omega)).trans k1) ((f4.1 167 2 (by omega)).trans k2) P4)⟩
  · -- code
    rw [if_neg (by decide), if_pos rfl]
    obtain ⟨M, rfl⟩ : ∃ M, N = M + 1 := ⟨N - 1, by omega⟩
    obtain ⟨W, J, e4, f4, r4⟩ := c_48l (L := L) (R := R) (tl := tl) (T := T) (m := m) (N := M + 1) (by omega) 60 0 M V3 I 0 [] [] (by omega) rfl rfl (by omega) (Nat.zero_le m) s3 (P0 (by decide)) (fun j b hb => absurd hb (by simp))
    have e48 : fm_48 (M + 1) (.ref 2) (nI 1) (fx V3 I L R ++ tl) = some (.inl (none, fx W J L R ++ tl)) := hm_48 (hd_48_0 (ev_f (fun q => q rfl) (hd_48_12 (hd_48_15 (ev_f (by decide) (ev_b (rdI s3.2.2.1) (ev_f (by decide) (ev_t rfl (hd_48_42 (ev_t (by decide) e4))))))))))
    have go : ∀ o, fg_33_55 (M + 1) (.ref 2) (nI 1) (fx W J L R ++ tl) = o → fm_33 (M + 1) (.ref 2) (nI 1) (.ref 167) (fx V I L R ++ tl) = o := fun o k_ => pre _ (ev_t (by decide) (ev_t (by decide) (ev_i rfl (ev_cV e48 k_))))
    unfold codeP
    cases q : cdSq T m 60 0 [] [] with
    | inl e =>
      rw [q] at r4
      obtain ⟨em, p', hp', s4⟩ := r4
      exact ⟨_, J, nI e, go _ (t_55b s4.2.2.1 (by omega)), fin (frPz_p f4), vup_eq, em, rfl⟩
    | inr a =>
      rw [q] at r4
      obtain ⟨s4, P4, l4, S4⟩ := r4
      obtain ⟨i4, l1, l60, lB⟩ := cdSq_ok hT 60 0 [] [] a (fun x hx => by cases hx) (by show 0 + 60 ≤ 60; omega) rfl q
      have hE := hE_C (ln := 0) (by decide) ((f4.1 167 1 (by omega)).trans k1) ((f4.1 167 2 (by omega)).trans k2) P4
      have hh : hold W J 167 1 0 a.1 := (hold_E (by decide)).mpr hE
      obtain ⟨F, e5, q5⟩ := k_52_5 (V := W) (I := J) (L := L) (R := R) (tl := tl) (N := M + 1) (by omega) (srcP_167 (L := L) (R := R) (f4.2.2 w3) hh (by omega) (by omega) l60) (by decide) (by decide) (code_okI i4)
      rw [if_neg (by omega)] at e5
      have q6 := q5 (by omega)
      obtain ⟨W2, eW2⟩ : ∃ X, X = vup W 5 7 (.int (nI a.1.length)) := ⟨_, rfl⟩
      obtain ⟨J2, eJ2⟩ : ∃ X, X = iup J 12 F := ⟨_, rfl⟩
      rw [← eW2, ← eJ2] at e5
      have f5 : frPz W W2 J J2 := ⟨fun a j _ _ h5 => by rw [eW2]; exact vup_na h5, fun y _ _ h => by rw [eJ2]; exact iup_na h, fun w => by rw [eW2]; exact wt_i w (by decide)⟩
      have w23 : W2 2 3 = .int (-1) := by rw [eW2, vup_na (by decide)]; exact s4.2.2.1
      show ∃ W J x, _ ∧ _ ∧ _ ∧ resP (rMp (match cdX (tI a.1) a.1.length 0 g00 with | .inl k => .inl (a.2.getD k 0) | .inr _ => .inr a.1) (fun Q => (0, tI Q))) 1 W J m x
      have to52 : ∀ o, (if 0 ≤ cdI (cdX (tI a.1) a.1.length 0 g00) then ((am_vR (am_pG 2309 (.ref 2) (fx W2 J2 L R ++ tl))).bind fun v14 => ((am_pA 0 v14 (cdI (cdX (tI a.1) a.1.length 0 g00)) (fx W2 J2 L R ++ tl)).bind fun v16 => (fg_33_116 (M + 1) (.ref 2) (nI 1) (.ref 2) v16 (fx W2 J2 L R ++ tl)))) else (fg_33_116 (M + 1) (.ref 2) (nI 1) (.ref 2) ((-1)) (fx W2 J2 L R ++ tl))) = o → fm_33 (M + 1) (.ref 2) (nI 1) (.ref 167) (fx V I L R ++ tl) = o := fun o k_ => go _ ((t_55m s4).trans (hd_33_77 (ev_b (rdI s4.2.2.1) (ev_f (by decide) (ev_f (fun q => q rfl) (ev_b (rdR rfl) (ev_b (a := Value.ref 167) (rVR qv_2_4 s4.2.2.2.1) (ev_i rfl (ev_cI e5 k_)))))))))
      cases qx : cdX (tI a.1) a.1.length 0 g00 with
      | inl k =>
        rw [qx] at q6 to52
        have kl : k < a.1.length := q6
        have eB : a.2[k]? = some (a.2.getD k 0) := by
          rw [List.getD_eq_getElem?_getD, List.getElem?_eq_getElem (by omega)]
          rfl
        have g4 : am_pA 0 (.ref 4) (nI k) (fx W2 J2 L R ++ tl) = some (nI (a.2.getD k 0)) := (qa_4 (by omega)).trans (congrArg some (by rw [eJ2, iup_na (by decide)]; exact S4 k _ eB))
        have hbm : a.2.getD k 0 ≤ m := cdSq_b 60 0 [] [] a (Nat.zero_le m) (fun b hb => by cases hb) q _ (List.mem_of_getElem? eB)
        have kk : k < 60 := by omega
        exact ⟨_, J2, nI (a.2.getD k 0), to52 _ (ev_t (show (0 : Int32) ≤ nI k from nI_pos' (by omega)) (ev_b (rdR rfl) (ev_b g4 (hd_33_116 (ev_b qp_2_3 (hd_33_119 (ev_b (rdI vup_eq) (ev_t (nI_pos' (by omega)) (t_139 vup_eq))))))))), fin (frPz_t (frPz_p f4) (frPz_t f5 (frPz_2 (.inr (.inr rfl))))), vup_eq, hbm, rfl⟩
      | inr g =>
        rw [qx] at to52
        refine ⟨_, J2, -1, to52 _ (ev_f (show ¬ (0 : Int32) ≤ -1 by decide) (hd_33_116 (ev_b qp_2_3 (hd_33_119 (ev_b (rdI vup_eq) (ev_f (by decide) (ev_t (by decide) (t_139 vup_eq)))))))), fin (frPz_t (frPz_p f4) (frPz_t f5 (frPz_2 (.inr (.inr rfl))))), vup_eq, rfl, ?_⟩
        refine hE_l ⟨?_, ?_, ?_, ?_, ?_⟩
        · rw [vup_na (by decide), eW2, vup_na (by decide)]; exact hE.1
        · rw [vup_na (by decide), eW2, vup_na (by decide)]; exact hE.2.1
        · rw [vup_na (by decide), eW2, vup_na (by decide)]; exact hE.2.2.1
        · rw [vup_na (by decide), eW2, vup_na (by decide)]; exact hE.2.2.2.1
        · rw [eJ2, iup_na (by decide)]; exact hE.2.2.2.2
  · -- machines
    rw [if_neg (by decide), if_neg (by decide), if_pos rfl]
    obtain ⟨M, rfl⟩ : ∃ M, N = M + 1 := ⟨N - 1, by omega⟩
    have P0' : prM V3 I T [] := ⟨k3', by rw [k4, ez]; rfl, fun k x hx => absurd hx (by simp)⟩
    obtain ⟨W, J, e4, f4, r4⟩ := c_48m (L := L) (R := R) (tl := tl) (T := T) (m := m) (N := M + 1) (by omega) 6 0 M V3 I 0 [] (by omega) rfl (by omega) (Nat.zero_le m) s3 P0' (fun k x hx => absurd hx (by simp))
    have e48 : fm_48 (M + 1) (.ref 2) (nI 2) (fx V3 I L R ++ tl) = some (.inl (none, fx W J L R ++ tl)) := hm_48 (hd_48_0 (ev_t (by decide) (hd_48_12 (hd_48_15 (ev_f (by decide) (ev_b (rdI s3.2.2.1) (ev_f (by decide) (ev_t rfl (hd_48_42 (ev_t (by decide) e4))))))))))
    have go : ∀ o, fg_33_55 (M + 1) (.ref 2) (nI 2) (fx W J L R ++ tl) = o → fm_33 (M + 1) (.ref 2) (nI 2) (.ref 167) (fx V I L R ++ tl) = o := fun o k_ => pre _ (ev_t (by decide) (ev_t (by decide) (ev_i rfl (ev_cV e48 k_))))
    unfold machP
    cases q : mcSq T m 6 0 [] with
    | inl e =>
      rw [q] at r4
      obtain ⟨em, p', hp', s4⟩ := r4
      exact ⟨_, J, nI e, go _ (t_55b s4.2.2.1 (by omega)), fin (frPz_p f4), vup_eq, em, rfl⟩
    | inr Q =>
      rw [q] at r4
      obtain ⟨s4, P4, l1, l6, S4⟩ := r4
      have iM := mcSq_ok 6 0 [] Q (fun x hx => by cases hx) q
      have e58 : fm_58 (M + 1) (.ref 2) (fx W J L R ++ tl) = _ := hm_58 (hd_58_0 (c_58 (V := W) (I := J) (L := L) (R := R) (tl := tl) (N := M + 1) s4.2.2.2.1 P4 S4 hT l6 (4 * Q.length) 0 (M + 1) (by omega) (by omega)))
      have to58 : ∀ o, ((am_pP 2307 (.ref 2) (.int (match lstE T Q.length Q (4 * Q.length) 0 with | none => -1 | some e => nI e)) (fx W J L R ++ tl)).bind fun h9 => (fg_33_139 (M + 1) (.ref 2) h9)) = o → fm_33 (M + 1) (.ref 2) (nI 2) (.ref 167) (fx V I L R ++ tl) = o := fun o k_ => go _ ((t_55m s4).trans (hd_33_77 (ev_b (rdI s4.2.2.1) (ev_f (by decide) (ev_t (by decide) (hd_33_119 (ev_b (rdI s4.2.2.1) (ev_f (by decide) (ev_f (fun q => q rfl) (ev_i rfl (ev_cI e58 k_)))))))))))
      show ∃ W J x, _ ∧ _ ∧ _ ∧ resP (rMp (match lstE T Q.length Q (4 * Q.length) 0 with | some e => .inl e | none => .inr Q) (fun Q => (0, mIx T Q))) 2 W J m x
      cases ql : lstE T Q.length Q (4 * Q.length) 0 with
      | some e =>
        rw [ql] at to58
        obtain ⟨j, j1, j2, ej⟩ := lstE_s _ _ _ ql
        have em : e ≤ m := by
          have hg := gDm (Q := Q) (k := j / 4) (by omega)
          have := (iM _ (List.mem_of_getElem? hg)).2 (j % 4) (by omega)
          have := dgB_t.mp this
          have := tq_m ht (p := (Q.getD (j / 4) (0, 0)).2 + j % 4) (by omega)
          unfold plM at ej
          omega
        exact ⟨_, J, nI e, to58 _ (ev_b qp_2_3 (t_139 vup_eq)), fin (frPz_t (frPz_p f4) (frPz_2 (.inr (.inr rfl)))), vup_eq, em, rfl⟩
      | none =>
        rw [ql] at to58
        refine ⟨_, J, -1, to58 _ (ev_b qp_2_3 (t_139 vup_eq)), fin (frPz_t (frPz_p f4) (frPz_2 (.inr (.inr rfl)))), vup_eq, rfl, ?_⟩
        have hM := hE_M ((f4.1 167 1 (by omega)).trans k1) ((f4.1 167 2 (by omega)).trans k2) P4 l6 ql
        exact hE_l ⟨(vup_na (by decide)).trans hM.1, (vup_na (by decide)).trans hM.2.1, (vup_na (by decide)).trans hM.2.2.1, (vup_na (by decide)).trans hM.2.2.2.1, hM.2.2.2.2⟩
  · -- nets
    rw [if_neg (by decide), if_neg (by decide), if_neg (by decide)]
    obtain ⟨W, J, e4, f4, r4, n4⟩ := c_46 (V := V3) (I := I) (L := L) (R := R) (tl := tl) (N := N) (by omega) s3
    have go : ∀ o, fg_33_55 N (.ref 2) (nI 3) (fx W J L R ++ tl) = o → fm_33 N (.ref 2) (nI 3) (.ref 167) (fx V I L R ++ tl) = o := fun o k_ => pre _ (ev_t (by decide) (ev_f (fun q => q rfl) (ev_i rfl (ev_cV e4 k_))))
    cases q : netP T m with
    | inl e =>
      rw [q] at r4
      obtain ⟨em, p', hp', s4⟩ := r4
      exact ⟨_, J, nI e, go _ (t_55b s4.2.2.1 (by omega)), fin (frPz_z f4), vup_eq, em, rfl⟩
    | inr P =>
      rw [q] at r4
      obtain ⟨s4, P4, l4⟩ := r4
      obtain ⟨n1, n2, -, -⟩ := n4 P q
      exact ⟨_, J, -1, go _ ((t_55m s4).trans (t_good (T := T) (m := m) s4.2.2.1 (by decide) (by decide) (by omega))), fin (frPz_z f4), vup_eq, rfl, hE_l (hE_C (by decide) n1 n2 P4)⟩
