/-! ===== equal(a, b): two nets, the reference ===== -/
/-- the desk and the pile alone have changed -/
def frE (V W : Nat → Nat → Value) (I J : Nat → Nat → Int32) : Prop := (∀ a j, ¬ (a = 174 ∧ (j = 13 ∨ j = 14 ∨ j = 15)) → W a j = V a j) ∧ (∀ y, y ≠ 186 → y ≠ 187 → y ≠ 194 → J y = I y) ∧ (wt V → wt W)
theorem frE_r {V : Nat → Nat → Value} {I : Nat → Nat → Int32} : frE V V I I := ⟨fun _ _ _ => rfl, fun _ _ _ _ => rfl, fun h => h⟩
theorem frE_t {V W X : Nat → Nat → Value} {I J K : Nat → Nat → Int32} (h1 : frE V W I J) (h2 : frE W X J K) : frE V X I K := ⟨fun a j h => (h2.1 a j h).trans (h1.1 a j h), fun y a b c => (h2.2.1 y a b c).trans (h1.2.1 y a b c), fun h => h2.2.2 (h1.2.2 h)⟩
theorem frE_d {V : Nat → Nat → Value} {I : Nat → Nat → Int32} {kd ln sz b : Nat} {g : Nat → Int32} : frE V (dkV V kd ln sz) I (iup (dkI I b sz) 194 g) := by
  refine ⟨fun a j h => ?_, fun y h1 h2 h3 => ?_, fun h => (keep_dk (I := I) (b := b)).2.2 h⟩
  · unfold dkV
    rw [vup_o (fun e => h ⟨e.1, .inr (.inr e.2)⟩), vup_o (fun e => h ⟨e.1, .inr (.inl e.2)⟩), vup_o (fun e => h ⟨e.1, .inl e.2⟩)]
  · unfold dkI
    rw [iup_na h3, iup_na h2, iup_na h1]
theorem frE_k {V W : Nat → Nat → Value} {I J : Nat → Nat → Int32} (h : frE V W I J) : keep V W I J := by
  refine ⟨fun a j hj => h.1 a j (fun e => ?_), fun y hy => ?_, h.2.2⟩
  · obtain ⟨rfl, e⟩ := e
    have := vr_174 hj
    omega
  · have key : ∀ y, y ∈ iRel → y ≠ 186 ∧ y ≠ 187 ∧ y ≠ 194 := by decide
    obtain ⟨k1, k2, k3⟩ := key y hy
    exact h.2.1 y k1 k2 k3
/-- a net among the reference's births -/
def ntB (I : Nat → Nat → Int32) (b ln sz : Nat) (s v : Nat → Nat) : Prop := b < 600 ∧ I 175 b = nI 3 ∧ I 176 b = nI sz ∧ I 177 b = nI ln ∧ ∀ k, k < sz → I 184 (60 * b + k) = nI (s k) ∧ I 185 (60 * b + k) = nI (v k)
theorem ntB_f {V W : Nat → Nat → Value} {I J : Nat → Nat → Int32} {b ln sz : Nat} {s v : Nat → Nat} (h : frE V W I J) (hb : ntB I b ln sz s v) : ntB J b ln sz s v := by
  unfold ntB
  rw [h.2.1 175 (by decide) (by decide) (by decide), h.2.1 176 (by decide) (by decide) (by decide), h.2.1 177 (by decide) (by decide) (by decide), h.2.1 184 (by decide) (by decide) (by decide), h.2.1 185 (by decide) (by decide) (by decide)]
  exact hb
/-- a net is loaded and run on bits -/
theorem r_nb {V : Nat → Nat → Value} {I : Nat → Nat → Int32} {L : Nat → Nat → Int64} {R : Nat → Nat → Option Nat} {tl : am_H} {N b ln sz x : Nat} {s v : Nat → Nat} (hN : 5000 < N) (ho : ntO ln sz s v) (hb : ntB I b ln sz s v) (hx : x < 2 ^ ln) : ∃ g, fm_359 N (.ref 174) (nI b) (fx V I L R ++ tl) = some (.inl (none, fx (dkV V 3 ln sz) (dkI I b sz) L R ++ tl)) ∧ fm_571 N (.ref 174) (nI x) (fx (dkV V 3 ln sz) (dkI I b sz) L R ++ tl) = some (.inl (some (.int (nI (soB s v sz 0 x))), fx (dkV V 3 ln sz) (iup (dkI I b sz) 194 g) L R ++ tl)) := by
  obtain ⟨b1, b2, b3, b4, b5⟩ := hb
  have h40 := ho.2.2.1
  obtain ⟨g, e⟩ := r_571 (V := dkV V 3 ln sz) (I := dkI I b sz) (L := L) (R := R) (tl := tl) hN ho (by show vup _ 174 15 _ 174 14 = _; rw [vup_v (by omega), vup_eq]) vup_eq (fun k hk => ⟨(ldr_at hk).trans (b5 k hk).1, (ldr_at hk).trans (b5 k hk).2⟩) hx (dkI I b sz 194)
  rw [iup_self] at e
  exact ⟨g, r_359 (by omega) b1 (by omega) b2 b3 b4, e⟩
set_option maxRecDepth 100000 in
set_option maxHeartbeats 1600000 in
theorem r_570l {L : Nat → Nat → Int64} {R : Nat → Nat → Option Nat} {tl : am_H} {N a b ln sz sz' : Nat} {s v s' v' : Nat → Nat} (hN : 5000 < N) (ho : ntO ln sz s v) (ho' : ntO ln sz' s' v') : ∀ (m x K : Nat) (V : Nat → Nat → Value) (I : Nat → Nat → Int32), x + m = 2 ^ ln → m < K → ntB I a ln sz s v → ntB I b ln sz' s' v' → match nFs (nDf s v sz s' v' sz' ln) m x with
    | none => ∃ W J, frE V W I J ∧ fg_570_2 N K (.ref 174) (nI a) (nI b) (nI x) (fx V I L R ++ tl) = some (.inl (some (.int 1), fx W J L R ++ tl))
    | some y => ∃ W J g, frE V W I J ∧ wnI ln y ln g ∧ fg_570_2 N K (.ref 174) (nI a) (nI b) (nI x) (fx V I L R ++ tl) = some (.inl (some (.int 0), fx W (iup J 254 g) L R ++ tl)) := by
  have o3 := ho.2.1
  have o1 := ho.1
  have l8 := p8l o3
  intro m
  induction m with
  | zero =>
    intro x K V I hx hK hA hB
    obtain ⟨K, rfl⟩ : ∃ k, K = k + 1 := ⟨K - 1, by omega⟩
    refine ⟨V, I, frE_r, ?_⟩
    rw [fg_570_2]
    refine ev_b (a := Value.ref 177) rfl (ev_b (a := nI ln) ((qa_177 hA.1).trans (congrArg some hA.2.2.2.1)) ?_)
    rw [sh_n ln (by omega)]
    exact ev_t (nI_le (by omega) (by omega)) rfl
  | succ m ih =>
    intro x K V I hx hK hA hB
    obtain ⟨K, rfl⟩ : ∃ k, K = k + 1 := ⟨K - 1, by omega⟩
    have xl : x < 2 ^ ln := by omega
    obtain ⟨g1, a1, a2⟩ := r_nb (V := V) (I := I) (L := L) (R := R) (tl := tl) hN ho hA xl
    have f1 : frE V (dkV V 3 ln sz) I (iup (dkI I a sz) 194 g1) := frE_d
    obtain ⟨V1, hV1⟩ : ∃ V1, V1 = dkV V 3 ln sz := ⟨_, rfl⟩
    obtain ⟨J1, hJ1⟩ : ∃ J1, J1 = iup (dkI I a sz) 194 g1 := ⟨_, rfl⟩
    have v1 : V1 174 15 = .int (nI ln) := by rw [hV1]; exact vup_eq
    rw [← hV1, ← hJ1] at f1
    rw [← hV1] at a1 a2
    rw [← hJ1] at a2
    obtain ⟨g2, c1, c2⟩ := r_nb (V := V1) (I := J1) (L := L) (R := R) (tl := tl) hN ho' (ntB_f f1 hB) xl
    have f2 : frE V1 (dkV V1 3 ln sz') J1 (iup (dkI J1 b sz') 194 g2) := frE_d
    obtain ⟨V2, hV2⟩ : ∃ V2, V2 = dkV V1 3 ln sz' := ⟨_, rfl⟩
    obtain ⟨J2, hJ2⟩ : ∃ J2, J2 = iup (dkI J1 b sz') 194 g2 := ⟨_, rfl⟩
    have v2 : V2 174 15 = .int (nI ln) := by rw [hV2]; exact vup_eq
    rw [← hV2, ← hJ2] at f2
    rw [← hV2] at c1 c2
    rw [← hJ2] at c2
    have fr := frE_t f1 f2
    have z := p8 o3 (soB_lt ho sz 0 x (by omega) xl)
    have z' := p8 o3 (soB_lt ho' sz' 0 x (by omega) xl)
    have head : ∀ o, (if ¬ nI (bt (soB s v sz 0 x) ((ln - 1) / 2)) = nI (bt (soB s' v' sz' 0 x) ((ln - 1) / 2)) then (if am_pOk 12 (.ref 174) (fx V2 J2 L R ++ tl) then am_cV true (fm_569 N (.ref 174) (fx V2 J2 L R ++ tl)) (fun h29 => ((am_vR (am_pG 3195 (.ref 174) h29)).bind fun v31 => ((am_vI (am_pG 3087 (.ref 174) h29)).bind fun v33 => ((am_pS 0 v31 3 v33 h29).bind fun h35 => (fg_570_87 N N (.ref 174) (nI x) 0 h35))))) else none) else (fg_570_2 N K (.ref 174) (nI a) (nI b) (nI (x + 1)) (fx V2 J2 L R ++ tl))) = o → fg_570_2 N (K + 1) (.ref 174) (nI a) (nI b) (nI x) (fx V I L R ++ tl) = o := fun o hO => by
      rw [fg_570_2]
      refine ev_b (a := Value.ref 177) rfl (ev_b (a := nI ln) ((qa_177 hA.1).trans (congrArg some hA.2.2.2.1)) ?_)
      rw [sh_n ln (by omega), nI_1]
      refine ev_f (nI_ge (by omega) (by omega)) (ev_i rfl (ev_cV a1 (ev_i rfl (ev_cI a2 (ev_b (rdI v1) (ev_i rfl (ev_cV c1 (ev_i rfl (ev_cI c2 (ev_b (rdI v2) ?_))))))))))
      rw [mid_t ln (by omega) (by omega), bt_r _ z _ (by omega), bt_r _ z' _ (by omega)]
      exact hO
    have b1 := bt_lt (soB s v sz 0 x) ((ln - 1) / 2)
    have b2 := bt_lt (soB s' v' sz' 0 x) ((ln - 1) / 2)
    by_cases c : nDf s v sz s' v' sz' ln x = true
    · have cn := of_decide_eq_true c
      rw [nFs, if_pos c]
      obtain ⟨g3, d1, d2⟩ := r_569 (V := V2) (I := J2) (L := L) (R := R) (tl := tl) (N := N) (by omega)
      obtain ⟨g4, d3, d4⟩ := r_570w (V := V2) (I := J2) (L := L) (R := R) (tl := tl) (N := N) (x := x) v2 o3 (by omega) ln 0 N (upd g3 3 (nI ln)) (by omega) (by omega) (wn_0 d1)
      refine ⟨V2, J2, g4, fr, d3, head _ (ev_t (fun e => cn ((nI_eq (by omega) (by omega)).mp e)) (ev_i rfl (ev_cV d2 (ev_b (a := Value.ref 254) rfl (ev_b (rdI v2) (ev_b (a := fx V2 (iup J2 254 (upd g3 3 (nI ln))) L R ++ tl) ((qs_254 (k := 3) (by omega)).trans (by rw [iup_eq, iup_iup])) d4))))))⟩
    · have cn : bt (soB s v sz 0 x) ((ln - 1) / 2) = bt (soB s' v' sz' 0 x) ((ln - 1) / 2) := by
        by_cases h : bt (soB s v sz 0 x) ((ln - 1) / 2) = bt (soB s' v' sz' 0 x) ((ln - 1) / 2)
        · exact h
        · exact absurd (decide_eq_true h) c
      rw [nFs, if_neg c]
      have q := ih (x + 1) K V2 J2 (by omega) (by omega) (ntB_f fr hA) (ntB_f fr hB)
      have tr : fg_570_2 N (K + 1) (.ref 174) (nI a) (nI b) (nI x) (fx V I L R ++ tl) = fg_570_2 N K (.ref 174) (nI a) (nI b) (nI (x + 1)) (fx V2 J2 L R ++ tl) := head _ (ev_f (fun e => e (by rw [cn])) rfl)
      rw [tr]
      cases e : nFs (nDf s v sz s' v' sz' ln) m (x + 1) with
      | none =>
        rw [e] at q
        obtain ⟨W, J, w1, w2⟩ := q
        exact ⟨W, J, frE_t fr w1, w2⟩
      | some y =>
        rw [e] at q
        obtain ⟨W, J, g, w1, w2, w3⟩ := q
        exact ⟨W, J, g, frE_t fr w1, w2, w3⟩
