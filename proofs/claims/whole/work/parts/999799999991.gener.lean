/-! ===== a generation ===== -/
theorem srtd_pl {bt : Nat → Nat → Bool} {x : Nat} {g : Nat → Nat} (hs : sto bt) (h : srtd bt x g) : ∀ y, y ≤ x → ∃ j, j ≤ y ∧ (∀ k, k < j → bt (g k) x = true) ∧ ∀ k, j ≤ k → k < y → bt x (g k) = true := by
  intro y
  induction y with
  | zero => intro _; exact ⟨0, Nat.le_refl 0, fun k hk => absurd hk (by omega), fun k _ hk => absurd hk (by omega)⟩
  | succ y ih =>
    intro hy
    obtain ⟨j, j1, j2, j3⟩ := ih (by omega)
    have gl := h.1 y (by omega)
    rcases hs.2.2 (g y) x (by omega) with q | q
    · refine ⟨y + 1, Nat.le_refl _, fun k hk => ?_, fun k a b => absurd b (by omega)⟩
      by_cases z : k = y
      · rw [z]; exact q
      · exact hs.2.1 _ _ _ (h.2 k y (by omega) (by omega)) q
    · refine ⟨j, by omega, j2, fun k a b => ?_⟩
      by_cases z : k = y
      · rw [z]; exact q
      · exact j3 k a (by omega)
theorem srtd_ex {bt : Nat → Nat → Bool} (hs : sto bt) : ∀ x, ∃ g, srtd bt x g := by
  intro x
  induction x with
  | zero => exact ⟨fun x => x, fun k hk => absurd hk (by omega), fun k l _ hl => absurd hl (by omega)⟩
  | succ x ih =>
    obtain ⟨g, hg⟩ := ih
    obtain ⟨j, j1, j2, j3⟩ := srtd_pl hs hg x (Nat.le_refl x)
    exact ⟨_, srtd_ins hs hg j1 j3 j2⟩
/-- a generation: what is looked up, and the children -/
def gnT (c e T ch r3 kd m lm : Nat) (Φ : Nat → (Nat → Nat → Value) → (Nat → Nat → Int32) → (Nat → Nat → Int64) → Int64 → (Nat → Nat) → Prop) (n : Nat) (Vg : Nat → Nat → Value) (Ig : Nat → Nat → Int32) (Lg : Nat → Nat → Int64) (st : Int64) (bm : Nat → Nat) : Prop := ∃ Ob F rk, oB Ig lm n m Ob ∧ scK Ig m F ∧ srtd (btr (fun x => ctN Ig 0 (Ob (bm x)) m) (fun x => szB Ig (bm x)) bm) c rk ∧ gnS ch T c (snN Ig m) r3 kd e (fun x r => enR Ig F (Ob (bm x)) r) (btr (fun x => ctN Ig 0 (Ob (bm x)) m) (fun x => szB Ig (bm x)) bm) (frB (fun x => ctN Ig 0 (Ob (bm x)) m) (fun x => szB Ig (bm x)) c) bm rk Φ c 0 n Vg Ig Lg st bm
/-- the class between two generations -/
def cI (i c n : Nat) (st : Int64) (bm : Nat → Nat) (m lm T r3 ch : Nat) (V : Nat → Nat → Value) (I : Nat → Nat → Int32) (L : Nat → Nat → Int64) (Ig : Nat → Nat → Int32) : Prop := V 0 1 = .int (nI n) ∧ V (40 + 9 * i) 0 = .int (nI c) ∧ V (42 + 9 * i) 0 = .long st ∧ (∀ x, x < c → I (41 + 9 * i) x = nI (bm x)) ∧ wt V ∧ csK V I Ig m ∧ V 16 0 = .int (nI lm) ∧ I 38 2 = nI T ∧ I 38 3 = nI r3 ∧ I 38 4 = nI ch ∧ L 77 = tW ∧ L 78 = tT
/-- what breeding leaves of the class -/
def kpC (i : Nat) (V W : Nat → Nat → Value) (I J : Nat → Nat → Int32) (L M : Nat → Nat → Int64) : Prop := (∀ a j, j ∈ vRel a → ¬ (a = 0 ∧ j = 1) → a ≠ 42 + 9 * i → W a j = V a j) ∧ (∀ y, y ∈ iRel → y ≠ 41 + 9 * i → J y = I y) ∧ (∀ y, y ∈ lRel → M y = L y) ∧ (wt V → wt W)
theorem kpC_t {i : Nat} {U V W : Nat → Nat → Value} {G I J : Nat → Nat → Int32} {K L M : Nat → Nat → Int64} (f : kpC i U V G I K L) (g : kpC i V W I J L M) : kpC i U W G J K M := ⟨fun a j h1 h2 h3 => (g.1 a j h1 h2 h3).trans (f.1 a j h1 h2 h3), fun y h1 h2 => (g.2.1 y h1 h2).trans (f.2.1 y h1 h2), fun y h => (g.2.2.1 y h).trans (f.2.2.1 y h), fun h => g.2.2.2 (f.2.2.2 h)⟩
theorem kpC_r {i : Nat} {V : Nat → Nat → Value} {I : Nat → Nat → Int32} {L : Nat → Nat → Int64} : kpC i V V I I L L := ⟨fun _ _ _ _ _ => rfl, fun _ _ _ => rfl, fun _ _ => rfl, id⟩
theorem kpC_L {i : Nat} {V W : Nat → Nat → Value} {I J : Nat → Nat → Int32} {L M : Nat → Nat → Int64} (k : keepL V W I J L M) : kpC i V W I J L M := ⟨fun a j h _ _ => k.1.1 a j h, fun y h _ => k.1.2.1 y h, k.2, k.1.2.2⟩
theorem kpC_S {i : Nat} {V W : Nat → Nat → Value} {I J : Nat → Nat → Int32} {L : Nat → Nat → Int64} (hi : i < 4) (f : frS i V W I J) : kpC i V W I J L L := ⟨fun a j h1 h2 h3 => f.1 a j (vRel_I a j h1).1 (vRel_I a j h1).2 h3 h2, fun y hy h => f.2.1 y (by
  have key : ∀ y, y ∈ iRel → y < 76 ∨ 117 < y := by decide
  exact key y hy) (by
  have key : ∀ y, y ∈ iRel → y ≠ 48 ∧ y ≠ 57 ∧ y ≠ 66 ∧ y ≠ 75 := by decide
  have := key y hy
  omega) (by
  have key : ∀ y, y ∈ iRel → y ≠ 172 := by decide
  exact key y hy), fun _ _ => rfl, f.2.2⟩
theorem kpC_41 {i : Nat} {V : Nat → Nat → Value} {I : Nat → Nat → Int32} {L : Nat → Nat → Int64} {F : Nat → Int32} : kpC i V V I (iup I (41 + 9 * i) F) L L := ⟨fun _ _ _ _ _ => rfl, fun y _ h => iup_na h, fun _ _ => rfl, id⟩
theorem kpC_43 {i : Nat} {V : Nat → Nat → Value} {I : Nat → Nat → Int32} {L : Nat → Nat → Int64} {F : Nat → Int32} (hi : i < 4) : kpC i V V I (iup I (43 + 9 * i) F) L L := ⟨fun _ _ _ _ _ => rfl, fun y hy _ => iup_na (by
  have key : ∀ y, y ∈ iRel → y ≠ 43 ∧ y ≠ 52 ∧ y ≠ 61 ∧ y ≠ 70 := by decide
  have := key y hy
  omega), fun _ _ => rfl, id⟩
set_option maxRecDepth 100000 in
set_option maxHeartbeats 4000000 in
theorem c_gen {V : Nat → Nat → Value} {I : Nat → Nat → Int32} {L : Nat → Nat → Int64} {R : Nat → Nat → Option Nat} {tl : am_H} {N n p i c e T ch r3 kd m lm j : Nat} {st : Int64} {bm : Nat → Nat} {Vg : Nat → Nat → Value} {Ig : Nat → Nat → Int32} {Lg : Nat → Nat → Int64} (hN : 5000 < N) (hi : i < 4) (hc : c ≤ 16) (c1 : 1 ≤ c) (hT : T ≤ 100) (T1 : 1 ≤ T) (hch : ch < 3) (r100 : r3 ≤ 100) (ec : e ≤ c) (k3 : kd ≤ 3) (hlo : 10 ≤ lm) (hhi : lm ≤ 2000) (hn : n + (c - e) ≤ 600) (hA : cI i c n st bm m lm T r3 ch V I L Ig) (hr : rel Vg Ig Lg R tl n p) (hm : room tl n p j) (hbm : ∀ x, x < c → bm x < n) (hkd : ∀ x, x < c → Ig 175 (bm x) = nI kd) : ∃ W J M R' tl' n' Vg' Ig' Lg' st' nm', fm_217 N (.ref 0) (.ref (40 + 9 * i)) (nI e) (fx V I L R ++ tl) = some (.inl (none, fx W J M R' ++ tl')) ∧ (∀ Φ : Nat → (Nat → Nat → Value) → (Nat → Nat → Int32) → (Nat → Nat → Int64) → Int64 → (Nat → Nat) → Prop, Φ n' Vg' Ig' Lg' st' nm' → gnT c e T ch r3 kd m lm Φ n Vg Ig Lg st bm) ∧ rel Vg' Ig' Lg' R' tl' n' p ∧ room tl' n' p j ∧ grw n R tl R' tl' ∧ n' + e = n + c ∧ (∀ x, x < c → J (41 + 9 * i) x = nI (nm' x) ∧ nm' x < n' ∧ Ig' 175 (nm' x) = nI kd) ∧ W 0 1 = .int (nI n') ∧ W (42 + 9 * i) 0 = .long st' ∧ kpC i V W I J L M ∧ gF Vg Vg' Ig Ig' Lg Lg' := by
  obtain ⟨a1, a2, a3, a4, a5, a6, a7, a8, a9, a10, a11, a12⟩ := hA
  have n6 := hr.1.1
  have m24 := a6.2.2.1
  have cok := a6.2.2.2.2.2
  have hB : ∀ b, b < n → bK R tl Ig b := fun b hb => bK_r hr hb
  obtain ⟨Ob, hO⟩ := oB_ex hB cok lm
  obtain ⟨W1, J1, M1, F, e1, hF, x1, x2, x3, f1⟩ := c_218 (L := L) (N := N) (by omega) hi hc n6 hlo hhi hB hO hbm a5 a6 a2 a7 a4
  have k1 := frK_k hi f1
  have s24 : snN Ig m ≤ 24 := Nat.le_trans (snN_le m) m24
  have mbb := mb_b (Ob := Ob) n6 hB m24 cok hbm
  obtain ⟨cm, ecm⟩ : ∃ f, f = (fun x => ctN Ig 0 (Ob (bm x)) m) := ⟨_, rfl⟩
  obtain ⟨zm, ezm⟩ : ∃ f, f = (fun x => szB Ig (bm x)) := ⟨_, rfl⟩
  obtain ⟨bt, ebt⟩ : ∃ f, f = btr cm zm bm := ⟨_, rfl⟩
  have hst : sto bt := by rw [ebt]; exact btr_sto
  obtain ⟨rk, hrk⟩ := srtd_ex hst c
  have j41 : J1 (41 + 9 * i) = I (41 + 9 * i) := f1.2.2.1 _ (by omega) (by omega) (by omega) (by omega) (by omega) (by omega)
  have w0 : W1 (40 + 9 * i) 0 = .int (nI c) := (f1.1 _ _ (by omega) (fun e => by omega) (fun e => by omega)).trans a2
  have w42 : W1 (42 + 9 * i) 0 = .long st := (f1.1 _ _ (by omega) (fun e => by omega) (fun e => by omega)).trans a3
  have K1 : ∀ G, isK i c (snN Ig m) bm cm zm (fun x r => enR Ig F (Ob (bm x)) r) W1 (iup J1 (43 + 9 * i) G) M1 := fun G => ⟨w0, x3, by rw [iup_na (by omega), j41]; exact a4, fun x hx => by rw [ecm]; exact (x1 x hx).1, fun x hx => by rw [iup_na (by omega), ezm]; exact (x1 x hx).2.1, fun x hx r hr => by rw [iup_na (by omega)]; exact (x1 x hx).2.2 r hr⟩
  have hcz : ∀ x, x < c → cm x < 2 ^ 60 ∧ zm x < 2 ^ 31 ∧ bm x < 2 ^ 31 := fun x hx => by rw [ecm, ezm]; exact mbb x hx
  obtain ⟨G, e2, hG⟩ := c_220l (V := W1) (L := M1) (R := R) (tl := tl) (I0 := J1) (N := N) (bt := bt) (by omega) hst hi hc w0 (fun G p q hp hq => by
    obtain ⟨y0, y3, y41, y44, y45, y46⟩ := K1 G
    rw [ebt]
    exact c_221 hi hc hp hq y44 y45 y41 hcz) c 0 N (J1 (43 + 9 * i)) (by omega) (by omega) (fun x hx => absurd hx (by omega))
  rw [iup_self] at e2
  have h43 : ∀ x, x < c → G x = nI (rk x) := fun x hx => by
    have := hG (rk x) (hrk.1 x hx)
    rw [srtd_ah hst hrk x hx] at this
    exact this
  obtain ⟨ln, P, a, it, hg, hp, q4, q5, hpp⟩ := bth_F hr (hbm 0 (by omega)) (hkd 0 (by omega)) (by omega)
  have o38 : J1 38 = I 38 := f1.2.2.1 _ (by omega) (by omega) (by omega) (by omega) (by omega) (by omega)
  obtain ⟨W, J, G', R', tl', n', Vg', Ig', Lg', st', nm', e3, sp, hr', hm', hg', en, hG', v0, v42, fS, fg⟩ := c_loop (L := M1) (N := N) (p := p) (i := i) (s := snN Ig m) (T := T) (ch := ch) (r3 := r3) (e := e) (kd := kd) (j := j) (bm := bm) (cm := cm) (zm := zm) (rk := rk) (E := (fun x r => enR Ig F (Ob (bm x)) r)) ebt rfl hN hi hc c1 s24 hT T1 hch (fun x r => erN_le _ _) (fun x hx => ⟨(hcz x hx).1, (hcz x hx).2.1⟩) r100 ec hrk.1 ((k1.2 77 (by decide)).trans a11) ((k1.2 78 (by decide)).trans a12) k3 c 0 N n W1 (iup J1 (43 + 9 * i) G) R tl st bm Vg Ig Lg (by omega) (by omega) (by omega) hbm (K1 G) w42 (by rw [iup_na (by omega), o38]; exact a8) (by rw [iup_na (by omega), o38]; exact a9) (by rw [iup_na (by omega), o38]; exact a10) ((k1.1.1 0 1 (by decide)).trans a1) (k1.1.2.2 a5) (by rw [iup_eq]; exact h43) hr hm hkd (fun x hx => absurd hx (by omega))
  refine ⟨W, iup J (41 + 9 * i) G', M1, R', tl', n', Vg', Ig', Lg', st', nm', ?_, fun Φ h => ⟨Ob, F, rk, hO, hF, ?_, ?_⟩, hr', hm', hg', by omega, fun x hx => by rw [iup_eq]; exact hG' x hx, v0, v42, kpC_t (kpC_L k1) (kpC_t (kpC_43 hi) (kpC_t (kpC_S hi fS) kpC_41)), fg⟩
  · apply hm_217
    apply hd_217_0
    refine ev_b (rdR rfl) (ev_b (rdR rfl) (ev_i (io_1 hi) (ev_cV e1 (ev_i (io_1 hi) (ev_cV (show fm_220 N (.ref (40 + 9 * i)) (fx W1 J1 M1 R ++ tl) = _ from e2) (ev_b (ir_1 hi) (ev_b (a := nI (bm 0)) ((ia_41 (k := 0) hi (by omega)).trans (congrArg some (by rw [iup_na (by omega), j41]; exact a4 0 (by omega)))) (ev_i rfl (ev_cR (c_63 ((k1.1.1 0 1 (by decide)).trans a1) n6 (hbm 0 (by omega)) q4) rfl (ev_b (srcE_ok (q5 W1 (iup J1 (43 + 9 * i) G))).2.2.1 e3))))))))))
  · rw [← ecm, ← ezm, ← ebt]
    exact hrk
  · rw [← ecm, ← ezm, ← ebt]
    exact sp Φ h
/-- the reference between two generations -/
def rI (i n m : Nat) (st : Int64) (V : Nat → Nat → Value) (I : Nat → Nat → Int32) (L : Nat → Nat → Int64) (Ig : Nat → Nat → Int32) (Lg : Nat → Nat → Int64) : Prop := agB n V I L Ig Lg ∧ V 174 96 = .long st ∧ wt V ∧ rInv V L ∧ (∀ y, y ∈ iRel → y ≠ 41 + 9 * i → I y = Ig y) ∧ csK V I Ig m
/-- what breeding leaves of the reference -/
def frGn (V W : Nat → Nat → Value) (I J : Nat → Nat → Int32) (L M : Nat → Nat → Int64) : Prop := (∀ a j, a ≠ 174 → W a j = V a j) ∧ (∀ j, (j ∈ vRel 174 ∨ j = 0) → j ≠ 1 → j ≠ 80 → W 174 j = V 174 j) ∧ (∀ y, y < 174 → J y = I y) ∧ (∀ y, y ∈ iRel → ¬ (175 ≤ y ∧ y ≤ 185) → y ≠ 234 → J y = I y) ∧ (∀ y, (y < 174 ∨ y = 235 ∨ y = 268) → M y = L y) ∧ (wt V → wt W) ∧ (rInv V L → rInv W M)
theorem frGn_t {U V W : Nat → Nat → Value} {H I J : Nat → Nat → Int32} {K L M : Nat → Nat → Int64} (f : frGn U V H I K L) (g : frGn V W I J L M) : frGn U W H J K M := ⟨fun a j h => (g.1 a j h).trans (f.1 a j h), fun j h1 h2 h3 => (g.2.1 j h1 h2 h3).trans (f.2.1 j h1 h2 h3), fun y h => (g.2.2.1 y h).trans (f.2.2.1 y h), fun y h1 h2 h3 => (g.2.2.2.1 y h1 h2 h3).trans (f.2.2.2.1 y h1 h2 h3), fun y h => (g.2.2.2.2.1 y h).trans (f.2.2.2.2.1 y h), fun h => g.2.2.2.2.2.1 (f.2.2.2.2.2.1 h), fun h => g.2.2.2.2.2.2 (f.2.2.2.2.2.2 h)⟩
theorem frGn_r {V : Nat → Nat → Value} {I : Nat → Nat → Int32} {L : Nat → Nat → Int64} : frGn V V I I L L := ⟨fun _ _ _ => rfl, fun _ _ _ _ => rfl, fun _ _ => rfl, fun _ _ _ _ => rfl, fun _ _ => rfl, id, id⟩
theorem v174_m {j : Nat} (h : j ∈ vRel 174 ∨ j = 0) (h1 : j ≠ 1) (h8 : j ≠ 80) : ¬ (j = 1 ∨ j = 80 ∨ (13 ≤ j ∧ j ≤ 15) ∨ (18 ≤ j ∧ j ≤ 23) ∨ j = 88 ∨ (93 ≤ j ∧ j ≤ 97)) ∧ ¬ j ∈ scT ∧ ¬ j ∈ scOd := by
  have key : ∀ j, j ∈ vRel 174 → j ≠ 1 → j ≠ 80 → ¬ (j = 1 ∨ j = 80 ∨ (13 ≤ j ∧ j ≤ 15) ∨ (18 ≤ j ∧ j ≤ 23) ∨ j = 88 ∨ (93 ≤ j ∧ j ≤ 97)) ∧ ¬ j ∈ scT ∧ ¬ j ∈ scOd := by decide
  rcases h with h | rfl
  · exact key j h h1 h8
  · decide
theorem i_rel_m {y : Nat} (h : y ∈ iRel) (h1 : ¬ (175 ≤ y ∧ y ≤ 185)) : ¬ ((175 ≤ y ∧ y ≤ 196) ∨ y = 211 ∨ (226 ≤ y ∧ y ≤ 230) ∨ y = 241 ∨ y = 242 ∨ y = 244) ∧ ¬ y ∈ siT ∧ ¬ y ∈ siOd ∧ y ≠ 243 := by
  have key : ∀ y, y ∈ iRel → ¬ (175 ≤ y ∧ y ≤ 185) → ¬ ((175 ≤ y ∧ y ≤ 196) ∨ y = 211 ∨ (226 ≤ y ∧ y ≤ 230) ∨ y = 241 ∨ y = 242 ∨ y = 244) ∧ ¬ y ∈ siT ∧ ¬ y ∈ siOd ∧ y ≠ 243 := by decide
  exact key y h h1
theorem i_lo_m {y : Nat} (h : y < 174) : ¬ y ∈ siT ∧ ¬ y ∈ siOd := by
  have k1 : ∀ y, y ∈ siT → 174 ≤ y := by decide
  have k2 : ∀ y, y ∈ siOd → 174 ≤ y := by decide
  exact ⟨fun u => by have := k1 y u; omega, fun u => by have := k2 y u; omega⟩
theorem frGn_X {V W : Nat → Nat → Value} {I J : Nat → Nat → Int32} {L M : Nat → Nat → Int64} (f : frXr 244 V W I J L M) : frGn V W I J L M := ⟨fun a j h => f.1 a j (by omega), fun j h1 h2 h3 => f.1 174 j (fun u => (v174_m h1 h2 h3).1 u.2), fun y h => f.2.1 y (by omega), fun y h1 h2 _ => f.2.1 y (i_rel_m h1 h2).1, fun y h => f.2.2.1 y (by omega), f.2.2.2.1, f.2.2.2.2⟩
theorem frGn_T {V W : Nat → Nat → Value} {I J : Nat → Nat → Int32} {L M : Nat → Nat → Int64} (f : frT V W I J L M) : frGn V W I J L M := ⟨fun a j h => f.1 a j (fun u => absurd u h), fun j h1 h2 h3 => f.1 174 j (fun _ => (v174_m h1 h2 h3).2.1), fun y h => f.2.1 y (i_lo_m h).1, fun y h1 h2 _ => f.2.1 y (i_rel_m h1 h2).2.1, fun y h => f.2.2.1 y (by omega) (by omega), f.2.2.2, fun h => by
  unfold rInv
  rw [f.1 174 80 (fun _ => by decide), f.2.2.1 224 (by decide) (by decide), f.2.2.1 225 (by decide) (by decide)]
  exact h⟩
theorem frGn_O {V W : Nat → Nat → Value} {I J : Nat → Nat → Int32} {L M : Nat → Nat → Int64} (f : frOd V W I J L M) : frGn V W I J L M := ⟨fun a j h => f.1 a j (fun u => absurd u h), fun j h1 h2 h3 => f.1 174 j (fun _ => (v174_m h1 h2 h3).2.2), fun y h => f.2.1 y (i_lo_m h).2, fun y h1 h2 _ => f.2.1 y (i_rel_m h1 h2).2.2.1, fun y h => f.2.2.1 y (by omega), f.2.2.2, fun h => by
  unfold rInv
  rw [f.1 174 80 (fun _ => by decide), f.2.2.1 224 (by decide), f.2.2.1 225 (by decide)]
  exact h⟩
theorem frGn_243 {V : Nat → Nat → Value} {I : Nat → Nat → Int32} {L : Nat → Nat → Int64} {F : Nat → Int32} : frGn V V I (iup I 243 F) L L := ⟨fun _ _ _ => rfl, fun _ _ _ _ => rfl, fun y h => iup_na (by omega), fun y h1 h2 _ => iup_na (i_rel_m h1 h2).2.2.2, fun _ _ => rfl, id, id⟩
theorem frGn_234 {V : Nat → Nat → Value} {I : Nat → Nat → Int32} {L : Nat → Nat → Int64} {F : Nat → Int32} : frGn V V I (iup I 234 F) L L := ⟨fun _ _ _ => rfl, fun _ _ _ _ => rfl, fun y h => iup_na (by omega), fun y h1 h2 h3 => iup_na h3, fun _ _ => rfl, id, id⟩
set_option maxRecDepth 100000 in
set_option maxHeartbeats 4000000 in
theorem r_copy {V : Nat → Nat → Value} {I : Nat → Nat → Int32} {L : Nat → Nat → Int64} {R : Nat → Nat → Option Nat} {tl : am_H} {N i c : Nat} (hi : i < 4) (hc : c ≤ 16) (h5 : V 174 105 = .int (nI c)) : ∀ (t k K : Nat), k + t = c → t < K → fg_504_66 N K (.ref 174) (nI i) (nI k) (fx V (iup I 234 (csq (I 234) (I 244) (16 * i) k)) L R ++ tl) = some (.inl (none, fx V (iup I 234 (csq (I 234) (I 244) (16 * i) c)) L R ++ tl)) := by
  intro t
  induction t with
  | zero =>
    intro k K hk hK
    obtain ⟨K, rfl⟩ : ∃ k, K = k + 1 := ⟨K - 1, by omega⟩
    obtain rfl : k = c := by omega
    apply hd_504_66
    exact ev_b (rdI h5) (ev_t (nI_le (Nat.le_refl k) (by omega)) rfl)
  | succ t ih =>
    intro k K hk hK
    obtain ⟨K, rfl⟩ : ∃ k, K = k + 1 := ⟨K - 1, by omega⟩
    rw [← ih (k + 1) K (by omega) (by omega)]
    apply hd_504_66
    rw [show (16 : Int32) * nI i + nI k = nI (16 * i + k) from nI_add' i 16 k]
    refine ev_b (rdI h5) (ev_f (nI_ge (by omega) (by omega)) (ev_b (rdR rfl) (ev_b (rdR rfl) (ev_b (a := I 244 k) ((qa_244 (by omega)).trans (by rw [iup_na (by decide)])) (ev_b (qs_234 (by omega)) ?_)))))
    rw [iup_eq, iup_iup, nI_1]
    rfl
theorem r503 {V : Nat → Nat → Value} {I : Nat → Nat → Int32} {L : Nat → Nat → Int64} {R : Nat → Nat → Option Nat} {tl : am_H} {i c el e : Nat} (hi : i < 4) (hc : c ≤ 16) (hel : el ≤ 4) (ee : e = if c ≤ el then c else el) (h1 : I 206 1 = nI el) (h3 : I 233 i = nI c) : fm_503 (.ref 174) (nI i) (fx V I L R ++ tl) = some (.inl (some (.int (nI e)), fx V I L R ++ tl)) := by
  have g1 : am_pA 0 (.ref 206) 1 (fx V I L R ++ tl) = some (nI el) := (qa_206 (k := 1) (by omega)).trans (congrArg some h1)
  have g3 : am_pA 0 (.ref 233) (nI i) (fx V I L R ++ tl) = some (nI c) := (qa_233 hi).trans (congrArg some h3)
  unfold fm_503 fg_503_0
  rw [ee]
  refine ev_b (rdR rfl) (ev_b g1 (ev_b (rdR rfl) (ev_b g3 ?_)))
  by_cases z : c ≤ el
  · rw [if_pos z]
    exact ev_t (nI_le z (by omega)) (ev_b (rdR rfl) (ev_b g3 rfl))
  · rw [if_neg z]
    exact ev_f (nI_ge (by omega) (by omega)) (ev_b (rdR rfl) (ev_b g1 rfl))
set_option maxRecDepth 100000 in
set_option maxHeartbeats 4000000 in
theorem r_gen {V : Nat → Nat → Value} {I : Nat → Nat → Int32} {L : Nat → Nat → Int64} {R : Nat → Nat → Option Nat} {tl : am_H} {N n p i c e el T ch r3 kd m lm : Nat} {st : Int64} {bm : Nat → Nat} {Vg : Nat → Nat → Value} {Ig : Nat → Nat → Int32} {Lg : Nat → Nat → Int64} {Φ : Nat → (Nat → Nat → Value) → (Nat → Nat → Int32) → (Nat → Nat → Int64) → Int64 → (Nat → Nat) → Prop} (hN : 5000 < N) (hi : i < 4) (hc : c ≤ 16) (c1 : 1 ≤ c) (hT : T ≤ 100) (T1 : 1 ≤ T) (hch : ch < 3) (r100 : r3 ≤ 100) (hel : el ≤ 4) (ee : e = if c ≤ el then c else el) (k3 : kd ≤ 3) (hlo : 10 ≤ lm) (hhi : lm ≤ 2000) (hA : rI i n m st V I L Ig Lg) (hr : rel Vg Ig Lg R tl n p) (hbm : ∀ x, x < c → bm x < n) (h34 : ∀ x, x < c → Ig 234 (16 * i + x) = nI (bm x)) (h33 : Ig 233 i = nI c) (t0 : Ig 206 0 = nI lm) (t1 : Ig 206 1 = nI el) (t2 : Ig 206 2 = nI T) (t3 : Ig 206 3 = nI r3) (t4 : Ig 206 4 = nI ch) (hS : gnT c e T ch r3 kd m lm Φ n Vg Ig Lg st bm) : ∃ W J M n' Vg' Ig' Lg' st' nm', Φ n' Vg' Ig' Lg' st' nm' ∧ fm_504 N (.ref 174) (nI i) (fx V I L R ++ tl) = some (.inl (none, fx W J M R ++ tl)) ∧ agB n' W J M Ig' Lg' ∧ J 234 = csq (Ig 234) (fun x => nI (nm' x)) (16 * i) c ∧ W 174 96 = .long st' ∧ frGn V W I J L M ∧ gF Vg Vg' Ig Ig' Lg Lg' ∧ (Vg 174 1 = .int (nI n) → Vg' 174 1 = .int (nI n')) ∧ n ≤ n' := by
  obtain ⟨a1, a2, a3, a4, a5, a6⟩ := hA
  obtain ⟨Ob, F, rk, hO, hF, hrk, hS⟩ := hS
  have n6 := hr.1.1
  have iy := is_y hi
  obtain ⟨I0, eI0⟩ : ∃ X, X = iup Ig (41 + 9 * i) (I (41 + 9 * i)) := ⟨_, rfl⟩
  have o0 : ∀ y, y ≠ 41 + 9 * i → I0 y = Ig y := fun y h => by rw [eI0]; exact iup_na h
  have hB : ∀ b, b < n → bK R tl I0 b := fun b hb => by rw [eI0]; exact bK_i iy (bK_r hr hb)
  have hO0 : oB I0 lm n m Ob := by rw [eI0]; exact oB_i iy hO
  have hc0 : csK V I I0 m := by
    have := csK_i0 (G := I (41 + 9 * i)) (F := I (41 + 9 * i)) iy a6
    rw [iup_self] at this
    rw [eI0]
    exact this
  have hF0 : scK I0 m F := by
    rw [eI0]
    rcases iy with h | h | h | h <;> rw [h] <;> exact hF
  have kp : keep V V I0 I := ⟨fun _ _ _ => rfl, fun y hy => by
    by_cases q : y = 41 + 9 * i
    · rw [q, eI0, iup_eq]
    · rw [o0 y q]; exact a5 y hy q, id⟩
  have sn0 : snN I0 m = snN Ig m := by
    rw [eI0]
    rcases iy with h | h | h | h <;> rw [h] <;> rfl
  have cme : (fun x => ctN I0 0 (Ob (bm x)) m) = (fun x => ctN Ig 0 (Ob (bm x)) m) := by
    rw [eI0]
    rcases iy with h | h | h | h <;> rw [h] <;> rfl
  have zme : (fun x => szB I0 (bm x)) = (fun x => szB Ig (bm x)) := by
    rw [eI0]
    rcases iy with h | h | h | h <;> rw [h] <;> rfl
  have ene : ∀ x r, enR I0 F (Ob (bm x)) r = enR Ig F (Ob (bm x)) r := fun x r => by
    rw [eI0]
    rcases iy with h | h | h | h <;> rw [h] <;> rfl
  have m24 := hc0.2.2.1
  have cok := hc0.2.2.2.2.2
  have mbb := mb_b (Ob := Ob) n6 hB m24 cok hbm
  have s24 : snN Ig m ≤ 24 := Nat.le_trans (snN_le m) m24
  obtain ⟨W1, J1, M1, e1, y1, y2, f1⟩ := r_505 (V := V) (I := I) (L := L) (R := R) (tl := tl) (V0 := V) (I0 := I0) (N := N) hN hi hc n6 hlo hhi (by rw [o0 206 (by omega)]; exact t0) hB hO0 hbm (fun x hx => by rw [o0 234 (by omega)]; exact h34 x hx) (by rw [o0 233 (by omega)]; exact h33) a3 kp hc0
  have k1 := (frT_k f1).1
  obtain ⟨W2, J2, M2, e2, z1, z2, z3, f2⟩ := r_506 (V := W1) (I := J1) (L := M1) (R := R) (tl := tl) (V0 := V) (I0 := I0) (N := N) hN hc n6 hlo hhi (by rw [o0 206 (by omega)]; exact t0) hB hO0 hbm hF0 (k1.2.2 a3) (keep_t kp k1) (csK_c k1 hc0) y2 (fun x hx => (y1 x hx).2.2.2)
  rw [sn0] at z1 z3
  have w5 : W2 174 105 = .int (nI c) := (f2.1 174 105 (fun _ => by decide)).trans y2
  have ga : ∀ G x, x < c → gaK I0 m Ob bm (iup J2 243 G) M2 x := fun G x hx => by
    have h := y1 x hx
    unfold gaK at h ⊢
    rw [iup_na (by decide), iup_na (by decide), f2.2.1 238 (by decide), f2.2.1 239 (by decide), f2.2.2.1 236 (by decide), f2.2.2.1 237 (by decide)]
    exact h
  obtain ⟨bt, ebt⟩ : ∃ f, f = btr (fun x => ctN I0 0 (Ob (bm x)) m) (fun x => szB I0 (bm x)) bm := ⟨_, rfl⟩
  have hst : sto bt := by rw [ebt]; exact btr_sto
  have hrk0 : srtd bt c rk := by rw [ebt, cme, zme]; exact hrk
  obtain ⟨G, g', e3, hg', hG⟩ := r_507l (V := W2) (L := M2) (R := R) (tl := tl) (I0 := J2) (N := N) (bt := bt) (by omega) hst hc w5 (fun G p q hp hq => by rw [ebt]; exact r_508 hc hp hq (ga G) m24 cok (fun x hx => (mbb x hx).2)) c 0 N (J2 243) (fun x => x) (by omega) (by omega) ⟨fun k hk => absurd hk (by omega), fun k l _ hl => absurd hl (by omega)⟩ (fun k hk => absurd hk (by omega))
  rw [iup_self] at e3
  have h43 : ∀ x, x < c → G x = nI (rk x) := fun x hx => by
    rw [hG x hx]
    congr 1
    exact ah_inj hst (hg'.1 x hx) (hrk0.1 x hx) ((srtd_ah hst hg' x hx).trans (srtd_ah hst hrk0 x hx).symm)
  have fG2 : frGn V W2 I (iup J2 243 G) L M2 := frGn_t (frGn_T f1) (frGn_t (frGn_O f2) frGn_243)
  obtain ⟨J3, eJ3⟩ : ∃ X, X = iup J2 243 G := ⟨_, rfl⟩
  have j206 : J3 206 = Ig 206 := by rw [eJ3]; exact (fG2.2.2.2.1 206 (by decide) (by omega) (by omega)).trans (a5 206 (by decide) (by omega))
  have j233 : J3 233 = Ig 233 := by rw [eJ3]; exact (fG2.2.2.2.1 233 (by decide) (by omega) (by omega)).trans (a5 233 (by decide) (by omega))
  have j234 : J3 234 = Ig 234 := by rw [eJ3, iup_na (by decide), f2.2.1 234 (by decide), f1.2.1 234 (by decide)]; exact a5 234 (by decide) (by omega)
  have jb : ∀ y, 175 ≤ y → y ≤ 185 → J3 y = I y := fun y a b => by
    have k1 : ∀ y, y ∈ siT → y < 175 ∨ 185 < y := by decide
    have k2 : ∀ y, y ∈ siOd → y < 175 ∨ 185 < y := by decide
    rw [eJ3, iup_na (by omega), f2.2.1 y (fun u => by have := k2 y u; omega), f1.2.1 y (fun u => by have := k1 y u; omega)]
  have ha : agB n W2 J3 M2 Ig Lg := ⟨((f2.1 174 1 (fun _ => by decide)).trans (f1.1 174 1 (fun _ => by decide))).trans a1.1, fun y a b q => (jb y a b).trans (a1.2.1 y a b q), ((f2.2.2.1 183 (by decide)).trans (f1.2.2.1 183 (by decide) (by decide))).trans a1.2.2⟩
  have w96 : W2 174 96 = .long st := ((f2.1 174 96 (fun _ => by decide)).trans (f1.1 174 96 (fun _ => by decide))).trans a2
  have ecc : e ≤ c := by rw [ee]; split <;> omega
  have hK : isR c (snN Ig m) m I0 Ob bm (fun x r => enR Ig F (Ob (bm x)) r) W2 J3 M2 := ⟨w5, z1, by rw [eJ3]; exact ga G, fun x hx r hr => by rw [z3 x hx r hr, ene]⟩
  have e4 := r503 (V := W2) (I := J3) (L := M2) (R := R) (tl := tl) hi hc hel ee (by rw [j206]; exact t1) (by rw [j233]; exact h33)
  obtain ⟨W, J, M, n', Vg', Ig', Lg', st', nm', hΦ, e5, hJ, ha', w96', fX, fg, v1, nn⟩ := r_loop (R := R) (tl := tl) (i := i) (n0 := 0) (Φ := Φ) (I0 := I0) (Ob := Ob) (by rw [cme, zme]) (by rw [cme, zme]) hN hc c1 s24 hT T1 hch m24 cok (fun x hx => (mbb x hx).2) (fun x r => erN_le _ _) r100 k3 ecc hrk.1 c 0 N n W2 J3 M2 st bm Vg Ig Lg (by omega) (by omega) hK (by rw [j206]; exact t2) (by rw [j206]; exact t3) (by rw [j206]; exact t4) w96 (fG2.2.2.2.2.2.1 a3) (fG2.2.2.2.2.2.2 a4) ha (by rw [eJ3, iup_eq]; exact h43) (fun x hx => absurd hx (by omega)) hS
  rw [← eJ3] at e3 fG2
  have w5' : W 174 105 = .int (nI c) := (fX.1 174 105 (by omega)).trans w5
  have e6 := r_copy (V := W) (I := J) (L := M) (R := R) (tl := tl) (N := N) hi hc w5' c 0 N (by omega) (by omega)
  rw [show csq (J 234) (J 244) (16 * i) 0 = J 234 from rfl, iup_self] at e6
  refine ⟨W, iup J 234 (csq (J 234) (J 244) (16 * i) c), M, n', Vg', Ig', Lg', st', nm', hΦ, ?_, ⟨ha'.1, fun y a b q => (iup_na (by omega)).trans (ha'.2.1 y a b q), ha'.2.2⟩, ?_, w96', frGn_t fG2 (frGn_t (frGn_X fX) frGn_234), fg, v1, nn⟩
  · apply hm_504
    apply hd_504_0
    exact ev_i rfl (ev_cV e1 (ev_i rfl (ev_cV e2 (ev_i rfl (ev_cV (show fm_507 N (.ref 174) (fx W2 J2 M2 R ++ tl) = _ from e3) (ev_i rfl (ev_cI e4 (e5.trans e6))))))))
  · rw [iup_eq, csq_c c (fun k hk => hJ k hk), fX.2.1 234 (by omega), j234]
