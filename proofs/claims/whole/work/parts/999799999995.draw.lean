/-! ===== a program is drawn ===== -/
theorem hd_202_111 {N : Nat} {h : am_H} {r_ : Option am_O} (k_ : some (.inl (none, h)) = r_) : fg_202_111 N h = r_ := k_
theorem hd_202_43 {N : Nat} {x0 : Value} {x1 : Value} {x2 : Int32} {x3 : Int32} {s0 : Value} {h : am_H} {r_ : Option am_O} (k_ : ((am_vR (am_pG 2822 x0 h)).bind fun v1 => ((am_vR (am_pG 2822 x0 h)).bind fun v3 => (if am_pOk 4 v3 h then am_cL true (fm_15 v3 0 x3 h) (fun v6 h7 => (if am_pOk 8 x1 h7 then am_cL true (fm_194 x1 v6 h7) (fun v10 h11 => (if am_pOk 4 v1 h11 then am_cV true (fm_91 N v1 0 x3 v10 s0 h11) (fun h15 => (if ¬ x2 = 1 then (fg_202_111 N h15) else ((am_vR (am_pG 2825 x0 h15)).bind fun v18 => ((am_vR (am_pG 2832 x0 h15)).bind fun v20 => ((am_vR (am_pG 2831 x0 h15)).bind fun v22 => (if am_pOk 10 v18 h15 then am_cI true (fm_205 N v18 v20 v22 h15) (fun v25 h26 => (if ¬ v25 = 0 then (fg_202_111 N h26) else ((am_vR (am_pG 2831 x0 h26)).bind fun v29 => (if am_pOk 3 v29 h26 then am_cV true (fm_34 v29 1 0 h26) (fun h33 => ((am_vR (am_pG 2831 x0 h33)).bind fun v35 => (if am_pOk 3 v35 h33 then am_cI true (fm_41 N v35 0 0 h33) (fun v38 h39 => (fg_202_111 N h39)) else none))) else none)))) else none)))))) else none)) else none)) else none))) = r_) : fg_202_43 N x0 x1 x2 x3 s0 h = r_ := k_
theorem hd_202_0 {N : Nat} {x0 : Value} {x1 : Value} {x2 : Int32} {x3 : Int32} {h : am_H} {r_ : Option am_O} (k_ : (if ¬ x2 = 2 then (if ¬ x2 = 3 then (if ¬ x2 = 0 then ((am_vR (am_pG 2832 x0 h)).bind fun v4 => (fg_202_43 N x0 x1 x2 x3 v4 h)) else ((am_vR (am_pG 2831 x0 h)).bind fun v6 => (fg_202_43 N x0 x1 x2 x3 v6 h))) else (if am_pOk 11 x0 h then am_cV true (fm_204 N x0 x1 x3 h) (fun h10 => (fg_202_111 N h10)) else none)) else (if am_pOk 11 x0 h then am_cV true (fm_203 N x0 x1 x3 h) (fun h14 => (fg_202_111 N h14)) else none)) = r_) : fg_202_0 N x0 x1 x2 x3 h = r_ := k_
theorem hm_202 {N : Nat} {y0 : Value} {y1 : Value} {y2 : Int32} {y3 : Int32} {h : am_H} {r_ : Option am_O} (k_ : fg_202_0 N y0 y1 y2 y3 h = r_) : fm_202 N y0 y1 y2 y3 h = r_ := k_
theorem hd_491_98 {N : Nat} {h : am_H} {r_ : Option am_O} (k_ : some (.inl (none, h)) = r_) : fg_491_98 N h = r_ := k_
theorem hd_491_0 {N : Nat} {x0 : Value} {x1 : Int32} {x2 : Int32} {h : am_H} {r_ : Option am_O} (k_ : ((am_pP 3085 x0 (.int x1) h).bind fun h1 => ((am_pP 3086 x0 (.int 0) h1).bind fun h3 => ((am_pP 3087 x0 (.int 0) h3).bind fun h5 => (if ¬ x1 = 2 then (if ¬ x1 = 3 then (if am_pOk 12 x0 h5 then am_cV true (fm_377 N x0 h5) (fun h11 => (if am_pOk 12 x0 h11 then am_cL true (fm_383 x0 0 0 x2 h11) (fun v14 h15 => (if am_pOk 12 x0 h15 then am_cL true (fm_477 x0 v14 h15) (fun v18 h19 => ((am_pP 3085 x0 (.int 0) h19).bind fun h21 => (if am_pOk 12 x0 h21 then am_cV true (fm_386 N x0 0 0 x2 v18 h21) (fun h25 => (if ¬ x1 = 1 then (fg_491_98 N h25) else (if am_pOk 12 x0 h25 then am_cI true (fm_494 N x0 h25) (fun v29 h30 => (if ¬ v29 = 0 then (fg_491_98 N h30) else ((am_pP 3085 x0 (.int 1) h30).bind fun h33 => ((am_pP 3086 x0 (.int 0) h33).bind fun h35 => (if am_pOk 12 x0 h35 then am_cV true (fm_335 x0 0 0 h35) (fun h39 => (fg_491_98 N h39)) else none))))) else none))) else none))) else none)) else none)) else none) else (if am_pOk 12 x0 h5 then am_cV true (fm_493 N x0 x2 h5) (fun h43 => (fg_491_98 N h43)) else none)) else (if am_pOk 12 x0 h5 then am_cV true (fm_492 N x0 x2 h5) (fun h47 => (fg_491_98 N h47)) else none))))) = r_) : fg_491_0 N x0 x1 x2 h = r_ := k_
theorem hm_491 {N : Nat} {y0 : Value} {y1 : Int32} {y2 : Int32} {h : am_H} {r_ : Option am_O} (k_ : fg_491_0 N y0 y1 y2 h = r_) : fm_491 N y0 y1 y2 h = r_ := k_

def wdr (st : Int64) (T : Nat) : Nat := (2147483648 * hlf (nxt st) + hlf (nxt (nxt st))) % T
theorem wdr_lt {st : Int64} {T : Nat} (h : 0 < T) : wdr st T < T := Nat.mod_lt _ h
/-- what is drawn -/
def isDr (kd sz : Nat) (st : Int64) (ln : Nat) (X : xI) (st' : Int64) : Prop :=
  (kd ≤ 1 ∧ ln = 0 ∧ st' = nxt (nxt st) ∧ ∃ r, r = wdr st (uT 0 sz) ∧ ((kd = 0 ∧ X = tI (unX 0 sz r)) ∨ (kd = 1 ∧ hasC (unX 0 sz r) ∧ X = tI (cO2 (unX 0 sz r) 0)) ∨ (kd = 1 ∧ ¬ hasC (unX 0 sz r) ∧ X = [(0, 0)])))
  ∨ (kd = 2 ∧ ln = 0 ∧ X = (rpG (rowM sz) (itn 5) sz [] st).1 ∧ st' = (rpG (rowM sz) (itn 5) sz [] st).2)
  ∨ (kd = 3 ∧ ln = sz ∧ X = (rpG (rowN sz) nx2 (2 * sz) [] st).1 ∧ st' = (rpG (rowN sz) nx2 (2 * sz) [] st).2)
def szK (kd sz : Nat) : Prop := kd ≤ 3 ∧ (kd ≤ 1 → 1 ≤ sz ∧ sz ≤ 9) ∧ (kd = 2 → 1 ≤ sz ∧ sz ≤ 6) ∧ (kd = 3 → 2 ≤ sz ∧ sz ≤ 8)
def sdX (kd ln : Nat) (X : xI) : Prop := kd ≤ 3 ∧ X.length ≤ 60 ∧ X.length * wdN kd ≤ 120 ∧ (if nI kd = 3 then nI ln else 0) = nI ln ∧ ∀ s v, lay2 s v X → sound kd ln X.length s v
theorem un_okP {n r : Nat} (h1 : 1 ≤ n) (hn : n ≤ 12) (hr : r < uT 0 n) : okP (unX 0 n r) ∧ (unX 0 n r).length = n ∧ gdP 0 0 (tI (unX 0 n r)) := by
  obtain ⟨g1, g2, g3, g4⟩ := unX_ok (c := 0) (tr := 0) (fl := 0) h1 hn (by omega) hr rfl rfl
  have ho : okP (unX 0 n r) := ⟨g3, fun x hx => (g4 x hx).2⟩
  have eu : uTx (tI (unX 0 n r)) = unX 0 n r := uTx_tI (fun x hx => (g4 x hx).1)
  refine ⟨ho, g1, by omega, by rw [tI_len, g1]; omega, fun _ => ⟨rfl, by rw [eu]; exact ho, by rw [eu]⟩, fun e => absurd e (by decide), fun e => absurd e (by decide), fun e => absurd e (by decide)⟩
theorem lay2_at {s v : Nat → Int32} {X : xI} (h : lay2 s v X) {k : Nat} (hk : k < X.length) : ∃ x, x ∈ X ∧ s k = x.1 ∧ v k = x.2 := ⟨X[k], List.getElem_mem hk, h k X[k] (List.getElem?_eq_getElem hk)⟩
theorem dr_sd {kd sz ln : Nat} {st st' : Int64} {X : xI} (hz : szK kd sz) (h : isDr kd sz st ln X st') : sdX kd ln X := by
  obtain ⟨k3, z1, z2, z3⟩ := hz
  rcases h with ⟨k1, rfl, -, r, er, h⟩ | ⟨rfl, rfl, rfl, -⟩ | ⟨rfl, rfl, rfl, -⟩
  · obtain ⟨s1, s9⟩ := z1 k1
    have hr : r < uT 0 sz := by rw [er]; exact wdr_lt (uT_pos sz (by omega) s1)
    obtain ⟨ho, lT, gT⟩ := un_okP s1 (by omega) hr
    rcases h with ⟨rfl, rfl⟩ | ⟨rfl, hC, rfl⟩ | ⟨rfl, -, rfl⟩
    · exact ⟨by omega, gT.2.1, gd_w gT, gd_nt gT, fun s v hl => gd_snd gT hl⟩
    · obtain ⟨i1, i2⟩ := okI_cO ho hC.1.2
      have lt : (tI (cO2 (unX 0 sz r) 0)).length = (cO2 (unX 0 sz r) 0).length := tI_len
      have h60 := hC.1.2
      refine ⟨by omega, by rw [lt]; exact h60, by rw [lt, wd2 (by decide)]; omega, rfl, fun s v hl => ?_⟩
      have hX := hC.2
      rw [← lt] at hX
      cases ex : cdX (tI (cO2 (unX 0 sz r) 0)) (tI (cO2 (unX 0 sz r) 0)).length 0 g00 with
      | inl y => rw [ex] at hX; exact absurd hX (by simp)
      | inr y => exact snd_code i1 i2 (by rw [lt]; exact cO_pos ho hC.1.1) (by rw [lt]; exact h60) ex hl
    · refine ⟨by omega, by decide, by decide, rfl, fun s v hl => ?_⟩
      obtain ⟨e1, e2⟩ := hl 0 (0, 0) rfl
      refine ⟨by omega, by decide, fun _ => ⟨by decide, rfl⟩, fun e => absurd e (by decide), fun _ => ?_, fun e => absurd e (by decide), fun e => absurd e (by decide)⟩
      refine ⟨fun _ => 0, fun _ => 0, fun k => k, ⟨rfl, fun k a b => ⟨k - 1, by omega, .inl ⟨by omega, fun q => absurd q (show ¬ (0 : Nat) = 17 by decide)⟩⟩⟩, rfl, fun k hk => ?_⟩
      obtain rfl : k = 0 := by
        have : k < 1 := hk
        omega
      exact ⟨by decide, e1, fun _ => .inl ⟨0, by omega, e2⟩, fun q => absurd rfl q, fun _ q => absurd rfl q, Nat.zero_le _, by decide, fun _ => rfl, fun q => absurd q (by decide)⟩
  · obtain ⟨s1, s6⟩ := z2 rfl
    have l := rpG_len (row := rowM sz) (nx := itn 5) sz [] st
    rw [List.length_nil, Nat.zero_add] at l
    refine ⟨by omega, by omega, by rw [l]; show sz * 5 ≤ 120; omega, rfl, fun s v hl => ?_⟩
    rw [l]
    refine ⟨by omega, by omega, fun _ => ⟨s1, rfl⟩, fun e => absurd e (by decide), fun e => absurd e (by decide), fun _ => ⟨s6, fun k hk => ?_⟩, fun e => absurd e (by decide)⟩
    obtain ⟨x, hx, e1, e2⟩ := lay2_at hl (k := k) (by rw [l]; exact hk)
    have hp := rpG_all (row := rowM sz) (nx := itn 5) (P := fun x => two x.1 ∧ ∃ e0 e1 e2 e3, e0 < sz ∧ e1 < sz ∧ e2 < sz ∧ e3 < sz ∧ x.2 = nI (e0 + 8 * e1 + 64 * e2 + 512 * e3)) (fun st => ⟨.inl ⟨drw st 10, by have := drw_lt (st := st) (m := 10) (by decide); omega, rfl⟩, egM sz st 0, egM sz st 1, egM sz st 2, egM sz st 3, egM_lt s1, egM_lt s1, egM_lt s1, egM_lt s1, rfl⟩) sz [] st (fun x hx => absurd hx List.not_mem_nil) x hx
    show two (s k) ∧ ∃ e0 e1 e2 e3, e0 < sz ∧ e1 < sz ∧ e2 < sz ∧ e3 < sz ∧ v k = nI (e0 + 8 * e1 + 64 * e2 + 512 * e3)
    rw [e1, e2]
    exact hp
  · obtain ⟨s2, s8⟩ := z3 rfl
    have l := rpG_len (row := rowN ln) (nx := nx2) (2 * ln) [] st
    rw [List.length_nil, Nat.zero_add] at l
    refine ⟨by omega, by omega, by rw [l, wd2 (by decide)]; omega, rfl, fun s v hl => ?_⟩
    rw [l]
    refine ⟨by omega, by omega, fun q => absurd rfl q, fun e => absurd e (by decide), fun e => absurd e (by decide), fun e => absurd e (by decide), fun _ => ⟨s2, s8, by omega, fun k hk => ?_⟩⟩
    obtain ⟨x, hx, e1, e2⟩ := lay2_at hl (k := k) (by rw [l]; exact hk)
    have hp := rpG_all (row := rowN ln) (nx := nx2) (P := fun x => ∃ i j, i < j ∧ j < ln ∧ x.1 = nI i ∧ x.2 = nI j) (fun st => ⟨(cmpD ln st).1, (cmpD ln st).2, (cmpD_b s2).2.1, (cmpD_b s2).2.2, rfl, rfl⟩) (2 * ln) [] st (fun x hx => absurd hx List.not_mem_nil) x hx
    show ∃ i j, i < j ∧ j < ln ∧ s k = nI i ∧ v k = nI j
    rw [e1, e2]
    exact hp
/-- what drawing leaves in the class -/
def kq (i : Nat) (V W : Nat → Nat → Value) (I J : Nat → Nat → Int32) : Prop := (∀ a j, j ∈ vRel a → a ≠ 42 + 9 * i → W a j = V a j) ∧ (∀ y, y ∈ iRel → J y = I y) ∧ (wt V → wt W)
theorem kq_t {i : Nat} {U V W : Nat → Nat → Value} {G I J : Nat → Nat → Int32} (f : kq i U V G I) (g : kq i V W I J) : kq i U W G J := ⟨fun a j h k => (g.1 a j h k).trans (f.1 a j h k), fun y h => (g.2.1 y h).trans (f.2.1 y h), fun h => g.2.2 (f.2.2 h)⟩
theorem kq_k {i : Nat} {V W : Nat → Nat → Value} {I J : Nat → Nat → Int32} (f : keep V W I J) : kq i V W I J := ⟨fun a j h _ => f.1 a j h, f.2.1, f.2.2⟩
theorem kq_D {i : Nat} {V W : Nat → Nat → Value} {I J : Nat → Nat → Int32} (f : frDd i V W I J) : kq i V W I J := ⟨fun a j h k => f.1 a j (fun e => by subst e; exact absurd h List.not_mem_nil) k, fun y hy => f.2.1 y (fun e => by subst e; exact absurd hy (by decide)), f.2.2⟩
theorem x91_k {V : Nat → Nat → Value} {I J : Nat → Nat → Int32} {i A n : Nat} (hA : A = 167 ∨ A = 169) (hj : ∀ y, y ≠ A + 1 → J y = I y) : kq i V (vup (vup (vup (vup (vup (vup V 76 3 (.ref A)) A 1 (.int 0)) A 2 (.int 0)) A 3 (.int 0)) A 4 (.int 2)) A 3 (.int (nI n))) I J := by
  refine ⟨fun a j h _ => ?_, fun y hy => hj y (fun e => ?_), fun w => ?_⟩
  · have ha : a ≠ A ∧ a ≠ 76 := by
      refine ⟨fun e => ?_, fun e => by subst e; exact absurd h List.not_mem_nil⟩
      subst e
      rcases hA with rfl | rfl <;> exact absurd h List.not_mem_nil
    rw [vup_na ha.1, vup_na ha.1, vup_na ha.1, vup_na ha.1, vup_na ha.1, vup_na ha.2]
  · subst e
    rcases hA with rfl | rfl <;> exact absurd hy (by decide)
  · rcases hA with rfl | rfl <;> exact wt_i (wt_i (wt_i (wt_i (wt_i (wt_o (by decide) (by decide) w) (by decide)) (by decide)) (by decide)) (by decide)) (by decide)
theorem hM_E2 {V : Nat → Nat → Value} {I : Nat → Nat → Int32} {C z : Nat} {X : xI} (h : hM V I C z (rG X)) (hz : X.length = z) : holdE V I C 2 0 X := by
  obtain ⟨h1, h2, h3, h4, h5⟩ := h
  refine ⟨h1, h2, by rw [hz]; exact h3, h4, ?_⟩
  unfold itm
  rw [if_pos rfl, hz]
  intro k hk
  refine ⟨(h5 k 0 hk (by omega)).trans (if_pos rfl), fun c hc => (h5 k (1 + c) hk (by omega)).trans ?_⟩
  unfold rG
  rw [if_neg (by omega), show 1 + c - 1 = c by omega]
set_option maxRecDepth 100000 in
set_option maxHeartbeats 4000000 in
theorem c_draw {V : Nat → Nat → Value} {I : Nat → Nat → Int32} {L : Nat → Nat → Int64} {R : Nat → Nat → Option Nat} {tl : am_H} {N i kd sz : Nat} {st : Int64} (hN : 5000 < N) (hi : i < 4) (hz : szK kd sz) (hs : V (42 + 9 * i) 0 = .long st) (hw : wt V) (l7 : L 77 = tW) (l8 : L 78 = tT) : ∃ W J ln X st', fm_202 N (.ref 0) (.ref (42 + 9 * i)) (nI kd) (nI sz) (fx V I L R ++ tl) = some (.inl (none, fx W J L R ++ tl)) ∧ isDr kd sz st ln X st' ∧ holdE W J 167 kd ln X ∧ W (42 + 9 * i) 0 = .long st' ∧ kq i V W I J := by
  obtain ⟨k3, z1, z2, z3⟩ := hz
  rcases (by omega : kd ≤ 1 ∨ kd = 2 ∨ kd = 3) with k1 | rfl | rfl
  · obtain ⟨s1, s9⟩ := z1 k1
    obtain ⟨r, er⟩ : ∃ r, r = wdr st (uT 0 sz) := ⟨_, rfl⟩
    have up := uT_pos sz (by omega) s1
    have hr : r < uT 0 sz := by rw [er]; exact wdr_lt up
    obtain ⟨ho, lT, gT⟩ := un_okP s1 (by omega) hr
    have e15 : fm_15 (.ref 76) 0 (nI sz) (fx V I L R ++ tl) = some (.inl (some (.long (lN (uT 0 sz))), fx V I L R ++ tl)) := y_15 (c := 0) l8 (by omega) s1 (by omega)
    have e94 := y_194i (I := I) (L := L) (R := R) (tl := tl) (T := uT 0 sz) hi hs up (u_c s1 (by omega) (show 0 < 6 by omega)).2
    rw [show (2147483648 * hlf (nxt st) + hlf (nxt (nxt st))) % uT 0 sz = wdr st (uT 0 sz) from rfl, ← er] at e94
    obtain ⟨V1, eV1⟩ : ∃ X, X = vup V (42 + 9 * i) 0 (.long (nxt (nxt st))) := ⟨_, rfl⟩
    rw [← eV1] at e94
    have w1 : wt V1 := by rw [eV1]; exact wt_42 hi hw
    have q1 : kq i V V1 I I := by rw [eV1]; exact kq_D (frDd_42 hi)
    have s42 : V1 (42 + 9 * i) 0 = .long (nxt (nxt st)) := by rw [eV1]; exact vup_eq
    rcases (by omega : kd = 0 ∨ kd = 1) with rfl | rfl
    · have e91 : fm_91 N (.ref 76) 0 (nI sz) (lN r) (.ref 167) (fx V1 I L R ++ tl) = _ := x_91 (c := 0) (by omega) l7 l8 (by omega) s1 (by omega) hr
      obtain ⟨V2, eV2⟩ : ∃ X, X = vup (vup (vup (vup (vup (vup V1 76 3 (.ref 167)) 167 1 (.int 0)) 167 2 (.int 0)) 167 3 (.int 0)) 167 4 (.int 2)) 167 3 (.int (nI sz)) := ⟨_, rfl⟩
      obtain ⟨I2, eI2⟩ : ∃ X, X = iup I 168 (wrt (I 168) 0 (un 0 sz r)) := ⟨_, rfl⟩
      rw [← eV2, ← eI2] at e91
      have q2 : kq i V1 V2 I I2 := by rw [eV2]; exact x91_k (A := 167) (.inl rfl) (fun y h => by rw [eI2]; exact iup_na h)
      have hd : hold V2 I2 167 0 0 (unX 0 sz r) := ⟨by rw [eV2]; rfl, by rw [eV2]; rfl, by rw [eV2, lT]; rfl, by rw [eV2]; rfl, by rw [eI2]; show tO (iup I 168 _ 168) _; rw [iup_eq]; exact unX_tO⟩
      refine ⟨V2, I2, 0, tI (unX 0 sz r), nxt (nxt st), ?_, .inl ⟨by omega, rfl, rfl, r, er, .inl ⟨rfl, rfl⟩⟩, (hold_E (by decide)).mp hd, ?_, kq_t q1 q2⟩
      · apply hm_202
        apply hd_202_0
        refine ev_t (by decide) (ev_t (by decide) (ev_f (fun u => u rfl) (ev_b (rdR rfl) ?_)))
        apply hd_202_43
        exact ev_b (rdR rfl) (ev_b (rdR rfl) (ev_i rfl (ev_cL e15 (ev_i (yo_8 hi) (ev_cL e94 (ev_i rfl (ev_cV e91 (ev_t (by decide) (hd_202_111 rfl)))))))))
      · rw [eV2, vup_na (by omega), vup_na (by omega), vup_na (by omega), vup_na (by omega), vup_na (by omega), vup_na (by omega)]
        exact s42
    · have e91 : fm_91 N (.ref 76) 0 (nI sz) (lN r) (.ref 169) (fx V1 I L R ++ tl) = _ := x_91o (c := 0) (by omega) l7 l8 (by omega) s1 (by omega) hr
      obtain ⟨V2, eV2⟩ : ∃ X, X = vup (vup (vup (vup (vup (vup V1 76 3 (.ref 169)) 169 1 (.int 0)) 169 2 (.int 0)) 169 3 (.int 0)) 169 4 (.int 2)) 169 3 (.int (nI sz)) := ⟨_, rfl⟩
      obtain ⟨I2, eI2⟩ : ∃ X, X = iup I 170 (wrt (I 170) 0 (un 0 sz r)) := ⟨_, rfl⟩
      rw [← eV2, ← eI2] at e91
      have q2 : kq i V1 V2 I I2 := by rw [eV2]; exact x91_k (A := 169) (.inr rfl) (fun y h => by rw [eI2]; exact iup_na h)
      have w2 := q2.2.2 w1
      have hd : hold V2 I2 169 0 0 (unX 0 sz r) := ⟨by rw [eV2]; rfl, by rw [eV2]; rfl, by rw [eV2, lT]; rfl, by rw [eV2]; rfl, by rw [eI2]; show tO (iup I 170 _ 170) _; rw [iup_eq]; exact unX_tO⟩
      have v42 : V2 (42 + 9 * i) 0 = .long (nxt (nxt st)) := by
        rw [eV2, vup_na (by omega), vup_na (by omega), vup_na (by omega), vup_na (by omega), vup_na (by omega), vup_na (by omega)]
        exact s42
      obtain ⟨W, J, b, e3, b1, b2, f3⟩ := c_205 (V := V2) (I := I2) (L := L) (R := R) (tl := tl) (N := N) (A := 169) (it := 170) (by omega) ho w2 (srcP_169 (L := L) (R := R) w2 hd (by omega) (by omega) (by omega)) (by decide) (by decide)
      have q3 : kq i V W I J := kq_t q1 (kq_t q2 (kq_k (keep_Co f3)))
      have w42 : W (42 + 9 * i) 0 = .long (nxt (nxt st)) := (f3.1 _ _ (by omega) (by omega) (by omega)).trans v42
      have pre : ∀ o, (if ¬ bI b = 0 then (fg_202_111 N (fx W J L R ++ tl)) else ((am_vR (am_pG 2831 (.ref 0) (fx W J L R ++ tl))).bind fun v29 => (if am_pOk 3 v29 (fx W J L R ++ tl) then am_cV true (fm_34 v29 1 0 (fx W J L R ++ tl)) (fun h33 => ((am_vR (am_pG 2831 (.ref 0) h33)).bind fun v35 => (if am_pOk 3 v35 h33 then am_cI true (fm_41 N v35 0 0 h33) (fun v38 h39 => (fg_202_111 N h39)) else none))) else none))) = o → fm_202 N (.ref 0) (.ref (42 + 9 * i)) (nI 1) (nI sz) (fx V I L R ++ tl) = o := fun o k_ => by
        apply hm_202
        apply hd_202_0
        refine ev_t (by decide) (ev_t (by decide) (ev_t (by decide) (ev_b (rdR rfl) ?_)))
        apply hd_202_43
        exact ev_b (rdR rfl) (ev_b (rdR rfl) (ev_i rfl (ev_cL e15 (ev_i (yo_8 hi) (ev_cL e94 (ev_i rfl (ev_cV e91 (ev_f (fun u => u rfl) (ev_b (rdR rfl) (ev_b (rdR rfl) (ev_b (rdR rfl) (ev_i rfl (ev_cI e3 k_)))))))))))))
      cases b with
      | true => exact ⟨W, J, 0, tI (cO2 (unX 0 sz r) 0), nxt (nxt st), pre _ (ev_t (by decide) (hd_202_111 rfl)), .inl ⟨by omega, rfl, rfl, r, er, .inr (.inl ⟨rfl, b1.mp rfl, rfl⟩)⟩, (hold_E (by decide)).mp (b2 rfl), w42, q3⟩
      | false =>
        obtain ⟨W3, J3, e4, h4, f4⟩ := s34_167 (V := W) (I := J) (L := L) (R := R) (tl := tl) (kd := 1) (ln := 0) 1 0 rfl rfl (by omega) (by omega)
        obtain ⟨W4, J4, e5, h5, f5⟩ := s41_167 (V := W3) (I := J3) (L := L) (R := R) (tl := tl) (N := N) (a := 0) (b := 0) (by omega) h4 (by decide) 0 rfl
        refine ⟨W4, J4, 0, [(0, 0)], nxt (nxt st), pre _ (ev_f (fun u => u rfl) (ev_b (rdR rfl) (ev_i rfl (ev_cV e4 (ev_b (rdR rfl) (ev_i rfl (ev_cI e5 (hd_202_111 rfl)))))))), .inl ⟨by omega, rfl, rfl, r, er, .inr (.inr ⟨rfl, fun u => Bool.noConfusion (b1.mpr u), rfl⟩)⟩, (hold_E (by decide)).mp h5, (f5.1 _ _ (by omega)).trans ((f4.1 _ _ (by omega)).trans w42), kq_t q3 (kq_t (kq_D (frDd_1 f4)) (kq_D (frDd_1 f5)))⟩
  · obtain ⟨s1, s6⟩ := z2 rfl
    obtain ⟨W1, J1, e1, h1, f1⟩ := sMx_34 (V := V) (I := I) (L := L) (R := R) (tl := tl) (G := rG [])
    obtain ⟨W2, J2, e2, h2, w2, f2⟩ := c_m11 (L := L) (R := R) (tl := tl) (N := N) (by omega) hi s1 s6 sz 0 N W1 J1 [] st (by omega) (by omega) rfl h1 ((f1.1 _ _ (by omega)).trans hs)
    refine ⟨W2, J2, 0, _, _, ?_, .inr (.inl ⟨rfl, rfl, rfl, rfl⟩), hM_E2 h2 (by rw [rpG_len, List.length_nil, Nat.zero_add]), w2, kq_t (kq_D (frDd_1 f1)) (kq_D f2)⟩
    apply hm_202
    apply hd_202_0
    refine ev_f (fun u => u rfl) (ev_i rfl (ev_cV (show fm_203 N (.ref 0) (.ref (42 + 9 * i)) (nI sz) (fx V I L R ++ tl) = _ from ?_) (hd_202_111 rfl)))
    apply hm_203
    apply hd_203_0
    exact ev_b (rdR rfl) (ev_i rfl (ev_cV e1 e2))
  · obtain ⟨s2, s8⟩ := z3 rfl
    obtain ⟨W1, J1, e1, h1, f1⟩ := s34_167 (V := V) (I := I) (L := L) (R := R) (tl := tl) (kd := 3) (ln := sz) 3 (nI sz) rfl rfl (by omega) (by omega)
    obtain ⟨W2, J2, Q', e2, h2, q2, w2, f2⟩ := c_n11 (L := L) (R := R) (tl := tl) (N := N) (by omega) hi s2 s8 (2 * sz) 0 N W1 J1 [] st (by omega) (by omega) rfl h1 ((f1.1 _ _ (by omega)).trans hs)
    refine ⟨W2, J2, sz, tI Q', _, ?_, .inr (.inr ⟨rfl, rfl, q2, rfl⟩), (hold_E (by decide)).mp h2, w2, kq_t (kq_D (frDd_1 f1)) (kq_D f2)⟩
    apply hm_202
    apply hd_202_0
    refine ev_t (by decide) (ev_f (fun u => u rfl) (ev_i rfl (ev_cV (show fm_204 N (.ref 0) (.ref (42 + 9 * i)) (nI sz) (fx V I L R ++ tl) = _ from ?_) (hd_202_111 rfl))))
    apply hm_204
    apply hd_204_0
    exact ev_b (rdR rfl) (ev_i rfl (ev_cV e1 e2))
/-- what drawing leaves in the reference -/
def frV (V W : Nat → Nat → Value) (I J : Nat → Nat → Int32) (L M : Nat → Nat → Int64) : Prop := (∀ a j, ¬ (a = 174 ∧ ((13 ≤ j ∧ j ≤ 15) ∨ (18 ≤ j ∧ j ≤ 20) ∨ j = 80 ∨ j = 88 ∨ j = 96)) → W a j = V a j) ∧ (∀ y, ¬ ((186 ≤ y ∧ y ≤ 192) ∨ y = 211 ∨ y = 219 ∨ (227 ≤ y ∧ y ≤ 229) ∨ y = 253) → J y = I y) ∧ (∀ y, ¬ (224 ≤ y ∧ y ≤ 230) → M y = L y) ∧ (wt V → wt W) ∧ (rInv V L → rInv W M)
theorem frV_t {U V W : Nat → Nat → Value} {G I J : Nat → Nat → Int32} {K L M : Nat → Nat → Int64} (f : frV U V G I K L) (g : frV V W I J L M) : frV U W G J K M := ⟨fun a j h => (g.1 a j h).trans (f.1 a j h), fun y h => (g.2.1 y h).trans (f.2.1 y h), fun y h => (g.2.2.1 y h).trans (f.2.2.1 y h), fun h => g.2.2.2.1 (f.2.2.2.1 h), fun h => g.2.2.2.2 (f.2.2.2.2 h)⟩
theorem frV_E {V W : Nat → Nat → Value} {I J : Nat → Nat → Int32} {L : Nat → Nat → Int64} (f : frEe V W I J) : frV V W I J L L := ⟨fun a j h => f.1 a j (by omega), fun y h => f.2.1 y (by omega) (by omega), fun _ _ => rfl, f.2.2, fun h => rInv_v (f.1 174 80 (by omega)) h⟩
theorem frV_Tc {V W : Nat → Nat → Value} {I J : Nat → Nat → Int32} {L : Nat → Nat → Int64} (f : frTc V W I J) : frV V W I J L L := ⟨fun a j h => f.1 a j (by omega), fun y h => f.2.1 y (by omega) (by omega) (by omega) (by omega) (by omega) (by omega) (by omega) (by omega), fun _ _ => rfl, f.2.2, fun h => rInv_v (f.1 174 80 (by omega)) h⟩
set_option maxRecDepth 100000 in
set_option maxHeartbeats 4000000 in
theorem r_grow {V : Nat → Nat → Value} {I : Nat → Nat → Int32} {L : Nat → Nat → Int64} {R : Nat → Nat → Option Nat} {tl : am_H} {N n r : Nat} (hN : 40 < N) (m4 : L 224 = tC) (m5 : L 225 = tS) (h80 : V 174 80 = .int 1) (h14 : V 174 14 = .int (nI 0)) (hw : wt V) (n1 : 1 ≤ n) (n2 : n ≤ 12) (hr : r < uT 0 n) : ∃ W J M, fm_386 N (.ref 174) 0 0 (nI n) (lN r) (fx V I L R ++ tl) = some (.inl (none, fx W J M R ++ tl)) ∧ dkL W J (tI (unX 0 n r)) ∧ frV V W I J L M ∧ W 174 13 = V 174 13 ∧ W 174 15 = V 174 15 ∧ W 174 96 = V 174 96 := by
  obtain ⟨x88, hx88⟩ := hw.1 174 88 (by decide)
  obtain ⟨k0, rfl⟩ := nI_all x88
  have hgs := gS_of (V := V) (I := I) (L := L) (R := R) (tl := tl) (s := 0) (k := k0) h14 hx88
  obtain ⟨c', d', e', p', g⟩ := g_386 (V := V) (I := I) (L := L) (R := R) (tl := tl) m4 m5 h80 (N := N) (w := 0) (t := 0) (n := n) (P := r) (s0 := 0) (k0 := k0) (a := I 186) (b := I 187) (c := I 227) (d := I 228) (e := I 229) (p := L 230) (by omega) (by omega) (by omega) n1 n2 hr (by omega)
  rw [Nat.zero_add] at g
  obtain ⟨V7, hV7⟩ : ∃ V7, V7 = vup (vup V 174 14 (.int (nI n))) 174 88 (.int (nI 0)) := ⟨_, rfl⟩
  obtain ⟨J7, hJ7⟩ : ∃ J7, J7 = iup (iup (iup (iup (iup I 186 (wA (I 186) 0 (un 0 n r))) 187 (wB (I 187) 0 (un 0 n r))) 227 c') 228 d') 229 e' := ⟨_, rfl⟩
  obtain ⟨M7, hM7⟩ : ∃ M7, M7 = lup L 230 p' := ⟨_, rfl⟩
  have hg7 : gS V I L R tl n 0 (wA (I 186) 0 (un 0 n r)) (wB (I 187) 0 (un 0 n r)) c' d' e' p' = fx V7 J7 M7 R ++ tl := by
    rw [hV7, hJ7, hM7]
    rfl
  have g' : fm_386 N (.ref 174) 0 0 (nI n) (lN r) (fx V I L R ++ tl) = some (.inl (none, fx V7 J7 M7 R ++ tl)) := by
    rw [← hg7, hgs]
    exact g
  have v7 : ∀ a j, ¬ (a = 174 ∧ (j = 14 ∨ j = 88)) → V7 a j = V a j := fun a j h => by rw [hV7, vup_o (fun q => h ⟨q.1, by omega⟩), vup_o (fun q => h ⟨q.1, by omega⟩)]
  refine ⟨V7, J7, M7, g', ⟨?_, ?_⟩, ⟨fun a j h => v7 a j (by omega), fun y h => by rw [hJ7, iup_na (by omega), iup_na (by omega), iup_na (by omega), iup_na (by omega), iup_na (by omega)], fun y h => by rw [hM7, lup_na (by omega)], fun w => by rw [hV7]; exact wt_i (wt_i w (by decide)) (by decide), fun h => ?_⟩, v7 174 13 (by omega), v7 174 15 (by omega), v7 174 96 (by omega)⟩
  · rw [tI_len, (unX_ok (c := 0) (tr := 0) (fl := 0) n1 n2 (by omega) hr rfl rfl).1, hV7]
    exact (vup_nj (by decide)).trans vup_eq
  · have l := lay_un (s := I 186) (v := I 187) (Q := []) (c := 0) (n := n) (r := r) (fun k x h => absurd h (by simp))
    rw [hJ7]
    exact l
  · have e1 : M7 224 = L 224 := by rw [hM7]; exact lup_na (by decide)
    have e2 : M7 225 = L 225 := by rw [hM7]; exact lup_na (by decide)
    unfold rInv
    rw [e1, e2, v7 174 80 (by omega)]
    exact h
set_option maxRecDepth 100000 in
set_option maxHeartbeats 4000000 in
theorem r_draw {V : Nat → Nat → Value} {I : Nat → Nat → Int32} {L : Nat → Nat → Int64} {R : Nat → Nat → Option Nat} {tl : am_H} {N kd sz ln : Nat} {st st' : Int64} {X : xI} (hN : 5000 < N) (hz : szK kd sz) (hs : V 174 96 = .long st) (hw : wt V) (iv : rInv V L) (hi : isDr kd sz st ln X st') : ∃ W J M, fm_491 N (.ref 174) (nI kd) (nI sz) (fx V I L R ++ tl) = some (.inl (none, fx W J M R ++ tl)) ∧ dkL W J X ∧ W 174 13 = .int (nI kd) ∧ (∃ nt, W 174 15 = .int nt ∧ (if nI kd = 3 then nt else 0) = nI ln) ∧ W 174 96 = .long st' ∧ frV V W I J L M := by
  obtain ⟨k3, z1, z2, z3⟩ := hz
  obtain ⟨V0, eV0⟩ : ∃ X, X = vup (vup (vup V 174 13 (.int (nI kd))) 174 14 (.int 0)) 174 15 (.int 0) := ⟨_, rfl⟩
  have f0 : frEe V V0 I I := by rw [eV0]; exact frEe_t frEe_13 (frEe_t frEe_14 frEe_15)
  have a13 : V0 174 13 = .int (nI kd) := by rw [eV0, vup_o (by decide), vup_o (by decide)]; exact vup_eq
  have a14 : V0 174 14 = .int (nI 0) := by rw [eV0, vup_o (by decide)]; exact vup_eq
  have a15 : V0 174 15 = .int (nI 0) := by rw [eV0]; exact vup_eq
  have a96 : V0 174 96 = .long st := by rw [eV0, vup_o (by decide), vup_o (by decide), vup_o (by decide)]; exact hs
  have w0 := f0.2.2 hw
  have iv0 : rInv V0 L := (frV_E (L := L) f0).2.2.2.2 iv
  have pre : ∀ o, (if ¬ nI kd = 2 then (if ¬ nI kd = 3 then (if am_pOk 12 (.ref 174) (fx V0 I L R ++ tl) then am_cV true (fm_377 N (.ref 174) (fx V0 I L R ++ tl)) (fun h11 => (if am_pOk 12 (.ref 174) h11 then am_cL true (fm_383 (.ref 174) 0 0 (nI sz) h11) (fun v14 h15 => (if am_pOk 12 (.ref 174) h15 then am_cL true (fm_477 (.ref 174) v14 h15) (fun v18 h19 => ((am_pP 3085 (.ref 174) (.int 0) h19).bind fun h21 => (if am_pOk 12 (.ref 174) h21 then am_cV true (fm_386 N (.ref 174) 0 0 (nI sz) v18 h21) (fun h25 => (if ¬ nI kd = 1 then (fg_491_98 N h25) else (if am_pOk 12 (.ref 174) h25 then am_cI true (fm_494 N (.ref 174) h25) (fun v29 h30 => (if ¬ v29 = 0 then (fg_491_98 N h30) else ((am_pP 3085 (.ref 174) (.int 1) h30).bind fun h33 => ((am_pP 3086 (.ref 174) (.int 0) h33).bind fun h35 => (if am_pOk 12 (.ref 174) h35 then am_cV true (fm_335 (.ref 174) 0 0 h35) (fun h39 => (fg_491_98 N h39)) else none))))) else none))) else none))) else none)) else none)) else none) else (if am_pOk 12 (.ref 174) (fx V0 I L R ++ tl) then am_cV true (fm_493 N (.ref 174) (nI sz) (fx V0 I L R ++ tl)) (fun h43 => (fg_491_98 N h43)) else none)) else (if am_pOk 12 (.ref 174) (fx V0 I L R ++ tl) then am_cV true (fm_492 N (.ref 174) (nI sz) (fx V0 I L R ++ tl)) (fun h47 => (fg_491_98 N h47)) else none)) = o → fm_491 N (.ref 174) (nI kd) (nI sz) (fx V I L R ++ tl) = o := fun o k_ => by
    apply hm_491
    apply hd_491_0
    exact ev_b qp_174_13 (ev_b qp_174_14 (ev_b (a := fx V0 I L R ++ tl) (by rw [eV0]; exact qp_174_15) k_))
  rcases hi with ⟨k1, rfl, rfl, r, er, hi⟩ | ⟨rfl, rfl, rfl, rfl⟩ | ⟨rfl, rfl, rfl, rfl⟩
  · obtain ⟨s1, s9⟩ := z1 k1
    have up := uT_pos sz (by omega) s1
    have hr : r < uT 0 sz := by rw [er]; exact wdr_lt up
    obtain ⟨ho, lT, gT⟩ := un_okP s1 (by omega) hr
    obtain ⟨W1, M1, e1, y1, m1, m2, f1, f2, ww⟩ := x_377w (V := V0) (I := I) (L := L) (R := R) (tl := tl) (N := N) (by omega) iv0 w0
    have e83 : fm_383 (.ref 174) 0 0 (nI sz) (fx W1 I M1 R ++ tl) = some (.inl (some (.long (lN (uT 0 sz))), fx W1 I M1 R ++ tl)) := x_383 (w := 0) (t := 0) m1 (by omega) (by omega) (by omega)
    have e77 := x_477 (V := W1) (I := I) (L := M1) (R := R) (tl := tl) (T := uT 0 sz) ((f1 174 96 (by decide)).trans a96) up (u_c s1 (by omega) (show 0 < 6 by omega)).2
    rw [show (2147483648 * hlf (nxt st) + hlf (nxt (nxt st))) % uT 0 sz = wdr st (uT 0 sz) from rfl, ← er] at e77
    obtain ⟨V2, eV2⟩ : ∃ X, X = vup (vup W1 174 96 (.long (nxt (nxt st)))) 174 13 (.int 0) := ⟨_, rfl⟩
    have o2 : ∀ a j, ¬ (a = 174 ∧ (j = 13 ∨ j = 96)) → V2 a j = W1 a j := fun a j h => by rw [eV2, vup_o (fun q => h ⟨q.1, .inl q.2⟩), vup_o (fun q => h ⟨q.1, .inr q.2⟩)]
    have w2 : wt V2 := by rw [eV2]; exact wt_i (wt_lg ww (by decide)) (by decide)
    have g80 : V2 174 80 = .int 1 := (o2 174 80 (by decide)).trans y1
    have g14 : V2 174 14 = .int (nI 0) := (o2 174 14 (by decide)).trans ((f1 174 14 (by decide)).trans a14)
    have g15 : V2 174 15 = .int (nI 0) := (o2 174 15 (by decide)).trans ((f1 174 15 (by decide)).trans a15)
    have g96 : V2 174 96 = .long (nxt (nxt st)) := by rw [eV2, vup_o (by decide)]; exact vup_eq
    have g13 : V2 174 13 = .int 0 := by rw [eV2]; exact vup_eq
    have fV2 : frV V V2 I I L M1 := frV_t (frV_E f0) ⟨fun a j h => (o2 a j (by omega)).trans (f1 a j (by omega)), fun _ _ => rfl, fun y h => f2 y (by omega) (by omega) (by omega), fun _ => w2, fun _ => .inr ⟨g80, m1, m2⟩⟩
    obtain ⟨W3, J3, M3, e3, d3, f3, t13, t15, t96⟩ := r_grow (V := V2) (I := I) (L := M1) (R := R) (tl := tl) (N := N) (by omega) m1 m2 g80 g14 w2 s1 (by omega) hr
    have fV3 := frV_t fV2 f3
    have k2 : ¬ nI kd = 2 := fun q => by have := (nI_eq (b := 2) (by omega) (by omega)).mp q; omega
    have k3' : ¬ nI kd = 3 := fun q => by have := (nI_eq (b := 3) (by omega) (by omega)).mp q; omega
    have pre2 : ∀ o, (if ¬ nI kd = 1 then (fg_491_98 N (fx W3 J3 M3 R ++ tl)) else (if am_pOk 12 (.ref 174) (fx W3 J3 M3 R ++ tl) then am_cI true (fm_494 N (.ref 174) (fx W3 J3 M3 R ++ tl)) (fun v29 h30 => (if ¬ v29 = 0 then (fg_491_98 N h30) else ((am_pP 3085 (.ref 174) (.int 1) h30).bind fun h33 => ((am_pP 3086 (.ref 174) (.int 0) h33).bind fun h35 => (if am_pOk 12 (.ref 174) h35 then am_cV true (fm_335 (.ref 174) 0 0 h35) (fun h39 => (fg_491_98 N h39)) else none))))) else none)) = o → fm_491 N (.ref 174) (nI kd) (nI sz) (fx V I L R ++ tl) = o := fun o k_ => pre _ (ev_t k2 (ev_t k3' (ev_i rfl (ev_cV e1 (ev_i rfl (ev_cL e83 (ev_i rfl (ev_cL e77 (ev_b (a := fx V2 I M1 R ++ tl) (by rw [eV2]; exact qp_174_13) (ev_i rfl (ev_cV e3 k_)))))))))))
    rcases hi with ⟨rfl, rfl⟩ | ⟨rfl, hC, rfl⟩ | ⟨rfl, hC, rfl⟩
    · exact ⟨W3, J3, M3, pre2 _ (ev_t (by decide) (hd_491_98 rfl)), d3, t13.trans g13, ⟨_, t15.trans g15, rfl⟩, t96.trans g96, fV3⟩
    · obtain ⟨W4, J4, b, e4, b1, b2, f4⟩ := rs_494 (V := W3) (I := J3) (L := M3) (R := R) (tl := tl) (N := N) (nt := nI 0) (by omega) ho (by omega) ⟨t13.trans g13, t15.trans g15, d3⟩
      obtain rfl : b = true := b1.mpr hC
      obtain ⟨c1, c2, c3⟩ := b2 rfl
      exact ⟨W4, J4, M3, pre2 _ (ev_f (fun u => u rfl) (ev_i rfl (ev_cI e4 (ev_t (by decide) (hd_491_98 rfl))))), c3, c1, ⟨_, c2, rfl⟩, (f4.1 174 96 (by decide)).trans (t96.trans g96), frV_t fV3 (frV_Tc f4)⟩
    · obtain ⟨W4, J4, b, e4, b1, b2, f4⟩ := rs_494 (V := W3) (I := J3) (L := M3) (R := R) (tl := tl) (N := N) (nt := nI 0) (by omega) ho (by omega) ⟨t13.trans g13, t15.trans g15, d3⟩
      have bf : b = false := by
        cases b with
        | true => exact absurd (b1.mp rfl) hC
        | false => rfl
      subst bf
      obtain ⟨V5, eV5⟩ : ∃ X, X = vup (vup W4 174 13 (.int 1)) 174 14 (.int 0) := ⟨_, rfl⟩
      have f5 : frEe W4 V5 J4 J4 := by rw [eV5]; exact frEe_t frEe_13 frEe_14
      obtain ⟨W6, J6, e6, d6, f6⟩ := s335 (V := V5) (I := J4) (L := M3) (R := R) (tl := tl) (Q := []) 0 0 ⟨by rw [eV5]; exact vup_eq, fun k x h => absurd h (by simp)⟩ (by decide)
      have w6 : wt W6 := f6.2.2 (f5.2.2 (f4.2.2 (f3.2.2.2.1 w2)))
      obtain ⟨x15, h15⟩ := w6.1 174 15 (by decide)
      refine ⟨W6, J6, M3, pre2 _ (ev_f (fun u => u rfl) (ev_i rfl (ev_cI e4 (ev_f (fun u => u rfl) (ev_b qp_174_13 (ev_b (a := fx V5 J4 M3 R ++ tl) (by rw [eV5]; exact qp_174_14) (ev_i rfl (ev_cV e6 (hd_491_98 rfl))))))))), d6, (f6.1 174 13 (by decide)).trans (by rw [eV5, vup_o (by decide)]; exact vup_eq), ⟨x15, h15, rfl⟩, (f6.1 174 96 (by decide)).trans (by rw [eV5, vup_o (by decide), vup_o (by decide)]; exact (f4.1 174 96 (by decide)).trans (t96.trans g96)), frV_t fV3 (frV_t (frV_Tc f4) (frV_t (frV_E f5) (frV_E (frEe_Dk f6))))⟩
  · obtain ⟨s1, s6⟩ := z2 rfl
    obtain ⟨W2, J2, e2, h2, w2, f2, x1, x2⟩ := r_m2 (L := L) (R := R) (tl := tl) (N := N) (by omega) s1 s6 sz 0 N V0 I [] st (by omega) (by omega) rfl ⟨a14, fun k x h => absurd h (by simp)⟩ a96
    exact ⟨W2, J2, L, pre _ (ev_f (fun u => u rfl) (ev_i rfl (ev_cV (show fm_492 N (.ref 174) (nI sz) (fx V0 I L R ++ tl) = _ from hm_492 (hd_492_0 e2)) (hd_491_98 rfl)))), h2, x1.trans a13, ⟨_, x2.trans a15, rfl⟩, w2, frV_E (frEe_t f0 f2)⟩
  · obtain ⟨s2, s8⟩ := z3 rfl
    obtain ⟨V1, eV1⟩ : ∃ X, X = vup V0 174 15 (.int (nI ln)) := ⟨_, rfl⟩
    have f1 : frEe V0 V1 I I := by rw [eV1]; exact frEe_15
    obtain ⟨W2, J2, e2, h2, w2, f2, x1, x2⟩ := r_n7 (L := L) (R := R) (tl := tl) (N := N) (by omega) s2 s8 (2 * ln) 0 N V1 I [] st (by omega) (by omega) rfl ⟨by rw [eV1, vup_o (by decide)]; exact a14, fun k x h => absurd h (by simp)⟩ (by rw [eV1, vup_o (by decide)]; exact a96)
    refine ⟨W2, J2, L, pre _ (ev_t (by decide) (ev_f (fun u => u rfl) (ev_i rfl (ev_cV (show fm_493 N (.ref 174) (nI ln) (fx V0 I L R ++ tl) = _ from hm_493 (hd_493_0 (ev_b (a := fx V1 I L R ++ tl) (by rw [eV1]; exact qp_174_15) e2))) (hd_491_98 rfl))))), h2, x1.trans (by rw [eV1, vup_o (by decide)]; exact a13), ⟨nI ln, x2.trans (by rw [eV1]; exact vup_eq), rfl⟩, w2, frV_E (frEe_t f0 (frEe_t f1 f2))⟩
