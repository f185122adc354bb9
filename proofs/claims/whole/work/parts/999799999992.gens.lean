/-! ===== generation upon generation ===== -/
theorem hd_215_23 {N : Nat} {h : am_H} {r_ : Option am_O} (k_ : some (.inl (some (.int 3), h)) = r_) : fg_215_23 N h = r_ := k_
theorem hd_215_19 {N : Nat} {h : am_H} {r_ : Option am_O} (k_ : some (.inl (some (.int 2), h)) = r_) : fg_215_19 N h = r_ := k_
theorem hd_215_15 {N : Nat} {h : am_H} {r_ : Option am_O} (k_ : some (.inl (some (.int 1), h)) = r_) : fg_215_15 N h = r_ := k_
theorem hd_215_0 {N : Nat} {x0 : Value} {x1 : Int32} {x2 : Int32} {x3 : Value} {h : am_H} {r_ : Option am_O} (k_ : (if am_pOk 11 x0 h then (match fm_216 N x0 x1 x2 h with | some (.inl (some (.int v2), h3)) => ((am_pSL x3 0 (Int32.toInt64 v2) h3).bind fun h5 => some (.inl (some (.int 0), h5))) | some (.inr (0, h7)) => (fg_215_19 N h7) | some (.inr (1, h9)) => (fg_215_23 N h9) | some (.inr (2, h11)) => (fg_215_15 N h11) | _ => none) else none) = r_) : fg_215_0 N x0 x1 x2 x3 h = r_ := k_
theorem hm_215 {N : Nat} {y0 : Value} {y1 : Int32} {y2 : Int32} {y3 : Value} {h : am_H} {r_ : Option am_O} (k_ : fg_215_0 N y0 y1 y2 y3 h = r_) : fm_215 N y0 y1 y2 y3 h = r_ := k_
theorem hd_216_77 {N : Nat} {K : Nat} {x0 : Value} {x2 : Int32} {x3 : Value} {x4 : Int32} {x5 : Int32} {h : am_H} {r_ : Option am_O} (k_ : (if x2 ≤ x5 then ((am_vR (am_pG 2816 x0 h)).bind fun v2 => ((am_vR (am_pG 2819 x0 h)).bind fun v4 => (if am_pOk 1 x3 h then am_cV true (fm_218 N x3 v2 v4 h) (fun h8 => ((am_vR (am_pG 257 x3 h8)).bind fun v10 => (if am_pOk 1 x3 h8 then am_cI true (fm_230 N x3 h8) (fun v13 h14 => ((am_pA 0 v10 v13 h14).bind fun v16 => some (.inl (some (.int v16), h14)))) else none))) else none))) else (if am_pOk 11 x0 h then am_cV true (fm_217 N x0 x3 x4 h) (fun h20 => (fg_216_77 N K x0 x2 x3 x4 ((x5 + 1)) h20)) else none)) = r_) : fg_216_77 N (K + 1) x0 x2 x3 x4 x5 h = r_ := by rw [fg_216_77]; exact k_
theorem hd_216_17 {N : Nat} {h : am_H} {r_ : Option am_O} (k_ : some (.inr (0, h ++ [am_dummy])) = r_) : fg_216_17 N h = r_ := k_
theorem hd_216_0 {N : Nat} {x0 : Value} {x1 : Int32} {x2 : Int32} {h : am_H} {r_ : Option am_O} (k_ : (if am_pOk 11 x0 h then am_cR true (fm_201 x0 x1 h) (fun v2 h3 => (if x2 < 1 then (fg_216_17 N h3) else (if x2 ≤ 20 then ((am_vI (am_pG 256 v2 h3)).bind fun v7 => (if ¬ v7 = 0 then ((am_vR (am_pG 2820 x0 h3)).bind fun v10 => ((am_pA 0 v10 1 h3).bind fun v12 => ((am_vI (am_pG 256 v2 h3)).bind fun v14 => am_cI false (fm_38 v12 v14 h3) (fun v16 h17 => ((am_vI (am_pG 256 v2 h17)).bind fun v19 => (if am_pOk 11 x0 h17 then am_cV true (fm_32 x0 (((v19 - v16) * x2)) h17) (fun h23 => (fg_216_77 N N x0 x2 v2 v16 0 h23)) else none)))))) else some (.inr (1, h3 ++ [am_dummy])))) else (fg_216_17 N h3)))) else none) = r_) : fg_216_0 N x0 x1 x2 h = r_ := k_
theorem hm_216 {N : Nat} {y0 : Value} {y1 : Int32} {y2 : Int32} {h : am_H} {r_ : Option am_O} (k_ : fg_216_0 N y0 y1 y2 h = r_) : fm_216 N y0 y1 y2 h = r_ := k_
theorem hd_502_118 {N : Nat} {K : Nat} {x0 : Value} {x1 : Int32} {x2 : Int32} {x5 : Int32} {h : am_H} {r_ : Option am_O} (k_ : (if x2 ≤ x5 then ((am_vR (am_pG 3172 x0 h)).bind fun v2 => ((am_vL (am_pG 3168 x0 h)).bind fun v4 => ((am_pSL v2 x1 v4 h).bind fun h6 => (if am_pOk 12 x0 h6 then am_cV true (fm_505 N x0 x1 h6) (fun h10 => ((am_vR (am_pG 3176 x0 h10)).bind fun v12 => (if am_pOk 12 x0 h10 then am_cI true (fm_517 N x0 h10) (fun v15 h16 => ((am_pA 0 v12 v15 h16).bind fun v18 => some (.inl (some (.int v18), h16)))) else none))) else none)))) else (if am_pOk 12 x0 h then am_cV true (fm_504 N x0 x1 h) (fun h22 => (fg_502_118 N K x0 x1 x2 ((x5 + 1)) h22)) else none)) = r_) : fg_502_118 N (K + 1) x0 x1 x2 x5 h = r_ := by rw [fg_502_118]; exact k_
theorem hd_502_93 {N : Nat} {x0 : Value} {x1 : Int32} {x2 : Int32} {s0 : Value} {s1 : Int32} {h : am_H} {r_ : Option am_O} (k_ : ((am_pP 3072 s0 (.int s1) h).bind fun h1 => ((am_vI (am_pG 3072 x0 h1)).bind fun v3 => (if v3 ≤ 0 then ((am_vR (am_pG 3172 x0 h1)).bind fun v6 => ((am_pAL v6 x1 h1).bind fun v8 => ((am_pP 3168 x0 (.long v8) h1).bind fun h10 => (fg_502_118 N N x0 x1 x2 0 h10)))) else some (.inl (some (.int 0), h1))))) = r_) : fg_502_93 N x0 x1 x2 s0 s1 h = r_ := k_
theorem hd_502_88 {N : Nat} {x0 : Value} {x1 : Int32} {x2 : Int32} {s0 : Value} {h : am_H} {r_ : Option am_O} (k_ : (fg_502_93 N x0 x1 x2 s0 3 h) = r_) : fg_502_88 N x0 x1 x2 s0 h = r_ := k_
theorem hd_502_38 {N : Nat} {x0 : Value} {x1 : Int32} {x2 : Int32} {x3 : Int32} {s0 : Int32} {h : am_H} {r_ : Option am_O} (k_ : (if am_pOk 12 x0 h then am_cI true (fm_489 x0 x1 h) (fun v2 h3 => (if ¬ v2 = 0 then am_cI false (fm_327 ((Int32.toInt64 x2)) 1 20 h3) (fun v6 h7 => (if ¬ v6 = 0 then (if x3 = 0 then (fg_502_88 N x0 x1 x2 x0 h7) else ((am_vI (am_pG 3073 x0 h7)).bind fun v11 => (if (v11 + (x2 * s0)) ≤ 600 then (fg_502_93 N x0 x1 x2 x0 0 h7) else (fg_502_88 N x0 x1 x2 x0 h7)))) else (fg_502_93 N x0 x1 x2 x0 2 h7))) else (fg_502_93 N x0 x1 x2 x0 1 h3))) else none) = r_) : fg_502_38 N x0 x1 x2 x3 s0 h = r_ := k_
theorem hd_502_18 {N : Nat} {x0 : Value} {x1 : Int32} {x2 : Int32} {s0 : Int32} {h : am_H} {r_ : Option am_O} (k_ : (if am_pOk 12 x0 h then am_cI true (fm_489 x0 x1 h) (fun v2 h3 => (if v2 = 0 then (fg_502_38 N x0 x1 x2 s0 0 h3) else (if am_pOk 12 x0 h3 then am_cI true (fm_503 x0 x1 h3) (fun v7 h8 => (fg_502_38 N x0 x1 x2 s0 ((s0 - v7)) h8)) else none))) else none) = r_) : fg_502_18 N x0 x1 x2 s0 h = r_ := k_
theorem hd_502_0 {N : Nat} {x0 : Value} {x1 : Int32} {x2 : Int32} {h : am_H} {r_ : Option am_O} (k_ : (if am_pOk 12 x0 h then am_cI true (fm_489 x0 x1 h) (fun v2 h3 => (if v2 = 0 then (fg_502_18 N x0 x1 x2 0 h3) else ((am_vR (am_pG 3170 x0 h3)).bind fun v6 => ((am_pA 0 v6 x1 h3).bind fun v8 => (fg_502_18 N x0 x1 x2 v8 h3))))) else none) = r_) : fg_502_0 N x0 x1 x2 h = r_ := k_
theorem hm_502 {N : Nat} {y0 : Value} {y1 : Int32} {y2 : Int32} {h : am_H} {r_ : Option am_O} (k_ : fg_502_0 N y0 y1 y2 h = r_) : fm_502 N y0 y1 y2 h = r_ := k_

def gMb (I : Nat → Nat → Int32) (i c : Nat) (nm : Nat → Nat) : Nat → Nat → Int32 := iup (iup I (41 + 9 * i) (fun x => nI (nm x))) 234 (csq (I 234) (fun x => nI (nm x)) (16 * i) c)
theorem gMb_o {I : Nat → Nat → Int32} {i c y : Nat} {nm : Nat → Nat} (h1 : y ≠ 41 + 9 * i) (h2 : y ≠ 234) : gMb I i c nm y = I y := by
  unfold gMb
  rw [iup_na h2, iup_na h1]
theorem gMb_4 {I : Nat → Nat → Int32} {i c : Nat} {nm : Nat → Nat} : gMb I i c nm 234 = csq (I 234) (fun x => nI (nm x)) (16 * i) c := iup_eq
theorem gMb_1 {I : Nat → Nat → Int32} {i c : Nat} {nm : Nat → Nat} (hi : i < 4) : gMb I i c nm (41 + 9 * i) = fun x => nI (nm x) := by
  unfold gMb
  rw [iup_na (by omega), iup_eq]
theorem m40 {i : Nat} (hi : i < 4) : 0 ∈ vRel (40 + 9 * i) := by rcases (by omega : i = 0 ∨ i = 1 ∨ i = 2 ∨ i = 3) with rfl | rfl | rfl | rfl <;> decide
theorem gMb_rel {V : Nat → Nat → Value} {I : Nat → Nat → Int32} {L : Nat → Nat → Int64} {R : Nat → Nat → Option Nat} {tl : am_H} {n p i c kd : Nat} {nm : Nat → Nat} (hi : i < 4) (hc : c ≤ 16) (h40 : V (40 + 9 * i) 0 = .int (nI c)) (hnm : ∀ x, x < c → nm x < n ∧ I 175 (nm x) = nI kd) (h : rel V I L R tl n p) : rel V (gMb I i c nm) L R tl n p := by
  obtain ⟨c', kd', t1, t2, t3, t4, t5⟩ := rIs_at h.2.2.2.2.2.2.1 hi
  have ec : c' = c := (nI_eq (by omega) (by omega)).mp (by
    rw [h40] at t2
    injection t2 with t2
    exact t2.symm)
  subst ec
  refine rel_isl hi (fun _ _ _ _ _ => rfl) (fun y _ h1 _ h3 => gMb_o h1 h3) (fun k _ _ => by rw [gMb_o (by omega) (by omega)]) (fun k _ hk => by rw [gMb_4, csq_out _ (by omega)]) (fun _ _ _ => rfl) (fun _ _ _ => rfl) (rel_w h) ⟨c', kd, t1, t2, by rw [gMb_o (by omega) (by omega)]; exact t3, t4, fun k hk => ⟨nm k, (hnm k hk).1, by rw [gMb_1 hi], by rw [gMb_4, csq_in _ hk], by rw [gMb_o (by omega) (by omega)]; exact (hnm k hk).2⟩⟩ h
theorem csK_g {V W : Nat → Nat → Value} {I J Ig Ih : Nat → Nat → Int32} {m : Nat} (h : csK V I Ig m) (v1 : W 14 1 = V 14 1) (v2 : W 174 31 = V 174 31) (e : ∀ y, y = 15 ∨ (197 ≤ y ∧ y ≤ 204) → J y = I y) (e' : ∀ y, y = 15 ∨ (197 ≤ y ∧ y ≤ 204) → Ih y = Ig y) : csK W J Ih m := by
  obtain ⟨c1, c2, c3, c4, c5, c6⟩ := h
  refine ⟨v1.trans c1, v2.trans c2, c3, by rw [e 15 (by omega), e' 15 (by omega)]; exact c4, fun y a b => by rw [e y (by omega), e' y (by omega)]; exact c5 y a b, fun k hk => ?_⟩
  unfold cOk
  rw [e' 15 (by omega), e' 197 (by omega), e' 198 (by omega), e' 199 (by omega), e' 200 (by omega), e' 201 (by omega), e' 202 (by omega), e' 203 (by omega), e' 204 (by omega)]
  exact c6 k hk
/-- generation upon generation, on paper -/
def gens (i c e T ch r3 kd m lm p : Nat) (Rf : Nat → Nat → Option Nat) (tlf : am_H) (Ψ : Nat → (Nat → Nat → Value) → (Nat → Nat → Int32) → (Nat → Nat → Int64) → Int64 → (Nat → Nat) → Prop) : Nat → Nat → (Nat → Nat → Value) → (Nat → Nat → Int32) → (Nat → Nat → Int64) → Int64 → (Nat → Nat) → Prop
  | 0, n, V, I, L, st, bm => Ψ n V I L st bm
  | q + 1, n, V, I, L, st, bm => rel V I L Rf tlf n p ∧ (∀ x, x < c → bm x < n) ∧ gnT c e T ch r3 kd m lm (fun n' V' I' L' st' nm' => gens i c e T ch r3 kd m lm p Rf tlf Ψ q n' V' (gMb I' i c nm') L' st' nm') n V I L st bm
theorem gens_1 {i c e T ch r3 kd m lm p q n : Nat} {Rf : Nat → Nat → Option Nat} {tlf : am_H} {Ψ : Nat → (Nat → Nat → Value) → (Nat → Nat → Int32) → (Nat → Nat → Int64) → Int64 → (Nat → Nat) → Prop} {V : Nat → Nat → Value} {I : Nat → Nat → Int32} {L : Nat → Nat → Int64} {st : Int64} {bm : Nat → Nat} : gens i c e T ch r3 kd m lm p Rf tlf Ψ (q + 1) n V I L st bm ↔ rel V I L Rf tlf n p ∧ (∀ x, x < c → bm x < n) ∧ gnT c e T ch r3 kd m lm (fun n' V' I' L' st' nm' => gens i c e T ch r3 kd m lm p Rf tlf Ψ q n' V' (gMb I' i c nm') L' st' nm') n V I L st bm := Iff.rfl
def gG (i : Nat) (V V' : Nat → Nat → Value) (I I' : Nat → Nat → Int32) (L L' : Nat → Nat → Int64) : Prop := (∀ a j, ¬ (a = 0 ∧ j = 1) → ¬ (a = 174 ∧ j = 1) → V' a j = V a j) ∧ (∀ y, (y < 175 ∨ 187 < y) → y ≠ 41 + 9 * i → y ≠ 234 → I' y = I y) ∧ ∀ y, y ≠ 183 → L' y = L y
theorem gG_r {i : Nat} {V : Nat → Nat → Value} {I : Nat → Nat → Int32} {L : Nat → Nat → Int64} : gG i V V I I L L := ⟨fun _ _ _ _ => rfl, fun _ _ _ _ => rfl, fun _ _ => rfl⟩
theorem gG_t {i : Nat} {U V W : Nat → Nat → Value} {G I J : Nat → Nat → Int32} {K L M : Nat → Nat → Int64} (f : gG i U V G I K L) (g : gG i V W I J L M) : gG i U W G J K M := ⟨fun a j h k => (g.1 a j h k).trans (f.1 a j h k), fun y h1 h2 h3 => (g.2.1 y h1 h2 h3).trans (f.2.1 y h1 h2 h3), fun y h => (g.2.2 y h).trans (f.2.2 y h)⟩
theorem gG_g {i c : Nat} {V V' : Nat → Nat → Value} {I I' : Nat → Nat → Int32} {L L' : Nat → Nat → Int64} {nm : Nat → Nat} (f : gF V V' I I' L L') : gG i V V' I (gMb I' i c nm) L L' := ⟨f.1, fun y h1 h2 h3 => (gMb_o h2 h3).trans (f.2.1 y h1), f.2.2⟩
set_option maxRecDepth 100000 in
set_option maxHeartbeats 4000000 in
theorem c_gens {N p i c e T ch r3 kd m lm j Q : Nat} (hN : 5000 < N) (hi : i < 4) (hc : c ≤ 16) (c1 : 1 ≤ c) (hT : T ≤ 100) (T1 : 1 ≤ T) (hch : ch < 3) (r100 : r3 ≤ 100) (ec : e ≤ c) (k3 : kd ≤ 3) (hlo : 10 ≤ lm) (hhi : lm ≤ 2000) (hQ : Q ≤ 20) : ∀ (q g K n : Nat) (V : Nat → Nat → Value) (I : Nat → Nat → Int32) (L : Nat → Nat → Int64) (R : Nat → Nat → Option Nat) (tl : am_H) (st : Int64) (bm : Nat → Nat) (Vg : Nat → Nat → Value) (Ig : Nat → Nat → Int32) (Lg : Nat → Nat → Int64), g + q = Q → q < K → n + q * (c - e) ≤ 600 → cI i c n st bm m lm T r3 ch V I L Ig → rel Vg Ig Lg R tl n p → Vg (40 + 9 * i) 0 = .int (nI c) → room tl n p j → (∀ x, x < c → bm x < n) → (∀ x, x < c → Ig 175 (bm x) = nI kd) → ∃ W J M R' tl' n' Vg' Ig' Lg' st' bm' K', fg_216_77 N K (.ref 0) (nI Q) (.ref (40 + 9 * i)) (nI e) (nI g) (fx V I L R ++ tl) = fg_216_77 N (K' + 1) (.ref 0) (nI Q) (.ref (40 + 9 * i)) (nI e) (nI Q) (fx W J M R' ++ tl') ∧ cI i c n' st' bm' m lm T r3 ch W J M Ig' ∧ rel Vg' Ig' Lg' R' tl' n' p ∧ room tl' n' p j ∧ grw n R tl R' tl' ∧ n ≤ n' ∧ (∀ x, x < c → bm' x < n') ∧ (∀ x, x < c → Ig' 175 (bm' x) = nI kd) ∧ kpC i V W I J L M ∧ gG i Vg Vg' Ig Ig' Lg Lg' ∧ (∀ (Rf : Nat → Nat → Option Nat) (tlf : am_H) (Ψ : Nat → (Nat → Nat → Value) → (Nat → Nat → Int32) → (Nat → Nat → Int64) → Int64 → (Nat → Nat) → Prop), grw n' R' tl' Rf tlf → Ψ n' Vg' Ig' Lg' st' bm' → gens i c e T ch r3 kd m lm p Rf tlf Ψ q n Vg Ig Lg st bm) := by
  intro q
  induction q with
  | zero =>
    intro g K n V I L R tl st bm Vg Ig Lg hg hK hn hA hr h40 hm hbm hkd
    obtain ⟨K, rfl⟩ : ∃ k, K = k + 1 := ⟨K - 1, by omega⟩
    obtain rfl : g = Q := by omega
    exact ⟨V, I, L, R, tl, n, Vg, Ig, Lg, st, bm, K, rfl, hA, hr, hm, grw_r, Nat.le_refl n, hbm, hkd, kpC_r, gG_r, fun _ _ _ _ h => h⟩
  | succ q ih =>
    intro g K n V I L R tl st bm Vg Ig Lg hg hK hn hA hr h40 hm hbm hkd
    obtain ⟨K, rfl⟩ : ∃ k, K = k + 1 := ⟨K - 1, by omega⟩
    have hn' : (q + 1) * (c - e) = q * (c - e) + (c - e) := Nat.succ_mul q (c - e)
    obtain ⟨W, J, M, R1, t1, n1, Vg1, Ig1, Lg1, st1, nm, e1, sp, hr1, hm1, hg1, en, hJ, v0, v42, kp, fg⟩ := c_gen (V := V) (I := I) (L := L) (R := R) (tl := tl) (N := N) (j := j) hN hi hc c1 hT T1 hch r100 ec k3 hlo hhi (by omega) hA hr hm hbm hkd
    obtain ⟨a1, a2, a3, a4, a5, a6, a7, a8, a9, a10, a11, a12⟩ := hA
    have h40' : Vg1 (40 + 9 * i) 0 = .int (nI c) := (fg.1 _ _ (by omega) (by omega)).trans h40
    have hr2 := gMb_rel (kd := kd) (nm := nm) hi hc h40' (fun x hx => (hJ x hx).2) hr1
    have gg := gG_g (i := i) (c := c) (nm := nm) fg
    have o5 : ∀ x, gMb Ig1 i c nm 175 x = Ig1 175 x := fun x => by rw [gMb_o (by omega) (by omega)]
    have hA1 : cI i c n1 st1 nm m lm T r3 ch W J M (gMb Ig1 i c nm) := by
      refine ⟨v0, (kp.1 _ _ (m40 hi) (by omega) (by omega)).trans a2, v42, fun x hx => (hJ x hx).1, kp.2.2.2 a5, csK_g a6 (kp.1 14 1 (by decide) (by omega) (by omega)) (kp.1 174 31 (by decide) (by omega) (by omega)) (fun y hy => kp.2.1 y ?_ (by omega)) (fun y hy => gg.2.1 y (by omega) (by omega) (by omega)), (kp.1 16 0 (by decide) (by omega) (by omega)).trans a7, ?_, ?_, ?_, (kp.2.2.1 77 (by decide)).trans a11, (kp.2.2.1 78 (by decide)).trans a12⟩
      · rcases (by omega : y = 15 ∨ y = 197 ∨ y = 198 ∨ y = 199 ∨ y = 200 ∨ y = 201 ∨ y = 202 ∨ y = 203 ∨ y = 204) with rfl | rfl | rfl | rfl | rfl | rfl | rfl | rfl | rfl <;> decide
      · rw [kp.2.1 38 (by decide) (by omega)]; exact a8
      · rw [kp.2.1 38 (by decide) (by omega)]; exact a9
      · rw [kp.2.1 38 (by decide) (by omega)]; exact a10
    obtain ⟨W2, J2, M2, R2, t2, n2, Vg2, Ig2, Lg2, st2, bm2, K', e2, hA2, hr3, hm3, hg2, nn, hb2, hk2, kp2, gg2, sp2⟩ := ih (g + 1) K n1 W J M R1 t1 st1 nm Vg1 (gMb Ig1 i c nm) Lg1 (by omega) (by omega) (by omega) hA1 hr2 h40' hm1 (fun x hx => (hJ x hx).2.1) (fun x hx => (o5 _).trans (hJ x hx).2.2)
    refine ⟨W2, J2, M2, R2, t2, n2, Vg2, Ig2, Lg2, st2, bm2, K', ?_, hA2, hr3, hm3, grw_t (by omega) hg1 hg2, by omega, hb2, hk2, kpC_t kp kp2, gG_t gg gg2, fun Rf tlf Ψ hgf hΨ => gens_1.mpr ⟨rel_grw (grw_t (n' := n1) (by omega) hg1 (grw_t (by omega) hg2 hgf)) hr, hbm, sp _ (sp2 Rf tlf Ψ hgf hΨ)⟩⟩
    rw [← e2]
    apply hd_216_77
    refine ev_f (nI_ge (by omega) (by omega)) (ev_i rfl (ev_cV e1 ?_))
    rw [nI_1]
set_option maxRecDepth 100000 in
set_option maxHeartbeats 4000000 in
theorem r_gens {R : Nat → Nat → Option Nat} {tl : am_H} {N p i c e el T ch r3 kd m lm Q : Nat} {Ψ : Nat → (Nat → Nat → Value) → (Nat → Nat → Int32) → (Nat → Nat → Int64) → Int64 → (Nat → Nat) → Prop} (hN : 5000 < N) (hi : i < 4) (hc : c ≤ 16) (c1 : 1 ≤ c) (hT : T ≤ 100) (T1 : 1 ≤ T) (hch : ch < 3) (r100 : r3 ≤ 100) (hel : el ≤ 4) (ee : e = if c ≤ el then c else el) (k3 : kd ≤ 3) (hlo : 10 ≤ lm) (hhi : lm ≤ 2000) (hQ : Q ≤ 20) : ∀ (q g K n : Nat) (V : Nat → Nat → Value) (I : Nat → Nat → Int32) (L : Nat → Nat → Int64) (st : Int64) (bm : Nat → Nat) (Vg : Nat → Nat → Value) (Ig : Nat → Nat → Int32) (Lg : Nat → Nat → Int64), g + q = Q → q < K → rI i n m st V I L Ig Lg → (∀ x, x < c → Ig 234 (16 * i + x) = nI (bm x)) → Ig 233 i = nI c → Ig 206 0 = nI lm → Ig 206 1 = nI el → Ig 206 2 = nI T → Ig 206 3 = nI r3 → Ig 206 4 = nI ch → gens i c e T ch r3 kd m lm p R tl Ψ q n Vg Ig Lg st bm → ∃ W J M n' Vg' Ig' Lg' st' bm' K', Ψ n' Vg' Ig' Lg' st' bm' ∧ fg_502_118 N K (.ref 174) (nI i) (nI Q) (nI g) (fx V I L R ++ tl) = fg_502_118 N (K' + 1) (.ref 174) (nI i) (nI Q) (nI Q) (fx W J M R ++ tl) ∧ rI i n' m st' W J M Ig' Lg' ∧ (∀ x, x < c → Ig' 234 (16 * i + x) = nI (bm' x)) ∧ frGn V W I J L M ∧ gG i Vg Vg' Ig Ig' Lg Lg' ∧ (∀ k, (k < 16 * i ∨ 16 * i + 16 ≤ k) → Ig' 234 k = Ig 234 k) := by
  intro q
  induction q with
  | zero =>
    intro g K n V I L st bm Vg Ig Lg hg hK hA h34 h33 t0 t1 t2 t3 t4 hS
    obtain ⟨K, rfl⟩ : ∃ k, K = k + 1 := ⟨K - 1, by omega⟩
    obtain rfl : g = Q := by omega
    exact ⟨V, I, L, n, Vg, Ig, Lg, st, bm, K, hS, rfl, hA, h34, frGn_r, gG_r, fun _ _ => rfl⟩
  | succ q ih =>
    intro g K n V I L st bm Vg Ig Lg hg hK hA h34 h33 t0 t1 t2 t3 t4 hS
    obtain ⟨K, rfl⟩ : ∃ k, K = k + 1 := ⟨K - 1, by omega⟩
    obtain ⟨hr, hbm, hS⟩ := gens_1.mp hS
    obtain ⟨W, J, M, n1, Vg1, Ig1, Lg1, st1, nm, hΦ, e1, ag1, j234, w96, fG, fg, v1, nn⟩ := r_gen (V := V) (I := I) (L := L) (R := R) (tl := tl) hN hi hc c1 hT T1 hch r100 hel ee k3 hlo hhi hA hr hbm h34 h33 t0 t1 t2 t3 t4 hS
    obtain ⟨a1, a2, a3, a4, a5, a6⟩ := hA
    have gg := gG_g (i := i) (c := c) (nm := nm) fg
    have i234 : Ig1 234 = Ig 234 := fg.2.1 234 (by omega)
    have cs : ∀ y, y = 15 ∨ (197 ≤ y ∧ y ≤ 204) → y ∈ iRel := fun y hy => by
      rcases (by omega : y = 15 ∨ y = 197 ∨ y = 198 ∨ y = 199 ∨ y = 200 ∨ y = 201 ∨ y = 202 ∨ y = 203 ∨ y = 204) with rfl | rfl | rfl | rfl | rfl | rfl | rfl | rfl | rfl <;> decide
    have hA1 : rI i n1 m st1 W J M (gMb Ig1 i c nm) Lg1 := by
      refine ⟨⟨ag1.1, fun y a b q => (ag1.2.1 y a b q).trans (gMb_o (by omega) (by omega)).symm, ag1.2.2⟩, w96, fG.2.2.2.2.2.1 a3, fG.2.2.2.2.2.2 a4, fun y hy h1 => ?_, csK_g a6 (fG.1 14 1 (by decide)) (fG.2.1 31 (.inl (by decide)) (by decide) (by decide)) (fun y hy => fG.2.2.2.1 y (cs y hy) (by omega) (by omega)) (fun y hy => gg.2.1 y (by omega) (by omega) (by omega))⟩
      by_cases z1 : 175 ≤ y ∧ y ≤ 185
      · have z3 : y ≠ 183 := by
          have key : ∀ y, y ∈ iRel → y ≠ 183 := by decide
          exact key y hy
        exact (ag1.2.1 y z1.1 z1.2 z3).trans (gMb_o (by omega) (by omega)).symm
      · by_cases z2 : y = 234
        · subst z2
          rw [j234, gMb_4, i234]
        · rw [fG.2.2.2.1 y hy z1 z2, a5 y hy h1, gg.2.1 y (by
            have key : ∀ y, y ∈ iRel → y ≠ 186 ∧ y ≠ 187 := by decide
            have := key y hy
            omega) h1 z2]
    obtain ⟨W2, J2, M2, n2, Vg2, Ig2, Lg2, st2, bm2, K', hΨ, e2, hA2, h34', fG2, gg2, o2⟩ := ih (g + 1) K n1 W J M st1 nm Vg1 (gMb Ig1 i c nm) Lg1 (by omega) (by omega) hA1 (fun x hx => by rw [gMb_4, csq_in _ hx]) (by rw [gg.2.1 233 (by omega) (by omega) (by omega)]; exact h33) (by rw [gg.2.1 206 (by omega) (by omega) (by omega)]; exact t0) (by rw [gg.2.1 206 (by omega) (by omega) (by omega)]; exact t1) (by rw [gg.2.1 206 (by omega) (by omega) (by omega)]; exact t2) (by rw [gg.2.1 206 (by omega) (by omega) (by omega)]; exact t3) (by rw [gg.2.1 206 (by omega) (by omega) (by omega)]; exact t4) hΦ
    refine ⟨W2, J2, M2, n2, Vg2, Ig2, Lg2, st2, bm2, K', hΨ, ?_, hA2, h34', frGn_t fG fG2, gG_t gg gg2, fun k hk => by rw [o2 k hk, gMb_4, csq_out _ (by omega), i234]⟩
    rw [← e2]
    apply hd_502_118
    refine ev_f (nI_ge (by omega) (by omega)) (ev_i rfl (ev_cV e1 ?_))
    rw [nI_1]
/-- at the end both sides are one again -/
theorem bred_rel {V : Nat → Nat → Value} {I : Nat → Nat → Int32} {L : Nat → Nat → Int64} {R : Nat → Nat → Option Nat} {tl : am_H} {W : Nat → Nat → Value} {J : Nat → Nat → Int32} {M : Nat → Nat → Int64} {n p i c kd : Nat} {bm : Nat → Nat} (hi : i < 4) (hc : c ≤ 16) (h : rel V I L R tl n p) (v : ∀ a j, j ∈ vRel a → a ≠ 42 + 9 * i → ¬ (a = 174 ∧ j = 80) → W a j = V a j) (e : ∀ y, y ∈ iRel → y ≠ 41 + 9 * i → J y = I y) (l7 : M 77 = L 77) (l8 : M 78 = L 78) (l1 : M 183 = L 183) (iv : rInv W M) (w : wt W) (m5 : ∀ k, k < 4 → k ≠ i → M 235 k = L 235 k) (s42 : W (42 + 9 * i) 0 = .long (M 235 i)) (h40 : V (40 + 9 * i) 0 = .int (nI c)) (h33 : I 233 i = nI c) (hb : ∀ x, x < c → J (41 + 9 * i) x = nI (bm x) ∧ bm x < n ∧ I 175 (bm x) = nI kd ∧ I 234 (16 * i + x) = nI (bm x)) : rel W J M R tl n p := by
  have hx : ∃ x, W 174 80 = .int x := by
    rcases iv with ⟨h1, -, -⟩ | ⟨h1, -, -⟩
    · exact ⟨_, h1⟩
    · exact ⟨_, h1⟩
  obtain ⟨x, hx⟩ := hx
  have h8 : rel (vup V 174 80 (W 174 80)) I (lup (lup L 224 (M 224)) 225 (M 225)) R tl n p := by
    refine rel_80 (fun a j q => vup_o q) (fun y h1 h2 _ => by rw [lup_na h2, lup_na h1]) ?_ (by rw [hx]; exact wt_i (rel_w h) (by decide)) h
    unfold rInv
    rw [vup_eq, lup_eq, lup_na (by decide), lup_eq]
    exact iv
  refine rel_isl hi (fun a j hj h1 h2 => ?_) (fun y hy h1 _ _ => e y hy h1) (fun k hk q => by rw [e 233 (by decide) (by omega)]) (fun k hk q => by rw [e 234 (by decide) (by omega)]) (fun y hy h1 => ?_) (fun k hk q => by rw [lup_na (by decide), lup_na (by decide)]; exact m5 k hk q) w ⟨c, kd, hc, (v _ _ (m40 hi) (by omega) (by omega)).trans h40, by rw [e 233 (by decide) (by omega)]; exact h33, s42, fun k hk => ?_⟩ h8
  · by_cases q : a = 174 ∧ j = 80
    · rw [q.1, q.2, vup_eq]
    · rw [vup_o q]
      exact v a j hj h2 q
  · have key : ∀ y, y ∈ lRel → y ≠ 235 → y = 77 ∨ y = 78 ∨ y = 183 ∨ y = 224 ∨ y = 225 := by decide
    rcases key y hy h1 with rfl | rfl | rfl | rfl | rfl
    · rw [lup_na (by decide), lup_na (by decide)]; exact l7
    · rw [lup_na (by decide), lup_na (by decide)]; exact l8
    · rw [lup_na (by decide), lup_na (by decide)]; exact l1
    · rw [lup_na (by decide), lup_eq]
    · rw [lup_eq]
  · obtain ⟨b1, b2, b3, b4⟩ := hb k hk
    exact ⟨bm k, b2, b1, by rw [e 234 (by decide) (by omega)]; exact b4, by rw [e 175 (by decide) (by omega)]; exact b3⟩
