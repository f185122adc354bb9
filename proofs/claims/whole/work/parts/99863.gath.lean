/-! ===== the reference gathers an island's members ===== -/
def scT : List Nat := [48, 49, 50, 51, 52, 53, 54, 58, 59, 65, 66, 91, 92, 13, 14, 15, 105]
def siT : List Nat := [194, 212, 213, 214, 215, 217, 186, 187, 238, 239]
def frT (V W : Nat → Nat → Value) (I J : Nat → Nat → Int32) (L M : Nat → Nat → Int64) : Prop := (∀ a j, (a = 174 → ¬ j ∈ scT) → W a j = V a j) ∧ (∀ y, ¬ y ∈ siT → J y = I y) ∧ (∀ y, y ≠ 236 → y ≠ 237 → M y = L y) ∧ (wt V → wt W)
theorem frT_r {V : Nat → Nat → Value} {I : Nat → Nat → Int32} {L : Nat → Nat → Int64} : frT V V I I L L := ⟨fun _ _ _ => rfl, fun _ _ => rfl, fun _ _ _ => rfl, id⟩
theorem frT_t {V W X : Nat → Nat → Value} {I J K : Nat → Nat → Int32} {L M N : Nat → Nat → Int64} (h1 : frT V W I J L M) (h2 : frT W X J K M N) : frT V X I K L N := ⟨fun a j h => (h2.1 a j h).trans (h1.1 a j h), fun y h => (h2.2.1 y h).trans (h1.2.1 y h), fun y a b => (h2.2.2.1 y a b).trans (h1.2.2.1 y a b), fun w => h2.2.2.2 (h1.2.2.2 w)⟩
theorem vrT : ∀ j, j ∈ vRel 174 → ¬ j ∈ scT := by decide
theorem irT : ∀ y, y ∈ iRel → ¬ y ∈ siT := by decide
theorem frT_k {V W : Nat → Nat → Value} {I J : Nat → Nat → Int32} {L M : Nat → Nat → Int64} (h : frT V W I J L M) : keepL V W I J L M := ⟨⟨fun a j hj => h.1 a j (fun e => by subst e; exact vrT j hj), fun y hy => h.2.1 y (irT y hy), h.2.2.2⟩, fun y hy => h.2.2.1 y (fun e => by subst e; revert hy; decide) (fun e => by subst e; revert hy; decide)⟩
theorem scJT {j : Nat} (h : ¬ j ∈ scT) : ¬ j ∈ scJ := fun e => h (by
  have key : ∀ j, j ∈ scJ → j ∈ scT := by decide
  exact key j e)
theorem siRT {j : Nat} (h : ¬ j ∈ siT) : ¬ j ∈ siR := fun e => h (by
  have key : ∀ j, j ∈ siR → j ∈ siT := by decide
  exact key j e)
theorem frT_J {V W : Nat → Nat → Value} {I J : Nat → Nat → Int32} {L : Nat → Nat → Int64} (h : frJ V W I J) : frT V W I J L L := ⟨fun a j hj => h.1 a j (fun e => scJT (hj e)), fun y hy => h.2.1 y (siRT hy), fun _ _ _ => rfl, h.2.2⟩
theorem frT_d {V : Nat → Nat → Value} {I : Nat → Nat → Int32} {L : Nat → Nat → Int64} {kd ln sz b : Nat} : frT V (dkV V kd ln sz) I (dkI I b sz) L L := ⟨fun a j hj => dk_o (fun e => by
    refine ⟨?_, ?_, ?_⟩ <;> (intro e2; subst e2; exact hj e (by decide))), fun y hy => dkI_o (fun e => by subst e; exact hy (by decide)) (fun e => by subst e; exact hy (by decide)), fun _ _ _ => rfl, fun h => wt_i (wt_i (wt_i h (by decide)) (by decide)) (by decide)⟩
theorem frT_i {V : Nat → Nat → Value} {I : Nat → Nat → Int32} {L : Nat → Nat → Int64} {y : Nat} {F : Nat → Int32} (h : y ∈ siT) : frT V V I (iup I y F) L L := ⟨fun _ _ _ => rfl, fun z hz => iup_na (fun e => by subst e; exact hz h), fun _ _ _ => rfl, id⟩
theorem frT_l {V : Nat → Nat → Value} {I : Nat → Nat → Int32} {L : Nat → Nat → Int64} {y : Nat} {F : Nat → Int64} (h : y = 236 ∨ y = 237) : frT V V I I L (lup L y F) := ⟨fun _ _ _ => rfl, fun _ _ => rfl, fun z h1 h2 => lup_na (fun e => by omega), id⟩
theorem frT_5 {V : Nat → Nat → Value} {I : Nat → Nat → Int32} {L : Nat → Nat → Int64} {x : Int32} : frT V (vup V 174 105 (.int x)) I I L L := ⟨fun a j hj => by
    by_cases c : a = 174
    · subst c
      exact vup_nj (fun e => by subst e; exact hj rfl (by decide))
    · exact vup_na c, fun _ _ => rfl, fun _ _ _ => rfl, fun h => wt_i h (by decide)⟩
/-- what the reference knows of the member at hand -/
def gaK (I0 : Nat → Nat → Int32) (m : Nat) (Ob : Nat → Nat → Int32 × Nat × Int32) (bm : Nat → Nat) (I : Nat → Nat → Int32) (L : Nat → Nat → Int64) (x : Nat) : Prop := L 236 x = lN (ctN I0 0 (Ob (bm x)) m / Nat.gcd (ctN I0 0 (Ob (bm x)) m) (wsN I0 0 m)) ∧ L 237 x = lN (wsN I0 0 m / Nat.gcd (ctN I0 0 (Ob (bm x)) m) (wsN I0 0 m)) ∧ I 238 x = nI (szB I0 (bm x)) ∧ I 239 x = nI (bm x)
set_option maxRecDepth 100000 in
set_option maxHeartbeats 1600000 in
theorem r_505l {R : Nat → Nat → Option Nat} {tl : am_H} {V0 : Nat → Nat → Value} {I0 : Nat → Nat → Int32} {N i c m n lm : Nat} {Ob : Nat → Nat → Int32 × Nat × Int32} {bm : Nat → Nat} (hN : 5000 < N) (hi : i < 4) (hc16 : c ≤ 16) (hn : n ≤ 600) (hlo : 10 ≤ lm) (hhi : lm ≤ 2000) (h6 : I0 206 0 = nI lm) (hB : ∀ b, b < n → bK R tl I0 b) (hO : oB I0 lm n m Ob) (hm : ∀ x, x < c → bm x < n) (h34 : ∀ x, x < c → I0 234 (16 * i + x) = nI (bm x)) : ∀ (t p K : Nat) (V : Nat → Nat → Value) (I : Nat → Nat → Int32) (L : Nat → Nat → Int64), p + t = c → t < K → wt V → keep V0 V I0 I → csK V I I0 m → V 174 105 = .int (nI c) → (∀ x, x < p → gaK I0 m Ob bm I L x) → ∃ W J M, fg_505_12 N K (.ref 174) (nI i) (nI p) (fx V I L R ++ tl) = some (.inl (none, fx W J M R ++ tl)) ∧ (∀ x, x < c → gaK I0 m Ob bm J M x) ∧ W 174 105 = .int (nI c) ∧ frT V W I J L M := by
  intro t
  induction t with
  | zero =>
    intro p K V I L hp hK hw hk hc h5 hx
    obtain ⟨K, rfl⟩ : ∃ k, K = k + 1 := ⟨K - 1, by omega⟩
    obtain rfl : p = c := by omega
    refine ⟨V, I, L, ?_, hx, h5, frT_r⟩
    rw [fg_505_12]
    exact ev_b (rdI h5) (ev_t (nI_le (Nat.le_refl _) (by omega)) rfl)
  | succ t ih =>
    intro p K V I L hp hK hw hk hc h5 hx
    obtain ⟨K, rfl⟩ : ∃ k, K = k + 1 := ⟨K - 1, by omega⟩
    have hbn := hm p (by omega)
    obtain ⟨b1, b2, b3, b4, a, it, f, b5, b6, b7⟩ := hB (bm p) hbn
    have i34 : I 234 (16 * i + p) = nI (bm p) := by
      rw [hk.2.1 234 (by decide)]
      exact h34 p (by omega)
    have t1 := frT_i (V := V) (I := I) (L := L) (y := 239) (F := upd (I 239) p (nI (bm p))) (by decide)
    have k1 := keep_t hk (frT_k t1).1
    obtain ⟨e2, g2⟩ := r_ldb (V := V0) (W := V) (I := I0) (J := iup I 239 (upd (I 239) p (nI (bm p)))) (L := L) (R := R) (tl := tl) (N := N) (b := bm p) (by omega) (by omega) k1 b1 b2 b3 b4 h6 hlo hhi
    have t2 := frT_t t1 (frT_d (V := V) (I := iup I 239 (upd (I 239) p (nI (bm p)))) (L := L) (kd := kdB I0 (bm p)) (ln := lnB I0 (bm p)) (sz := szB I0 (bm p)) (b := bm p))
    obtain ⟨W3, J3, e3, y1, y2, f3⟩ := r_428 (L := L) (R := R) (tl := tl) (N := N) (h := 0) hN (hO (bm p) hbn) (t2.2.2.2 hw) g2 (csK_c (frT_k t2).1 hc)
    have t3 := frT_t t2 (frT_J (L := L) f3)
    rw [ofI_N] at y1
    have g1 : gdN (ctN I0 0 (Ob (bm p)) m : Int) (wsN I0 0 m) = Nat.gcd (ctN I0 0 (Ob (bm p)) m) (wsN I0 0 m) := rfl
    rw [g1] at y1 y2
    generalize hA : ctN I0 0 (Ob (bm p)) m / Nat.gcd (ctN I0 0 (Ob (bm p)) m) (wsN I0 0 m) = A at y1
    generalize hB' : wsN I0 0 m / Nat.gcd (ctN I0 0 (Ob (bm p)) m) (wsN I0 0 m) = B at y2
    have t4 := frT_t t3 (frT_t (frT_l (V := W3) (I := J3) (L := L) (y := 236) (F := vp_updL (L 236) p (lN A)) (.inl rfl)) (frT_t (frT_l (y := 237) (F := vp_updL (lup L 236 (vp_updL (L 236) p (lN A)) 237) p (lN B)) (.inr rfl)) (frT_i (y := 238) (F := upd (J3 238) p (nI (szB I0 (bm p)))) (by decide))))
    have z14 : W3 174 14 = .int (nI (szB I0 (bm p))) := (f3.1 174 14 (fun _ => by decide)).trans ((vup_nj (by decide)).trans vup_eq)
    obtain ⟨W, J, M, e5, x1, x2, x3⟩ := ih (p + 1) K W3 (iup J3 238 (upd (J3 238) p (nI (szB I0 (bm p))))) (lup (lup L 236 (vp_updL (L 236) p (lN A))) 237 (vp_updL (lup L 236 (vp_updL (L 236) p (lN A)) 237) p (lN B))) (by omega) (by omega) (t4.2.2.2 hw) (keep_t hk (frT_k t4).1) (csK_c (frT_k t4).1 hc) (by
        rw [f3.1 174 105 (fun _ => by decide), dk_o (fun _ => by decide)]
        exact h5) (fun x hx' => by
        have j239 : iup J3 238 (upd (J3 238) p (nI (szB I0 (bm p)))) 239 = upd (I 239) p (nI (bm p)) := by
          rw [iup_na (by decide), f3.2.1 239 (by decide), dkI_o (by decide) (by decide), iup_eq]
        have j238 : J3 238 = I 238 := by
          rw [f3.2.1 238 (by decide), dkI_o (by decide) (by decide), iup_na (by decide)]
        unfold gaK
        rw [j239, iup_eq, lup_na (by decide), lup_eq, lup_eq, lup_na (by decide), j238]
        by_cases cx : x = p
        · subst cx
          exact ⟨by rw [updL_eq, hA], by rw [updL_eq, hB'], upd_eq, upd_eq⟩
        · obtain ⟨z1, z2, z3, z4⟩ := hx x (by omega)
          exact ⟨by rw [updL_ne cx]; exact z1, by rw [updL_ne cx]; exact z2, by rw [upd_ne cx]; exact z3, by rw [upd_ne cx]; exact z4⟩)
    refine ⟨W, J, M, ?_, x1, x2, frT_t t4 x3⟩
    rw [fg_505_12]
    dsimp only
    rw [show (16 : Int32) * nI i + nI p = nI (16 * i + p) from nI_add' i 16 p, nI_1]
    refine ev_b (rdI h5) (ev_f (nI_ge (by omega) (by omega)) (ev_b (a := Value.ref 239) rfl (ev_b (a := Value.ref 234) rfl (ev_b (a := nI (bm p)) ((qa_234 (by omega)).trans (by rw [i34])) (ev_b (qs_239 (by omega)) (ev_b (a := Value.ref 239) rfl (ev_b (a := nI (bm p)) ((qa_239 (by omega)).trans (by rw [iup_eq, upd_eq])) (ev_i rfl (ev_cV e2 (ev_i rfl (ev_cV e3 ?_)))))))))))
    exact ev_b (a := Value.ref 236) rfl (ev_b (rdL y1) (ev_b (qs_236 (by omega)) (ev_b (a := Value.ref 237) rfl (ev_b (rdL y2) (ev_b (qs_237 (by omega)) (ev_b (a := Value.ref 238) rfl (ev_b (rdI z14) (ev_b (qs_238 (by omega)) e5))))))))
set_option maxRecDepth 100000 in
set_option maxHeartbeats 1600000 in
theorem r_505 {V : Nat → Nat → Value} {I : Nat → Nat → Int32} {L : Nat → Nat → Int64} {R : Nat → Nat → Option Nat} {tl : am_H} {V0 : Nat → Nat → Value} {I0 : Nat → Nat → Int32} {N i c m n lm : Nat} {Ob : Nat → Nat → Int32 × Nat × Int32} {bm : Nat → Nat} (hN : 5000 < N) (hi : i < 4) (hc16 : c ≤ 16) (hn : n ≤ 600) (hlo : 10 ≤ lm) (hhi : lm ≤ 2000) (h6 : I0 206 0 = nI lm) (hB : ∀ b, b < n → bK R tl I0 b) (hO : oB I0 lm n m Ob) (hm : ∀ x, x < c → bm x < n) (h34 : ∀ x, x < c → I0 234 (16 * i + x) = nI (bm x)) (h33 : I0 233 i = nI c) (hw : wt V) (hk : keep V0 V I0 I) (hc : csK V I I0 m) : ∃ W J M, fm_505 N (.ref 174) (nI i) (fx V I L R ++ tl) = some (.inl (none, fx W J M R ++ tl)) ∧ (∀ x, x < c → gaK I0 m Ob bm J M x) ∧ W 174 105 = .int (nI c) ∧ frT V W I J L M := by
  have t1 := frT_5 (V := V) (I := I) (L := L) (x := nI c)
  obtain ⟨W, J, M, e, x1, x2, x3⟩ := r_505l (R := R) (tl := tl) (V0 := V0) hN hi hc16 hn hlo hhi h6 hB hO hm h34 c 0 N (vup V 174 105 (.int (nI c))) I L (by omega) (by omega) (t1.2.2.2 hw) (keep_t hk (frT_k t1).1) (csK_c (frT_k t1).1 hc) vup_eq (fun x hx => absurd hx (by omega))
  refine ⟨W, J, M, ?_, x1, x2, frT_t t1 x3⟩
  unfold fm_505 fg_505_0
  exact ev_b (a := Value.ref 233) rfl (ev_b (a := nI c) ((qa_233 hi).trans (by rw [hk.2.1 233 (by decide), h33])) (ev_b qp_174_105 e))
set_option maxRecDepth 100000 in
set_option maxHeartbeats 1600000 in
theorem r_509 {V : Nat → Nat → Value} {I : Nat → Nat → Int32} {L : Nat → Nat → Int64} {R : Nat → Nat → Option Nat} {tl : am_H} {I0 : Nat → Nat → Int32} {c m p q : Nat} {Ob : Nat → Nat → Int32 × Nat × Int32} {bm : Nat → Nat} (hc : c ≤ 16) (hp : p < c) (hq : q < c) (hg : ∀ x, x < c → gaK I0 m Ob bm I L x) : fm_509 (.ref 174) (nI p) (nI q) (fx V I L R ++ tl) = some (.inl (some (.long (lN (ctN I0 0 (Ob (bm p)) m / Nat.gcd (ctN I0 0 (Ob (bm p)) m) (wsN I0 0 m) * (wsN I0 0 m / Nat.gcd (ctN I0 0 (Ob (bm q)) m) (wsN I0 0 m))) - lN (ctN I0 0 (Ob (bm q)) m / Nat.gcd (ctN I0 0 (Ob (bm q)) m) (wsN I0 0 m) * (wsN I0 0 m / Nat.gcd (ctN I0 0 (Ob (bm p)) m) (wsN I0 0 m))))), (fx V I L R ++ tl))) := by
  obtain ⟨p1, p2, p3, p4⟩ := hg p hp
  obtain ⟨q1, q2, q3, q4⟩ := hg q hq
  unfold fm_509 fg_509_0
  refine ev_b (a := Value.ref 236) rfl (ev_b ((qa_236 (by omega)).trans (by rw [p1])) (ev_b (a := Value.ref 237) rfl (ev_b ((qa_237 (by omega)).trans (by rw [q2])) (ev_b (a := Value.ref 236) rfl (ev_b ((qa_236 (by omega)).trans (by rw [q1])) (ev_b (a := Value.ref 237) rfl (ev_b ((qa_237 (by omega)).trans (by rw [p2])) ?_)))))))
  rw [lN_mul, lN_mul]
set_option maxRecDepth 100000 in
set_option maxHeartbeats 1600000 in
theorem r_508 {V : Nat → Nat → Value} {I : Nat → Nat → Int32} {L : Nat → Nat → Int64} {R : Nat → Nat → Option Nat} {tl : am_H} {I0 : Nat → Nat → Int32} {c m p q : Nat} {Ob : Nat → Nat → Int32 × Nat × Int32} {bm : Nat → Nat} (hc : c ≤ 16) (hp : p < c) (hq : q < c) (hg : ∀ x, x < c → gaK I0 m Ob bm I L x) (m24 : m ≤ 24) (cok : ∀ k, k < m → cOk I0 k) (hb : ∀ x, x < c → szB I0 (bm x) < 2 ^ 31 ∧ bm x < 2 ^ 31) : fm_508 (.ref 174) (nI p) (nI q) (fx V I L R ++ tl) = some (.inl (some (.int (nI (btr (fun x => ctN I0 0 (Ob (bm x)) m) (fun x => szB I0 (bm x)) bm p q).toNat)), (fx V I L R ++ tl))) := by
  have e9 := r_509 (V := V) (I := I) (L := L) (R := R) (tl := tl) hc hp hq hg
  obtain ⟨p1, p2, p3, p4⟩ := hg p hp
  obtain ⟨q1, q2, q3, q4⟩ := hg q hq
  obtain ⟨hb1, hb2⟩ := hb p hp
  obtain ⟨hb3, hb4⟩ := hb q hq
  have hws := wsN_le (h := 0) m24 cok
  have hcp := ctN_le (h := 0) (Oc := Ob (bm p)) m24 cok
  have hcq := ctN_le (h := 0) (Oc := Ob (bm q)) m24 cok
  have zp : am_pA 0 (.ref 238) (nI p) (fx V I L R ++ tl) = some (nI (szB I0 (bm p))) := (qa_238 (by omega)).trans (by rw [p3])
  have zq : am_pA 0 (.ref 238) (nI q) (fx V I L R ++ tl) = some (nI (szB I0 (bm q))) := (qa_238 (by omega)).trans (by rw [q3])
  have bp : am_pA 0 (.ref 239) (nI p) (fx V I L R ++ tl) = some (nI (bm p)) := (qa_239 (by omega)).trans (by rw [p4])
  have bq : am_pA 0 (.ref 239) (nI q) (fx V I L R ++ tl) = some (nI (bm q)) := (qa_239 (by omega)).trans (by rw [q4])
  have fin : ∀ b : Bool, (if am_rfit (some FieldType.boolean) (nI b.toNat) then (some (.inl (some (.int (nI b.toNat)), (fx V I L R ++ tl))) : Option am_O) else none) = some (.inl (some (.int (nI b.toNat)), (fx V I L R ++ tl))) := fun b => by cases b <;> rfl
  obtain ⟨y1, y2⟩ := cmq_eq (c1 := ctN I0 0 (Ob (bm p)) m) (c2 := ctN I0 0 (Ob (bm q)) m) hws.1
  have l1 := dv_le (ctN I0 0 (Ob (bm p)) m) (Nat.gcd (ctN I0 0 (Ob (bm p)) m) (wsN I0 0 m))
  have l2 := dv_le (wsN I0 0 m) (Nat.gcd (ctN I0 0 (Ob (bm p)) m) (wsN I0 0 m))
  have l3 := dv_le (ctN I0 0 (Ob (bm q)) m) (Nat.gcd (ctN I0 0 (Ob (bm q)) m) (wsN I0 0 m))
  have l4 := dv_le (wsN I0 0 m) (Nat.gcd (ctN I0 0 (Ob (bm q)) m) (wsN I0 0 m))
  obtain ⟨z1, z2⟩ := cmpL (a := ctN I0 0 (Ob (bm p)) m / Nat.gcd (ctN I0 0 (Ob (bm p)) m) (wsN I0 0 m) * (wsN I0 0 m / Nat.gcd (ctN I0 0 (Ob (bm q)) m) (wsN I0 0 m))) (b := ctN I0 0 (Ob (bm q)) m / Nat.gcd (ctN I0 0 (Ob (bm q)) m) (wsN I0 0 m) * (wsN I0 0 m / Nat.gcd (ctN I0 0 (Ob (bm p)) m) (wsN I0 0 m))) (mul_lt60 (by omega) (by omega)) (mul_lt60 (by omega) (by omega))
  unfold fm_508 fg_508_0
  refine ev_i rfl (ev_cL e9 ?_)
  unfold btr
  dsimp only
  by_cases c1 : ctN I0 0 (Ob (bm p)) m = ctN I0 0 (Ob (bm q)) m
  · rw [if_pos c1]
    refine ev_t (z1.mpr (y1.mpr c1.symm)) (ev_b (a := Value.ref 238) rfl (ev_b zp (ev_b (a := Value.ref 238) rfl (ev_b zq ?_))))
    by_cases c2 : szB I0 (bm p) = szB I0 (bm q)
    · rw [if_pos c2]
      refine ev_t (by rw [c2]) (ev_b (a := Value.ref 239) rfl (ev_b bp (ev_b (a := Value.ref 239) rfl (ev_b bq ?_))))
      by_cases c3 : bm p = bm q
      · rw [if_pos c3]
        refine ev_t (by rw [c3]) ?_
        have l := lt01 (a := p) (b := q) (by omega) (by omega)
        by_cases c4 : nI q ≤ nI p
        · rw [if_pos c4] at l
          refine ev_t c4 ?_
          unfold fg_508_109
          rw [l]
          exact fin _
        · rw [if_neg c4] at l
          refine ev_f c4 ?_
          unfold fg_508_109
          rw [l]
          exact fin _
      · rw [if_neg c3]
        refine ev_f (fun e => c3 ((nI_eq hb2 hb4).mp e)) (ev_b (a := Value.ref 239) rfl (ev_b bp (ev_b (a := Value.ref 239) rfl (ev_b bq ?_))))
        have l := lt01 hb2 hb4
        by_cases c4 : nI (bm q) ≤ nI (bm p)
        · rw [if_pos c4] at l
          refine ev_t c4 ?_
          unfold fg_508_109
          rw [l]
          exact fin _
        · rw [if_neg c4] at l
          refine ev_f c4 ?_
          unfold fg_508_109
          rw [l]
          exact fin _
    · rw [if_neg c2]
      refine ev_f (fun e => c2 ((nI_eq hb1 hb3).mp e)) (ev_b (a := Value.ref 238) rfl (ev_b zp (ev_b (a := Value.ref 238) rfl (ev_b zq ?_))))
      have l := lt01 hb1 hb3
      by_cases c4 : nI (szB I0 (bm q)) ≤ nI (szB I0 (bm p))
      · rw [if_pos c4] at l
        refine ev_t c4 ?_
        unfold fg_508_60
        rw [l]
        exact fin _
      · rw [if_neg c4] at l
        refine ev_f c4 ?_
        unfold fg_508_60
        rw [l]
        exact fin _
  · rw [if_neg c1]
    refine ev_f (fun e => c1 (y1.mp (z1.mp e)).symm) ?_
    by_cases c4 : ctN I0 0 (Ob (bm q)) m ≤ ctN I0 0 (Ob (bm p)) m
    · refine ev_t (z2.mpr (y2.mpr c4)) ?_
      unfold fg_508_24
      rw [decide_eq_false (by omega)]
      exact fin false
    · refine ev_f (fun e => c4 (y2.mp (z2.mp e))) ?_
      unfold fg_508_24
      rw [decide_eq_true (by omega)]
      exact fin true
