/-! ===== edits(b, how) ===== -/
theorem hd_157_0 {N : Nat} {x0 : Value} {x1 : Int32} {x2 : Int32} {h : am_H} {r_ : Option am_O} (k_ : (if am_pOk 11 x0 h then am_cR true (fm_63 x0 x1 h) (fun v2 h3 => (if am_pOk 11 x0 h3 then am_cV true (fm_158 x0 x2 h3) (fun h7 => ((am_vR (am_pG 2823 x0 h7)).bind fun v9 => (if am_pOk 0 v9 h7 then am_cI true (fm_159 N v9 v2 Value.null x2 h7) (fun v12 h13 => ((am_vR (am_pG 2823 x0 h13)).bind fun v15 => (if am_pOk 0 v15 h13 then am_cI true (fm_162 N v15 h13) (fun v18 h19 => some (.inl (some (.int v18), h19))) else none))) else none))) else none)) else none) = r_) : fg_157_0 N x0 x1 x2 h = r_ := k_
theorem hm_157 {N : Nat} {y0 : Value} {y1 : Int32} {y2 : Int32} {h : am_H} {r_ : Option am_O} (k_ : fg_157_0 N y0 y1 y2 h = r_) : fm_157 N y0 y1 y2 h = r_ := k_
theorem hd_158_9 {h : am_H} {r_ : Option am_O} (k_ : some (.inr (0, h ++ [am_dummy])) = r_) : fg_158_9 h = r_ := k_
theorem hd_158_0 {x1 : Int32} {h : am_H} {r_ : Option am_O} (k_ : (if x1 < 0 then (fg_158_9 h) else (if x1 < 4 then some (.inl (none, h)) else (fg_158_9 h))) = r_) : fg_158_0 x1 h = r_ := k_
theorem hm_158 {y0 : Value} {y1 : Int32} {h : am_H} {r_ : Option am_O} (k_ : fg_158_0 y1 h = r_) : fm_158 y0 y1 h = r_ := k_
theorem hd_438_30 {N : Nat} {x0 : Value} {x1 : Int32} {x2 : Int32} {s0 : Value} {s1 : Int32} {h : am_H} {r_ : Option am_O} (k_ : ((am_pP 3072 s0 (.int s1) h).bind fun h1 => ((am_vI (am_pG 3072 x0 h1)).bind fun v3 => (if v3 ≤ 0 then (if am_pOk 12 x0 h1 then am_cV true (fm_391 N x0 x1 h1) (fun h8 => (if am_pOk 12 x0 h8 then am_cI true (fm_439 N x0 x2 ((-1)) h8) (fun v11 h12 => some (.inl (some (.int v11), h12))) else none)) else none) else some (.inl (some (.int 0), h1))))) = r_) : fg_438_30 N x0 x1 x2 s0 s1 h = r_ := k_
theorem hd_438_0 {N : Nat} {x0 : Value} {x1 : Int32} {x2 : Int32} {h : am_H} {r_ : Option am_O} (k_ : (if am_pOk 12 x0 h then am_cI true (fm_358 x0 x1 h) (fun v2 h3 => (if ¬ v2 = 0 then am_cI false (fm_327 ((Int32.toInt64 x2)) 0 3 h3) (fun v6 h7 => (if ¬ v6 = 0 then (fg_438_30 N x0 x1 x2 x0 0 h7) else (fg_438_30 N x0 x1 x2 x0 2 h7))) else (fg_438_30 N x0 x1 x2 x0 1 h3))) else none) = r_) : fg_438_0 N x0 x1 x2 h = r_ := k_
theorem hm_438 {N : Nat} {y0 : Value} {y1 : Int32} {y2 : Int32} {h : am_H} {r_ : Option am_O} (k_ : fg_438_0 N y0 y1 y2 h = r_) : fm_438 N y0 y1 y2 h = r_ := k_
theorem uTx_tI {T : xT} (h : ∀ x, x ∈ T → x.1 ≤ 20) : uTx (tI T) = T := by
  unfold uTx tI
  rw [List.map_map]
  conv => rhs; rw [← List.map_id T]
  refine List.map_congr_left (fun x hx => ?_)
  have := h x hx
  show (sN (nI x.1), x.2) = x
  rw [sN_n (by omega)]
theorem lay_eq {s v : Nat → Int32} {Q : xI} (h : lay2 s v Q) : Q = (List.range Q.length).map (fun k => (s k, v k)) := by
  apply List.ext_getElem?
  intro k
  by_cases c : k < Q.length
  · rw [List.getElem?_map, List.getElem?_range c, srt_at c]
    have := h k _ (srt_at c)
    show _ = some (s k, v k)
    rw [this.1, this.2]
  · rw [List.getElem?_eq_none (by omega), List.getElem?_eq_none (by rw [List.length_map, List.length_range]; omega)]
theorem prg_len {I : Nat → Nat → Int32} {b sz : Nat} : (prgI I b sz).length = sz := by unfold prgI; rw [List.length_map, List.length_range]
theorem prg_at {I : Nat → Nat → Int32} {b sz k : Nat} (h : k < sz) : srt (prgI I b sz) k = I 184 (60 * b + k) ∧ vlu (prgI I b sz) k = I 185 (60 * b + k) := srt_rng h
set_option maxRecDepth 100000 in
set_option maxHeartbeats 4000000 in
theorem bth_E {V : Nat → Nat → Value} {I : Nat → Nat → Int32} {L : Nat → Nat → Int64} {R : Nat → Nat → Option Nat} {tl : am_H} {n p b : Nat} (hr : rel V I L R tl n p) (hb : b < n) : ∃ (kd ln : Nat) (P : xI) (a it : Nat), gdP kd ln P ∧ I 175 b = nI kd ∧ I 176 b = nI P.length ∧ I 177 b = nI ln ∧ R 1 b = some (269 + a) ∧ (∀ W J, srcE W J tl (269 + a) (269 + it) kd ln P) ∧ lay2 (fun k => I 184 (60 * b + k)) (fun k => I 185 (60 * b + k)) P ∧ P = prgI I b P.length := by
  obtain ⟨kd, ln, sz, a, it, f, q1, q2, q3, q4, q5, q6, q7, q8, q9⟩ := hr.2.1 b hb
  have lp := prg_len (I := I) (b := b) (sz := sz)
  obtain ⟨s1, s2, s3, s4, s5, s6, s7⟩ := q8
  have w5 := wd_le kd
  refine ⟨kd, ln, prgI I b sz, a, it, ⟨s1, by rw [lp]; exact s2, fun e => ?_, fun e => ?_, fun e => ?_, fun e => ?_⟩, q1, by rw [lp]; exact q2, q3, q4, fun W J => ⟨sz * wdN kd, f, ?_, ?_, by rw [lp]; exact Nat.le_refl _, Nat.le_trans (Nat.mul_le_mul s2 w5.2) (by omega)⟩, ?_, by rw [lp]⟩
  · subst e
    obtain ⟨T, a', it', o1, o2, o3, o4, o5, o6, o7, o8⟩ := birth_T hr hb q1
    have ez : T.length = sz := by
      rw [q2] at o3
      exact ((nI_eq (by omega) (by omega)).mp o3).symm
    have eT : prgI I b sz = tI T := by
      have := lay_eq o6
      rw [tI_len, ez] at this
      exact this.symm
    rw [eT, uTx_tI (okP_20b o1)]
    exact ⟨(s3 (by decide)).2, o1, rfl⟩
  · subst e
    obtain ⟨h1, h0⟩ := s3 (by decide)
    obtain ⟨l, aa, ht, ⟨t0, tr⟩, tz, tk⟩ := s5 rfl
    have at' : ∀ k, k < sz → srt (prgI I b sz) k = nI (l k) ∧ sN (srt (prgI I b sz) k) = l k ∧ (l k ≠ 0 → sN (vlu (prgI I b sz) k) = aa k) := fun k hk => by
      obtain ⟨u1, u2, u3, u4, -⟩ := tk k hk
      have e1 := (prg_at (I := I) (b := b) hk).1.trans u2
      exact ⟨e1, by rw [e1, sN_n (by omega)], fun n0 => by rw [(prg_at hk).2]; have u := u4 n0; have e : I 185 (60 * b + k) = nI (aa k) := u.1; rw [e, sN_n (by omega)]⟩
    have lds : ∀ k j, k < sz → (ldsT (prgI I b sz) k j ↔ (k + 1 = j ∧ l k ≠ 17 ∨ 17 ≤ l k ∧ k + 1 + aa k = j)) := fun k j hk => by
      obtain ⟨b1, b2, b3⟩ := at' k hk
      unfold ldsT
      rw [b2]
      constructor
      · rintro (h | ⟨h1, h2⟩)
        · exact .inl h
        · exact .inr ⟨h1, by rw [← b3 (by omega)]; exact h2⟩
      · rintro (h | ⟨h1, h2⟩)
        · exact .inl h
        · exact .inr ⟨h1, by rw [b3 (by omega)]; exact h2⟩
    refine ⟨h0, by rw [lp]; exact h1, fun k hk => ?_, fun k hk => ?_, fun k hk h17 => ?_, ?_⟩
    · rw [lp] at hk
      obtain ⟨b1, b2, b3⟩ := at' k hk
      obtain ⟨u1, u2, u3, u4, -⟩ := tk k hk
      rw [b2]
      refine ⟨b1, u1, fun h => ?_⟩
      have := u4 (by omega)
      rw [b3 (by omega)]
      exact ⟨(prg_at hk).2.trans this.1, by omega⟩
    · rw [lp] at hk
      obtain ⟨b1, b2, b3⟩ := at' k hk
      obtain ⟨u1, u2, u3, u4, u5, -⟩ := tk k hk
      rw [b2, (prg_at hk).2]
      refine ⟨u3, fun n0 l17 => ?_⟩
      have e1 : I 185 (60 * b + k) = nI (aa k) := (u4 n0).1
      have e2 := u5 l17 n0
      rw [e1, e2]
      rfl
    · rw [lp] at hk
      obtain ⟨b1, b2, b3⟩ := at' k hk
      rw [b2] at h17
      rw [b3 (by omega)]
      have := ((tk k hk).2.2.2.1 (by omega)).2
      omega
    · obtain ⟨g, hg, -⟩ := cdX_b (P := prgI I b sz) (ht := ht) t0 (by rw [lp]; exact tz) (fun k k1 k2 => by
        rw [lp] at k2
        obtain ⟨p, p1, p2⟩ := tr k k1 k2
        exact ⟨p, p1, (lds p k (by omega)).mpr p2⟩) (fun k hk => by
        rw [lp] at hk
        obtain ⟨b1, b2, b3⟩ := at' k hk
        obtain ⟨u1, u2, u3, u4, u5, u6, u7, u8, u9⟩ := tk k hk
        unfold hN2
        rw [b2, lp]
        refine ⟨u6, u7, fun j hj => ?_⟩
        rcases (lds k j hk).mp hj with ⟨d1, d2⟩ | ⟨d1, d2⟩
        · rw [← d1]; exact ⟨by omega, u8 d2⟩
        · rw [← d2]; exact u9 d1)
      exact ⟨g, hg⟩
  · subst e
    obtain ⟨h1, h0⟩ := s3 (by decide)
    obtain ⟨m6, mk⟩ := s6 rfl
    refine ⟨h0, by rw [lp]; exact h1, by rw [lp]; exact m6, fun k hk => ?_⟩
    rw [lp] at hk
    obtain ⟨t1, e0, e1, e2, e3, c0, c1, c2, c3, hv⟩ := mk k hk
    rw [(prg_at hk).1, (prg_at hk).2, lp]
    refine ⟨t1, e0 + 8 * e1 + 64 * e2 + 512 * e3, by omega, hv, fun c hc => ?_⟩
    rcases (by omega : c = 0 ∨ c = 1 ∨ c = 2 ∨ c = 3) with rfl | rfl | rfl | rfl <;> omega
  · subst e
    obtain ⟨m2, m8, m40, mk⟩ := s7 rfl
    refine ⟨m2, m8, by rw [lp]; exact m40, fun k hk => ?_⟩
    rw [lp] at hk
    rw [(prg_at hk).1, (prg_at hk).2]
    exact mk k hk
  · intro X K M Q _ _
    rw [lp]
    exact ⟨_, _, _, _, _, _, tl_at.trans q5, tl_at.trans q6⟩
  · rw [lp]
    unfold itm at q7 ⊢
    by_cases c : kd = 2
    · rw [if_pos c] at q7 ⊢
      intro k hk
      rw [(prg_at hk).1, (prg_at hk).2]
      exact q7 k hk
    · rw [if_neg c] at q7 ⊢
      intro k hk
      rw [(prg_at hk).1, (prg_at hk).2]
      exact q7 k hk
  · intro k x hx
    have hk : k < sz := by rw [← lp]; exact (List.getElem?_eq_some_iff.mp hx).1
    rw [srt_at (by rw [lp]; exact hk), (prg_at hk).1, (prg_at hk).2] at hx
    rw [← Option.some.inj hx]
    exact ⟨rfl, rfl⟩
def fr39 (V W : Nat → Nat → Value) (I J : Nat → Nat → Int32) : Prop := (∀ a j, ¬ (a = 174 ∧ (j = 18 ∨ j = 19 ∨ j = 20)) → W a j = V a j) ∧ (∀ y, y ≠ 188 → y ≠ 189 → y ≠ 192 → J y = I y) ∧ (wt V → wt W)
theorem keep_39 {V W : Nat → Nat → Value} {I J : Nat → Nat → Int32} (f : fr39 V W I J) : keep V W I J := ⟨fun a j h => f.1 a j (fun e => by
  obtain ⟨rfl, e⟩ := e
  rcases e with rfl | rfl | rfl <;> exact absurd h (by decide)), fun y h => f.2.1 y (fun e => by subst e; exact absurd h (by decide)) (fun e => by subst e; exact absurd h (by decide)) (fun e => by subst e; exact absurd h (by decide)), f.2.2⟩
theorem keep_Sc {V W : Nat → Nat → Value} {I J : Nat → Nat → Int32} (f : frSc V W I J) : keep V W I J := ⟨fun a j h => f.1 a j (fun e => by
  obtain ⟨rfl, e⟩ := e
  rcases e with rfl | rfl | rfl | rfl | rfl <;> exact absurd h (by decide)), fun y h => f.2.1 y (fun e => by subst e; exact absurd h (by decide)) (fun e => by subst e; exact absurd h (by decide)) (fun e => by subst e; exact absurd h (by decide)) (fun e => by subst e; exact absurd h (by decide)) (fun e => by subst e; exact absurd h (by decide)) (fun e => by subst e; exact absurd h (by decide)), f.2.2⟩
theorem vRel_Cg : ∀ a, a < 118 → 89 ≤ a → vRel a = [] := by decide
theorem iRel_Cg : ∀ y, y ∈ iRel → y < 89 ∨ 117 < y := by decide
theorem keep_Cg {V W : Nat → Nat → Value} {I J : Nat → Nat → Int32} (f : frCg V W I J) : keep V W I J := ⟨fun a j h => f.1 a j (by
  by_cases c : 89 ≤ a ∧ a < 118
  · rw [vRel_Cg a c.2 c.1] at h; exact absurd h (by simp)
  · omega), fun y h => f.2.1 y (iRel_Cg y h), f.2.2⟩
theorem keep_So {V : Nat → Nat → Value} {I : Nat → Nat → Int32} {so : Int32} : keep V (vSo V so) I I := keep_t (keep_v (a := 174) (j := 93) (by decide) (by decide)) (keep_t (keep_v (a := 174) (j := 94) (by decide) (by decide)) (keep_v (a := 174) (j := 95) (by decide) (by decide)))
theorem dk2_fr {V : Nat → Nat → Value} {I : Nat → Nat → Int32} {kd ln sz b : Nat} : fr39 V (dk2V V kd ln sz) I (dk2I I b sz) := by
  refine ⟨fun a j h => ?_, fun y h1 h2 _ => ?_, fun w => wt_i (wt_i (wt_i w (by decide)) (by decide)) (by decide)⟩
  · unfold dk2V
    rw [vup_o (fun e => h ⟨e.1, .inr (.inl e.2)⟩), vup_o (fun e => h ⟨e.1, .inl e.2⟩), vup_o (fun e => h ⟨e.1, .inr (.inr e.2)⟩)]
  · unfold dk2I
    rw [iup_na h2, iup_na h1]
set_option maxRecDepth 100000 in
set_option maxHeartbeats 4000000 in
theorem ld_E {V : Nat → Nat → Value} {I : Nat → Nat → Int32} {L : Nat → Nat → Int64} {R : Nat → Nat → Option Nat} {tl : am_H} {N kd ln b : Nat} {P : xI} (hN : 100 < N) (hb : b < 600) (hg : gdP kd ln P) (q1 : I 175 b = nI kd) (q2 : I 176 b = nI P.length) (q3 : I 177 b = nI ln) (hl : lay2 (fun k => I 184 (60 * b + k)) (fun k => I 185 (60 * b + k)) P) : ∃ W J, fm_391 N (.ref 174) (nI b) (fx V I L R ++ tl) = some (.inl (none, fx W J L R ++ tl)) ∧ fr39 V W I J ∧ W 174 20 = .int (nI kd) ∧ W 174 19 = .int (nI ln) ∧ dsA W J P ∧ (kd = 0 → ∀ k, k < P.length → J 192 k = nI (xE (uTx P) k - k)) := by
  have ds : ∀ J, J 188 = dk2I I b P.length 188 → J 189 = dk2I I b P.length 189 → dsA (dk2V V kd ln P.length) J P := fun J j1 j2 => by
    refine ⟨rfl, fun k x hx => ?_⟩
    have hk : k < P.length := (List.getElem?_eq_some_iff.mp hx).1
    rw [j1, j2]
    have := hl k x hx
    show dk2I I b P.length 188 k = x.1 ∧ dk2I I b P.length 189 k = x.2
    unfold dk2I
    rw [iup_na (by decide), iup_eq, iup_eq, ldr_at hk, ldr_at hk]
    exact this
  by_cases k0 : kd = 0
  · subst k0
    obtain ⟨l0, ho, et⟩ := hg.2.2.1 rfl
    have lu := uTx_len (P := P)
    obtain ⟨g, g1, g2⟩ := r_391t (V := V) (I := I) (L := L) (R := R) (tl := tl) (N := N) (l := sl (uTx P)) (ln := ln) hN hb (by rw [sl_len, lu]; exact hg.2.1) (okF_F _ _ ho.1) q1 (by rw [sl_len, lu]; exact q2) q3 (fun k x r e => by
      have hk : k < (uTx P).length := by
        by_cases c : k < (uTx P).length
        · exact c
        · rw [List.drop_of_length_le (by rw [sl_len]; omega)] at e; exact absurd e (by simp)
      rw [sl_at hk] at e
      injection e with e1 e2
      rw [← e1]
      have h2 := hl k _ (srt_at (by rw [← lu]; exact hk))
      refine ⟨h2.1.trans ?_, (nd_at ho hk).1⟩
      show srt P k = nI (xS (uTx P) k)
      have := (srt_tI hk).1
      rw [et] at this
      exact this)
    rw [sl_len, lu] at g2
    refine ⟨_, _, g2, ?_, rfl, rfl, ds _ (iup_na (by decide)) (iup_na (by decide)), fun _ k hk => ?_⟩
    · have := dk2_fr (V := V) (I := I) (kd := 0) (ln := ln) (sz := P.length) (b := b)
      exact ⟨this.1, fun y h1 h2 h3 => (iup_na h3).trans (this.2.1 y h1 h2 h3), this.2.2⟩
    · rw [iup_eq, g1 k (Nat.zero_le _) (by rw [sl_len, lu]; exact hk)]
      congr 1
      show _ = k + tk 1 ((sl (uTx P)).drop k) - k
      omega
  · exact ⟨_, _, r_391 hN hb hg.2.1 k0 hg.1 q1 q2 q3, dk2_fr, rfl, rfl, ds _ rfl rfl, fun e => absurd e k0⟩
theorem ncE_b {kd ln w : Nat} {P : xI} (hg : gdP kd ln P) (hw : w < 4) : ncE kd ln P.length w ≤ 4500 := by
  obtain ⟨g1, g2, g3, g4, g5, g6⟩ := hg
  unfold ncE
  rcases (by omega : kd = 0 ∨ kd = 1 ∨ kd = 2 ∨ kd = 3) with rfl | rfl | rfl | rfl
  · rw [if_pos rfl]; split <;> (try split) <;> omega
  · rw [if_neg (by decide), if_pos rfl]; split <;> (try split) <;> (try split) <;> omega
  · have m6 := (g5 rfl).2.2.1
    have : 4 * P.length * P.length ≤ 24 * 6 := Nat.mul_le_mul (by omega) m6
    rw [if_neg (by decide), if_neg (by decide), if_pos rfl]; split <;> (try split) <;> (try split) <;> (try split) <;> omega
  · obtain ⟨n2, n8, n40, -⟩ := g6 rfl
    have a28 := acr_b ln n8
    have h1 : P.length * acr ln ≤ 40 * 28 := Nat.mul_le_mul n40 a28
    have h2 : (P.length + 1) * acr ln ≤ 41 * 28 := Nat.mul_le_mul (by omega) a28
    rw [if_neg (by decide), if_neg (by decide), if_neg (by decide)]; split <;> (try split) <;> (try split) <;> (try split) <;> omega
theorem cnt_m (cd : Nat → Option xI) : ∀ m c, cnt cd m c ≤ m := by
  intro m
  induction m with
  | zero => intro c; exact Nat.le_refl _
  | succ m ih =>
    intro c
    rw [cnt_s2]
    have := ih (c + 1)
    split <;> omega
theorem nI_m1c {p : Nat} (h : p < 10000) : ¬ (-1 : Int32) = nI p := fun e => by
  have e2 := congrArg Int32.toInt e
  rw [nI_toInt (by omega), show (-1 : Int32).toInt = -1 by decide] at e2
  omega
theorem in_4n {a : Int32} (h : a < 0 ∨ nI 4 ≤ a) : pv_327 a.toInt64 0 3 = 0 := by
  have := in_b (a := a) (n := 4) (by omega) h
  rw [show (nI 4).toInt64 - 1 = 3 by decide] at this
  exact this
theorem in_4 : ∀ w, w < 4 → pv_327 (nI w).toInt64 0 3 = 1 := by decide
