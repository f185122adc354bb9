/-! ===== the reference makes a tree simple ===== -/

theorem seg_s1 {P : xT} {k : Nat} (hk : k < P.length) : P.take (k + 1) = P.take k ++ [(xS P k, xV P k)] := by
  have h := xS_at hk
  rw [List.getElem?_eq_getElem hk] at h
  rw [List.take_succ_eq_append_getElem hk, Option.some.inj h]
theorem xV_0 {P : xT} (ho : okP P) {k : Nat} (hk : k < P.length) (h : xS P k ≠ 0) : xV P k = 0 := (ho.2 _ (List.mem_of_getElem? (xS_at hk))).2 h
set_option maxRecDepth 100000 in
set_option maxHeartbeats 4000000 in
theorem r_550 {V : Nat → Nat → Value} {I : Nat → Nat → Int32} {L : Nat → Nat → Int64} {R : Nat → Nat → Option Nat} {tl : am_H} {N k : Nat} {nt : Int32} {P : xT} (hN : 400 < N) (ho : okP P) (hA : rA V I nt P) (hk : k < P.length) : rOut L R tl V I nt P k (fm_550 N (.ref 174) (nI k) (fx V I L R ++ tl)) (ru6 P (xS P k) (k + 1)) := by
  have l60 := hA.2.2.2.2
  obtain ⟨n1, n2, n3, n4, n5, n6, n7, n8, n9⟩ := nd_at ho hk
  have q : ∀ n, n ≤ 30 → (nI (xS P k) = nI n ↔ xS P k = n) := fun n hn => nI_eq (by omega) (by omega)
  unfold ru6
  by_cases c1 : xS P k = 20
  · rw [if_pos c1]
    obtain ⟨m1, m2, m3⟩ := n4 (by omega)
    have b1 := xS_20 ho (k + 1)
    have q1 : nI (xS P (k + 1)) = nI 9 ↔ xS P (k + 1) = 9 := nI_eq (by omega) (by omega)
    have ra := rA_s (L := L) (R := R) (tl := tl) hA m1
    rw [← nI_1] at ra
    by_cases c2 : xS P (k + 1) = 9
    · rw [if_pos c2]
      obtain ⟨a1, a2, a3⟩ := n5 (by omega)
      obtain ⟨d1, d2, d3⟩ := n6 c1
      obtain ⟨p1, p2, p3, p4, -, -, -, p8, -⟩ := nd_at ho m1
      obtain ⟨r1, r2, r3⟩ := p4 (by omega)
      have p8 := p8 (by omega) (by omega)
      have ga := xE_gt a1
      have gb := xE_gt d1
      have gq := xE_gt r1
      have p8' : xE P (k + 2) = xE P (k + 1) := p8
      have gq' : k + 2 < xE P (k + 2) := gq
      have xl := xE_le (P := P) (k := k) (by omega)
      have xg := xE_gt hk
      refine ⟨fun e => absurd e (by simp), fun c e _ => ?_⟩
      have e := Option.some.inj e
      subst e
      have E1 := s393_1 (L := L) (R := R) (tl := tl) hN hA (k := k) (by omega)
      have E2 := s393_2 (L := L) (R := R) (tl := tl) hN hA (k := k) (by omega) (by omega)
      obtain ⟨W1, e1, q1', k1, n1', f1⟩ := s451 (I := I) (L := L) (R := R) (tl := tl) hA.1 hA.2.1
      have A1 := rA_f f1 hA
      obtain ⟨W2, J2, e2, q2, f2⟩ := s443 (L := L) (R := R) (tl := tl) (i := 0) (j := k + 1) 0 (nI k + 1) rfl (nI_1 k) hN (by omega) (by rw [tI_len]; omega) (by rw [tI_len]; omega) A1.2.2.1 q1' (by show 0 + _ ≤ 400; omega)
      have F2 := frEd_t f1 (frEd_d f2)
      have A2 := rA_f F2 hA
      have l2 : ([] ++ sg (tI P) 0 (k + 1)).length = k + 1 := by rw [List.nil_append, sg_len (by rw [tI_len]; omega)]; omega
      obtain ⟨W3, J3, e3, q3, f3⟩ := s443 (L := L) (R := R) (tl := tl) (i := k + 2) (j := xE P (k + 1)) (nI k + 1 + 1) (nI k + 1 + 1 + nI (xE P (k + 2) - (k + 2))) (by rw [nI_1, nI_1]) (by rw [nI_1, nI_1]; exact nI_ad _ _ _ (by omega)) hN (by omega) (by rw [tI_len]; omega) (by rw [tI_len]; omega) A2.2.2.1 q2 (by rw [l2]; omega)
      have D3 := frDk_t f2 f3
      have F3 := frEd_t f1 (frEd_d D3)
      have A3 := rA_f F3 hA
      have l3 : ([] ++ sg (tI P) 0 (k + 1) ++ sg (tI P) (k + 2) (xE P (k + 1))).length = k + 1 + (xE P (k + 1) - (k + 2)) := by rw [List.length_append, l2, sg_len (by rw [tI_len]; omega)]
      obtain ⟨W4, J4, e4, q4, f4⟩ := s443 (L := L) (R := R) (tl := tl) (i := xE P (xE P (k + 1))) (j := xE P k) (nI (xE P (xE P (k + 1)))) (nI (xE P (xE P (k + 1))) + nI (xE P (xE P (xE P (k + 1))) - xE P (xE P (k + 1)))) rfl (nI_ad _ _ _ (by omega)) hN (by omega) (by rw [tI_len]; omega) (by rw [tI_len]; omega) A3.2.2.1 q3 (by rw [l3]; omega)
      have D4 := frDk_t D3 f4
      have A4 := rA_f (frEd_t f1 (frEd_d D4)) hA
      have l4 : ([] ++ sg (tI P) 0 (k + 1) ++ sg (tI P) (k + 2) (xE P (k + 1)) ++ sg (tI P) (xE P (xE P (k + 1))) (xE P k)).length = k + 1 + (xE P (k + 1) - (k + 2)) + (xE P k - xE P (xE P (k + 1))) := by rw [List.length_append, l3, sg_len (by rw [tI_len]; omega)]
      obtain ⟨W5, J5, e5, q5, f5⟩ := s443 (L := L) (R := R) (tl := tl) (i := xE P (k + 1)) (j := xE P (xE P (k + 1))) (nI (xE P (k + 1))) (nI (xE P (k + 1)) + nI (xE P (xE P (k + 1)) - xE P (k + 1))) rfl (nI_ad _ _ _ (by omega)) hN (by omega) (by rw [tI_len]; omega) (by rw [tI_len]; omega) A4.2.2.1 q4 (by rw [l4]; omega)
      have D5 := frDk_t D4 f5
      have A5 := rA_f (frEd_t f1 (frEd_d D5)) hA
      have l5 : ([] ++ sg (tI P) 0 (k + 1) ++ sg (tI P) (k + 2) (xE P (k + 1)) ++ sg (tI P) (xE P (xE P (k + 1))) (xE P k) ++ sg (tI P) (xE P (k + 1)) (xE P (xE P (k + 1)))).length = k + 1 + (xE P (k + 1) - (k + 2)) + (xE P k - xE P (xE P (k + 1))) + (xE P (xE P (k + 1)) - xE P (k + 1)) := by rw [List.length_append, l4, sg_len (by rw [tI_len]; omega)]
      obtain ⟨W6, J6, e6, q6, f6⟩ := s443 (L := L) (R := R) (tl := tl) (i := xE P k) (j := P.length) (nI k + nI (xE P k - k)) (nI P.length) (nI_ad _ _ _ (by omega)) rfl hN (by omega) (by rw [tI_len]; omega) (by rw [tI_len]; omega) A5.2.2.1 q5 (by rw [l5]; omega)
      have D6 := frDk_t D5 f6
      refine ⟨W6, J6, ?_, ⟨(D6.1 174 13 (by decide)).trans k1, (D6.1 174 15 (by decide)).trans n1', ?_⟩, frEd_t f1 (frEd_d D6)⟩
      · have ra2 := rA_e (L := L) (R := R) (tl := tl) A2 (k := k + 2) (by omega)
        rw [show nI (k + 2) = nI k + 1 + 1 by rw [nI_1, nI_1]] at ra2
        apply hm_550
        apply hd_550_0
        exact ev_b (rdR rfl) (ev_b (rA_s hA hk) (ev_f (fun e => e ((q 20 (by omega)).mpr c1)) (ev_b (rdR rfl) (ev_b ra (ev_t (q1.mpr c2) (ev_i rfl (ev_cI E1 (ev_i rfl (ev_cI E2 (ev_i rfl (ev_cV e1 (ev_i rfl (ev_cV e2 (ev_b (rdR rfl) (ev_b ra2 (ev_i rfl (ev_cV e3 (ev_b (rdR rfl) (ev_b (rA_e A3 d1) (ev_i rfl (ev_cV e4 (ev_b (rdR rfl) (ev_b (rA_e A4 a1) (ev_i rfl (ev_cV e5 (ev_b (rdR rfl) (ev_b (rA_e A5 hk) (ev_b (rdI (rA_18 A5)) (ev_i rfl (ev_cV e6 rfl))))))))))))))))))))))))))))))
      · have t0 : sg (tI P) 0 (k + 1) = tI (P.take k) ++ [(nI 20, 0)] := by
          rw [show sg (tI P) 0 (k + 1) = tI (P.take (k + 1)) from (tI_seg (P := P) (i := 0) (j := k + 1)).symm, seg_s1 hk, tI_app, c1, xV_0 ho hk (by omega)]
          rfl
        have t1 : ∀ i j, sg (tI P) i j = tI (seg P i j) := fun i j => tI_seg.symm
        have em : rMid P k (1, 0) = [(20, 0)] ++ (seg P (k + 2) (xE P (k + 1)) ++ (seg P (xE P (xE P (k + 1))) (xE P k) ++ seg P (xE P (k + 1)) (xE P (xE P (k + 1))))) := rfl
        have e7 : [] ++ sg (tI P) 0 (k + 1) ++ sg (tI P) (k + 2) (xE P (k + 1)) ++ sg (tI P) (xE P (xE P (k + 1))) (xE P k) ++ sg (tI P) (xE P (k + 1)) (xE P (xE P (k + 1))) ++ sg (tI P) (xE P k) P.length = tI (rp P k (rMid P k (1, 0))) := by
          unfold rp
          rw [em, t0, t1, t1, t1, t1, seg_all, tI_app, tI_app, tI_app, tI_app, tI_app, List.nil_append]
          simp only [List.append_assoc]
          rfl
        rw [e7] at q6
        exact q6
    · rw [if_neg c2]
      refine rO_no ?_
      apply hm_550
      apply hd_550_0
      exact ev_b (rdR rfl) (ev_b (rA_s hA hk) (ev_f (fun e => e ((q 20 (by omega)).mpr c1)) (ev_b (rdR rfl) (ev_b ra (ev_f (fun e => c2 (q1.mp e)) rfl)))))
  · rw [if_neg c1]
    refine rO_no ?_
    apply hm_550
    apply hd_550_0
    exact ev_b (rdR rfl) (ev_b (rA_s hA hk) (ev_t (fun e => c1 ((q 20 (by omega)).mp e)) rfl))
theorem rO_w {V : Nat → Nat → Value} {I : Nat → Nat → Int32} {L : Nat → Nat → Int64} {R : Nat → Nat → Option Nat} {tl : am_H} {nt : Int32} {P : xT} {k : Nat} {o : Option am_O} {r : Option (Nat × Int32)} (h : rOut L R tl V I nt P k o r) : rOut L R tl V I nt P k (am_cI true o (fun v h => (if am_rfit (some FieldType.boolean) v then some (.inl (some (.int v), h)) else none))) r := by
  refine ⟨fun e => by rw [h.1 e]; rfl, fun c e hR => ?_⟩
  obtain ⟨W, J, e1, r1⟩ := h.2 c e hR
  exact ⟨W, J, by rw [e1]; rfl, r1⟩
set_option maxRecDepth 100000 in
set_option maxHeartbeats 4000000 in
theorem r_538 {V : Nat → Nat → Value} {I : Nat → Nat → Int32} {L : Nat → Nat → Int64} {R : Nat → Nat → Option Nat} {tl : am_H} {N k w : Nat} {nt : Int32} {P : xT} (hN : 400 < N) (ho : okP P) (hA : rA V I nt P) (hk : k < P.length) (hw : w < 9) : rOut L R tl V I nt P k (fm_538 N (.ref 174) (nI k) (nI w) (fx V I L R ++ tl)) (ru P k w) := by
  have qw : ∀ n, n ≤ 30 → (nI w = nI n ↔ w = n) := fun n hn => nI_eq (by omega) (by omega)
  have nw : ∀ n, n ≤ 30 → w ≠ n → ¬ nI w = nI n := fun n hn h e => h ((qw n hn).mp e)
  unfold ru
  by_cases w0 : w = 0
  · rw [if_pos w0]
    have e : fm_538 N (.ref 174) (nI k) (nI w) (fx V I L R ++ tl) = _ := hm_538 (hd_538_0 (ev_t ((qw 0 (by omega)).mpr w0) (ev_i rfl rfl)))
    rw [e]
    exact rO_w (r_539 hN ho hA hk)
  rw [if_neg w0]
  by_cases w1 : w = 1
  · rw [if_pos w1]
    have e : fm_538 N (.ref 174) (nI k) (nI w) (fx V I L R ++ tl) = _ := hm_538 (hd_538_0 (ev_f (nw 0 (by omega) w0) (ev_t ((qw 1 (by omega)).mpr w1) (ev_i rfl rfl))))
    rw [e]
    exact rO_w (r_541 hN ho hA hk)
  rw [if_neg w1]
  by_cases w2 : w = 2
  · rw [if_pos w2]
    have e : fm_538 N (.ref 174) (nI k) (nI w) (fx V I L R ++ tl) = _ := hm_538 (hd_538_0 (ev_f (nw 0 (by omega) w0) (ev_f (nw 1 (by omega) w1) (ev_t ((qw 2 (by omega)).mpr w2) (ev_i rfl rfl)))))
    rw [e]
    exact rO_w (r_544 hN ho hA hk)
  rw [if_neg w2]
  by_cases w3 : w = 3
  · rw [if_pos w3]
    have e : fm_538 N (.ref 174) (nI k) (nI w) (fx V I L R ++ tl) = _ := hm_538 (hd_538_0 (ev_f (nw 0 (by omega) w0) (ev_f (nw 1 (by omega) w1) (ev_f (nw 2 (by omega) w2) (ev_t ((qw 3 (by omega)).mpr w3) (ev_i rfl rfl))))))
    rw [e]
    exact rO_w (r_545 hN ho hA hk)
  rw [if_neg w3]
  by_cases w4 : w = 4
  · rw [if_pos w4]
    have e : fm_538 N (.ref 174) (nI k) (nI w) (fx V I L R ++ tl) = _ := hm_538 (hd_538_0 (ev_f (nw 0 (by omega) w0) (ev_f (nw 1 (by omega) w1) (ev_f (nw 2 (by omega) w2) (ev_f (nw 3 (by omega) w3) (ev_t ((qw 4 (by omega)).mpr w4) (ev_i rfl rfl)))))))
    rw [e]
    exact rO_w (r_546 hN ho hA hk)
  rw [if_neg w4]
  by_cases w5 : w = 5
  · rw [if_pos w5]
    have e : fm_538 N (.ref 174) (nI k) (nI w) (fx V I L R ++ tl) = _ := hm_538 (hd_538_0 (ev_f (nw 0 (by omega) w0) (ev_f (nw 1 (by omega) w1) (ev_f (nw 2 (by omega) w2) (ev_f (nw 3 (by omega) w3) (ev_f (nw 4 (by omega) w4) (ev_t ((qw 5 (by omega)).mpr w5) (ev_i rfl rfl))))))))
    rw [e]
    exact rO_w (r_549 hN ho hA hk)
  rw [if_neg w5]
  by_cases w6 : w = 6
  · rw [if_pos w6]
    have e : fm_538 N (.ref 174) (nI k) (nI w) (fx V I L R ++ tl) = _ := hm_538 (hd_538_0 (ev_f (nw 0 (by omega) w0) (ev_f (nw 1 (by omega) w1) (ev_f (nw 2 (by omega) w2) (ev_f (nw 3 (by omega) w3) (ev_f (nw 4 (by omega) w4) (ev_f (nw 5 (by omega) w5) (ev_t ((qw 6 (by omega)).mpr w6) (ev_i rfl rfl)))))))))
    rw [e]
    exact rO_w (r_550 hN ho hA hk)
  rw [if_neg w6]
  by_cases w7 : w = 7
  · rw [if_pos w7]
    have e : fm_538 N (.ref 174) (nI k) (nI w) (fx V I L R ++ tl) = _ := hm_538 (hd_538_0 (ev_f (nw 0 (by omega) w0) (ev_f (nw 1 (by omega) w1) (ev_f (nw 2 (by omega) w2) (ev_f (nw 3 (by omega) w3) (ev_f (nw 4 (by omega) w4) (ev_f (nw 5 (by omega) w5) (ev_f (nw 6 (by omega) w6) (ev_t ((qw 7 (by omega)).mpr w7) (ev_i rfl rfl))))))))))
    rw [e]
    exact rO_w (r_551 hN ho hA hk)
  rw [if_neg w7]
  have e : fm_538 N (.ref 174) (nI k) (nI w) (fx V I L R ++ tl) = _ := hm_538 (hd_538_0 (ev_f (nw 0 (by omega) w0) (ev_f (nw 1 (by omega) w1) (ev_f (nw 2 (by omega) w2) (ev_f (nw 3 (by omega) w3) (ev_f (nw 4 (by omega) w4) (ev_f (nw 5 (by omega) w5) (ev_f (nw 6 (by omega) w6) (ev_f (nw 7 (by omega) w7) (ev_i rfl rfl))))))))))
  rw [e]
  exact rO_w (r_552 hN ho hA hk)
/-- what simplifying touches, in the reference -/
def frX (V W : Nat → Nat → Value) (I J : Nat → Nat → Int32) : Prop := (∀ a j, ¬ (a = 174 ∧ (j = 13 ∨ j = 14 ∨ j = 15 ∨ j = 18 ∨ j = 19 ∨ j = 20 ∨ j = 115)) → W a j = V a j) ∧ (∀ y, y ≠ 186 → y ≠ 187 → y ≠ 188 → y ≠ 189 → y ≠ 192 → y ≠ 248 → y ≠ 249 → J y = I y) ∧ (wt V → wt W)
theorem frX_t {V W X : Nat → Nat → Value} {I J K : Nat → Nat → Int32} (h1 : frX V W I J) (h2 : frX W X J K) : frX V X I K := ⟨fun a j h => (h2.1 a j h).trans (h1.1 a j h), fun y a b c d e f g => (h2.2.1 y a b c d e f g).trans (h1.2.1 y a b c d e f g), fun w => h2.2.2 (h1.2.2 w)⟩
theorem frX_r {V : Nat → Nat → Value} {I : Nat → Nat → Int32} : frX V V I I := ⟨fun _ _ _ => rfl, fun _ _ _ _ _ _ _ _ => rfl, id⟩
theorem frX_d {V W : Nat → Nat → Value} {I J : Nat → Nat → Int32} (h : frEd V W I J) : frX V W I J := ⟨fun a j n => h.1 a j (fun e => n ⟨e.1, by omega⟩), fun y a b _ _ _ _ _ => h.2.1 y a b, h.2.2⟩
/-- the reference's rows -/
def rwR (V : Nat → Nat → Value) (I : Nat → Nat → Int32) (l : List (Nat × Nat)) : Prop := V 174 115 = .int (nI l.length) ∧ ∀ i x, l[i]? = some x → I 248 i = nI x.1 ∧ I 249 i = nI x.2
def frU3 (V W : Nat → Nat → Value) (I J : Nat → Nat → Int32) : Prop := W 174 115 = V 174 115 ∧ J 248 = I 248 ∧ J 249 = I 249
theorem frU3_d {V W : Nat → Nat → Value} {I J : Nat → Nat → Int32} (h : frEd V W I J) : frU3 V W I J := ⟨h.1 174 115 (by decide), h.2.1 248 (by decide) (by decide), h.2.1 249 (by decide) (by decide)⟩
theorem rwR_u {V W : Nat → Nat → Value} {I J : Nat → Nat → Int32} {l : List (Nat × Nat)} (h : frU3 V W I J) (r : rwR V I l) : rwR W J l := ⟨h.1.trans r.1, by rw [h.2.1, h.2.2]; exact r.2⟩
theorem rwR_s {V : Nat → Nat → Value} {I J : Nat → Nat → Int32} {l : List (Nat × Nat)} {k w : Nat} (h : rwR V I l) (h1 : J 248 = upd (I 248) l.length (nI k)) (h2 : J 249 = upd (I 249) l.length (nI w)) (W : Nat → Nat → Value) (hW : W 174 115 = .int (nI (l.length + 1))) : rwR W J (l ++ [(k, w)]) := by
  refine ⟨by rw [List.length_append]; exact hW, fun i x hx => ?_⟩
  rw [h1, h2]
  by_cases c : i < l.length
  · rw [List.getElem?_append_left c] at hx
    rw [upd_ne (by omega), upd_ne (by omega)]
    exact h.2 i x hx
  · rw [List.getElem?_append_right (by omega)] at hx
    by_cases d : i = l.length
    · subst d
      rw [Nat.sub_self, List.getElem?_cons_zero] at hx
      have e := Option.some.inj hx
      subst e
      rw [upd_eq, upd_eq]
      exact ⟨rfl, rfl⟩
    · rw [show i - l.length = (i - l.length - 1) + 1 by omega, List.getElem?_cons_succ] at hx
      exact absurd hx (by simp)
def rwQ (kp : Nat) (V W : Nat → Nat → Value) (I J : Nat → Nat → Int32) (l l2 : List (Nat × Nat)) : Prop := (kp = 0 → frU3 V W I J) ∧ (kp = 1 → rwR V I l → rwR W J l2)
set_option maxRecDepth 100000 in
set_option maxHeartbeats 4000000 in
theorem r_537i {V : Nat → Nat → Value} {I : Nat → Nat → Int32} {L : Nat → Nat → Int64} {R : Nat → Nat → Option Nat} {tl : am_H} {N kp k : Nat} {nt : Int32} {P : xT} {rc : Value → Int32 → Int32 → am_H → Option am_O} (hN : 400 < N) (ho : okP P) (hA : rA V I nt P) (hk : k < P.length) (hkp : kp ≤ 1) : ∀ (m w K : Nat), w + m = 9 → m < K → (fsW P k m w = none → fg_537_13 N rc K (.ref 174) (nI kp) (nI k) (nI w) (fx V I L R ++ tl) = rc (.ref 174) (nI kp) (nI k + (-1)) (fx V I L R ++ tl)) ∧ (∀ w' c l, fsW P k m w = some (w', c) → (kp = 1 → V 174 115 = .int (nI l.length) ∧ l.length < 60) → ∃ W J, fg_537_13 N rc K (.ref 174) (nI kp) (nI k) (nI w) (fx V I L R ++ tl) = some (.inl (some (.int 1), fx W J L R ++ tl)) ∧ dkT W J nt (rp P k (rMid P k c)) ∧ frX V W I J ∧ rwQ kp V W I J l (l ++ [(k, w')])) := by
  intro m
  induction m with
  | zero =>
    intro w K hm hK
    obtain ⟨K, rfl⟩ : ∃ k, K = k + 1 := ⟨K - 1, by omega⟩
    refine ⟨fun _ => ?_, fun w' c l e => absurd e (by rw [fsW]; simp)⟩
    apply hd_537_13
    exact ev_t (nI_le (a := 9) (by omega) (by omega)) rfl
  | succ m ih =>
    intro w K hm hK
    obtain ⟨K, rfl⟩ : ∃ k, K = k + 1 := ⟨K - 1, by omega⟩
    have e1 := r_538 (L := L) (R := R) (tl := tl) (w := w) hN ho hA hk (by omega)
    rw [fsW_r]
    cases er : ru P k w with
    | none =>
      rw [er] at e1
      obtain ⟨g1, g2⟩ := ih (w + 1) K (by omega) (by omega)
      have st : ∀ o, fg_537_13 N rc K (.ref 174) (nI kp) (nI k) (nI (w + 1)) (fx V I L R ++ tl) = o → fg_537_13 N rc (K + 1) (.ref 174) (nI kp) (nI k) (nI w) (fx V I L R ++ tl) = o := fun o h => by
        apply hd_537_13
        rw [nI_1]
        exact ev_f (nI_ge (b := 9) (by omega) (by omega)) (ev_i rfl (ev_cI (e1.1 rfl) (ev_f (fun e => e rfl) h)))
      refine ⟨fun h => st _ (g1 h), fun w' c l h hl2 => ?_⟩
      obtain ⟨W, J, a1, a2⟩ := g2 w' c l h hl2
      exact ⟨W, J, st _ a1, a2⟩
    | some c =>
      rw [er] at e1
      refine ⟨fun h => absurd h (by simp), fun w' c' l h hl2 => ?_⟩
      injection h with h
      injection h with h1 h2
      subst h1
      subst h2
      obtain ⟨W, J, a1, a2, a3⟩ := e1.2 c rfl (ru_R ho hk er)
      have b2 : W 174 115 = V 174 115 := a3.1 174 115 (by decide)
      rcases (by omega : kp = 0 ∨ kp = 1) with rfl | rfl
      · refine ⟨W, J, ?_, a2, frX_d a3, fun _ => frU3_d a3, fun e => absurd e (by omega)⟩
        apply hd_537_13
        exact ev_f (nI_ge (b := 9) (by omega) (by omega)) (ev_i rfl (ev_cI a1 (ev_t (by decide) (ev_t rfl rfl))))
      · obtain ⟨hc1, hc2⟩ := hl2 rfl
        have hc3 : W 174 115 = .int (nI l.length) := b2.trans hc1
        refine ⟨vup W 174 115 (.int (nI (l.length + 1))), iup (iup J 248 (upd (J 248) l.length (nI k))) 249 (upd (J 249) l.length (nI w)), ?_, a2, frX_t (frX_d a3) ⟨fun a j n => vup_o (fun e => n ⟨e.1, by omega⟩), fun y a b c d e f g => by rw [iup_na g, iup_na f], fun w => wt_i w (by decide)⟩, fun e => absurd e (by omega), fun _ hr => rwR_s (I := J) (V := W) (rwR_u (frU3_d a3) hr) rfl rfl _ rfl⟩
        apply hd_537_13
        refine ev_f (nI_ge (b := 9) (by omega) (by omega)) (ev_i rfl (ev_cI a1 (ev_t (by decide) (ev_f (by decide) (ev_b (rdR rfl) (ev_b (rdI hc3) (ev_b (qs_248 (by omega)) (ev_b (rdR rfl) (ev_b (rdI hc3) (ev_b (qs_249 (by omega)) (ev_b (rdI hc3) ?_)))))))))))
        rw [nI_1]
        exact ev_b qp_174_115 rfl
set_option maxRecDepth 100000 in
set_option maxHeartbeats 4000000 in
theorem r_537o {V : Nat → Nat → Value} {I : Nat → Nat → Int32} {L : Nat → Nat → Int64} {R : Nat → Nat → Option Nat} {tl : am_H} {N kp : Nat} {nt : Int32} {P : xT} (hN : 400 < N) (ho : okP P) (hA : rA V I nt P) (hkp : kp ≤ 1) : ∀ (k K : Nat), k ≤ P.length → k < K → (fsK P k = none → fg_537_7 N K (.ref 174) (nI kp) (nI k + (-1)) (fx V I L R ++ tl) = some (.inl (some (.int 0), fx V I L R ++ tl))) ∧ (∀ k' w' c l, fsK P k = some (k', w', c) → (kp = 1 → V 174 115 = .int (nI l.length) ∧ l.length < 60) → ∃ W J, fg_537_7 N K (.ref 174) (nI kp) (nI k + (-1)) (fx V I L R ++ tl) = some (.inl (some (.int 1), fx W J L R ++ tl)) ∧ dkT W J nt (rp P k' (rMid P k' c)) ∧ frX V W I J ∧ rwQ kp V W I J l (l ++ [(k', w')])) := by
  intro k
  induction k with
  | zero =>
    intro K hk hK
    obtain ⟨K, rfl⟩ : ∃ k, K = k + 1 := ⟨K - 1, by omega⟩
    refine ⟨fun _ => ?_, fun k' w' c l e => absurd e (by rw [fsK]; simp)⟩
    apply hd_537_7
    exact ev_t (by decide) rfl
  | succ k ih =>
    intro K hk hK
    obtain ⟨K, rfl⟩ : ∃ k, K = k + 1 := ⟨K - 1, by omega⟩
    have l60 := hA.2.2.2.2
    obtain ⟨g1, g2⟩ := r_537i (L := L) (R := R) (tl := tl) (rc := fg_537_7 N K) hN ho hA (show k < P.length by omega) hkp 9 0 N (by omega) (by omega)
    have st : ∀ o, fg_537_13 N (fg_537_7 N K) N (.ref 174) (nI kp) (nI k) 0 (fx V I L R ++ tl) = o → fg_537_7 N (K + 1) (.ref 174) (nI kp) (nI (k + 1) + (-1)) (fx V I L R ++ tl) = o := fun o h => by
      apply hd_537_7
      rw [nI_m1]
      exact ev_f (nI_pos (by omega)) h
    rw [fsK_r]
    cases er : fsW P k 9 0 with
    | none =>
      obtain ⟨i1, i2⟩ := ih K (by omega) (by omega)
      refine ⟨fun h => st _ ((g1 er).trans (i1 h)), fun k' w' c l h hl2 => ?_⟩
      obtain ⟨W, J, b1, b2⟩ := i2 k' w' c l h hl2
      exact ⟨W, J, st _ ((g1 er).trans b1), b2⟩
    | some d =>
      obtain ⟨w1, c1⟩ := d
      refine ⟨fun h => absurd h (by simp), fun k' w' c l h hl2 => ?_⟩
      injection h with h
      injection h with h1 h2
      injection h2 with h2 h3
      subst h1
      subst h2
      subst h3
      obtain ⟨W, J, b1, b2⟩ := g2 w1 c1 l er hl2
      exact ⟨W, J, st _ b1, b2⟩
theorem r_537 {V : Nat → Nat → Value} {I : Nat → Nat → Int32} {L : Nat → Nat → Int64} {R : Nat → Nat → Option Nat} {tl : am_H} {N kp : Nat} {nt : Int32} {P : xT} (hN : 400 < N) (ho : okP P) (hA : rA V I nt P) (hkp : kp ≤ 1) : (fsK P P.length = none → fm_537 N (.ref 174) (nI kp) (fx V I L R ++ tl) = some (.inl (some (.int 0), fx V I L R ++ tl))) ∧ (∀ k' w' c l, fsK P P.length = some (k', w', c) → (kp = 1 → V 174 115 = .int (nI l.length) ∧ l.length < 60) → ∃ W J, fm_537 N (.ref 174) (nI kp) (fx V I L R ++ tl) = some (.inl (some (.int 1), fx W J L R ++ tl)) ∧ dkT W J nt (rp P k' (rMid P k' c)) ∧ frX V W I J ∧ rwQ kp V W I J l (l ++ [(k', w')])) := by
  have l60 := hA.2.2.2.2
  obtain ⟨g1, g2⟩ := r_537o (L := L) (R := R) (tl := tl) hN ho hA hkp P.length N (Nat.le_refl _) (by omega)
  have st : ∀ o, fg_537_7 N N (.ref 174) (nI kp) (nI P.length + (-1)) (fx V I L R ++ tl) = o → fm_537 N (.ref 174) (nI kp) (fx V I L R ++ tl) = o := fun o h => by
    apply hm_537
    apply hd_537_0
    refine ev_b (rdI (rA_18 hA)) ?_
    rw [show nI P.length - 1 = nI P.length + (-1) from Int32.sub_eq_add_neg ..]
    exact h
  refine ⟨fun h => st _ (g1 h), fun k' w' c l h hl2 => ?_⟩
  obtain ⟨W, J, b1, b2⟩ := g2 k' w' c l h hl2
  exact ⟨W, J, st _ b1, b2⟩
theorem s495 {V : Nat → Nat → Value} {I : Nat → Nat → Int32} {L : Nat → Nat → Int64} {R : Nat → Nat → Option Nat} {tl : am_H} {N : Nat} {nt : Int32} {Q : xT} (hN : 400 < N) (ho : okP Q) (hl : Q.length ≤ 60) (hd : dkT V I nt Q) : ∃ W J, fm_495 N (.ref 174) (fx V I L R ++ tl) = some (.inl (none, fx W J L R ++ tl)) ∧ rA W J nt Q ∧ frX V W I J ∧ frU3 V W I J := by
  have hF : isF 1 (sl Q) := okF_F (sl Q) [(0, 1, 0)] ho.1
  have h14 := hd.2.2.1
  rw [tI_len, ← sl_len (P := Q)] at h14
  have hS : rowS (I 186) (sl Q) := fun k x r hdr => by
    have hk : k < Q.length := by
      have := drop_len hdr
      rw [sl_len] at this
      omega
    rw [sl_at hk] at hdr
    injection hdr with h1 h2
    rw [← h1]
    exact ⟨(hd.2.2.2 k _ (tI_at hk)).1, (nd_at ho hk).1⟩
  obtain ⟨a', b', g, e, q1, q2, q3⟩ := r_495 (L := L) (R := R) (tl := tl) (N := N) (by omega) (by rw [sl_len]; exact hl) hF hS hd.1 h14 hd.2.1
  rw [sl_len] at e q1 q2
  refine ⟨_, _, e, ⟨rfl, rfl, ⟨by rw [tI_len]; rfl, fun k x hx => ?_⟩, fun k hk => ?_, hl⟩, ⟨fun a j n => ?_, fun y a b c d e f g => ?_, fun w => wt_i (wt_i (wt_i w (by decide)) (by decide)) (by decide)⟩, rfl, rfl, rfl⟩
  · have hk : k < Q.length := by
      have := (List.getElem?_eq_some_iff.mp hx).1
      rw [tI_len] at this
      exact this
    obtain ⟨y1, y2⟩ := hd.2.2.2 k x hx
    exact ⟨(q1 k hk).trans y1, (q2 k hk).trans y2⟩
  · have := q3 k (by omega) (by rw [sl_len]; exact hk)
    show g k = _
    rw [this]
    congr 1
    unfold xE enL
    omega
  · rw [vup_o (fun e => n ⟨e.1, by omega⟩), vup_o (fun e => n ⟨e.1, by omega⟩), vup_o (fun e => n ⟨e.1, by omega⟩)]
  · rw [iup_na e, iup_na d, iup_na c]
set_option maxRecDepth 100000 in
set_option maxHeartbeats 4000000 in
theorem r_536l {L : Nat → Nat → Int64} {R : Nat → Nat → Option Nat} {tl : am_H} {N kp : Nat} {nt : Int32} (hN : 400 < N) (hkp : kp ≤ 1) : ∀ (n K : Nat) (P : xT) (V : Nat → Nat → Value) (I : Nat → Nat → Int32) (l : List (Nat × Nat)), P.length ≤ n → n < K → okP P → rA V I nt P → l.length + P.length ≤ 60 → (kp = 1 → rwR V I l) → ∃ W J, fg_536_9 N K (.ref 174) (nI kp) (fx V I L R ++ tl) = some (.inl (none, fx W J L R ++ tl)) ∧ dkT W J nt (smp n P) ∧ frX V W I J ∧ rwQ kp V W I J l (l ++ smR n P) := by
  intro n
  induction n with
  | zero =>
    intro K P V I l hP hK ho
    have := okP_pos ho
    omega
  | succ n ih =>
    intro K P V I l hP hK ho hA hb h2
    obtain ⟨K, rfl⟩ : ∃ k, K = k + 1 := ⟨K - 1, by omega⟩
    have hp := okP_pos ho
    have l60 := hA.2.2.2.2
    obtain ⟨g1, g2⟩ := r_537 (L := L) (R := R) (tl := tl) hN ho hA hkp
    rw [smp, smR]
    cases er : fsK P P.length with
    | none =>
      obtain ⟨W, J, e, q, k1, n1, f⟩ := s442 (L := L) (R := R) (tl := tl) hN hA.1 hA.2.1 hA.2.2.1 (by rw [tI_len]; omega)
      refine ⟨W, J, ?_, ⟨k1, n1, q⟩, frX_d f, fun _ => frU3_d f, fun _ h => ?_⟩
      · apply hd_536_9
        exact ev_i rfl (ev_cI (g1 er) (ev_t rfl (ev_i rfl (ev_cV e rfl))))
      · rw [List.append_nil]
        exact rwR_u (frU3_d f) h
    | some d =>
      obtain ⟨k', w', c⟩ := d
      obtain ⟨a1, a2, a3⟩ := fsK_s _ _ _ _ er
      obtain ⟨b1, b2⟩ := ru_len ho a1 a3
      obtain ⟨W, J, e, q, fk, fr⟩ := g2 k' w' c l er (fun e => ⟨(h2 e).1, by omega⟩)
      obtain ⟨W1, J1, e1, q1, fk1, fu1⟩ := s495 (L := L) (R := R) (tl := tl) hN b1 (by omega) q
      obtain ⟨W2, J2, e2, q2, fk2, fr2⟩ := ih K (rp P k' (rMid P k' c)) W1 J1 (l ++ [(k', w')]) (by omega) (by omega) b1 q1 (by rw [List.length_append]; show l.length + 1 + _ ≤ 60; omega) (fun e => rwR_u fu1 (fr.2 e (h2 e)))
      refine ⟨W2, J2, ?_, q2, frX_t fk (frX_t fk1 fk2), fun e => ?_, fun e h => ?_⟩
      · apply hd_536_9
        exact ev_i rfl (ev_cI e (ev_f (by decide) (ev_i rfl (ev_cV e1 e2))))
      · obtain ⟨x1, x2, x3⟩ := fr.1 e
        obtain ⟨y1, y2, y3⟩ := fr2.1 e
        exact ⟨y1.trans (fu1.1.trans x1), y2.trans (fu1.2.1.trans x2), y3.trans (fu1.2.2.trans x3)⟩
      · have := fr2.2 e (rwR_u fu1 (fr.2 e h))
        rw [List.append_assoc, List.singleton_append] at this
        exact this
theorem r_536 {V : Nat → Nat → Value} {I : Nat → Nat → Int32} {L : Nat → Nat → Int64} {R : Nat → Nat → Option Nat} {tl : am_H} {N kp : Nat} {nt : Int32} {P : xT} (hN : 400 < N) (hkp : kp ≤ 1) (ho : okP P) (hA : rA V I nt P) : ∃ W J, fm_536 N (.ref 174) (nI kp) (fx V I L R ++ tl) = some (.inl (none, fx W J L R ++ tl)) ∧ dkT W J nt (smp 60 P) ∧ frX V W I J ∧ (kp = 0 → frU3 V W I J) ∧ (kp = 1 → rwR W J (smR 60 P)) := by
  have l60 := hA.2.2.2.2
  rcases (by omega : kp = 0 ∨ kp = 1) with rfl | rfl
  · obtain ⟨W, J, e, q, fk, fr⟩ := r_536l (L := L) (R := R) (tl := tl) (kp := 0) hN (by omega) 60 N P V I [] l60 (by omega) ho hA (by show 0 + _ ≤ 60; omega) (fun e => absurd e (by omega))
    refine ⟨W, J, ?_, q, fk, fr.1, fun e => absurd e (by omega)⟩
    apply hm_536
    apply hd_536_0
    exact ev_t rfl e
  · have f0 : frX V (vup V 174 115 (.int 0)) I I := ⟨fun a j n => vup_o (fun e => n ⟨e.1, by omega⟩), fun _ _ _ _ _ _ _ _ => rfl, fun w => wt_i w (by decide)⟩
    have hA1 : rA (vup V 174 115 (.int 0)) I nt P := hA
    obtain ⟨W, J, e, q, fk, fr⟩ := r_536l (L := L) (R := R) (tl := tl) (kp := 1) hN (by omega) 60 N P (vup V 174 115 (.int 0)) I [] l60 (by omega) ho hA1 (by show 0 + _ ≤ 60; omega) (fun _ => ⟨rfl, fun i x h => absurd h (by simp)⟩)
    refine ⟨W, J, ?_, q, frX_t f0 fk, fun e => absurd e (by omega), fun _ => ?_⟩
    · apply hm_536
      apply hd_536_0
      exact ev_f (by decide) (ev_b qp_174_115 e)
    · have h := fr.2 rfl ⟨rfl, fun i x h => absurd h (by simp)⟩
      rw [List.nil_append] at h
      exact h
