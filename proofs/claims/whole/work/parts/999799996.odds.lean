/-! ===== odds(island, place, part) ===== -/
theorem toL_of {l : List Nat} {s : Nat} (h : l.length = s) : (List.range' 0 s).map (ofL l) = l := by
  subst h
  refine List.ext_getElem (by rw [List.length_map, List.length_range']) (fun k h1 h2 => ?_)
  rw [List.getElem_map, List.getElem_range']
  show l.getD (0 + 1 * k) 0 = _
  rw [Nat.one_mul, Nat.zero_add, List.getD_eq_getElem?_getD, List.getElem?_eq_getElem h2]
  rfl
theorem nxL_t {s : Nat} {l r : List Nat} (h : nxL s l r = true) : ∃ i, pvO (ofL l) (s - 1) = some i ∧ i < scO (ofL l) i (s - 1) ∧ ∀ k, k < s → rvO s (swO (ofL l) i (scO (ofL l) i (s - 1))) (i + 1) (s - 1) k = ofL r k := by
  unfold nxL at h
  cases e : pvO (ofL l) (s - 1) with
  | none => rw [e] at h; exact absurd (show false = true from h) (by decide)
  | some i =>
    rw [e] at h
    simp only [Bool.and_eq_true, decide_eq_true_iff, beq_iff_eq] at h
    obtain ⟨⟨h1, h2⟩, h3⟩ := h
    refine ⟨i, rfl, h1, fun k hk => ?_⟩
    rw [← h3]
    show _ = ((List.range s).map _).getD k 0
    rw [List.getD_eq_getElem?_getD, List.getElem?_map, List.getElem?_range hk]
    rfl
theorem lsL_t {s : Nat} {l : List Nat} (h : lsL s l = true) : pvO (ofL l) (s - 1) = none := by
  unfold lsL at h
  cases e : pvO (ofL l) (s - 1) with
  | none => rfl
  | some i => rw [e] at h; exact absurd (show false = true from h) (by decide)
theorem okL_t {s : Nat} {l : List Nat} (h : okL s l = true) : l.length = s ∧ ∀ k, k < s → ofL l k < s := by
  unfold okL at h
  rw [Bool.and_eq_true, beq_iff_eq, List.all_eq_true] at h
  obtain ⟨h1, h2⟩ := h
  refine ⟨h1, fun k hk => ?_⟩
  have hk' : k < l.length := by omega
  have := of_decide_eq_true (h2 l[k] (List.getElem_mem hk'))
  show l.getD k 0 < s
  rw [List.getD_eq_getElem?_getD, List.getElem?_eq_getElem hk']
  exact this
set_option maxRecDepth 100000 in
set_option maxHeartbeats 4000000 in
theorem r_521l {L : Nat → Nat → Int64} {R : Nat → Nat → Option Nat} {tl : am_H} {N c s pl : Nat} {a3 : Int32} {E : Nat → Nat → Nat} (hN : 5000 < N) (hc16 : c ≤ 16) (hc1 : 1 ≤ c) (hs : s ≤ 24) (hpl : pl < c) (h40 : ∀ x, x < c → ∀ r, r < s → L 240 (24 * x + r) = lN (E x r)) (hE : ∀ x r, E x r ≤ 2000000) : ∀ (t : List (List Nat)) (l : List Nat) (K d hits : Nat) (V : Nat → Nat → Value) (I : Nat → Nat → Int32), chL s l t = true → okL s l = true → t.all (okL s) = true → t.length + 1 < K → V 174 105 = .int (nI c) → V 174 108 = .int (nI s) → V 174 91 = .long (lN hits) → (∀ k, k < s → I 241 k = nI (ofL l k)) → ∃ J, (∀ y, y ≠ 241 → y ≠ 242 → J y = I y) ∧ fg_521_74 N K (.ref 174) (nI pl) a3 (lN d) 1 (fx V I L R ++ tl) = fg_521_74 N (K - (t.length + 1)) (.ref 174) (nI pl) a3 (lN (d + (t.length + 1))) 0 (fx (vup V 174 91 (.long (lN (hits + (l :: t).countP (fun l => decide (lsF (fdE c E (fun x => decide (x < c)) l) c 0 = pl)))))) J L R ++ tl) := by
  intro t
  induction t with
  | nil =>
    intro l K d hits V I hch hok hall hK h5 h8 h91 h41
    obtain ⟨K, rfl⟩ : ∃ k, K = k + 1 := ⟨K - 1, by omega⟩
    obtain ⟨o1, o2⟩ := okL_t hok
    obtain ⟨F, e1⟩ := r_516 (V := V) (I := I) (L := L) (R := R) (tl := tl) (N := N) (P := ofL l) (by omega) hc16 hc1 hs o2 h5 h8 h40 hE h41
    rw [toL_of o1] at e1
    have ls : ∀ m p, lsF (fdE c E (fun x => decide (x < c)) l) m p ≤ p + m := by
      intro m
      induction m with
      | zero => intro p; exact Nat.le_refl _
      | succ m ih =>
        intro p
        rw [lsF]
        by_cases a : fdE c E (fun x => decide (x < c)) l p = true
        · rw [if_pos a]; omega
        · rw [if_neg a]; have := ih (p + 1); omega
    have ls0 := ls c 0
    have nx := fun (x : Int64) => (r_523 (V := vup V 174 91 (.long x)) (I := iup I 242 F) (L := L) (R := R) (tl := tl) (N := N) (P := ofL l) (by omega) hs o2 ((vup_nj (by decide)).trans h8) (fun k hk => (iup_ne (by decide)).trans (h41 k hk))).1 (lsL_t hch)
    refine ⟨iup I 242 F, fun y _ h2 => iup_na h2, ?_⟩
    rw [fg_521_74]
    refine ev_f (by decide) (ev_b (rdL h91) (ev_i rfl (ev_cI e1 ?_)))
    rw [List.countP_cons, List.countP_nil, Nat.zero_add]
    by_cases c1 : lsF (fdE c E (fun x => decide (x < c)) l) c 0 = pl
    · rw [if_pos (decide_eq_true c1)]
      refine ev_f (fun q => q (by rw [c1])) ?_
      unfold fg_521_103
      refine ev_b qp_174_91 (ev_i rfl (ev_cI (nx _) ?_))
      rw [show lN d + 1 = lN (d + 1) from (lN_add d 1), show lN hits + 1 = lN (hits + 1) from (lN_add hits 1)]
      rfl
    · rw [if_neg (fun q => c1 (of_decide_eq_true q))]
      refine ev_t (fun q => c1 ((nI_eq (by omega) (by omega)).mp q)) ?_
      unfold fg_521_103
      refine ev_b qp_174_91 (ev_i rfl (ev_cI (nx _) ?_))
      rw [show lN d + 1 = lN (d + 1) from (lN_add d 1)]
      rfl
  | cons r t ih =>
    intro l K d hits V I hch hok hall hK h5 h8 h91 h41
    obtain ⟨K, rfl⟩ : ∃ k, K = k + 1 := ⟨K - 1, by omega⟩
    obtain ⟨o1, o2⟩ := okL_t hok
    rw [chL, Bool.and_eq_true] at hch
    rw [List.all_cons, Bool.and_eq_true] at hall
    obtain ⟨i, i1, i2, i3⟩ := nxL_t hch.1
    obtain ⟨F, e1⟩ := r_516 (V := V) (I := I) (L := L) (R := R) (tl := tl) (N := N) (P := ofL l) (by omega) hc16 hc1 hs o2 h5 h8 h40 hE h41
    rw [toL_of o1] at e1
    have ls : ∀ m p, lsF (fdE c E (fun x => decide (x < c)) l) m p ≤ p + m := by
      intro m
      induction m with
      | zero => intro p; exact Nat.le_refl _
      | succ m ih =>
        intro p
        rw [lsF]
        by_cases a : fdE c E (fun x => decide (x < c)) l p = true
        · rw [if_pos a]; omega
        · rw [if_neg a]; have := ih (p + 1); omega
    have ls0 := ls c 0
    have step : ∀ h2 : Nat, ∃ J, (∀ y, y ≠ 241 → y ≠ 242 → J y = I y) ∧ fg_521_103 N (fg_521_74 N K) (.ref 174) (nI pl) a3 (lN d) (.ref 174) (lN h2) (fx V (iup I 242 F) L R ++ tl) = fg_521_74 N (K - (t.length + 1)) (.ref 174) (nI pl) a3 (lN (d + 1 + (t.length + 1))) 0 (fx (vup V 174 91 (.long (lN (h2 + (r :: t).countP (fun l => decide (lsF (fdE c E (fun x => decide (x < c)) l) c 0 = pl)))))) J L R ++ tl) := fun h2 => by
      obtain ⟨G, e2, hG⟩ := (r_523 (V := vup V 174 91 (.long (lN h2))) (I := iup I 242 F) (L := L) (R := R) (tl := tl) (N := N) (P := ofL l) (by omega) hs o2 ((vup_nj (by decide)).trans h8) (fun k hk => (iup_ne (by decide)).trans (h41 k hk))).2 i i1 i2
      obtain ⟨J, j1, j2⟩ := ih r K (d + 1) h2 (vup V 174 91 (.long (lN h2))) (iup (iup I 242 F) 241 G) hch.2 hall.1 hall.2 (by rw [List.length_cons] at hK; omega) ((vup_nj (by decide)).trans h5) ((vup_nj (by decide)).trans h8) vup_eq (fun k hk => by rw [iup_eq, hG k hk, i3 k hk])
      rw [vup_2] at j2
      refine ⟨J, fun y h1 h2 => (j1 y h1 h2).trans ((iup_na h1).trans (iup_na h2)), ?_⟩
      unfold fg_521_103
      refine ev_b qp_174_91 (ev_i rfl (ev_cI e2 ?_))
      rw [show lN d + 1 = lN (d + 1) from (lN_add d 1)]
      exact j2
    have eK : K + 1 - ((r :: t).length + 1) = K - (t.length + 1) := by rw [List.length_cons]; omega
    have ed : d + ((r :: t).length + 1) = d + 1 + (t.length + 1) := by rw [List.length_cons]; omega
    rw [eK, ed]
    by_cases c1 : lsF (fdE c E (fun x => decide (x < c)) l) c 0 = pl
    · obtain ⟨J, j1, j2⟩ := step (hits + 1)
      refine ⟨J, j1, ?_⟩
      rw [fg_521_74]
      refine ev_f (by decide) (ev_b (rdL h91) (ev_i rfl (ev_cI e1 (ev_f (fun q => q (by rw [c1])) ?_))))
      rw [show lN hits + 1 = lN (hits + 1) from (lN_add hits 1), List.countP_cons (a := l), if_pos (decide_eq_true c1), show hits + ((r :: t).countP (fun l => decide (lsF (fdE c E (fun x => decide (x < c)) l) c 0 = pl)) + 1) = hits + 1 + (r :: t).countP (fun l => decide (lsF (fdE c E (fun x => decide (x < c)) l) c 0 = pl)) by omega]
      exact j2
    · obtain ⟨J, j1, j2⟩ := step hits
      refine ⟨J, j1, ?_⟩
      rw [fg_521_74]
      refine ev_f (by decide) (ev_b (rdL h91) (ev_i rfl (ev_cI e1 (ev_t (fun q => c1 ((nI_eq (by omega) (by omega)).mp q)) ?_))))
      rw [List.countP_cons (a := l), if_neg (fun q => c1 (of_decide_eq_true q)), Nat.add_zero]
      exact j2
theorem fct_b : ∀ s, s < 7 → 1 ≤ fct s ∧ fct s ≤ 720 := by decide
theorem od_le {c s pl : Nat} {E : Nat → Nat → Nat} (hs : s ≤ 6) : odE c s pl E ≤ fct s := by
  obtain ⟨t1, t2, t3⟩ := tb_fl s (by omega)
  have := pm_len 6 (by omega) (2 ^ s - 1) t1 (by omega)
  rw [t3] at this
  rw [← this]
  exact List.countP_le_length
set_option maxRecDepth 100000 in
set_option maxHeartbeats 4000000 in
theorem u_39 {V : Nat → Nat → Value} {I : Nat → Nat → Int32} {L : Nat → Nat → Int64} {R : Nat → Nat → Option Nat} {tl : am_H} {n p j : Nat} (hr : rel V I L R tl n p) (hm : room tl n p j) {N : Nat} (hN : 5000 < N) (a1 a2 a3 : Int32) : ∃ h', opBI (fm_238 N (.ref 0) a1 a2 a3 (.ref 268) (fx V I L R ++ tl)) (fun h1 => fm_521 N (.ref 174) a1 a2 a3 h1) vfI h' ∧ invW (j + 1) h' := by
  obtain ⟨b1, b2, b3⟩ := hr.1
  rcases dich a1 (n := 4) (by omega) with hn | ⟨i, hi, rfl⟩
  · refine ⟨_, opBI_err (c := 1) (b := 0) (by decide) (tl := tl ++ [am_dummy]) ?_ ?_, inv_mk (rel_thr 1 (rel_dum hr)) (room_dum hm)⟩
    · have e : fm_239 N (.ref 0) a1 a2 a3 (fx V I L R ++ tl) = some (.inr (2, (fx V I L R ++ (tl ++ [am_dummy])))) := by
        unfold fm_239 fg_239_0
        refine ev_i rfl ?_
        rw [c_201n hn]
        rfl
      unfold fm_238 fg_238_0
      refine ev_i rfl ?_
      rw [e]
      rfl
    · show fm_521 N (.ref 174) a1 a2 a3 (fx V I L R ++ (tl ++ [am_dummy])) = _
      unfold fm_521 fg_521_0
      refine ev_i rfl (ev_cI (r_501n hn) (ev_f (fun q => q rfl) ?_))
      unfold fg_521_42
      exact ev_b qp_174_0 (ev_b (a := 1) rfl (ev_f (by decide) rfl))
  obtain ⟨c, kd, bm, c16, s2, s3, s5⟩ := isl_ld hr hi
  rcases dich a2 (n := c) (by omega) with hn | ⟨pl, hpl, rfl⟩
  · refine ⟨_, opBI_err (c := 1) (b := 0) (by decide) (tl := tl ++ [am_dummy]) ?_ ?_, inv_mk (rel_thr 1 (rel_dum hr)) (room_dum hm)⟩
    · have e : fm_239 N (.ref 0) (nI i) a2 a3 (fx V I L R ++ tl) = some (.inr (2, (fx V I L R ++ (tl ++ [am_dummy])))) := by
        unfold fm_239 fg_239_0
        refine ev_i rfl (ev_cR (c_201 hi) rfl (ev_i rfl ?_))
        rw [c_214n hi s2 hn]
        rfl
      unfold fm_238 fg_238_0
      refine ev_i rfl ?_
      rw [e]
      rfl
    · show fm_521 N (.ref 174) (nI i) a2 a3 (fx V I L R ++ (tl ++ [am_dummy])) = _
      unfold fm_521 fg_521_0
      refine ev_i rfl (ev_cI (r_501 hi s3 (in_b (by omega) hn) (.inl rfl)) (ev_f (fun q => q rfl) ?_))
      unfold fg_521_42
      exact ev_b qp_174_0 (ev_b (a := 1) rfl (ev_f (by decide) rfl))
  rcases dich a3 (n := 2) (by omega) with hn | ⟨q, hq, rfl⟩
  · refine ⟨_, opBI_err (c := 2) (b := 0) (by decide) (tl := tl ++ [am_dummy]) ?_ ?_, inv_mk (rel_thr 2 (rel_dum hr)) (room_dum hm)⟩
    · have e : fm_239 N (.ref 0) (nI i) (nI pl) a3 (fx V I L R ++ tl) = some (.inr (0, (fx V I L R ++ (tl ++ [am_dummy])))) := by
        unfold fm_239 fg_239_0
        refine ev_i rfl (ev_cR (c_201 hi) rfl (ev_i rfl (ev_cI (c_214 hi c16 s2 hpl) (ev_i rfl ?_))))
        rw [c_139n hn]
        rfl
      unfold fm_238 fg_238_0
      refine ev_i rfl ?_
      rw [e]
      rfl
    · show fm_521 N (.ref 174) (nI i) (nI pl) a3 (fx V I L R ++ (tl ++ [am_dummy])) = _
      unfold fm_521 fg_521_0
      refine ev_i rfl (ev_cI (r_501 hi s3 (in_n hpl (by omega)) (.inr rfl)) (ev_t (by decide) (ev_cI (pe_327 _ _ _ _) ?_)))
      rw [in_2n hn]
      refine ev_f (fun q => q rfl) ?_
      unfold fg_521_42
      exact ev_b qp_174_0 (ev_b (a := 2) rfl (ev_f (by decide) rfl))
  obtain ⟨m, lm, Ob, hc, hB, hO, l16, -, l6, lo, hi2⟩ := all_ld hr
  have hbn : ∀ x, x < c → bm x < n := fun x hx => (s5 x hx).1
  obtain ⟨W1, J1, M1, F, e1, hF, x1, x2, x3, f1⟩ := c_218 (L := L) (N := N) (by omega) hi c16 b1 lo hi2 hB hO hbn (rel_w hr) hc s2 l16 (fun x hx => (s5 x hx).2.1)
  have k1 := frK_k hi f1
  have w0 : W1 (40 + 9 * i) 0 = .int (nI c) := (f1.1 _ _ (by omega) (fun e => by omega) (fun e => by omega)).trans s2
  have hrr : rel W1 J1 M1 R tl n p := rel_kl k1 hr
  have snl := snN_le (I0 := I) m
  have m24 := hc.2.2.1
  have rfp : ∀ (Y : Nat → Nat → Value) (X : Nat → Nat → Int32) (M : Nat → Nat → Int64) (t : am_H) (o : Option am_O), keep V Y I X → (if nI (snN I m) ≤ 6 then (fg_521_42 N (.ref 174) (nI i) (nI pl) (nI q) (.ref 174) 0 (fx Y X M R ++ t)) else (fg_521_42 N (.ref 174) (nI i) (nI pl) (nI q) (.ref 174) 3 (fx Y X M R ++ t))) = o → fm_521 N (.ref 174) (nI i) (nI pl) (nI q) (fx Y X M R ++ t) = o := fun Y X M t o hk k_ => by
    unfold fm_521 fg_521_0
    refine ev_i rfl (ev_cI (r_501 hi (by rw [hk.2.1 233 (by decide)]; exact s3) (in_n hpl (by omega)) (.inr rfl)) (ev_t (by decide) (ev_cI (pe_327 _ _ _ _) ?_)))
    rw [in_2 hq]
    exact ev_t (by decide) (ev_i rfl (ev_cI (r_522 (by omega) (csK_c hk hc)) k_))
  by_cases c6 : snN I m ≤ 6
  case neg =>
    refine ⟨_, opBI_err (c := 3) (b := 0) (V := W1) (I := J1) (L := M1) (R := R) (by decide) (tl := tl ++ [am_dummy]) ?_ ?_, inv_mk (rel_thr 3 (rel_dum hrr)) (room_dum hm)⟩
    · have e : fm_239 N (.ref 0) (nI i) (nI pl) (nI q) (fx V I L R ++ tl) = some (.inr (1, (fx W1 J1 M1 R ++ (tl ++ [am_dummy])))) := by
        rw [← List.append_assoc]
        unfold fm_239 fg_239_0
        exact ev_i rfl (ev_cR (c_201 hi) rfl (ev_i rfl (ev_cI (c_214 hi c16 s2 hpl) (ev_i rfl (ev_cV (c_139 hq) (ev_b (a := Value.ref 1) rfl (ev_b (a := Value.ref 14) rfl (ev_i (io_1 hi) (ev_cV e1 (ev_b (iv_3 hi x3) (ev_f (nI_ge (a := 6) (by omega) (by omega)) rfl)))))))))))
      unfold fm_238 fg_238_0
      refine ev_i rfl ?_
      rw [e]
      rfl
    · refine rfp W1 J1 M1 _ _ k1.1 (ev_f (nI_ge (a := 6) (by omega) (by omega)) ?_)
      unfold fg_521_42
      exact ev_b qp_174_0 (ev_b (a := 3) rfl (ev_f (by decide) rfl))
  -- the count of orders
  obtain ⟨E, eE⟩ : ∃ E : Nat → Nat → Nat, E = fun x r => enR I F (Ob (bm x)) r := ⟨_, rfl⟩
  have hE : ∀ x r, E x r ≤ 2000000 := fun x r => by rw [eE]; exact erN_le _ _
  obtain ⟨s, es⟩ : ∃ s, s = snN I m := ⟨_, rfl⟩
  rw [← es] at c6 snl x3
  obtain ⟨od, eod⟩ : ∃ x, x = odE c s pl E := ⟨_, rfl⟩
  have ol : od ≤ fct s := by rw [eod]; exact od_le c6
  obtain ⟨f1b, f2b⟩ := fct_b s (by omega)
  have e40 := c_240 (V := W1) (I := J1) (L := M1) (R := R) (tl := tl) (N := N) (E := E) (by omega) hi c16 c6 hpl w0 x3 (fun x hx r hr' => by rw [eE]; exact (x1 x hx).2.2 r (by rw [← es]; exact hr')) hE
  rw [← eod] at e40
  have e43 := c_143 (V := W1) (I := J1) (L := M1) (R := R) (tl := tl) (N := N) (d := fct s) (x := lN od) (t := (od : Int)) (by omega) (lN_t (by omega)) (by omega) (by omega) (by omega) (by omega)
  obtain ⟨X, eX⟩ : ∃ X, X = Int64.ofInt ((od : Int).tdiv (gdN (od : Int) (fct s))) := ⟨_, rfl⟩
  obtain ⟨Y, eY⟩ : ∃ Y, Y = lN (fct s / gdN (od : Int) (fct s)) := ⟨_, rfl⟩
  rw [← eX, ← eY] at e43
  have e44 := c_144 (V := vup (vup W1 14 4 (.long X)) 14 5 (.long Y)) (I := J1) (L := M1) (R := R) (tl := tl) hq ((vup_nj (by decide)).trans vup_eq) vup_eq
  have k45 := keep_t k1.1 (keep_45 (V := W1) (I := J1) (x := X) (y := Y))
  obtain ⟨W2, ew2⟩ : ∃ W2, W2 = vup (vup W1 14 4 (.long X)) 14 5 (.long Y) := ⟨_, rfl⟩
  rw [← ew2] at e43 e44 k45
  obtain ⟨v, ev⟩ : ∃ v : Int32, v = Int64.toInt32 (if q = 0 then X else Y) := ⟨_, rfl⟩
  have hrs : rel W2 J1 M1 R tl n p := rel_kl ⟨k45, k1.2⟩ hr
  -- the reference
  have k5 := keep_t k45 (keep_0 (V := W2) (I := J1) (x := 0))
  obtain ⟨W3, J3, M3, e5, y1, y2, f3⟩ := r_505 (V := vup W2 174 0 (.int 0)) (I := J1) (L := outL M1 v.toInt64) (R := R) (tl := tl) (V0 := V) (I0 := I) (N := N) hN hi c16 b1 lo hi2 l6 hB hO hbn (fun x hx => (s5 x hx).2.2.1) s3 (k5.2.2 (rel_w hr)) k5 (csK_c k5 hc)
  have k6 := keep_t k5 (frT_k f3).1
  obtain ⟨W4, J4, M4, e6, z1, z2, z3, f4⟩ := r_506 (V := W3) (I := J3) (L := M3) (R := R) (tl := tl) (V0 := V) (I0 := I) (N := N) (F := F) hN c16 b1 lo hi2 l6 hB hO hbn hF (k6.2.2 (rel_w hr)) k6 (csK_c k6 hc) y2 (fun x hx => (y1 x hx).2.2.2)
  rw [← es] at z1 z2 z3
  have ch := pm_ch s (by omega)
  cases epm : pmM 6 (2 ^ s - 1) with
  | nil => rw [epm] at ch; exact absurd (show false = true from ch) (by decide)
  | cons l t =>
  rw [epm] at ch
  simp only [Bool.and_eq_true, beq_iff_eq] at ch
  obtain ⟨⟨⟨ch1, ch2⟩, ch3⟩, ch4⟩ := ch
  have lenL : t.length + 1 = fct s := by
    obtain ⟨t1, t2, t3⟩ := tb_fl s (by omega)
    have := pm_len 6 (by omega) (2 ^ s - 1) t1 (by omega)
    rw [epm, t3, List.length_cons] at this
    exact this
  have o41 : ∀ k, k < s → J4 241 k = nI (ofL l k) := fun k hk => by
    rw [z2 k hk, ch1]
    show nI k = nI ((List.range s).getD k 0)
    rw [List.getD_eq_getElem?_getD, List.getElem?_range hk]
    rfl
  obtain ⟨J5, j1, e7⟩ := r_521l (L := M4) (R := R) (tl := tl) (N := N) (c := c) (s := s) (pl := pl) (a3 := nI q) (E := E) hN c16 (by omega) (by omega) hpl (fun x hx r hr' => by rw [eE]; exact z3 x hx r hr') hE t l N 0 0 (vup W4 174 91 (.long (lN 0))) J4 ch2 ch3 ch4 (by omega) ((vup_nj (by decide)).trans ((f4.1 174 105 (fun _ => by decide)).trans y2)) ((vup_nj (by decide)).trans z1) vup_eq o41
  have eod2 : (l :: t).countP (fun l => decide (lsF (fdE c E (fun x => decide (x < c)) l) c 0 = pl)) = od := by rw [eod]; unfold odE; rw [epm]
  rw [eod2, Nat.zero_add, Nat.zero_add, lenL, vup_2] at e7
  have e29 := r_429 (V := vup (vup W4 174 91 (.long (lN od))) 174 92 (.long (lN (fct s)))) (I := J5) (L := M4) (R := R) (tl := tl) (N := N) (d := fct s) (x := lN od) (t := (od : Int)) (by omega) ((vup_nj (by decide)).trans vup_eq) vup_eq (lN_t (by omega)) (by omega) (by omega) (by omega) (by omega)
  rw [← eX, ← eY] at e29
  obtain ⟨W5, ew5⟩ : ∃ W5, W5 = vup (vup (vup (vup W4 174 91 (.long (lN od))) 174 92 (.long (lN (fct s)))) 174 91 (.long X)) 174 92 (.long Y) := ⟨_, rfl⟩
  rw [← ew5] at e29
  have kl : keepL W2 W5 J1 J5 (outL M1 v.toInt64) M4 := by
    have ka := keepL_t (⟨keep_0 (V := W2) (I := J1) (x := 0), fun _ _ => rfl⟩ : keepL W2 (vup W2 174 0 (.int 0)) J1 J1 (outL M1 v.toInt64) (outL M1 v.toInt64)) (keepL_t (frT_k f3) (frOd_k f4))
    refine keepL_t ka ⟨?_, fun _ _ => rfl⟩
    have kb : keep W4 W5 J4 J4 := by
      rw [ew5]
      exact keep_t (keep_lg (by decide) (by decide)) (keep_t (keep_lg (by decide) (by decide)) (keep_t (keep_lg (by decide) (by decide)) (keep_lg (by decide) (by decide))))
    exact ⟨kb.1, fun y hy => j1 y (fun e => by subst e; revert hy; decide) (fun e => by subst e; revert hy; decide), kb.2.2⟩
  refine ⟨_, opBI_g (v := v) (W := W2) (J := J1) (M := outL M1 v.toInt64) (R1 := R) (t1 := tl) (W' := W5) (J' := J5) (M' := M4) (R2 := R) (t2 := tl) ?_ ?_ ?_ ?_, inv_mk (rel_kl kl (rel_ol _ hrs)) (room_up hm)⟩
  · have e : fm_239 N (.ref 0) (nI i) (nI pl) (nI q) (fx V I L R ++ tl) = some (.inl (some (.int v), fx W2 J1 M1 R ++ tl)) := by
      unfold fm_239 fg_239_0
      refine ev_i rfl (ev_cR (c_201 hi) rfl (ev_i rfl (ev_cI (c_214 hi c16 s2 hpl) (ev_i rfl (ev_cV (c_139 hq) (ev_b (a := Value.ref 1) rfl (ev_b (a := Value.ref 14) rfl (ev_i (io_1 hi) (ev_cV e1 (ev_b (iv_3 hi x3) (ev_t (nI_le (b := 6) c6 (by omega)) (ev_b (a := Value.ref 14) rfl (ev_i (io_1 hi) (ev_cI e40 (ev_b (iv_3 hi x3) (ev_cI (c_243 (by omega) (by omega)) ?_))))))))))))))))
      rw [nI_l (by omega), nI_l (by omega)]
      refine ev_i rfl (ev_cV e43 (ev_b (a := Value.ref 14) rfl (ev_i rfl (ev_cL e44 ?_))))
      rw [ev]
    unfold fm_238 fg_238_0
    refine ev_i rfl ?_
    rw [e]
    exact ev_b out_s rfl
  · refine rfp W2 J1 (outL M1 v.toInt64) tl _ k45 ?_
    rw [← es]
    refine ev_t (nI_le (b := 6) c6 (by omega)) ?_
    unfold fg_521_42
    refine ev_b qp_174_0 (ev_b (a := 0) rfl (ev_t (by decide) (ev_i rfl (ev_cV e5 (ev_i rfl (ev_cV e6 (ev_b qp_174_91 ?_)))))))
    refine e7.trans ?_
    obtain ⟨K, hK⟩ : ∃ k, N - fct s = k + 1 := ⟨N - fct s - 1, by omega⟩
    rw [hK, fg_521_74]
    refine ev_t rfl (ev_b qp_174_92 (ev_i rfl (ev_cV e29 ?_)))
    rcases (by omega : q = 0 ∨ q = 1) with rfl | rfl
    · rw [ev]
      refine ev_f (fun q => q rfl) (ev_b (rdL (x := X) (by rw [ew5]; exact (vup_nj (by decide)).trans vup_eq)) rfl)
    · rw [ev]
      refine ev_t (by decide) (ev_b (rdL (x := Y) (by rw [ew5]; exact vup_eq)) rfl)
  · rw [ew5, vup_nj (by decide), vup_nj (by decide), vup_nj (by decide), vup_nj (by decide), f4.1 174 0 (fun _ => by decide), f3.1 174 0 (fun _ => by decide)]
    exact vup_eq
  · rw [f4.2.2.1 268 (by decide), f3.2.2.1 268 (by decide) (by decide)]
    exact outL_at
