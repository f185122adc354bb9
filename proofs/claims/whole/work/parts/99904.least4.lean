/-! ===== least(b) ===== -/
theorem bs_up {val : Nat → Int32} {nxt : Nat → Nat → Nat} {sz : Nat} (ho : mcO sz nxt) {S : Nat} (hj : ∀ j, j < S → j < (bsK val nxt j).1) : ∀ d i, i + d ≤ S → (bsK val nxt i).1 ≤ (bsK val nxt (i + d)).1 := by
  intro d
  induction d with
  | zero => intro i _; exact Nat.le_refl _
  | succ d ih =>
    intro i hi
    have a := ih i (by omega)
    have bi := bsK_ok (val := val) ho (i + d) (fun j h => hj j (by omega))
    have b := (rw4_ok (val := val) ho bi (hj (i + d) (by omega)) 4 (Nat.le_refl _)).2.2
    exact Nat.le_trans a b
theorem rw_up {val : Nat → Int32} {nxt : Nat → Nat → Nat} {sz k : Nat} {st : bS} (ho : mcO sz nxt) (h : bInv sz st) (hk : k < st.1) : ∀ d c, c + d ≤ 4 → (rw4 val nxt k st c).1 ≤ (rw4 val nxt k st (c + d)).1 := by
  intro d
  induction d with
  | zero => intro c _; exact Nat.le_refl _
  | succ d ih =>
    intro c hc
    have a := ih c (by omega)
    obtain ⟨a1, a2, a3⟩ := rw4_ok (val := val) ho h hk (c + d) (by omega)
    have b := (bst_ok ho.2.1 a1 (tgt_lt (val := val) ho a1 (show k < (rw4 val nxt k st (c + d)).1 by omega) (show c + d < 4 by omega))).2.2.1
    exact Nat.le_trans a b
theorem edg_S {val : Nat → Int32} {nxt : Nat → Nat → Nat} {sz S i c : Nat} (ho : mcO sz nxt) (hj : ∀ j, j < S → j < (bsK val nxt j).1) (hS : (bsK val nxt S).1 ≤ S) (hi : i < S) (hc : c < 4) : edg val nxt i (bsK val nxt i) c < S := by
  have bi := bsK_ok (val := val) ho i (fun j h => hj j (by omega))
  have e := (edg_ok (val := val) ho bi (hj i hi) hc).1
  have a := rw_up (val := val) ho bi (hj i hi) (3 - c) (c + 1) (by omega)
  rw [show c + 1 + (3 - c) = 4 by omega] at a
  have b := bs_up (val := val) ho hj (S - (i + 1)) (i + 1) (by omega)
  rw [show i + 1 + (S - (i + 1)) = S by omega] at b
  have c' : (rw4 val nxt i (bsK val nxt i) 4).1 = (bsK val nxt (i + 1)).1 := rfl
  omega
theorem pk_g {e : Nat → Nat} (h : ∀ c, c < 4 → e c < 6) {c : Nat} (hc : c < 4) : (e 0 + 8 * e 1 + 64 * e 2 + 512 * e 3) / 8 ^ c % 8 = e c := by
  have h0 := h 0 (by omega)
  have h1 := h 1 (by omega)
  have h2 := h 2 (by omega)
  have h3 := h 3 (by omega)
  rcases (by omega : c = 0 ∨ c = 1 ∨ c = 2 ∨ c = 3) with rfl | rfl | rfl | rfl
  · rw [show (8 : Nat) ^ 0 = 1 from rfl]; omega
  · rw [show (8 : Nat) ^ 1 = 8 from rfl]; omega
  · rw [show (8 : Nat) ^ 2 = 64 from rfl]; omega
  · rw [show (8 : Nat) ^ 3 = 512 from rfl]; omega
set_option maxRecDepth 100000 in
set_option maxHeartbeats 1600000 in
theorem r_582h {V : Nat → Nat → Value} {I : Nat → Nat → Int32} {L : Nat → Nat → Int64} {R : Nat → Nat → Option Nat} {tl : am_H} {N n b kd : Nat} {o : Option am_O} (b3 : V 174 1 = .int (nI n)) (b1 : n ≤ 600) (hb : b < n) (q1 : I 175 b = nI kd) (k3 : kd ≤ 3) (ho : fg_582_54 N (.ref 174) (nI b) (.ref 174) (if kd = 2 then (if n = 600 then 3 else 0) else 2) (fx V I L R ++ tl) = o) : fm_582 N (.ref 174) (nI b) (fx V I L R ++ tl) = o := by
  unfold fm_582 fg_582_0
  refine ev_i rfl (ev_cI (r_358 b3 b1 hb) (ev_t (by decide) (ev_b (a := Value.ref 175) rfl (ev_i rfl (ev_cI (r_358 b3 b1 hb) (ev_f (by decide) ?_))))))
  unfold fg_582_30
  refine ev_b (a := nI kd) ((qa_175 (by omega)).trans (congrArg some q1)) ?_
  by_cases c : kd = 2
  · rw [if_pos c] at ho
    refine ev_t (by rw [c]; rfl) (ev_b (rdI b3) ?_)
    by_cases d : n = 600
    · rw [if_pos d] at ho
      exact ev_f (fun e => e (by rw [d]; rfl)) ho
    · rw [if_neg d] at ho
      exact ev_t (fun e => d ((nI_eq (b := 600) (by omega) (by decide)).mp e)) ho
  · rw [if_neg c] at ho
    exact ev_f (fun e => c ((nI_eq (b := 2) (by omega) (by omega)).mp e)) ho
set_option maxRecDepth 100000 in
set_option maxHeartbeats 1600000 in
theorem u_56 {V : Nat → Nat → Value} {I : Nat → Nat → Int32} {L : Nat → Nat → Int64} {R : Nat → Nat → Option Nat} {tl : am_H} {n p j : Nat} (hr : rel V I L R tl n p) (hm : room tl n p j) {N : Nat} (hN : 5000 < N) (a1 : Int32) : ∃ h', opBI (fm_308 N (.ref 0) a1 (.ref 268) (fx V I L R ++ tl)) (fun h1 => fm_582 N (.ref 174) a1 h1) vfI h' ∧ invW (j + 1) h' := by
  obtain ⟨b1, b2, b3⟩ := hr.1
  rcases dich a1 (n := n) (by omega) with hn | ⟨b, hb, rfl⟩
  · refine ⟨_, opBI_err (c := 1) (b := 0) (by decide) (tl := tl ++ [am_dummy]) ?_ ?_, inv_mk (rel_thr 1 (rel_dum hr)) (room_dum hm)⟩
    · have e : fm_309 N (.ref 0) a1 (fx V I L R ++ tl) = some (.inr (2, (fx V I L R ++ (tl ++ [am_dummy])))) := by
        unfold fm_309 fg_309_0
        refine ev_i rfl ?_
        rw [c_63n b2 hn]
        rfl
      unfold fm_308 fg_308_0
      refine ev_i rfl ?_
      rw [e]
      rfl
    · show fm_582 N (.ref 174) a1 (fx V I L R ++ (tl ++ [am_dummy])) = _
      unfold fm_582 fg_582_0
      refine ev_i rfl (ev_cI (r_358n b3 b1 hn) (ev_f (fun e => e rfl) ?_))
      unfold fg_582_54
      exact ev_b qp_174_0 (ev_b (a := 1) rfl (ev_f (by decide) rfl))
  · obtain ⟨kd, ln, sz, a, it, f, q1, q2, q3, q4, q5, q6, q7, q8, q9⟩ := hr.2.1 b hb
    have p1 : (fx V I L R ++ tl)[269 + a]? = _ := tl_at.trans q5
    have k3 := q8.1
    have s60 := q8.2.1
    by_cases hk : kd = 2
    · subst hk
      by_cases c6 : n = 600
      · subst c6
        refine ⟨_, opBI_err (c := 3) (b := 0) (by decide) (tl := tl ++ [am_dummy]) ?_ (r_582h b3 b1 hb q1 k3 (by rw [if_pos rfl, if_pos rfl]; unfold fg_582_54; exact ev_b qp_174_0 (ev_b (a := 3) rfl (ev_f (by decide) rfl)))), inv_mk (rel_thr 3 (rel_dum hr)) (room_dum hm)⟩
        have e : fm_309 N (.ref 0) (nI b) (fx V I L R ++ tl) = some (.inr (1, (fx V I L R ++ (tl ++ [am_dummy])))) := by
          unfold fm_309 fg_309_0
          refine ev_i rfl (ev_cR (c_63 b2 b1 hb q4) rfl (ev_b (ev_gI p1 rfl rfl) (ev_t rfl (ev_i rfl ?_))))
          rw [c_32n b2]
          rfl
        unfold fm_308 fg_308_0
        refine ev_i rfl ?_
        rw [e]
        rfl
      · have hn : n < 600 := by omega
        obtain ⟨z1, z2, z3⟩ := so_2 q8
        obtain ⟨val, hval⟩ : ∃ val : Nat → Int32, val = fun k => I 184 (60 * b + k) := ⟨_, rfl⟩
        obtain ⟨nxt, hnxt⟩ : ∃ nxt, nxt = nxM (fun k => I 185 (60 * b + k)) := ⟨_, rfl⟩
        have ho : mcO sz nxt := ⟨z1, z2, fun i c h1 h2 => by rw [hnxt]; exact (z3 i c h1 h2).2⟩
        have oM := q8.2.2.2.2.2.1 rfl
        have l0 : ln = 0 := (q8.2.2.1 (by decide)).2
        have qi := q7
        unfold itm at qi
        rw [if_pos rfl] at qi
        have hc : mcC V I tl a it ln sz f val nxt := by
          refine ⟨prA_tl ⟨_, _, _, _, _, _, p1, tl_at.trans q6⟩, fun i hi => ⟨by rw [hval]; exact (qi i hi).1, fun c hc => by rw [hnxt, (qi i hi).2 c hc]; exact (z3 i c hi hc).1⟩⟩
        -- the class
        obtain ⟨u, u1, u2⟩ := c_311 (V := V) (I := I) (L := L) (R := R) (tl := tl) (N := N) hN ho hc
        obtain ⟨V1, hV1⟩ : ∃ V1, V1 = vup (vup (vup (vup V 167 1 (.int 2)) 167 2 (.int 0)) 167 3 (.int 0)) 167 4 (.int 5) := ⟨_, rfl⟩
        have g1 : ∀ a j, a ≠ 167 → V1 a j = V a j := fun a j h => by rw [hV1, vup_na h, vup_na h, vup_na h, vup_na h]
        have kV1 : keep V V1 I I := by
          rw [hV1]
          exact keep_t (keep_v (a := 167) (j := 1) (by decide) (by decide)) (keep_t (keep_v (a := 167) (j := 2) (by decide) (by decide)) (keep_t (keep_v (a := 167) (j := 3) (by decide) (by decide)) (keep_v (a := 167) (j := 4) (by decide) (by decide))))
        obtain ⟨gn, hgn⟩ : ∃ gn, gn = filf (I 144) (-1) 6 := ⟨_, rfl⟩
        have ar0 : bAr sz (bsK val nxt 0) (upd gn 0 0) (upd (I 145) 0 0) := by
          refine ⟨fun x hx => ?_, fun i hi => ?_⟩
          · show upd gn 0 0 x = upd (fun _ => -1) 0 0 x
            by_cases e : x = 0
            · rw [e, upd_eq, upd_eq]
            · rw [upd_ne e, upd_ne e, hgn]
              unfold filf
              rw [if_pos (by omega)]
          · have hi : i < 1 := hi
            rw [show i = 0 by omega, upd_eq]
            rfl
        obtain ⟨g, q, F, y1, y2, y3, y4⟩ := c_310l (V := V1) (I := iup I 143 u) (L := L) (R := R) (tl := tl) (N := N) hN ho ⟨fun W J L' R' h1 h2 => hc.1 W J L' R' (fun j => (h1 j).trans (g1 _ _ (by omega))) (h2.trans (iup_na (by omega))), hc.2⟩ (by rw [hV1]; exact vup_eq) (fun i j h1 h2 => by rw [iup_eq]; exact u1 i j h1 h2) 6 0 N (upd gn 0 0) (upd (I 145) 0 0) (I 168) (by omega) (by omega) (fun j hj => by omega) ar0 (fun i hi => by omega)
        obtain ⟨S, hS⟩ : ∃ S, S = stp val nxt 6 0 := ⟨_, rfl⟩
        rw [← hS] at y1 y2 y3 y4
        have S1 : 1 ≤ S := by
          rcases Nat.eq_zero_or_pos S with e | e
          · rw [e] at y3
            have : (1 : Nat) ≤ 0 := y3
            omega
          · exact e
        have S6 : S ≤ 6 := by
          rcases Nat.eq_zero_or_pos S with e | e
          · omega
          · have a := y2 (S - 1) (by omega)
            have c := b_le (bsK_ok (val := val) ho (S - 1) (fun j h => y2 j (by omega)))
            omega
        rw [vup_id (V := V1) (a := 167) (j := 3) (w := .int (nI 0)) (by rw [hV1, vup_nj (by decide), vup_eq]; rfl)] at y4
        obtain ⟨V2, hV2⟩ : ∃ V2, V2 = vup V1 167 3 (.int (nI S)) := ⟨_, rfl⟩
        obtain ⟨J1, hJ1⟩ : ∃ J1, J1 = iup (iup (iup (iup I 143 u) 144 g) 145 q) 168 F := ⟨_, rfl⟩
        rw [← hV2, ← hJ1] at y4
        have kV2 : keep V V2 I J1 := keep_t kV1 (by rw [hV2, hJ1]; exact keep_t (keep_v (a := 167) (j := 3) (by decide) (by decide)) (keep_t (keep_i (by decide)) (keep_t (keep_i (by decide)) (keep_t (keep_i (by decide)) (keep_i (by decide))))))
        have j168 : J1 168 = F := by rw [hJ1, iup_eq]
        have eb := bear_c (V := V2) (I := J1) (L := L) (R := R) (tl := tl) (n := n) (kd := 2) (ln := 0) (sz := S) (by rw [hV2, hV1]; rfl) (by rw [hV2, hV1]; rfl) (by rw [hV2]; rfl) (by rw [hV2, hV1]; rfl) (by omega) (by show S * 5 ≤ 120; omega) ((kV2.1 0 1 (by decide)).trans b2) hn 7 (nI b) (-1) (-1) (-1) 0
        rw [j168] at eb
        obtain ⟨Fc, hFc⟩ : ∃ Fc, Fc = va_cpy F (fun _ => 0) 0 0 (S * wdN 2) := ⟨_, rfl⟩
        rw [← hFc] at eb
        obtain ⟨t2, ht2⟩ : ∃ t2, t2 = tl ++ brt tl.length 2 0 S 7 (nI b) (-1) (-1) (-1) 0 Fc := ⟨_, rfl⟩
        obtain ⟨R2, hR2⟩ : ∃ R2, R2 = rup R 1 (va_up (R 1) n (some (269 + tl.length))) := ⟨_, rfl⟩
        rw [← ht2, ← hR2] at eb
        obtain ⟨V3, hV3⟩ : ∃ V3, V3 = vup V2 0 1 (.int (nI (n + 1))) := ⟨_, rfl⟩
        rw [← hV3] at eb
        -- the reference
        have b3' : V3 174 1 = .int (nI n) := by rw [hV3, vup_na (by decide), kV2.1 174 1 (by decide)]; exact b3
        have jr : ∀ y, y ∈ iRel → J1 y = I y := kV2.2.1
        obtain ⟨M, hM⟩ : ∃ M, M = outL L (nI n).toInt64 := ⟨_, rfl⟩
        have f1 : fm_391 N (.ref 174) (nI b) (fx (vup V3 174 0 (.int 0)) J1 M R2 ++ t2) = some (.inl (none, fx (dk2V (vup V3 174 0 (.int 0)) 2 ln sz) (dk2I J1 b sz) M R2 ++ t2)) := r_391 (by omega) (by omega) s60 (by decide) (by omega) (by rw [jr 175 (by decide)]; exact q1) (by rw [jr 176 (by decide)]; exact q2) (by rw [jr 177 (by decide)]; exact q3)
        obtain ⟨V4, hV4⟩ : ∃ V4, V4 = dk2V (vup V3 174 0 (.int 0)) 2 ln sz := ⟨_, rfl⟩
        obtain ⟨J2, hJ2⟩ : ∃ J2, J2 = dk2I J1 b sz := ⟨_, rfl⟩
        rw [← hV4, ← hJ2] at f1
        have v18 : V4 174 18 = .int (nI sz) := by rw [hV4]; show vup _ 174 19 _ 174 18 = _; rw [vup_v (by omega), vup_eq]
        have d188 : ∀ i, i < sz → J2 188 i = val i ∧ ∀ c, c < 4 → pv_367 (J2 189 i) (nI c) = nI (nxt i c) := fun i hi => by
          have e8 : J2 188 i = val i := by rw [hJ2, hval]; exact (ldr_at hi).trans (by rw [jr 184 (by decide)])
          have e9 : J2 189 i = I 185 (60 * b + i) := by rw [hJ2]; exact (ldr_at hi).trans (by rw [jr 185 (by decide)])
          refine ⟨e8, fun c hc => ?_⟩
          rw [e9, hnxt]
          exact (z3 i c hi hc).1
        have mr2 : mcR V4 J2 sz val nxt := ⟨v18, d188⟩
        obtain ⟨cg, cw, c1, c2⟩ := r_583 (V := V4) (I := J2) (L := M) (R := R2) (tl := t2) (N := N) (by omega) mr2 z2 ho.2.2
        obtain ⟨J3, hJ3⟩ : ∃ J3, J3 = iup (iup J2 263 cw) 262 cg := ⟨_, rfl⟩
        rw [← hJ3] at c2
        obtain ⟨gm, K', n1, n2⟩ := r_582n (V := V4) (I := J3) (L := M) (R := R2) (tl := t2) (N := N) (b := b) 6 0 N (J3 264) (by omega) (by omega) (fun j hj => by omega)
        rw [iup_self] at n2
        have j262 : J3 262 = cg := by rw [hJ3, iup_eq]
        have cg0 : cg 0 = 0 := by
          rw [c1 0 (by omega)]
          have : clR val nxt 6 0 = 0 := Nat.le_zero.mp clR_le
          rw [this]; rfl
        obtain ⟨V5, hV5⟩ : ∃ V5, V5 = vup (vup (vup V4 174 13 (.int (nI 2))) 174 15 (.int (nI ln))) 174 14 (.int 0) := ⟨_, rfl⟩
        have f3 : ∀ J : Nat → Nat → Int32, fm_451 (.ref 174) (fx V4 J M R2 ++ t2) = some (.inl (none, fx V5 J M R2 ++ t2)) := fun J => by
          rw [hV5]
          exact r_451g (by rw [hV4]; show vup (vup (vup _ 174 20 _) 174 18 _) 174 19 _ 174 20 = _; rw [vup_v (by omega), vup_v (by omega), vup_eq]) (by rw [hV4]; exact vup_eq)
        obtain ⟨V6, hV6⟩ : ∃ V6, V6 = vup V5 174 14 (.int (nI S)) := ⟨_, rfl⟩
        have k43 : keep V3 V4 J1 J3 := by
          rw [hV4, hJ3, hJ2]
          exact keep_t keep_0 (keep_t keep_dk2 (keep_t (keep_i (by decide)) (keep_i (by decide))))
        have k64 : keep V4 V6 J3 J3 := by
          rw [hV6, hV5]
          exact keep_t (keep_v (a := 174) (j := 13) (by decide) (by decide)) (keep_t (keep_v (a := 174) (j := 15) (by decide) (by decide)) (keep_t (keep_v (a := 174) (j := 14) (by decide) (by decide)) (keep_v (a := 174) (j := 14) (by decide) (by decide))))
        have v1 : V6 174 1 = .int (nI n) := by rw [k64.1 174 1 (by decide), k43.1 174 1 (by decide)]; exact b3'
        have w18 : V5 174 18 = .int (nI sz) := by rw [hV5, vup_v (by omega), vup_v (by omega), vup_v (by omega)]; exact v18
        have mr5 : mcR V5 J3 sz val nxt := ⟨w18, fun i hi => by
          rw [hJ3, iup_na (by decide), iup_na (by decide), iup_na (by decide), iup_na (by decide)]
          exact d188 i hi⟩
        have hO : ∀ g q A B, mcG val nxt S A B → (if am_pOk 12 (.ref 174) (fx (vup V5 174 14 (.int (nI S))) (iup (iup (iup (iup J3 264 g) 265 q) 186 A) 187 B) M R2 ++ t2) then am_cI true (fm_356 N (.ref 174) 7 (nI b) ((-1)) ((-1)) ((-1)) 0 (fx (vup V5 174 14 (.int (nI S))) (iup (iup (iup (iup J3 264 g) 265 q) 186 A) 187 B) M R2 ++ t2)) (fun v3 h4 => some (.inl (some (.int v3), h4))) else none) = some (.inl (some (.int (nI n)), fx (vup V6 174 1 (.int (nI (n + 1)))) (bJ (iup (iup (iup (iup J3 264 g) 265 q) 186 A) 187 B) n (nI 2) S (nI 0) 7 (nI b) (-1) (-1) (-1)) (lup M 183 (vp_updL (M 183) n 0)) R2 ++ t2)) := fun g q A B _ => by
          rw [← hV6]
          exact ev_i rfl (ev_cI (bear_r (N := N) (kd := 2) (ln := 0) v1 (by rw [hV6, hV5]; rfl) (by rw [hV6]; rfl) ⟨nI ln, by rw [hV6, hV5]; rfl, rfl⟩ hn (by omega) (by omega) 7 (nI b) (-1) (-1) (-1) 0) rfl)
        have arR : bAr sz (bsK val nxt 0) (upd gm 0 0) (upd (J3 265) 0 0) := by
          refine ⟨fun x hx => ?_, fun i hi => ?_⟩
          · show upd gm 0 0 x = upd (fun _ => -1) 0 0 x
            by_cases e : x = 0
            · rw [e, upd_eq, upd_eq]
            · rw [upd_ne e, upd_ne e, n1 x (by omega)]
          · have hi : i < 1 := hi
            rw [show i = 0 by omega, upd_eq]
            rfl
        obtain ⟨gg, qq, A, B, x1, x2⟩ := r_582l (V := V5) (I := J3) (L := M) (R := R2) (tl := t2) (N := N) (b := b) (S := S) (o := fun g q A B => some (.inl (some (.int (nI n)), fx (vup V6 174 1 (.int (nI (n + 1)))) (bJ (iup (iup (iup (iup J3 264 g) 265 q) 186 A) 187 B) n (nI 2) S (nI 0) 7 (nI b) (-1) (-1) (-1)) (lup M 183 (vp_updL (M 183) n 0)) R2 ++ t2))) (by omega) ho mr5 (fun x hx => by rw [j262]; exact c1 x hx) hO 6 0 N (upd gm 0 0) (upd (J3 265) 0 0) (J3 186) (J3 187) (by omega) (by omega) hS.symm (fun j hj => by omega) arR (fun i hi => by omega)
        have e86 : iup (iup (iup (iup J3 264 (upd gm 0 0)) 265 (upd (J3 265) 0 0)) 186 (J3 186)) 187 (J3 187) = iup (iup J3 264 (upd gm 0 0)) 265 (upd (J3 265) 0 0) := by
          rw [show J3 186 = iup (iup J3 264 (upd gm 0 0)) 265 (upd (J3 265) 0 0) 186 from ((iup_na (by decide)).trans (iup_na (by decide))).symm, iup_self, show J3 187 = iup (iup J3 264 (upd gm 0 0)) 265 (upd (J3 265) 0 0) 187 from ((iup_na (by decide)).trans (iup_na (by decide))).symm, iup_self]
        rw [e86, vup_id (V := V5) (a := 174) (j := 14) (w := .int (nI 0)) (by rw [hV5, vup_eq]; rfl)] at x2
        obtain ⟨J5, hJ5⟩ : ∃ J5, J5 = iup (iup (iup (iup J3 264 gg) 265 qq) 186 A) 187 B := ⟨_, rfl⟩
        have x2' : fg_582_128 N N (.ref 174) (nI b) (nI (bsK val nxt 0).1) (nI 0) (fx V5 (iup (iup J3 264 (upd gm 0 0)) 265 (upd (J3 265) 0 0)) M R2 ++ t2) = some (.inl (some (.int (nI n)), fx (vup V6 174 1 (.int (nI (n + 1)))) (bJ J5 n (nI 2) S (nI 0) 7 (nI b) (-1) (-1) (-1)) (lup M 183 (vp_updL (M 183) n 0)) R2 ++ t2)) := by rw [hJ5]; exact x2
        have kD : keep V3 V6 J1 J5 := keep_t k43 (keep_t k64 (by rw [hJ5]; exact keep_t (keep_i (by decide)) (keep_t (keep_i (by decide)) (keep_t (keep_i (by decide)) (keep_i (by decide))))))
        have d186 : J5 186 = A := by rw [hJ5, iup_na (by decide), iup_eq]
        have d187 : J5 187 = B := by rw [hJ5, iup_eq]
        have eS : ∀ i c, i < S → c < 4 → edg val nxt i (bsK val nxt i) c < S := fun i c hi hc => edg_S ho y2 y3 hi hc
        have pkE : ∀ i, pkN val nxt i (bsK val nxt i) 4 = edg val nxt i (bsK val nxt i) 0 + 8 * edg val nxt i (bsK val nxt i) 1 + 64 * edg val nxt i (bsK val nxt i) 2 + 512 * edg val nxt i (bsK val nxt i) 3 := fun i => by
          show 0 + edg val nxt i (bsK val nxt i) 0 * 8 ^ 0 + edg val nxt i (bsK val nxt i) 1 * 8 ^ 1 + edg val nxt i (bsK val nxt i) 2 * 8 ^ 2 + edg val nxt i (bsK val nxt i) 3 * 8 ^ 3 = _
          omega
        have hi : itm 2 A B S Fc := by
          unfold itm
          rw [if_pos rfl]
          intro k hk
          have w5 : S * wdN 2 = S * 5 := rfl
          have e0 := eS k 0 hk (by omega)
          have e1 := eS k 1 hk (by omega)
          have e2 := eS k 2 hk (by omega)
          have e3 := eS k 3 hk (by omega)
          refine ⟨?_, fun c hc => ?_⟩
          · rw [hFc, cpy0 (by rw [w5]; omega), (x1 k hk).1, Nat.mul_comm]
            exact (y1 k hk).1
          · rw [hFc, cpy0 (by rw [w5]; omega), (x1 k hk).2, Nat.mul_comm, (y1 k hk).2 c hc, pkE, t367 (by omega) hc, pk_g (e := edg val nxt k (bsK val nxt k)) (fun d hd => by have := eS k d hk hd; omega) hc]
        have tw : ∀ x, x < sz → two (val x) := fun x hx => by rw [hval]; exact (oM.2 x hx).1
        have hs : sound 2 0 S A B := ⟨by decide, by omega, fun _ => ⟨S1, rfl⟩, fun h => absurd h (by decide), fun h => absurd h (by decide), fun _ => ⟨S6, fun k hk => ⟨by
          rw [(x1 k hk).1]
          have qk := (bsK_ok (val := val) ho k (fun j h => y2 j (by omega))).2.1 k (y2 k hk)
          have this : two (val ((bsK val nxt k).2.2 k)) := tw _ qk
          exact this, _, _, _, _, eS k 0 hk (by omega), eS k 1 hk (by omega), eS k 2 hk (by omega), eS k 3 hk (by omega), by rw [(x1 k hk).2, pkE]⟩⟩, fun h => absurd h (by decide)⟩
        have hR := bear_rel (x6 := 0) (f := Fc) (kd := 2) (ln := 0) (sz := S) (M' := M) hr hn kV2 (by rw [← hV3]; exact kD) (fun y hy => by
          rw [hM]
          refine lup_na ?_
          have key : ∀ y, y ∈ lRel → y ≠ 268 := by decide
          exact key y hy) (by rw [d186, d187]; exact hi) (by rw [d186, d187]; exact hs) (ped_7 hb b1) (gen_o (by decide) (by decide))
        rw [← ht2, ← hR2] at hR
        refine ⟨_, opBI_g (v := nI n) (W := V3) (J := J1) (M := M) (R1 := R2) (t1 := t2) ?_ ?_ ?_ ?_, inv_mk hR (room_up (by rw [ht2]; exact room_b (by show S * 5 ≤ 120; omega) hm))⟩
        · have e : fm_309 N (.ref 0) (nI b) (fx V I L R ++ tl) = some (.inl (some (.int (nI n)), fx V3 J1 L R2 ++ t2)) := by
            unfold fm_309 fg_309_0
            refine ev_i rfl (ev_cR (c_63 b2 b1 hb q4) rfl (ev_b (ev_gI p1 rfl rfl) (ev_t rfl (ev_i rfl (ev_cV (c_32 b2 hn) (ev_b (a := Value.ref 131) rfl (ev_b (a := Value.ref 167) rfl (ev_i rfl (ev_cV (h1 := fx V2 J1 L R ++ tl) ?_ (ev_b (a := Value.ref 167) rfl (ev_i rfl (ev_cI eb rfl))))))))))))
            unfold fm_310 fg_310_0
            refine ev_i rfl (ev_cV u2 (ev_b (a := Value.ref 144) rfl (ev_cV (h1 := fx V (iup (iup I 143 u) 144 gn) L R ++ tl) (by rw [hgn]; exact e_53 (a := 144) (n := 6) (f := I 144) rfl (by omega) (by omega)) (ev_b (a := Value.ref 144) rfl ?_))))
            refine ev_b (a := fx V (iup (iup I 143 u) 144 (upd gn 0 0)) L R ++ tl) ((qs_144 (k := 0) (by omega)).trans (by rw [iup_eq, iup_iup])) (ev_b (a := Value.ref 145) rfl ?_)
            refine ev_b (a := fx V (iup (iup (iup I 143 u) 144 (upd gn 0 0)) 145 (upd (I 145) 0 0)) L R ++ tl) ((qs_145 (k := 0) (by omega)).trans (by rw [iup_na (by decide), iup_na (by decide)])) (ev_i rfl (ev_cV (d_34 2 0) ?_))
            rw [show (if (2 : Int32) = 2 then (5 : Int32) else 2) = 5 from rfl, ← hV1]
            have e8 : iup (iup (iup (iup I 143 u) 144 (upd gn 0 0)) 145 (upd (I 145) 0 0)) 168 (I 168) = iup (iup (iup I 143 u) 144 (upd gn 0 0)) 145 (upd (I 145) 0 0) := by
              rw [show I 168 = iup (iup (iup I 143 u) 144 (upd gn 0 0)) 145 (upd (I 145) 0 0) 168 from ((iup_na (by decide)).trans ((iup_na (by decide)).trans (iup_na (by decide)))).symm, iup_self]
            rw [e8] at y4
            exact y4
          unfold fm_308 fg_308_0
          refine ev_i rfl ?_
          rw [e, hM]
          exact ev_b out_s rfl
        · show fm_582 N (.ref 174) (nI b) (fx V3 J1 M R2 ++ t2) = _
          refine r_582h (n := n) (kd := 2) b3' b1 hb (by rw [jr 175 (by decide)]; exact q1) (by omega) ?_
          rw [if_pos rfl, if_neg c6]
          unfold fg_582_54
          refine ev_b qp_174_0 (ev_b (a := 0) rfl (ev_t (by decide) (ev_i rfl (ev_cV f1 (ev_i rfl (ev_cV c2 ?_))))))
          refine n2.trans ?_
          rw [fg_582_77]
          have rz : ∀ (g q : Nat → Int32), am_pA 0 (.ref 262) 0 (fx V4 (iup (iup J3 264 g) 265 q) M R2 ++ t2) = some 0 := fun g q => (qa_262 (k := 0) (by omega)).trans (by rw [iup_na (by decide), iup_na (by decide), j262, cg0])
          have rz0 : ∀ (g : Nat → Int32), am_pA 0 (.ref 262) 0 (fx V4 (iup J3 264 g) M R2 ++ t2) = some 0 := fun g => (qa_262 (k := 0) (by omega)).trans (by rw [iup_na (by decide), j262, cg0])
          refine ev_t (by decide) (ev_b (a := Value.ref 264) rfl (ev_b (a := Value.ref 262) rfl (ev_b (rz0 gm) (ev_b (a := fx V4 (iup J3 264 (upd gm 0 0)) M R2 ++ t2) ((qs_264 (k := 0) (by omega)).trans (by rw [iup_eq, iup_iup])) (ev_b (a := Value.ref 265) rfl (ev_b (a := Value.ref 262) rfl (ev_b (rz0 _) ?_)))))))
          refine ev_b (a := fx V4 (iup (iup J3 264 (upd gm 0 0)) 265 (upd (J3 265) 0 0)) M R2 ++ t2) ((qs_265 (k := 0) (by omega)).trans (by rw [iup_na (by decide)])) (ev_i rfl (ev_cV (f3 _) ?_))
          exact x2'
        · rw [vup_o (by decide), hV6, vup_o (by decide), hV5, vup_o (by decide), vup_o (by decide), vup_o (by decide), hV4]
          unfold dk2V
          rw [vup_o (by decide), vup_o (by decide), vup_o (by decide), vup_eq]
        · rw [lup_na (by decide), hM]
          exact outL_at
    · refine ⟨_, opBI_err (c := 2) (b := 0) (by decide) (tl := tl ++ [am_dummy]) ?_ (r_582h b3 b1 hb q1 k3 (by rw [if_neg hk]; unfold fg_582_54; exact ev_b qp_174_0 (ev_b (a := 2) rfl (ev_f (by decide) rfl)))), inv_mk (rel_thr 2 (rel_dum hr)) (room_dum hm)⟩
      have e : fm_309 N (.ref 0) (nI b) (fx V I L R ++ tl) = some (.inr (0, (fx V I L R ++ (tl ++ [am_dummy])))) := by
        rw [← List.append_assoc]
        unfold fm_309 fg_309_0
        exact ev_i rfl (ev_cR (c_63 b2 b1 hb q4) rfl (ev_b (ev_gI p1 rfl rfl) (ev_f (fun e => hk ((nI_eq (b := 2) (by omega) (by omega)).mp e)) rfl)))
      unfold fm_308 fg_308_0
      refine ev_i rfl ?_
      rw [e]
      rfl
