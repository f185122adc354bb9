/-! ===== same(a, b), the answer ===== -/
/-- two programs are the same -/
def smP (kd ln sz : Nat) (s v : Nat → Int32) (kd' ln' sz' : Nat) (s' v' : Nat → Int32) : Prop := kd = kd' ∧ ln = ln' ∧ sz = sz' ∧ ∀ k, k < sz → s k = s' k ∧ v k = v' k
theorem sz_1000 {kd sz : Nat} (hs : sz ≤ 60) : sz * wdN kd ≤ 1000 := Nat.le_trans (Nat.mul_le_mul hs (wd_le kd).2) (by omega)
set_option maxRecDepth 100000 in
set_option maxHeartbeats 4000000 in
theorem c_86 {h : am_H} {N a it kd ln sz a' it' kd' ln' sz' : Nat} {f g s v s' v' : Nat → Int32} (hN : 1000 < N) (hp : pg h a it kd ln sz (sz * wdN kd) f) (hp2 : pg h a' it' kd' ln' sz' (sz' * wdN kd') g) (i1 : itm kd s v sz f) (i2 : itm kd' s' v' sz' g) (o1 : sound kd ln sz s v) (o2 : sound kd' ln' sz' s' v') : ∃ r : Int32, fm_86 N (.ref a) (.ref a') h = some (.inl (some (.int r), h)) ∧ ((r = 1 ∧ smP kd ln sz s v kd' ln' sz' s' v') ∨ (r = 0 ∧ ¬ smP kd ln sz s v kd' ln' sz' s' v')) := by
  have hs := o1.2.1
  have hs' := o2.2.1
  have k3 := o1.1
  have k3' := o2.1
  have l8 : ln ≤ 8 := by
    by_cases c : kd = 3
    · exact (o1.2.2.2.2.2.2 c).2.1
    · have := (o1.2.2.1 c).2; omega
  have l8' : ln' ≤ 8 := by
    by_cases c : kd' = 3
    · exact (o2.2.2.2.2.2.2 c).2.1
    · have := (o2.2.2.1 c).2; omega
  have z9 := sz_1000 (kd := kd) hs
  obtain ⟨x1, x2, x3, x4, x5, x6, p1, p2⟩ := hp
  obtain ⟨y1, y2, y3, y4, y5, y6, p3, p4⟩ := hp2
  by_cases ck : kd = kd'
  · by_cases cl : ln = ln'
    · by_cases cs : sz = sz'
      · subst ck
        subst cl
        subst cs
        obtain ⟨r, e1, e2⟩ := c_86l (N := N) ⟨x1, x2, x3, x4, x5, x6, p1, p2⟩ ⟨y1, y2, y3, y4, y5, y6, p3, p4⟩ z9 (sz * wdN kd) 0 N (by omega) (by omega)
        refine ⟨r, ?_, ?_⟩
        · unfold fm_86 fg_86_0
          exact ev_b (ev_gI p1 rfl rfl) (ev_b (ev_gI p3 rfl rfl) (ev_f (fun e => e rfl) (ev_b (ev_gI p1 rfl rfl) (ev_b (ev_gI p3 rfl rfl) (ev_f (fun e => e rfl) (ev_b (ev_gI p1 rfl rfl) (ev_b (ev_gI p3 rfl rfl) (ev_t rfl e1))))))))
        · have iff := itm_eq i1 i2 o1 o2
          rcases e2 with ⟨h1, h2⟩ | ⟨h1, q, h2, h3⟩
          · exact .inl ⟨h1, rfl, rfl, rfl, iff.mp (fun q hq => h2 q (by omega) hq)⟩
          · exact .inr ⟨h1, fun e => h3 (iff.mpr e.2.2.2 q h2)⟩
      · refine ⟨0, ?_, .inr ⟨rfl, fun e => cs e.2.2.1⟩⟩
        unfold fm_86 fg_86_0
        exact ev_b (ev_gI p1 rfl rfl) (ev_b (ev_gI p3 rfl rfl) (ev_f (fun e => e (by rw [ck])) (ev_b (ev_gI p1 rfl rfl) (ev_b (ev_gI p3 rfl rfl) (ev_f (fun e => e (by rw [cl])) (ev_b (ev_gI p1 rfl rfl) (ev_b (ev_gI p3 rfl rfl) (ev_f (fun e => cs ((nI_eq (by omega) (by omega)).mp e)) rfl))))))))
    · refine ⟨0, ?_, .inr ⟨rfl, fun e => cl e.2.1⟩⟩
      unfold fm_86 fg_86_0
      exact ev_b (ev_gI p1 rfl rfl) (ev_b (ev_gI p3 rfl rfl) (ev_f (fun e => e (by rw [ck])) (ev_b (ev_gI p1 rfl rfl) (ev_b (ev_gI p3 rfl rfl) (ev_t (fun e => cl ((nI_eq (by omega) (by omega)).mp e)) rfl)))))
  · refine ⟨0, ?_, .inr ⟨rfl, fun e => ck e.1⟩⟩
    unfold fm_86 fg_86_0
    exact ev_b (ev_gI p1 rfl rfl) (ev_b (ev_gI p3 rfl rfl) (ev_t (fun e => ck ((nI_eq (by omega) (by omega)).mp e)) rfl))
set_option maxRecDepth 100000 in
set_option maxHeartbeats 4000000 in
theorem r_375 {V : Nat → Nat → Value} {I : Nat → Nat → Int32} {L : Nat → Nat → Int64} {R : Nat → Nat → Option Nat} {tl : am_H} {N b kd ln sz kd' ln' sz' : Nat} {s v : Nat → Int32} (hN : 1000 < N) (hb : b < 600) (h13 : V 174 13 = .int (nI kd)) (h14 : V 174 14 = .int (nI sz)) (h15 : V 174 15 = .int (nI ln)) (q1 : I 175 b = nI kd') (q2 : I 176 b = nI sz') (q3 : I 177 b = nI ln') (hd : ∀ k, k < sz → I 186 k = s k ∧ I 187 k = v k) (o1 : sound kd ln sz s v) (o2 : sound kd' ln' sz' (fun k => I 184 (60 * b + k)) (fun k => I 185 (60 * b + k))) : ∃ r : Int32, fm_375 N (.ref 174) (nI b) (fx V I L R ++ tl) = some (.inl (some (.int r), (fx V I L R ++ tl))) ∧ ((r = 1 ∧ smP kd ln sz s v kd' ln' sz' (fun k => I 184 (60 * b + k)) (fun k => I 185 (60 * b + k))) ∨ (r = 0 ∧ ¬ smP kd ln sz s v kd' ln' sz' (fun k => I 184 (60 * b + k)) (fun k => I 185 (60 * b + k)))) := by
  have hs := o1.2.1
  have hs' := o2.2.1
  have k3 := o1.1
  have k3' := o2.1
  have l8 : ln ≤ 8 := by
    by_cases c : kd = 3
    · exact (o1.2.2.2.2.2.2 c).2.1
    · have := (o1.2.2.1 c).2; omega
  have l8' : ln' ≤ 8 := by
    by_cases c : kd' = 3
    · exact (o2.2.2.2.2.2.2 c).2.1
    · have := (o2.2.2.1 c).2; omega
  have z51 : fg_375_51 N (.ref 174) (nI b) (fx V I L R ++ tl) = some (.inl (some (.int 0), (fx V I L R ++ tl))) := by
    unfold fg_375_51 fg_375_52
    obtain ⟨K, hK⟩ : ∃ k, N = k + 1 := ⟨N - 1, by omega⟩
    rw [show fg_375_55 N N (.ref 174) (nI b) 0 0 (fx V I L R ++ tl) = fg_375_55 N (K + 1) (.ref 174) (nI b) 0 0 (fx V I L R ++ tl) by rw [← hK], fg_375_55]
    refine ev_b (rdI h14) ?_
    by_cases c : nI sz ≤ 0
    · exact ev_t c rfl
    · exact ev_f c (ev_t rfl rfl)
  have s1 : ∀ o, (if ¬ nI kd' = nI kd then fg_375_51 N (.ref 174) (nI b) (fx V I L R ++ tl) else if ¬ nI sz' = nI sz then fg_375_51 N (.ref 174) (nI b) (fx V I L R ++ tl) else if ¬ nI kd = 3 then fg_375_47 N (.ref 174) (nI b) (fx V I L R ++ tl) else if ¬ nI ln' = nI ln then fg_375_51 N (.ref 174) (nI b) (fx V I L R ++ tl) else fg_375_47 N (.ref 174) (nI b) (fx V I L R ++ tl)) = o → fm_375 N (.ref 174) (nI b) (fx V I L R ++ tl) = o := fun o ho => by
    unfold fm_375 fg_375_0
    refine ev_b (a := Value.ref 175) rfl (ev_b (a := nI kd') ((qa_175 hb).trans (by rw [q1])) (ev_b (rdI h13) ?_))
    by_cases c1 : ¬ nI kd' = nI kd
    · rw [if_pos c1] at ho
      exact ev_t c1 ho
    · rw [if_neg c1] at ho
      refine ev_f c1 (ev_b (a := Value.ref 176) rfl (ev_b (a := nI sz') ((qa_176 hb).trans (by rw [q2])) (ev_b (rdI h14) ?_)))
      by_cases c2 : ¬ nI sz' = nI sz
      · rw [if_pos c2] at ho
        exact ev_t c2 ho
      · rw [if_neg c2] at ho
        refine ev_f c2 (ev_b (rdI h13) ?_)
        by_cases c3 : ¬ nI kd = 3
        · rw [if_pos c3] at ho
          exact ev_t c3 ho
        · rw [if_neg c3] at ho
          refine ev_f c3 (ev_b (a := Value.ref 177) rfl (ev_b (a := nI ln') ((qa_177 hb).trans (by rw [q3])) (ev_b (rdI h15) ?_)))
          exact ho
  by_cases ck : kd = kd'
  · by_cases cs : sz = sz'
    · by_cases cl : ln = ln'
      · subst ck
        subst cl
        subst cs
        obtain ⟨r, e1, e2⟩ := r_375l (V := V) (I := I) (L := L) (R := R) (tl := tl) (N := N) h14 hb hs sz 0 N (by omega) (by omega)
        refine ⟨r, s1 _ ?_, ?_⟩
        · refine ev_f (fun e => e rfl) (ev_f (fun e => e rfl) ?_)
          by_cases c3 : ¬ nI kd = 3
          · exact ev_t c3 e1
          · exact ev_f c3 (ev_f (fun e => e rfl) e1)
        · rcases e2 with ⟨h1, h2⟩ | ⟨h1, q, h2, h3⟩
          · refine .inl ⟨h1, rfl, rfl, rfl, fun k hk => ?_⟩
            obtain ⟨w1, w2⟩ := h2 k (by omega) hk
            obtain ⟨w3, w4⟩ := hd k hk
            exact ⟨by rw [← w3]; exact w1.symm, by rw [← w4]; exact w2.symm⟩
          · refine .inr ⟨h1, fun e => h3 ?_⟩
            obtain ⟨w1, w2⟩ := e.2.2.2 q h2
            obtain ⟨w3, w4⟩ := hd q h2
            exact ⟨by rw [w3]; exact w1.symm, by rw [w4]; exact w2.symm⟩
      · have kk : kd = 3 := by
          by_cases c : kd = 3
          · exact c
          · have a1 := (o1.2.2.1 c).2
            have a2 := (o2.2.2.1 (by omega)).2
            omega
        refine ⟨0, s1 _ ?_, .inr ⟨rfl, fun e => cl e.2.1⟩⟩
        exact ev_f (fun e => e (by rw [ck])) (ev_f (fun e => e (by rw [cs])) (ev_f (fun e => e (by rw [kk]; rfl)) (ev_t (fun e => cl ((nI_eq (by omega) (by omega)).mp e).symm) z51)))
    · exact ⟨0, s1 _ (ev_f (fun e => e (by rw [ck])) (ev_t (fun e => cs ((nI_eq (by omega) (by omega)).mp e).symm) z51)), .inr ⟨rfl, fun e => cs e.2.2.1⟩⟩
  · exact ⟨0, s1 _ (ev_t (fun e => ck ((nI_eq (by omega) (by omega)).mp e).symm) z51), .inr ⟨rfl, fun e => ck e.1⟩⟩
set_option maxRecDepth 100000 in
set_option maxHeartbeats 4000000 in
theorem u_8 {V : Nat → Nat → Value} {I : Nat → Nat → Int32} {L : Nat → Nat → Int64} {R : Nat → Nat → Option Nat} {tl : am_H} {n p j : Nat} (hr : rel V I L R tl n p) (hm : room tl n p j) {N : Nat} (hN : 1000 < N) (a1 a2 : Int32) : ∃ h', opBI (fm_84 N (.ref 0) a1 a2 (.ref 268) (fx V I L R ++ tl)) (fun h1 => fm_374 N (.ref 174) a1 a2 h1) vfZ h' ∧ invW (j + 1) h' := by
  obtain ⟨b1, b2, b3⟩ := hr.1
  rcases dich a1 (n := n) (by omega) with hn | ⟨b, hb, rfl⟩
  · refine ⟨_, opBI_err (c := 1) (b := 0) (by decide) (tl := tl ++ [am_dummy]) ?_ ?_, inv_mk (rel_thr 1 (rel_dum hr)) (room_dum hm)⟩
    · have e : fm_85 N (.ref 0) a1 a2 (fx V I L R ++ tl) = some (.inr (2, (fx V I L R ++ (tl ++ [am_dummy])))) := by
        unfold fm_85 fg_85_0
        refine ev_i rfl ?_
        rw [c_63n b2 hn]
        rfl
      unfold fm_84 fg_84_0
      refine ev_i rfl ?_
      rw [e]
      rfl
    · show fm_374 N (.ref 174) a1 a2 (fx V I L R ++ (tl ++ [am_dummy])) = _
      unfold fm_374 fg_374_0
      refine ev_i rfl (ev_cI (r_358n b3 b1 hn) (ev_t rfl ?_))
      unfold fg_374_21
      exact ev_b qp_174_0 (ev_b (a := 1) rfl (ev_f (by decide) rfl))
  · obtain ⟨kd, ln, sz, a, it, f, q1, q2, q3, q4, q5, q6, q7⟩ := bOk_pg (V := V) (I := I) (L := L) (R := R) (tl := tl) (hr.2.1 b hb)
    rcases dich a2 (n := n) (by omega) with hn | ⟨c, hc, rfl⟩
    · refine ⟨_, opBI_err (c := 1) (b := 0) (by decide) (tl := tl ++ [am_dummy]) ?_ ?_, inv_mk (rel_thr 1 (rel_dum hr)) (room_dum hm)⟩
      · have e : fm_85 N (.ref 0) (nI b) a2 (fx V I L R ++ tl) = some (.inr (2, (fx V I L R ++ (tl ++ [am_dummy])))) := by
          unfold fm_85 fg_85_0
          refine ev_i rfl (ev_cR (c_63 b2 b1 hb q4) rfl (ev_i rfl ?_))
          rw [c_63n b2 hn]
          rfl
        unfold fm_84 fg_84_0
        refine ev_i rfl ?_
        rw [e]
        rfl
      · show fm_374 N (.ref 174) (nI b) a2 (fx V I L R ++ (tl ++ [am_dummy])) = _
        unfold fm_374 fg_374_0
        refine ev_i rfl (ev_cI (r_358 b3 b1 hb) (ev_f (by decide) (ev_i rfl (ev_cI (r_358n b3 b1 hn) (ev_t rfl ?_)))))
        unfold fg_374_21
        exact ev_b qp_174_0 (ev_b (a := 1) rfl (ev_f (by decide) rfl))
    · obtain ⟨kd', ln', sz', a', it', g, t1, t2, t3, t4, t5, t6, t7⟩ := bOk_pg (V := V) (I := I) (L := L) (R := R) (tl := tl) (hr.2.1 c hc)
      obtain ⟨r1, e1, e2⟩ := c_86 (N := N) hN q5 t5 q6 t6 q7 t7
      have hs := q7.2.1
      obtain ⟨r2, e3, e4⟩ := r_375 (V := dkV (vup V 174 0 (.int 0)) kd ln sz) (I := dkI I b sz) (L := outL L (if r1 = 0 then 0 else 1)) (R := R) (tl := tl) (N := N) (b := c) (kd := kd) (ln := ln) (sz := sz) hN (by omega) (by show vup (vup (vup (vup V 174 0 (.int 0)) 174 13 _) 174 14 _) 174 15 _ 174 13 = _; rw [vup_v (by omega), vup_v (by omega), vup_eq]) (by show vup (vup (vup (vup V 174 0 (.int 0)) 174 13 _) 174 14 _) 174 15 _ 174 14 = _; rw [vup_v (by omega), vup_eq]) vup_eq t1 t2 t3 (fun k hk => ⟨ldr_at hk, ldr_at hk⟩) q7 t7
      have er : r2 = r1 := by
        rcases e2 with ⟨h1, h2⟩ | ⟨h1, h2⟩
        · rcases e4 with ⟨h3, h4⟩ | ⟨h3, h4⟩
          · rw [h1, h3]
          · exact absurd h2 h4
        · rcases e4 with ⟨h3, h4⟩ | ⟨h3, h4⟩
          · exact absurd h4 h2
          · rw [h1, h3]
      subst er
      have r01 : r2 = 0 ∨ r2 = 1 := by
        rcases e2 with ⟨h1, h2⟩ | ⟨h1, h2⟩
        · exact .inr h1
        · exact .inl h1
      refine ⟨_, ⟨0, fx V I (outL L (if r2 = 0 then 0 else 1)) R ++ tl, r2, if r2 = 0 then 0 else 1, ?_, rfl, ?_, rfl, rfl, fun _ => ⟨out_a (M := L), rfl⟩⟩, inv_mk (rel_dk (kd := kd) (ln := ln) (sz := sz) (b := b) (rel_thr 0 (rel_ol _ hr))) (room_up hm)⟩
      · have e : fm_85 N (.ref 0) (nI b) (nI c) (fx V I L R ++ tl) = some (.inl (some (.int r2), (fx V I L R ++ tl))) := by
          obtain ⟨_, _, _, _, _, _, p1, _⟩ := q5
          unfold fm_85 fg_85_0
          refine ev_i rfl (ev_cR (c_63 b2 b1 hb q4) rfl (ev_i rfl (ev_cR (c_63 b2 b1 hc t4) rfl (ev_i (ev_ok p1) (ev_cI e1 ?_)))))
          rcases r01 with rfl | rfl
          · rfl
          · rfl
        unfold fm_84 fg_84_0
        refine ev_i rfl ?_
        rw [e]
        rcases r01 with rfl | rfl
        · exact ev_t rfl (show fg_84_16 N (Value.ref 268) 0 0 (fx V I L R ++ tl) = _ from ev_b out_s rfl)
        · exact ev_f (by decide) (show fg_84_16 N (Value.ref 268) 0 1 (fx V I L R ++ tl) = _ from ev_b out_s rfl)
      · show fm_374 N (.ref 174) (nI b) (nI c) (fx V I (outL L (if r2 = 0 then 0 else 1)) R ++ tl) = _
        unfold fm_374 fg_374_0
        refine ev_i rfl (ev_cI (r_358 b3 b1 hb) (ev_f (by decide) (ev_i rfl (ev_cI (r_358 b3 b1 hc) (ev_f (by decide) (ev_b qp_174_0 (ev_b (a := 0) rfl (ev_t (by decide) (ev_i rfl (ev_cV (r_359 (by omega) (by omega) hs q1 q2 q3) (ev_i rfl (ev_cI e3 ?_))))))))))))
        rcases r01 with rfl | rfl
        · rfl
        · rfl
