/-! ===== the reference's grow() ===== -/
theorem g_388 {V : Nat → Nat → Value} {I : Nat → Nat → Int32} {L : Nat → Nat → Int64} {R : Nat → Nat → Option Nat} {tl : am_H} {s k : Nat} {a b c d e : Nat → Int32} {p : Nat → Int64} (h4 : L 224 = tC) (h5 : L 225 = tS) {N w t n P : Nat} {st : List (Nat × Nat × Nat)} (hN : 40 < N) (hw : w < 3) (ht : t < 2) (hn1 : 1 ≤ n) (hn : n ≤ 12) (hP : P < uT (2 * w + t) n) (hk : st.length = k) (hk2 : k + 3 < 40) (hs4 : s < 400) (hs : srep c d e p st) :
    ∃ c' d' e' p', fm_388 N (.ref 174) (nI w) (nI t) (nI n) (lN P) (gS V I L R tl s k a b c d e p) = some (.inl (none, gS V I L R tl (s + 1) (prt (2 * w + t) n (pk (2 * w + t) n 20 0 P).1 (pk (2 * w + t) n 20 0 P).2 ++ st).length (upd a s (nI (pk (2 * w + t) n 20 0 P).1)) (upd b s (nI (if (pk (2 * w + t) n 20 0 P).1 = 0 then (pk (2 * w + t) n 20 0 P).2 else 0))) c' d' e' p')) ∧ srep c' d' e' p' (prt (2 * w + t) n (pk (2 * w + t) n 20 0 P).1 (pk (2 * w + t) n 20 0 P).2 ++ st) := by
  have hc6 : 2 * w + t < 6 := by omega
  obtain ⟨uc, ul⟩ := u_c hn1 hn hc6
  have hpk := pk_ok (c := 2 * w + t) (n := n) 20 0 P rfl (by rw [uc]; exact hP)
  have us := u_s hn1 hn hc6 (s := (pk (2 * w + t) n 20 0 P).1) (by omega) (by omega)
  have hp := g_388p (V := V) (I := I) (L := L) (R := R) (tl := tl) (s := s) (k := k) (a := a) (b := b) (c := c) (d := d) (e := e) (p := p) h4 h5 (N := N) hw ht hn1 (by omega) 20 0 P N rfl (by omega) (by rw [uc]; exact hP) (by rw [uc]; exact ul)
  generalize hr : pk (2 * w + t) n 20 0 P = r at hpk us hp
  obtain ⟨S, Q⟩ := r
  simp only at hpk us hp ⊢
  obtain ⟨hS, hQ⟩ := hpk
  obtain ⟨u0, u1, u2, u3, u4⟩ := us
  have hal := ar_le S
  have hrun : ∀ o : Option am_O, (if ¬ nI (arN S) = 0 then fg_388_132 N N (.ref 174) (nI w) (nI n) (lN Q) (nI S) (nI (arN S)) 1 (gS V I L R tl (s + 1) k (upd a s (nI S)) (upd b s (nI (if S = 0 then Q else 0))) c d e p) else some (.inl (none, gS V I L R tl (s + 1) k (upd a s (nI S)) (upd b s (nI (if S = 0 then Q else 0))) c d e p))) = o → fm_388 N (.ref 174) (nI w) (nI t) (nI n) (lN P) (gS V I L R tl s k a b c d e p) = o := by
    intro o ho
    unfold fm_388 fg_388_0
    refine hp.trans ?_
    unfold fg_388_120
    refine ev_i g_ok ?_
    exact ev_cV (g_335 hs4 _ _) ho
  rcases (by omega : arN S = 0 ∨ arN S = 1 ∨ arN S = 2 ∨ arN S = 3) with k1 | k1 | k1 | k1
  · have e0 : prt (2 * w + t) n S Q = [] := by unfold prt; rw [if_pos k1]
    rw [e0]
    refine ⟨c, d, e, p, hrun _ ?_, hs⟩
    refine ev_f (fun e9 => e9 (by rw [k1]; rfl)) ?_
    rw [← hk]
    rfl
  · obtain ⟨hn2, hu⟩ := u2 k1
    obtain ⟨c', d', e', p', q1, q2⟩ := g_389 (V := V) (I := I) (L := L) (R := R) (tl := tl) (s := s + 1) (k := k) (a := upd a s (nI S)) (b := upd b s (nI (if S = 0 then Q else 0))) (c := c) (d := d) (e := e) (p := p) h4 h5 (w := w) (t := t) (S := S) (n := n) (P := Q) (st := st) hw ht (by omega) (by omega) hk hk2 hs (F := n - 1) (G := 0) (Q := Q) (by omega) (by unfold prt; rw [if_neg (show ¬ arN S = 0 by omega), if_pos k1, if_pos k1]) (by omega) (fun h9 => absurd h9 (by omega)) (fun h9 => absurd h9 (by omega)) (by omega)
    refine ⟨c', d', e', p', hrun _ ?_, q2⟩
    refine ev_t (nI_ne0 (by omega) (by omega)) ?_
    refine (g_388a (N := N) h4 h5 (by omega) hw ht (by omega) (by omega) k1 (n - 2) 1 Q N (by omega) (by omega) (by omega)).trans ?_
    exact ev_cV q1 rfl
  · obtain ⟨hn3, hu⟩ := u3 k1
    have q := pk2_ok (a := pcN (2 * w + t) S 0) (b := pcN (2 * w + t) S 1) (M := n - 1) (n - 2) 1 Q (by omega) (by omega) (by omega)
    have hb := g_388b (V := V) (I := I) (L := L) (R := R) (tl := tl) (s := s + 1) (k := k) (a := upd a s (nI S)) (b := upd b s (nI (if S = 0 then Q else 0))) (c := c) (d := d) (e := e) (p := p) h4 h5 (N := N) (by omega) hw ht (by omega : S < 21) (by omega : n < 13) hn3 k1 (by omega) (n - 2) 1 Q N (by omega) (by omega) (by omega) (by omega) (by omega)
    have hle := le_sum2 (x := pcN (2 * w + t) S 0) (y := pcN (2 * w + t) S 1) (M := n - 1) (n - 2) 1 (pk2 (pcN (2 * w + t) S 0) (pcN (2 * w + t) S 1) (n - 1) (n - 2) 1 Q).1 q.1 (by omega)
    have hprt : prt (2 * w + t) n S Q = [(pcN (2 * w + t) S 0, (pk2 (pcN (2 * w + t) S 0) (pcN (2 * w + t) S 1) (n - 1) (n - 2) 1 Q).1, (pk2 (pcN (2 * w + t) S 0) (pcN (2 * w + t) S 1) (n - 1) (n - 2) 1 Q).2 / uT (pcN (2 * w + t) S 1) (n - 1 - (pk2 (pcN (2 * w + t) S 0) (pcN (2 * w + t) S 1) (n - 1) (n - 2) 1 Q).1)), (pcN (2 * w + t) S 1, n - 1 - (pk2 (pcN (2 * w + t) S 0) (pcN (2 * w + t) S 1) (n - 1) (n - 2) 1 Q).1, (pk2 (pcN (2 * w + t) S 0) (pcN (2 * w + t) S 1) (n - 1) (n - 2) 1 Q).2 % uT (pcN (2 * w + t) S 1) (n - 1 - (pk2 (pcN (2 * w + t) S 0) (pcN (2 * w + t) S 1) (n - 1) (n - 2) 1 Q).1))] := by
      unfold prt
      rw [if_neg (show ¬ arN S = 0 by omega), if_neg (show ¬ arN S = 1 by omega), if_pos k1]
    generalize pk2 (pcN (2 * w + t) S 0) (pcN (2 * w + t) S 1) (n - 1) (n - 2) 1 Q = r at q hb hprt hle
    obtain ⟨F, Q2⟩ := r
    simp only at q hb hprt hle
    obtain ⟨q1, q2, q3⟩ := q
    obtain ⟨c', d', e', p', g1, g2⟩ := g_389 (V := V) (I := I) (L := L) (R := R) (tl := tl) (s := s + 1) (k := k) (a := upd a s (nI S)) (b := upd b s (nI (if S = 0 then Q else 0))) (c := c) (d := d) (e := e) (p := p) h4 h5 (w := w) (t := t) (S := S) (n := n) (P := Q) (st := st) hw ht (by omega) (by omega) hk hk2 hs (F := F) (G := n - 1 - F) (Q := Q2) (by omega) (by rw [hprt, if_neg (show ¬ arN S = 1 by omega), if_pos k1]) (by omega) (fun _ => pos_r q3) (fun h9 => absurd h9 (by omega)) (by omega)
    refine ⟨c', d', e', p', hrun _ ?_, g2⟩
    refine ev_t (nI_ne0 (by omega) (by omega)) ?_
    refine hb.trans ?_
    exact ev_cV g1 rfl
  · obtain ⟨hn4, hu⟩ := u4 k1
    have q := pk3_ok (a := pcN (2 * w + t) S 0) (b := pcN (2 * w + t) S 1) (M := n - 1) (n - 3) 1 Q (by omega) (by omega) (by omega)
    have hb := g_388c (V := V) (I := I) (L := L) (R := R) (tl := tl) (s := s + 1) (k := k) (a := upd a s (nI S)) (b := upd b s (nI (if S = 0 then Q else 0))) (c := c) (d := d) (e := e) (p := p) h4 h5 (N := N) (by omega) hw ht (by omega : S < 21) (by omega : n < 13) hn4 k1 (by omega) (n - 3) 1 Q N (by omega) (by omega) (by omega) (by omega) (by omega)
    have hle := le_sum3 (x := pcN (2 * w + t) S 0) (y := pcN (2 * w + t) S 1) (M := n - 1) (n - 3) 1 (pk3 (pcN (2 * w + t) S 0) (pcN (2 * w + t) S 1) (n - 1) (n - 3) 1 Q).1 q.1 (by omega)
    have hleg := le_sum3g (x := pcN (2 * w + t) S 0) (y := pcN (2 * w + t) S 1) (M := n - 1) (f := (pk3 (pcN (2 * w + t) S 0) (pcN (2 * w + t) S 1) (n - 1) (n - 3) 1 Q).1) (n - 1 - (pk3 (pcN (2 * w + t) S 0) (pcN (2 * w + t) S 1) (n - 1) (n - 3) 1 Q).1 - 1) 1 (pk3 (pcN (2 * w + t) S 0) (pcN (2 * w + t) S 1) (n - 1) (n - 3) 1 Q).2.1 q.2.1 (by omega)
    have hprt : prt (2 * w + t) n S Q = (fun x y (r : Nat × Nat × Nat) => [(x, r.1, r.2.2 / (uT y r.2.1 * uT y (n - 1 - r.1 - r.2.1))), (y, r.2.1, r.2.2 % (uT y r.2.1 * uT y (n - 1 - r.1 - r.2.1)) / uT y (n - 1 - r.1 - r.2.1)), (y, n - 1 - r.1 - r.2.1, r.2.2 % uT y (n - 1 - r.1 - r.2.1))]) (pcN (2 * w + t) S 0) (pcN (2 * w + t) S 1) (pk3 (pcN (2 * w + t) S 0) (pcN (2 * w + t) S 1) (n - 1) (n - 3) 1 Q) := by
      unfold prt
      rw [if_neg (show ¬ arN S = 0 by omega), if_neg (show ¬ arN S = 1 by omega), if_neg (show ¬ arN S = 2 by omega)]
    generalize pk3 (pcN (2 * w + t) S 0) (pcN (2 * w + t) S 1) (n - 1) (n - 3) 1 Q = r at q hb hprt hle hleg
    obtain ⟨F, G, Q2⟩ := r
    simp only at q hb hprt hle hleg
    obtain ⟨q1, q2, q3, q4⟩ := q
    have hpu := pos_r q4
    have hpH : 0 < uT (pcN (2 * w + t) S 1) (n - 1 - F - G) := Nat.pos_of_ne_zero (fun h9 => by rw [h9, Nat.mul_zero] at hpu; omega)
    have hpG : 0 < uT (pcN (2 * w + t) S 1) G := Nat.pos_of_ne_zero (fun h9 => by rw [h9, Nat.zero_mul] at hpu; omega)
    obtain ⟨c', d', e', p', g1, g2⟩ := g_389 (V := V) (I := I) (L := L) (R := R) (tl := tl) (s := s + 1) (k := k) (a := upd a s (nI S)) (b := upd b s (nI (if S = 0 then Q else 0))) (c := c) (d := d) (e := e) (p := p) h4 h5 (w := w) (t := t) (S := S) (n := n) (P := Q) (st := st) hw ht (by omega) (by omega) hk hk2 hs (F := F) (G := G) (Q := Q2) (by omega) (by rw [hprt, if_neg (show ¬ arN S = 1 by omega), if_neg (show ¬ arN S = 2 by omega)]) (by omega) (fun _ => hpG) (fun _ => hpH) (by omega)
    refine ⟨c', d', e', p', hrun _ ?_, g2⟩
    refine ev_t (nI_ne0 (by omega) (by omega)) ?_
    refine hb.trans ?_
    exact ev_cV g1 rfl
/-- nodes laid one behind another: sorts, numbers -/
def wA : (Nat → Int32) → Nat → List (Nat × Nat) → Nat → Int32
  | f, _, [] => f
  | f, s, x :: l => wA (upd f s (nI x.1)) (s + 1) l
def wB : (Nat → Int32) → Nat → List (Nat × Nat) → Nat → Int32
  | f, _, [] => f
  | f, s, x :: l => wB (upd f s (nI x.2)) (s + 1) l
set_option maxRecDepth 100000 in
set_option maxHeartbeats 4000000 in
theorem g_386l {V : Nat → Nat → Value} {I : Nat → Nat → Int32} {L : Nat → Nat → Int64} {R : Nat → Nat → Option Nat} {tl : am_H} (h4 : L 224 = tC) (h5 : L 225 = tS) {N : Nat} (hN : 40 < N) : ∀ (m : Nat) (st : List (Nat × Nat × Nat)) (s K : Nat) (a b c d e : Nat → Int32) (p : Nat → Int64), tsum st = m → m ≤ 12 → tok st → srep c d e p st → s + m ≤ 400 → m < K →
      ∃ c' d' e' p', fg_386_18 N K (.ref 174) (gS V I L R tl s st.length a b c d e p) = some (.inl (none, gS V I L R tl (s + m) 0 (wA a s (tun st)) (wB b s (tun st)) c' d' e' p')) := by
  intro m
  induction m with
  | zero =>
    intro st s K a b c d e p hm h12 hk hs h400 hK
    obtain ⟨K, rfl⟩ : ∃ k, K = k + 1 := ⟨K - 1, by omega⟩
    cases st with
    | nil =>
      refine ⟨c, d, e, p, ?_⟩
      rw [fg_386_18]
      refine ev_b (a := nI 0) rfl ?_
      exact ev_t (by decide) rfl
    | cons x r =>
      have h9 : x.2.1 + tsum r = 0 := hm
      have h8 : 1 ≤ x.2.1 := hk.2.1
      omega
  | succ m ih =>
    intro st s K a b c d e p hm h12 hk hs h400 hK
    obtain ⟨K, rfl⟩ : ∃ k, K = k + 1 := ⟨K - 1, by omega⟩
    cases st with
    | nil => have h9 : 0 = m + 1 := hm; omega
    | cons x r =>
      obtain ⟨cx, n, P⟩ := x
      have hm2 : n + tsum r = m + 1 := hm
      obtain ⟨k1, k2, k3, k4, k5⟩ := hk
      have k1 : cx < 6 := k1
      have k2 : 1 ≤ n := k2
      have k3 : n ≤ 12 := k3
      have k4 : P < uT cx n := k4
      obtain ⟨⟨s1, s2, s3, s4⟩, s5⟩ := hs
      have s1 : c r.length = nI (cx / 2) := s1
      have s2 : d r.length = nI (cx % 2) := s2
      have s3 : e r.length = nI n := s3
      have s4 : p r.length = lN P := s4
      have hrl := tok_len k5
      have hcx : 2 * (cx / 2) + cx % 2 = cx := by omega
      obtain ⟨v1, v2, v3, v4, v5⟩ := un_prt k3 k2 k1 k4
      obtain ⟨c1, d1, e1, p1, g1, g2⟩ := g_388 (V := V) (I := I) (L := L) (R := R) (tl := tl) (s := s) (k := r.length) (a := a) (b := b) (c := c) (d := d) (e := e) (p := p) h4 h5 (N := N) (w := cx / 2) (t := cx % 2) (n := n) (P := P) (st := r) hN (by omega) (by omega) k2 k3 (by rw [hcx]; exact k4) rfl (by omega) (by omega) s5
      rw [hcx] at g1 g2
      obtain ⟨c2, d2, e2, p2, q1⟩ := ih (prt cx n (pk cx n 20 0 P).1 (pk cx n 20 0 P).2 ++ r) (s + 1) K (upd a s (nI (pk cx n 20 0 P).1)) (upd b s (nI (if (pk cx n 20 0 P).1 = 0 then (pk cx n 20 0 P).2 else 0))) c1 d1 e1 p1 (by rw [tsum_app]; omega) (by omega) (tok_app v2 k5) g2 (by omega) (by omega)
      refine ⟨c2, d2, e2, p2, ?_⟩
      have hin : am_inb (nI r.length) 40 = true := am_inb_n (by omega) (by omega)
      have hcl : (nI r.length).toNatClampNeg = r.length := nI_clamp (by omega)
      rw [fg_386_18]
      refine ev_b (a := nI (r.length + 1)) rfl ?_
      refine ev_f (nI_nle (by omega) (by omega)) ?_
      refine ev_b (a := nI (r.length + 1)) rfl ?_
      rw [nI_pred]
      refine ev_b (a := gS V I L R tl s r.length a b c d e p) (ev_p rfl rfl rfl rfl) ?_
      refine ev_b (a := .ref 227) rfl ?_
      refine ev_b (a := nI r.length) rfl ?_
      refine ev_b (ev_a (f := c) (n := 40) rfl hin) ?_
      refine ev_b (a := .ref 228) rfl ?_
      refine ev_b (a := nI r.length) rfl ?_
      refine ev_b (ev_a (f := d) (n := 40) rfl hin) ?_
      refine ev_b (a := .ref 229) rfl ?_
      refine ev_b (a := nI r.length) rfl ?_
      refine ev_b (ev_a (f := e) (n := 40) rfl hin) ?_
      refine ev_b (a := .ref 230) rfl ?_
      refine ev_b (a := nI r.length) rfl ?_
      refine ev_b (ev_aL (f := p) (n := 40) rfl hin) ?_
      rw [hcl, s1, s2, s3, s4]
      refine ev_i g_ok ?_
      refine ev_cV g1 ?_
      refine q1.trans ?_
      have et : tun ((cx, n, P) :: r) = ((pk cx n 20 0 P).1, if (pk cx n 20 0 P).1 = 0 then (pk cx n 20 0 P).2 else 0) :: tun (prt cx n (pk cx n 20 0 P).1 (pk cx n 20 0 P).2 ++ r) := by
        show un cx n P ++ tun r = _
        rw [v1, tun_app]
        rfl
      rw [et, show s + 1 + m = s + (m + 1) by omega]
      rfl
set_option maxRecDepth 100000 in
set_option maxHeartbeats 4000000 in
/-- grow(), when the tables are made -/
theorem g_386 {V : Nat → Nat → Value} {I : Nat → Nat → Int32} {L : Nat → Nat → Int64} {R : Nat → Nat → Option Nat} {tl : am_H} (h4 : L 224 = tC) (h5 : L 225 = tS) (h80 : V 174 80 = .int 1) {N w t n P s0 k0 : Nat} {a b c d e : Nat → Int32} {p : Nat → Int64} (hN : 40 < N) (hw : w < 3) (ht : t < 2) (hn1 : 1 ≤ n) (hn : n ≤ 12) (hP : P < uT (2 * w + t) n) (h400 : s0 + n ≤ 400) :
    ∃ c' d' e' p', fm_386 N (.ref 174) (nI w) (nI t) (nI n) (lN P) (gS V I L R tl s0 k0 a b c d e p) = some (.inl (none, gS V I L R tl (s0 + n) 0 (wA a s0 (un (2 * w + t) n P)) (wB b s0 (un (2 * w + t) n P)) c' d' e' p')) := by
  obtain ⟨c', d', e', p', q⟩ := g_386l (V := V) (I := I) (L := L) (R := R) (tl := tl) h4 h5 hN n [(2 * w + t, n, P)] s0 N a b (upd c 0 (nI w)) (upd d 0 (nI t)) (upd e 0 (nI n)) (vp_updL p 0 (lN P)) rfl hn ⟨by show 2 * w + t < 6; omega, hn1, hn, hP, trivial⟩ ⟨⟨by show upd c 0 (nI w) 0 = nI ((2 * w + t) / 2); rw [upd_eq, show (2 * w + t) / 2 = w by omega], by show upd d 0 (nI t) 0 = nI ((2 * w + t) % 2); rw [upd_eq, show (2 * w + t) % 2 = t by omega], upd_eq, updL_at.trans (if_pos rfl)⟩, trivial⟩ h400 (by omega)
  refine ⟨c', d', e', p', ?_⟩
  have et : tun [(2 * w + t, n, P)] = un (2 * w + t) n P := by
    show un _ _ _ ++ [] = _
    rw [List.append_nil]
  rw [et] at q
  unfold fm_386 fg_386_0
  refine ev_i g_ok ?_
  have h377 : fm_377 N (.ref 174) (gS V I L R tl s0 k0 a b c d e p) = some (.inl (none, gS V I L R tl s0 k0 a b c d e p)) := x_377c h80
  refine ev_cV h377 ?_
  refine ev_b (a := gS V I L R tl s0 0 a b c d e p) (ev_p rfl rfl rfl rfl) ?_
  refine ev_i g_ok ?_
  refine ev_cV (g_387 (k := 0) (by omega) _ _ _ _) ?_
  exact q
