/-! ===== equal(a, b): two machines, the reference's search ===== -/
set_option maxRecDepth 100000 in
set_option maxHeartbeats 1600000 in
theorem r_568 {V : Nat → Nat → Value} {I : Nat → Nat → Int32} {L : Nat → Nat → Int64} {R : Nat → Nat → Option Nat} {tl : am_H} {N z1 z2 k : Nat} {st : bS} {F B : Nat → Int32} (hN : 100 < N) (hi : qInv z1 z2 st) (hk : k < st.1) (hF : ∀ x, x < 36 → I 255 x = F x ∧ I 256 x = B x) (hR : ∀ x e, x < 36 → x ≠ 0 → e < 144 → st.2.1 x = nI e → F x = nI (e / 4) ∧ B x = nI (e % 4)) (h0 : F 0 = -1) : ∃ g T, mwI (pth st.2.1 35 (st.2.2 k)) g ∧ fm_568 N (.ref 174) (nI (st.2.2 k)) (fx V I L R ++ tl) = some (.inl (none, fx V (iup (iup I 259 T) 254 g) L R ++ tl)) := by
  have l36 := q_le hi
  obtain ⟨P, hP⟩ : ∃ P, P = pth st.2.1 35 (st.2.2 k) := ⟨_, rfl⟩
  have pl : P.length ≤ 35 := by
    have := pth_le hi 35 k (by omega) hk
    rw [← hP] at this
    omega
  obtain ⟨g0, a1, a2⟩ := r_569 (V := V) (I := I) (L := L) (R := R) (tl := tl) (N := N) hN
  obtain ⟨T, t1, t2, t3⟩ := r_568a (V := V) (I := iup I 254 g0) (L := L) (R := R) (tl := tl) (N := N) hi (fun x hx => by rw [iup_na (by decide), iup_na (by decide)]; exact hF x hx) hR h0 35 k 0 N (I 259) (by omega) hk (by omega) (by omega)
  rw [← hP, Nat.zero_add] at t3
  rw [← hP] at t2
  obtain ⟨g, b1, b2⟩ := r_568b (V := V) (I := iup I 259 T) (L := L) (R := R) (tl := tl) (N := N) (P := P) pl (fun i hi' => by rw [iup_eq]; have := t2 i hi'; rw [Nat.zero_add] at this; exact this) 11 0 N (upd g0 3 (nI P.length)) (by omega) (by omega) (fun j hj => by
    rw [if_neg (fun e => absurd e.2.2 (Nat.not_lt_zero _))]
    by_cases e : j = 3
    · rw [e, upd_eq, if_pos rfl]
    · rw [upd_ne e, if_neg e]; exact a1 j hj)
  have s9 : iup (iup I 254 g0) 259 (I 259) = iup I 254 g0 := by rw [show I 259 = iup I 254 g0 259 from (iup_na (by decide)).symm, iup_self]
  rw [s9] at t3
  rw [← hP]
  refine ⟨g, T, b1, ?_⟩
  unfold fm_568 fg_568_0
  refine ev_i rfl (ev_cV a2 (t3.trans (ev_b (a := Value.ref 254) rfl (ev_b (a := fx V (iup (iup I 259 T) 254 (upd g0 3 (nI P.length))) L R ++ tl) (ev_s (f := g0) (n := 15) rfl rfl rfl rfl) b2))))
set_option maxRecDepth 100000 in
set_option maxHeartbeats 1600000 in
theorem r_567l {V : Nat → Nat → Value} {I : Nat → Nat → Int32} {L : Nat → Nat → Int64} {R : Nat → Nat → Option Nat} {tl : am_H} {N z1 z2 : Nat} {v1 v2 : Nat → Int32} {n1 n2 : Nat → Nat → Nat} (hN : 5000 < N) (o1 : mcO z1 n1) (o2 : mcO z2 n2) (hm : mcU I z1 v1 n1) (hm' : mcT I z2 v2 n2) : ∀ (m k K : Nat) (F B S q : Nat → Int32), k + m = 37 → m < K → (∀ j, j < k → j < (mbs n1 n2 j).1) → qRr (mbs n1 n2 k) F B S q → match mgo n1 n2 v1 v2 m k with
    | none => ∃ F' B' S' q', fg_567_46 N K (.ref 174) (nI k) (nI (mbs n1 n2 k).1) (fx V (iup (iup (iup (iup I 255 F) 256 B) 257 S) 258 q) L R ++ tl) = some (.inl (some (.int 1), fx V (iup (iup (iup (iup I 255 F') 256 B') 257 S') 258 q') L R ++ tl))
    | some y => ∃ F' B' S' q' T w, mwI (pth (mbs n1 n2 y).2.1 35 ((mbs n1 n2 y).2.2 y)) w ∧ fg_567_46 N K (.ref 174) (nI k) (nI (mbs n1 n2 k).1) (fx V (iup (iup (iup (iup I 255 F) 256 B) 257 S) 258 q) L R ++ tl) = some (.inl (some (.int 0), fx V (iup (iup (iup (iup (iup (iup I 255 F') 256 B') 257 S') 258 q') 259 T) 254 w) L R ++ tl)) := by
  have s1 := o1.2.1
  have s2 := o2.2.1
  intro m
  induction m with
  | zero =>
    intro k K F B S q hk hK hj hA
    obtain ⟨K, rfl⟩ : ∃ k, K = k + 1 := ⟨K - 1, by omega⟩
    have bl := q_le (mbs_ok o1 o2 k hj)
    refine ⟨F, B, S, q, ?_⟩
    rw [fg_567_46]
    exact ev_t (nI_le (by omega) (by omega)) rfl
  | succ m ih =>
    intro k K F B S q hk hK hj hA
    obtain ⟨K, rfl⟩ : ∃ k, K = k + 1 := ⟨K - 1, by omega⟩
    have bi := mbs_ok o1 o2 k hj
    have bl := q_le bi
    by_cases c : (mbs n1 n2 k).1 ≤ k
    · rw [mgo, if_pos c]
      refine ⟨F, B, S, q, ?_⟩
      rw [fg_567_46]
      exact ev_t (nI_le c (by omega)) rfl
    · have kl : k < (mbs n1 n2 k).1 := by omega
      obtain ⟨k1, k2, k3⟩ := bi.2.1 k kl
      have rq : am_pA 0 (.ref 258) (nI k) (fx V (iup (iup (iup (iup I 255 F) 256 B) 257 S) 258 q) L R ++ tl) = some (nI ((mbs n1 n2 k).2.2 k)) := (qa_258 (by omega)).trans (congrArg some (hA.2.2.2 k kl))
      have r8 : am_pA 0 (.ref 188) (nI ((mbs n1 n2 k).2.2 k / 6)) (fx V (iup (iup (iup (iup I 255 F) 256 B) 257 S) 258 q) L R ++ tl) = some (v1 ((mbs n1 n2 k).2.2 k / 6)) := (qa_188 (by omega)).trans (congrArg some (hm _ k1).1)
      have r0 : am_pA 0 (.ref 190) (nI ((mbs n1 n2 k).2.2 k % 6)) (fx V (iup (iup (iup (iup I 255 F) 256 B) 257 S) 258 q) L R ++ tl) = some (v2 ((mbs n1 n2 k).2.2 k % 6)) := (qa_190 (by omega)).trans (congrArg some (hm' _ k2).1)
      obtain ⟨d1, d2⟩ := dm6 _ k3
      have head : ∀ o, (if v1 ((mbs n1 n2 k).2.2 k / 6) = v2 ((mbs n1 n2 k).2.2 k % 6) then (fg_567_92 N (fg_567_46 N K) N (.ref 174) (nI (k + 1)) (nI (mbs n1 n2 k).1) (nI ((mbs n1 n2 k).2.2 k)) 0 (fx V (iup (iup (iup (iup I 255 F) 256 B) 257 S) 258 q) L R ++ tl)) else (if am_pOk 12 (.ref 174) (fx V (iup (iup (iup (iup I 255 F) 256 B) 257 S) 258 q) L R ++ tl) then am_cV true (fm_568 N (.ref 174) (nI ((mbs n1 n2 k).2.2 k)) (fx V (iup (iup (iup (iup I 255 F) 256 B) 257 S) 258 q) L R ++ tl)) (fun h17 => some (.inl (some (.int 0), h17))) else none)) = o → fg_567_46 N (K + 1) (.ref 174) (nI k) (nI (mbs n1 n2 k).1) (fx V (iup (iup (iup (iup I 255 F) 256 B) 257 S) 258 q) L R ++ tl) = o := fun o hO => by
        rw [fg_567_46]
        refine ev_f (nI_ge kl (by omega)) (ev_b (a := Value.ref 258) rfl (ev_b rq (ev_b (a := Value.ref 188) rfl ?_)))
        rw [d2, d1, nI_1]
        exact ev_b r8 (ev_b (a := Value.ref 190) rfl (ev_b r0 hO))
      by_cases e : v1 ((mbs n1 n2 k).2.2 k / 6) = v2 ((mbs n1 n2 k).2.2 k % 6)
      · rw [mgo, if_neg c, if_pos e]
        obtain ⟨F1, B1, S1, q1, a1, a2⟩ := r_567e (V := V) (I := I) (L := L) (R := R) (tl := tl) (N := N) (rc := fg_567_46 N K) o1 o2 hm hm' bi kl 4 0 N F B S q (by omega) (by omega) hA
        have qq := ih (k + 1) K F1 B1 S1 q1 (by omega) (by omega) (fun j hj2 => by
          by_cases e : j = k
          · rw [e]; exact kl
          · exact hj j (by omega)) a1
        have tr : fg_567_46 N (K + 1) (.ref 174) (nI k) (nI (mbs n1 n2 k).1) (fx V (iup (iup (iup (iup I 255 F) 256 B) 257 S) 258 q) L R ++ tl) = fg_567_46 N K (.ref 174) (nI (k + 1)) (nI (mbs n1 n2 (k + 1)).1) (fx V (iup (iup (iup (iup I 255 F1) 256 B1) 257 S1) 258 q1) L R ++ tl) := head _ (ev_t e a2)
        rw [tr]
        exact qq
      · rw [mgo, if_neg c, if_neg e]
        obtain ⟨w, T, w1, w2⟩ := r_568 (V := V) (I := iup (iup (iup (iup I 255 F) 256 B) 257 S) 258 q) (L := L) (R := R) (tl := tl) (N := N) (k := k) (F := F) (B := B) (by omega) bi kl (fun x hx => by rw [iup_na (by decide), iup_na (by decide), iup_na (by decide), iup_eq, iup_na (by decide), iup_na (by decide), iup_eq]; exact ⟨rfl, rfl⟩) hA.2.1 hA.2.2.1
        exact ⟨F, B, S, q, T, w, w1, head _ (ev_f e (ev_i rfl (ev_cV w2 rfl)))⟩
set_option maxRecDepth 100000 in
set_option maxHeartbeats 1600000 in
theorem r_567z {V : Nat → Nat → Value} {I : Nat → Nat → Int32} {L : Nat → Nat → Int64} {R : Nat → Nat → Option Nat} {tl : am_H} {N : Nat} : ∀ (m k K : Nat) (S : Nat → Int32), k + m = 36 → m < K → (∀ j, j < k → S j = 0) → ∃ S' K', (∀ j, j < 36 → S' j = 0) ∧ fg_567_2 N K (.ref 174) (nI k) (fx V (iup I 257 S) L R ++ tl) = fg_567_2 N (K' + 1) (.ref 174) (nI 36) (fx V (iup I 257 S') L R ++ tl) := by
  intro m
  induction m with
  | zero =>
    intro k K S hk hK hS
    obtain ⟨K, rfl⟩ : ∃ k, K = k + 1 := ⟨K - 1, by omega⟩
    exact ⟨S, K, fun j hj => hS j (by omega), by rw [show k = 36 by omega]⟩
  | succ m ih =>
    intro k K S hk hK hS
    obtain ⟨K, rfl⟩ : ∃ k, K = k + 1 := ⟨K - 1, by omega⟩
    obtain ⟨S', K', h1, h2⟩ := ih (k + 1) K (upd S k 0) (by omega) (by omega) (fun j hj => by
      by_cases e : j = k
      · rw [e, upd_eq]
      · rw [upd_ne e]; exact hS j (by omega))
    refine ⟨S', K', h1, ?_⟩
    rw [← h2, fg_567_2]
    refine ev_f (nI_ge (b := 36) (by omega) (by decide)) (ev_b (a := Value.ref 257) rfl (ev_b (a := fx V (iup I 257 (upd S k 0)) L R ++ tl) ((qs_257 (by omega) rfl).trans (by rw [iup_eq, iup_iup])) ?_))
    rw [nI_1]
set_option maxRecDepth 100000 in
set_option maxHeartbeats 1600000 in
theorem r_567 {V : Nat → Nat → Value} {I : Nat → Nat → Int32} {L : Nat → Nat → Int64} {R : Nat → Nat → Option Nat} {tl : am_H} {N z1 z2 : Nat} {v1 v2 : Nat → Int32} {n1 n2 : Nat → Nat → Nat} (hN : 5000 < N) (o1 : mcO z1 n1) (o2 : mcO z2 n2) (hm : mcU I z1 v1 n1) (hm' : mcT I z2 v2 n2) : match mgo n1 n2 v1 v2 37 0 with
    | none => ∃ F' B' S' q', fm_567 N (.ref 174) (fx V I L R ++ tl) = some (.inl (some (.int 1), fx V (iup (iup (iup (iup I 255 F') 256 B') 257 S') 258 q') L R ++ tl))
    | some y => ∃ F' B' S' q' T w, mwI (pth (mbs n1 n2 y).2.1 35 ((mbs n1 n2 y).2.2 y)) w ∧ fm_567 N (.ref 174) (fx V I L R ++ tl) = some (.inl (some (.int 0), fx V (iup (iup (iup (iup (iup (iup I 255 F') 256 B') 257 S') 258 q') 259 T) 254 w) L R ++ tl)) := by
  obtain ⟨S, K', a1, a2⟩ := r_567z (V := V) (I := I) (L := L) (R := R) (tl := tl) (N := N) 36 0 N (I 257) (by omega) (by omega) (fun j hj => by omega)
  rw [iup_self] at a2
  have ar0 : qRr (mbs n1 n2 0) (upd (I 255) 0 (-1)) (I 256) (upd S 0 1) (upd (I 258) 0 0) := by
    refine ⟨fun x hx => ?_, fun x e hx hx0 he hxe => ?_, upd_eq, fun i hi => ?_⟩
    · show upd S 0 1 x = nI (scN (fun _ => -1) x)
      by_cases e : x = 0
      · rw [e, upd_eq]; rfl
      · rw [upd_ne e, a1 x hx]
        unfold scN
        rw [if_neg (fun h => h.elim e (fun h => h rfl))]
        rfl
    · have hxe : (-1 : Int32) = nI e := hxe
      exact absurd hxe.symm (nI_nm1 (by omega))
    · have hi : i < 1 := hi
      rw [show i = 0 by omega, upd_eq]
      rfl
  have q := r_567l (V := V) (I := I) (L := L) (R := R) (tl := tl) (N := N) hN o1 o2 hm hm' 37 0 N (upd (I 255) 0 (-1)) (I 256) (upd S 0 1) (upd (I 258) 0 0) (by omega) (by omega) (fun j hj => by omega) ar0
  have sw : ∀ (F B S q : Nat → Int32), B = I 256 → iup (iup (iup (iup I 255 F) 256 B) 257 S) 258 q = iup (iup (iup I 255 F) 257 S) 258 q := fun F B S q hB => by
    rw [hB, show I 256 = iup I 255 F 256 from (iup_na (by decide)).symm, iup_self]
  have tr : fm_567 N (.ref 174) (fx V I L R ++ tl) = fg_567_46 N N (.ref 174) (nI 0) (nI (mbs n1 n2 0).1) (fx V (iup (iup (iup (iup I 255 (upd (I 255) 0 (-1))) 256 (I 256)) 257 (upd S 0 1)) 258 (upd (I 258) 0 0)) L R ++ tl) := by
    unfold fm_567 fg_567_0
    refine a2.trans ?_
    rw [fg_567_2, sw _ _ _ _ rfl]
    refine ev_t (by decide) (ev_b (a := Value.ref 258) rfl (ev_b (a := fx V (iup (iup I 257 S) 258 (upd (I 258) 0 0)) L R ++ tl) (ev_s (f := I 258) (n := 36) rfl rfl rfl rfl) (ev_b (a := Value.ref 257) rfl ?_)))
    refine ev_b (a := fx V (iup (iup I 257 (upd S 0 1)) 258 (upd (I 258) 0 0)) L R ++ tl) (ev_s (f := S) (n := 36) rfl rfl rfl rfl) (ev_b (a := Value.ref 255) rfl ?_)
    exact ev_b (a := fx V (iup (iup (iup I 255 (upd (I 255) 0 (-1))) 257 (upd S 0 1)) 258 (upd (I 258) 0 0)) L R ++ tl) (ev_s (f := I 255) (n := 36) rfl rfl rfl rfl) rfl
  rw [tr]
  exact q
