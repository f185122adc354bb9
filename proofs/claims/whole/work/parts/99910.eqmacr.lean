/-! ===== equal(a, b): two machines, the reference ===== -/
/-- the third desk holds a machine -/
def mcT (I : Nat → Nat → Int32) (z : Nat) (val : Nat → Int32) (nxt : Nat → Nat → Nat) : Prop := ∀ i, i < z → I 190 i = val i ∧ ∀ c, c < 4 → pv_367 (I 191 i) (nI c) = nI (nxt i c)
def mcU (I : Nat → Nat → Int32) (z : Nat) (val : Nat → Int32) (nxt : Nat → Nat → Nat) : Prop := ∀ i, i < z → I 188 i = val i ∧ ∀ c, c < 4 → pv_367 (I 189 i) (nI c) = nI (nxt i c)
def qRr (st : bS) (F B S q : Nat → Int32) : Prop := (∀ x, x < 36 → S x = nI (scN st.2.1 x)) ∧ (∀ x e, x < 36 → x ≠ 0 → e < 144 → st.2.1 x = nI e → F x = nI (e / 4) ∧ B x = nI (e % 4)) ∧ F 0 = -1 ∧ ∀ i, i < st.1 → q i = nI (st.2.2 i)
set_option maxRecDepth 100000 in
set_option maxHeartbeats 1600000 in
theorem r_567e {V : Nat → Nat → Value} {I : Nat → Nat → Int32} {L : Nat → Nat → Int64} {R : Nat → Nat → Option Nat} {tl : am_H} {N z1 z2 k : Nat} {v1 v2 : Nat → Int32} {n1 n2 : Nat → Nat → Nat} {st : bS} {rc : Value → Int32 → Int32 → am_H → Option am_O} (o1 : mcO z1 n1) (o2 : mcO z2 n2) (hm : mcU I z1 v1 n1) (hm' : mcT I z2 v2 n2) (hi : qInv z1 z2 st) (hk : k < st.1) : ∀ (m c K : Nat) (F B S q : Nat → Int32), c + m = 4 → m < K → qRr (mrw n1 n2 k st c) F B S q → ∃ F' B' S' q', qRr (mrw n1 n2 k st 4) F' B' S' q' ∧ fg_567_92 N rc K (.ref 174) (nI (k + 1)) (nI (mrw n1 n2 k st c).1) (nI (st.2.2 k)) (nI c) (fx V (iup (iup (iup (iup I 255 F) 256 B) 257 S) 258 q) L R ++ tl) = rc (.ref 174) (nI (k + 1)) (nI (mrw n1 n2 k st 4).1) (fx V (iup (iup (iup (iup I 255 F') 256 B') 257 S') 258 q') L R ++ tl) := by
  have s1 := o1.2.1
  have s2 := o2.2.1
  obtain ⟨k1, k2, k3⟩ := hi.2.1 k hk
  intro m
  induction m with
  | zero =>
    intro c K F B S q hc hK hA
    obtain ⟨K, rfl⟩ : ∃ k, K = k + 1 := ⟨K - 1, by omega⟩
    obtain rfl : c = 4 := by omega
    refine ⟨F, B, S, q, hA, ?_⟩
    rw [fg_567_92]
    exact ev_t (by decide) rfl
  | succ m ih =>
    intro c K F B S q hc hK hA
    obtain ⟨K, rfl⟩ : ∃ k, K = k + 1 := ⟨K - 1, by omega⟩
    have c4 : c < 4 := by omega
    obtain ⟨a1, a2, a3⟩ := mrw_ok o1 o2 hi hk c (by omega)
    have kl : k < (mrw n1 n2 k st c).1 := by omega
    have qk := a2 k hk
    obtain ⟨b1, -, -, b4⟩ := mst_ok o1 o2 a1 kl c4
    have l0 := q_le a1
    rw [qk] at b4
    obtain ⟨t1, t2, t3⟩ := mto_lt o1 o2 k1 k2 c4
    obtain ⟨to, hto⟩ : ∃ to, to = mto n1 n2 (st.2.2 k) c := ⟨_, rfl⟩
    have es : mrw n1 n2 k st (c + 1) = mst n1 n2 k c (mrw n1 n2 k st c) := rfl
    have e6 : (6 : Int32) * nI (n1 (st.2.2 k / 6) c) + nI (n2 (st.2.2 k % 6) c) = nI to := by rw [hto]; exact nI_add' _ 6 _
    rw [← hto] at b4 t1
    obtain ⟨d1, d2⟩ := dm6 _ k3
    have r9 : am_pA 0 (.ref 189) (nI (st.2.2 k / 6)) (fx V (iup (iup (iup (iup I 255 F) 256 B) 257 S) 258 q) L R ++ tl) = some (I 189 (st.2.2 k / 6)) := qa_189 (by omega)
    have r1 : am_pA 0 (.ref 191) (nI (st.2.2 k % 6)) (fx V (iup (iup (iup (iup I 255 F) 256 B) 257 S) 258 q) L R ++ tl) = some (I 191 (st.2.2 k % 6)) := qa_191 (by omega)
    have rs : am_pA 2 (.ref 257) (nI to) (fx V (iup (iup (iup (iup I 255 F) 256 B) 257 S) 258 q) L R ++ tl) = some (nI (scN (mrw n1 n2 k st c).2.1 to)) := (qa_257 t1).trans (congrArg some (hA.1 to t1))
    by_cases d : to = 0 ∨ ¬ (mrw n1 n2 k st c).2.1 to = -1
    · have em : mst n1 n2 k c (mrw n1 n2 k st c) = mrw n1 n2 k st c := by unfold mst; rw [qk, ← hto, if_pos d]
      obtain ⟨F', B', S', q', h1, h2⟩ := ih (c + 1) K F B S q (by omega) (by omega) (by rw [es, em]; exact hA)
      rw [es, em] at h2
      refine ⟨F', B', S', q', h1, ?_⟩
      have s1' : scN (mrw n1 n2 k st c).2.1 to = 1 := if_pos d
      rw [s1'] at rs
      rw [fg_567_92]
      dsimp only
      rw [d2, d1]
      refine ev_f (nI_ge (b := 4) c4 (by decide)) (ev_b (a := Value.ref 189) rfl (ev_b r9 (ev_cI (pe_367 _ _ _) ?_)))
      rw [(hm _ k1).2 c c4]
      refine ev_b (a := Value.ref 191) rfl (ev_b r1 (ev_cI (pe_367 _ _ _) ?_))
      rw [(hm' _ k2).2 c c4, e6]
      refine ev_b (a := Value.ref 257) rfl (ev_b rs (ev_f (by decide) ?_))
      unfold fg_567_181
      rw [nI_1]
      exact h2
    · have d0 : ¬ to = 0 := fun e => d (.inl e)
      have dd1 : (mrw n1 n2 k st c).2.1 to = -1 := Classical.byContradiction (fun e => d (.inr e))
      have lt := b4 d
      have em : mst n1 n2 k c (mrw n1 n2 k st c) = ((mrw n1 n2 k st c).1 + 1, upd (mrw n1 n2 k st c).2.1 to (nI (4 * st.2.2 k + c)), fun i => if i = (mrw n1 n2 k st c).1 then to else (mrw n1 n2 k st c).2.2 i) := by unfold mst; rw [qk, ← hto, if_neg d]
      have s0' : scN (mrw n1 n2 k st c).2.1 to = 0 := if_neg d
      rw [s0'] at rs
      obtain ⟨F', B', S', q', h1, h2⟩ := ih (c + 1) K (upd F to (nI (st.2.2 k))) (upd B to (nI c)) (upd S to 1) (upd q (mrw n1 n2 k st c).1 (nI to)) (by omega) (by omega) (by
        rw [es, em]
        refine ⟨fun x hx => ?_, fun x e hx hx0 he hxe => ?_, ?_, fun i hi => ?_⟩
        · show upd S to 1 x = nI (scN (upd (mrw n1 n2 k st c).2.1 to (nI (4 * st.2.2 k + c))) x)
          by_cases e : x = to
          · rw [e, upd_eq]
            unfold scN
            rw [upd_eq, if_pos (.inr (nI_nm1 (by omega)))]
            rfl
          · rw [upd_ne e, hA.1 x hx]
            unfold scN
            rw [upd_ne e]
        · show upd F to (nI (st.2.2 k)) x = nI (e / 4) ∧ upd B to (nI c) x = nI (e % 4)
          have hxe : upd (mrw n1 n2 k st c).2.1 to (nI (4 * st.2.2 k + c)) x = nI e := hxe
          by_cases ex : x = to
          · rw [ex, upd_eq] at hxe
            have ee : 4 * st.2.2 k + c = e := (nI_eq (by omega) (by omega)).mp hxe
            rw [ex, upd_eq, upd_eq, ← ee, show (4 * st.2.2 k + c) / 4 = st.2.2 k by omega, show (4 * st.2.2 k + c) % 4 = c by omega]
            exact ⟨rfl, rfl⟩
          · rw [upd_ne ex] at hxe
            rw [upd_ne ex, upd_ne ex]
            exact hA.2.1 x e hx hx0 he hxe
        · rw [upd_ne (fun e => d0 e.symm)]
          exact hA.2.2.1
        · show upd q _ _ i = nI (if i = (mrw n1 n2 k st c).1 then to else (mrw n1 n2 k st c).2.2 i)
          have hi : i < (mrw n1 n2 k st c).1 + 1 := hi
          by_cases e : i = (mrw n1 n2 k st c).1
          · rw [e, upd_eq, if_pos rfl]
          · rw [upd_ne e, if_neg e]; exact hA.2.2.2 i (by omega))
      have e1 : (mrw n1 n2 k st (c + 1)).1 = (mrw n1 n2 k st c).1 + 1 := by rw [es, em]
      rw [e1] at h2
      refine ⟨F', B', S', q', h1, ?_⟩
      rw [fg_567_92]
      dsimp only
      rw [d2, d1]
      refine ev_f (nI_ge (b := 4) c4 (by decide)) (ev_b (a := Value.ref 189) rfl (ev_b r9 (ev_cI (pe_367 _ _ _) ?_)))
      rw [(hm _ k1).2 c c4]
      refine ev_b (a := Value.ref 191) rfl (ev_b r1 (ev_cI (pe_367 _ _ _) ?_))
      rw [(hm' _ k2).2 c c4, e6]
      refine ev_b (a := Value.ref 257) rfl (ev_b rs (ev_t rfl (ev_b (a := Value.ref 257) rfl ?_)))
      refine ev_b (a := fx V (iup (iup (iup (iup I 255 F) 256 B) 257 (upd S to 1)) 258 q) L R ++ tl) (ev_s (f := S) (n := 36) rfl (am_inb_n t1 (by omega)) rfl (by rw [nI_clamp (by omega)]; rfl)) (ev_b (a := Value.ref 255) rfl ?_)
      refine ev_b (a := fx V (iup (iup (iup (iup I 255 (upd F to (nI (st.2.2 k)))) 256 B) 257 (upd S to 1)) 258 q) L R ++ tl) (ev_s (f := F) (n := 36) rfl (am_inb_n t1 (by omega)) rfl (by rw [nI_clamp (by omega)]; rfl)) (ev_b (a := Value.ref 256) rfl ?_)
      refine ev_b (a := fx V (iup (iup (iup (iup I 255 (upd F to (nI (st.2.2 k)))) 256 (upd B to (nI c))) 257 (upd S to 1)) 258 q) L R ++ tl) (ev_s (f := B) (n := 36) rfl (am_inb_n t1 (by omega)) rfl (by rw [nI_clamp (by omega)]; rfl)) (ev_b (a := Value.ref 258) rfl ?_)
      refine ev_b (a := fx V (iup (iup (iup (iup I 255 (upd F to (nI (st.2.2 k)))) 256 (upd B to (nI c))) 257 (upd S to 1)) 258 (upd q (mrw n1 n2 k st c).1 (nI to))) L R ++ tl) (ev_s (f := q) (n := 36) rfl (am_inb_n lt (by omega)) rfl (by rw [nI_clamp (by omega)]; rfl)) ?_
      unfold fg_567_181
      rw [nI_1, nI_1]
      exact h2
set_option maxRecDepth 100000 in
set_option maxHeartbeats 1600000 in
/-- the way back, letter by letter -/
theorem r_568a {V : Nat → Nat → Value} {I : Nat → Nat → Int32} {L : Nat → Nat → Int64} {R : Nat → Nat → Option Nat} {tl : am_H} {N z1 z2 : Nat} {st : bS} {F B : Nat → Int32} (hi : qInv z1 z2 st) (hF : ∀ x, x < 36 → I 255 x = F x ∧ I 256 x = B x) (hR : ∀ x e, x < 36 → x ≠ 0 → e < 144 → st.2.1 x = nI e → F x = nI (e / 4) ∧ B x = nI (e % 4)) (h0 : F 0 = -1) : ∀ (d j cnt K : Nat) (T : Nat → Int32), j ≤ d → j < st.1 → cnt + d ≤ 35 → d < K → ∃ T', (∀ i, i < cnt → T' i = T i) ∧ (∀ i, i < (pth st.2.1 d (st.2.2 j)).length → T' (cnt + i) = nI ((pth st.2.1 d (st.2.2 j)).getD i 0)) ∧ fg_568_8 N K (.ref 174) (nI cnt) (nI (st.2.2 j)) (fx V (iup I 259 T) L R ++ tl) = ((am_vR (am_pG 3195 (.ref 174) (fx V (iup I 259 T') L R ++ tl))).bind fun v6 => ((am_pS 0 v6 3 (nI (cnt + (pth st.2.1 d (st.2.2 j)).length)) (fx V (iup I 259 T') L R ++ tl)).bind fun h8 => (fg_568_51 N N (.ref 174) (nI (cnt + (pth st.2.1 d (st.2.2 j)).length)) 0 h8))) := by
  have zero : ∀ (cnt K : Nat) (T : Nat → Int32), fg_568_8 N (K + 1) (.ref 174) (nI cnt) (nI 0) (fx V (iup I 259 T) L R ++ tl) = ((am_vR (am_pG 3195 (.ref 174) (fx V (iup I 259 T) L R ++ tl))).bind fun v6 => ((am_pS 0 v6 3 (nI cnt) (fx V (iup I 259 T) L R ++ tl)).bind fun h8 => (fg_568_51 N N (.ref 174) (nI cnt) 0 h8))) := fun cnt K T => by
    rw [fg_568_8]
    exact ev_b (a := Value.ref 255) rfl (ev_b (a := -1) ((qa_255 (k := 0) (by omega)).trans (by rw [iup_na (by decide), (hF 0 (by omega)).1, h0])) (ev_t (by decide) rfl))
  intro d
  induction d with
  | zero =>
    intro j cnt K T hj hl h35 hK
    obtain ⟨K, rfl⟩ : ∃ k, K = k + 1 := ⟨K - 1, by omega⟩
    obtain rfl : j = 0 := by omega
    refine ⟨T, fun _ _ => rfl, fun i h => absurd h (Nat.not_lt_zero _), ?_⟩
    rw [hi.2.2.1]
    exact zero cnt K T
  | succ d ih =>
    intro j cnt K T hj hl h35 hK
    obtain ⟨K, rfl⟩ : ∃ k, K = k + 1 := ⟨K - 1, by omega⟩
    by_cases e : j = 0
    · rw [e, hi.2.2.1, pth_0]
      exact ⟨T, fun _ _ => rfl, fun i h => absurd h (Nat.not_lt_zero _), zero cnt K T⟩
    · obtain ⟨i, c, i1, c4, x0, xl, yl, e4, -, k⟩ := q_back hi (show 1 ≤ j by omega) hl
      obtain ⟨w1, w2⟩ := hR _ _ xl x0 (show 4 * st.2.2 i + c < 144 by omega) e4
      rw [show (4 * st.2.2 i + c) / 4 = st.2.2 i by omega] at w1
      rw [show (4 * st.2.2 i + c) % 4 = c by omega] at w2
      obtain ⟨T', t1, t2, t3⟩ := ih i (cnt + 1) K (upd T cnt (nI c)) (by omega) (by omega) (by omega) (by omega)
      rw [k d, List.length_cons]
      refine ⟨T', fun i' hi' => by rw [t1 i' (by omega), upd_ne (by omega)], fun i' hi' => ?_, ?_⟩
      · cases i' with
        | zero => rw [Nat.add_zero, t1 cnt (by omega), upd_eq, List.getD_cons_zero]
        | succ i' => rw [List.getD_cons_succ, show cnt + (i' + 1) = cnt + 1 + i' by omega]; exact t2 i' (by omega)
      · rw [show cnt + ((pth st.2.1 d (st.2.2 i)).length + 1) = cnt + 1 + (pth st.2.1 d (st.2.2 i)).length by omega, ← t3, fg_568_8]
        have rF : ∀ T : Nat → Int32, am_pA 0 (.ref 255) (nI (st.2.2 j)) (fx V (iup I 259 T) L R ++ tl) = some (nI (st.2.2 i)) := fun T => (qa_255 xl).trans (by rw [iup_na (by decide), (hF _ xl).1, w1])
        have rB : am_pA 0 (.ref 256) (nI (st.2.2 j)) (fx V (iup I 259 T) L R ++ tl) = some (nI c) := (qa_256 xl).trans (by rw [iup_na (by decide), (hF _ xl).2, w2])
        refine ev_b (a := Value.ref 255) rfl (ev_b (rF T) (ev_f (nI_pos (by omega)) (ev_b (a := Value.ref 259) rfl (ev_b (a := Value.ref 256) rfl (ev_b rB (ev_b (a := fx V (iup I 259 (upd T cnt (nI c))) L R ++ tl) ((qs_259 (by omega)).trans (by rw [iup_eq, iup_iup])) (ev_b (a := Value.ref 255) rfl (ev_b (rF _) ?_))))))))
        rw [nI_1]
set_option maxRecDepth 100000 in
set_option maxHeartbeats 1600000 in
theorem r_568b {V : Nat → Nat → Value} {I : Nat → Nat → Int32} {L : Nat → Nat → Int64} {R : Nat → Nat → Option Nat} {tl : am_H} {N : Nat} {P : List Nat} (hl : P.length ≤ 35) (hT : ∀ i, i < P.length → I 259 i = nI (P.getD i 0)) : ∀ (m k K : Nat) (g : Nat → Int32), k + m = 11 → m < K → (∀ j, j < 15 → g j = if 4 ≤ j ∧ j - 4 < P.length ∧ j - 4 < k then nI (wv P (j - 4)) else if j = 3 then nI P.length else 0) → ∃ g', mwI P g' ∧ fg_568_51 N K (.ref 174) (nI P.length) (nI k) (fx V (iup I 254 g) L R ++ tl) = some (.inl (none, fx V (iup I 254 g') L R ++ tl)) := by
  intro m
  induction m with
  | zero =>
    intro k K g hk hK hg
    obtain ⟨K, rfl⟩ : ∃ k, K = k + 1 := ⟨K - 1, by omega⟩
    refine ⟨g, fun j hj => ?_, ?_⟩
    · rw [hg j hj]
      by_cases c : 4 ≤ j ∧ j - 4 < P.length
      · rw [if_pos c, if_pos ⟨c.1, c.2, by omega⟩]
      · rw [if_neg c, if_neg (fun e => c ⟨e.1, e.2.1⟩)]
    · rw [fg_568_51]
      by_cases c : P.length ≤ k
      · exact ev_t (nI_le c (by omega)) rfl
      · exact ev_f (nI_ge (by omega) (by omega)) (ev_t (nI_le (a := 11) (by omega) (by omega)) rfl)
  | succ m ih =>
    intro k K g hk hK hg
    obtain ⟨K, rfl⟩ : ∃ k, K = k + 1 := ⟨K - 1, by omega⟩
    by_cases c : P.length ≤ k
    · refine ⟨g, fun j hj => ?_, ?_⟩
      · rw [hg j hj]
        by_cases c' : 4 ≤ j ∧ j - 4 < P.length
        · rw [if_pos c', if_pos ⟨c'.1, c'.2, by omega⟩]
        · rw [if_neg c', if_neg (fun e => c' ⟨e.1, e.2.1⟩)]
      · rw [fg_568_51]
        exact ev_t (nI_le c (by omega)) rfl
    · obtain ⟨g', h1, h2⟩ := ih (k + 1) K (upd g (4 + k) (nI (wv P k))) (by omega) (by omega) (fun j hj => by
        by_cases e : j = 4 + k
        · rw [e, upd_eq, if_pos ⟨by omega, by omega, by omega⟩, show 4 + k - 4 = k by omega]
        · rw [upd_ne e, hg j hj]
          by_cases b : 4 ≤ j ∧ j - 4 < P.length ∧ j - 4 < k
          · rw [if_pos b, if_pos ⟨b.1, b.2.1, by omega⟩]
          · rw [if_neg b, if_neg (show ¬ (4 ≤ j ∧ j - 4 < P.length ∧ j - 4 < k + 1) from fun b' => b ⟨b'.1, b'.2.1, by have b1 := b'.1; have b2 := b'.2.2; omega⟩)])
      refine ⟨g', h1, ?_⟩
      rw [fg_568_51]
      dsimp only
      rw [show nI P.length - 1 = nI (P.length - 1) from nI_sub (b := 1) (by omega), nI_sub (show k ≤ P.length - 1 by omega), show (4 : Int32) + nI k = nI (4 + k) from nI_add 4 k, nI_1]
      exact ev_f (nI_ge (by omega) (by omega)) (ev_f (nI_ge (b := 11) (by omega) (by decide)) (ev_b (a := Value.ref 254) rfl (ev_b (a := Value.ref 259) rfl (ev_b (a := nI (wv P k)) ((qa_259 (by omega)).trans (by rw [iup_na (by decide), hT _ (by omega)]; rfl)) (ev_b (a := fx V (iup I 254 (upd g (4 + k) (nI (wv P k)))) L R ++ tl) ((qs_254 (by omega)).trans (by rw [iup_eq, iup_iup])) h2)))))
