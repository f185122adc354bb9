/-! ===== least(b): the reference's new machine, and both ===== -/
theorem t353 : ∀ c, c < 4 → ∀ p, p < 8 ^ c → ∀ e, e < 8 → pv_353 (nI p) (nI c) (nI e) = nI (p + e * 8 ^ c) := by decide +kernel
theorem t367a : ∀ a, a < 64 → ∀ b, b < 64 → ∀ c, c < 4 → pv_367 (nI (64 * a + b)) (nI c) = nI ((64 * a + b) / 8 ^ c % 8) := by decide +kernel
theorem t367 {x : Nat} (hx : x < 4096) {c : Nat} (hc : c < 4) : pv_367 (nI x) (nI c) = nI (x / 8 ^ c % 8) := by
  have := t367a (x / 64) (by omega) (x % 64) (by omega) c hc
  rw [show 64 * (x / 64) + x % 64 = x by omega] at this
  exact this
def pkN (val : Nat → Int32) (nxt : Nat → Nat → Nat) (k : Nat) (st : bS) : Nat → Nat
  | 0 => 0
  | c + 1 => pkN val nxt k st c + edg val nxt k st c * 8 ^ c
theorem edg_8 {val : Nat → Int32} {nxt : Nat → Nat → Nat} {sz k c : Nat} {st : bS} (ho : mcO sz nxt) (h : bInv sz st) (hk : k < st.1) (hc : c < 4) : edg val nxt k st c < 6 := by
  have a := (edg_ok (val := val) ho h hk hc).1
  have b := b_le (rw4_ok (val := val) ho h hk (c + 1) (by omega)).1
  have := ho.2.1
  omega
theorem pkl8 {val : Nat → Int32} {nxt : Nat → Nat → Nat} {sz k : Nat} {st : bS} (ho : mcO sz nxt) (h : bInv sz st) (hk : k < st.1) : ∀ c, c ≤ 4 → pkN val nxt k st c < 8 ^ c := by
  intro c
  induction c with
  | zero => intro _; exact Nat.one_pos
  | succ c ih =>
    intro hc
    have a := ih (by omega)
    have b := edg_8 (val := val) ho h hk (show c < 4 by omega)
    show pkN val nxt k st c + edg val nxt k st c * 8 ^ c < 8 ^ (c + 1)
    have : edg val nxt k st c * 8 ^ c ≤ 7 * 8 ^ c := Nat.mul_le_mul_right _ (by omega)
    rw [Nat.pow_succ]
    omega
set_option maxRecDepth 100000 in
set_option maxHeartbeats 1600000 in
theorem r_582e {V : Nat → Nat → Value} {I : Nat → Nat → Int32} {L : Nat → Nat → Int64} {R : Nat → Nat → Option Nat} {tl : am_H} {N sz k b : Nat} {val : Nat → Int32} {nxt : Nat → Nat → Nat} {st : bS} {A B : Nat → Int32} {rc : Value → Int32 → Int32 → Int32 → am_H → Option am_O} (ho : mcO sz nxt) (hm : mcR V I sz val nxt) (hi : bInv sz st) (hk : k < st.1) (hcl : ∀ x, x < sz → I 262 x = nI (clR val nxt 6 x)) : ∀ (m c K : Nat) (g q : Nat → Int32), c + m = 4 → m < K → bAr sz (rw4 val nxt k st c) g q → ∃ g' q', bAr sz (rw4 val nxt k st 4) g' q' ∧ fg_582_139 N rc K (.ref 174) (nI b) (nI (rw4 val nxt k st c).1) (nI k) (nI (pkN val nxt k st c)) (nI c) (fx (vup V 174 14 (.int (nI k))) (iup (iup (iup (iup I 264 g) 265 q) 186 A) 187 B) L R ++ tl) = rc (.ref 174) (nI b) (nI (rw4 val nxt k st 4).1) (nI (k + 1)) (fx (vup V 174 14 (.int (nI (k + 1)))) (iup (iup (iup (iup I 264 g') 265 q') 186 (upd A k (val (st.2.2 k)))) 187 (upd B k (nI (pkN val nxt k st 4)))) L R ++ tl) := by
  have s6 := ho.2.1
  intro m
  induction m with
  | zero =>
    intro c K g q hc hK hA
    obtain ⟨K, rfl⟩ : ∃ k, K = k + 1 := ⟨K - 1, by omega⟩
    obtain rfl : c = 4 := by omega
    obtain ⟨a1, a2, a3⟩ := rw4_ok (val := val) ho hi hk 4 (by omega)
    have l0 := b_le a1
    have kl : k < (rw4 val nxt k st 4).1 := by omega
    have qk := hi.2.1 k hk
    have t := x_335 (V := vup V 174 14 (.int (nI k))) (I := iup (iup (iup (iup I 264 g) 265 q) 186 A) 187 B) (L := L) (R := R) (tl := tl) (s := k) vup_eq (by omega) (val (st.2.2 k)) (nI (pkN val nxt k st 4))
    rw [iup_eq, show iup (iup (iup (iup I 264 g) 265 q) 186 A) 187 B 186 = A from (iup_na (by decide)).trans iup_eq, iup_q (by decide), vup_2] at t
    refine ⟨g, q, hA, ?_⟩
    rw [fg_582_139]
    refine ev_t (by decide) (ev_b (a := Value.ref 188) rfl (ev_b (a := Value.ref 265) rfl (ev_b (a := nI (st.2.2 k)) ((qa_265 (by omega)).trans (congrArg some ((hA.2 k kl).trans (by rw [a2 k hk])))) (ev_b (a := val (st.2.2 k)) ((qa_188 (by omega)).trans (congrArg some (hm.2 _ qk).1)) (ev_i rfl (ev_cV t ?_))))))
    rw [nI_1]
  | succ m ih =>
    intro c K g q hc hK hA
    obtain ⟨K, rfl⟩ : ∃ k, K = k + 1 := ⟨K - 1, by omega⟩
    have c4 : c < 4 := by omega
    obtain ⟨a1, a2, a3⟩ := rw4_ok (val := val) ho hi hk c (by omega)
    have kl : k < (rw4 val nxt k st c).1 := by omega
    have tl' := tgt_lt (val := val) ho a1 kl c4
    have qk : (rw4 val nxt k st c).2.2 k < sz := a1.2.1 k kl
    have nl := ho.2.2 _ c qk c4
    have l0 := b_le a1
    obtain ⟨b1, -, -, -, b5⟩ := bst_ok s6 a1 tl'
    have l1 := b_le b1
    obtain ⟨e1, e2⟩ := edg_ok (val := val) ho hi hk c4
    have e8 := edg_8 (val := val) ho hi hk c4
    have pl := pkl8 (val := val) ho hi hk c (by omega)
    obtain ⟨to, hto⟩ : ∃ to, to = tgt val nxt (rw4 val nxt k st c) k c := ⟨_, rfl⟩
    rw [← hto] at tl' e2 b1 b5 l1
    have es : rw4 val nxt k st (c + 1) = bst (rw4 val nxt k st c) to := by rw [rw4, hto]
    have rq : am_pA 0 (.ref 265) (nI k) (fx (vup V 174 14 (.int (nI k))) (iup (iup (iup (iup I 264 g) 265 q) 186 A) 187 B) L R ++ tl) = some (nI ((rw4 val nxt k st c).2.2 k)) := (qa_265 (by omega)).trans (congrArg some (hA.2 k kl))
    have r9 : am_pA 0 (.ref 189) (nI ((rw4 val nxt k st c).2.2 k)) (fx (vup V 174 14 (.int (nI k))) (iup (iup (iup (iup I 264 g) 265 q) 186 A) 187 B) L R ++ tl) = some (I 189 ((rw4 val nxt k st c).2.2 k)) := qa_189 (by omega)
    have rc' : am_pA 0 (.ref 262) (nI (nxt ((rw4 val nxt k st c).2.2 k) c)) (fx (vup V 174 14 (.int (nI k))) (iup (iup (iup (iup I 264 g) 265 q) 186 A) 187 B) L R ++ tl) = some (nI to) := (qa_262 (by omega)).trans (congrArg some ((hcl _ nl).trans (by rw [hto]; rfl)))
    have rg : am_pA 0 (.ref 264) (nI to) (fx (vup V 174 14 (.int (nI k))) (iup (iup (iup (iup I 264 g) 265 q) 186 A) 187 B) L R ++ tl) = some ((rw4 val nxt k st c).2.1 to) := (qa_264 (by omega)).trans (congrArg some (hA.1 to tl'))
    have fin : ∀ (g1 q1 : Nat → Int32), bAr sz (bst (rw4 val nxt k st c) to) g1 q1 → ∃ g' q', bAr sz (rw4 val nxt k st 4) g' q' ∧ fg_582_197 N rc (fg_582_139 N rc K) (.ref 174) (nI b) (nI (bst (rw4 val nxt k st c) to).1) (nI k) (nI (pkN val nxt k st c)) (nI c) (nI to) (fx (vup V 174 14 (.int (nI k))) (iup (iup (iup (iup I 264 g1) 265 q1) 186 A) 187 B) L R ++ tl) = rc (.ref 174) (nI b) (nI (rw4 val nxt k st 4).1) (nI (k + 1)) (fx (vup V 174 14 (.int (nI (k + 1)))) (iup (iup (iup (iup I 264 g') 265 q') 186 (upd A k (val (st.2.2 k)))) 187 (upd B k (nI (pkN val nxt k st 4)))) L R ++ tl) := fun g1 q1 hA1 => by
      obtain ⟨g', q', h1, h2⟩ := ih (c + 1) K g1 q1 (by omega) (by omega) (by rw [es]; exact hA1)
      rw [es] at h2
      refine ⟨g', q', h1, ?_⟩
      unfold fg_582_197
      refine ev_b (a := Value.ref 264) rfl (ev_b (a := nI (edg val nxt k st c)) ((qa_264 (by omega)).trans (congrArg some ((hA1.1 to tl').trans (by rw [← es]; exact e2)))) (ev_cI (pe_353 _ _ _ _) ?_))
      rw [t353 c c4 _ pl _ (by omega), nI_1]
      exact h2
    by_cases cn : (rw4 val nxt k st c).2.1 to = -1
    · have ls := b5 cn
      obtain ⟨g', q', h1, h2⟩ := fin _ _ (bAr_s hA cn)
      refine ⟨g', q', h1, ?_⟩
      have eb : (bst (rw4 val nxt k st c) to).1 = (rw4 val nxt k st c).1 + 1 := by unfold bst; rw [if_pos cn]
      rw [eb] at h2
      rw [cn] at rg
      rw [fg_582_139]
      refine ev_f (nI_ge (b := 4) c4 (by decide)) (ev_b (a := Value.ref 262) rfl (ev_b (a := Value.ref 189) rfl (ev_b (a := Value.ref 265) rfl (ev_b rq (ev_b r9 (ev_cI (pe_367 _ _ _) ?_))))))
      rw [(hm.2 _ qk).2 c c4]
      refine ev_b rc' (ev_b (a := Value.ref 264) rfl (ev_b rg (ev_f (by decide) (ev_b (a := Value.ref 264) rfl ?_))))
      refine ev_b (a := fx (vup V 174 14 (.int (nI k))) (iup (iup (iup (iup I 264 (upd g to (nI (rw4 val nxt k st c).1))) 265 q) 186 A) 187 B) L R ++ tl) (ev_s (f := g) (n := 6) rfl (am_inb_n (by omega) (by omega)) rfl (by rw [nI_clamp (by omega)]; rfl)) (ev_b (a := Value.ref 265) rfl ?_)
      refine ev_b (a := fx (vup V 174 14 (.int (nI k))) (iup (iup (iup (iup I 264 (upd g to (nI (rw4 val nxt k st c).1))) 265 (upd q (rw4 val nxt k st c).1 (nI to))) 186 A) 187 B) L R ++ tl) (ev_s (f := q) (n := 6) rfl (am_inb_n (by omega) (by omega)) rfl (by rw [nI_clamp (by omega)]; rfl)) ?_
      rw [nI_1]
      exact h2
    · obtain ⟨g', q', h1, h2⟩ := fin _ _ (bAr_k hA cn)
      refine ⟨g', q', h1, ?_⟩
      have eb : (bst (rw4 val nxt k st c) to).1 = (rw4 val nxt k st c).1 := by unfold bst; rw [if_neg cn]
      rw [eb] at h2
      obtain ⟨i, i1, i2⟩ := (a1.2.2.1 to tl').resolve_left cn
      rw [i2] at rg
      rw [fg_582_139]
      refine ev_f (nI_ge (b := 4) c4 (by decide)) (ev_b (a := Value.ref 262) rfl (ev_b (a := Value.ref 189) rfl (ev_b (a := Value.ref 265) rfl (ev_b rq (ev_b r9 (ev_cI (pe_367 _ _ _) ?_))))))
      rw [(hm.2 _ qk).2 c c4]
      exact ev_b rc' (ev_b (a := Value.ref 264) rfl (ev_b rg (ev_t (nI_le (a := 0) (by omega) (by omega)) h2)))
def mcG (val : Nat → Int32) (nxt : Nat → Nat → Nat) (k : Nat) (A B : Nat → Int32) : Prop := ∀ i, i < k → A i = val ((bsK val nxt i).2.2 i) ∧ B i = nI (pkN val nxt i (bsK val nxt i) 4)
set_option maxRecDepth 100000 in
set_option maxHeartbeats 1600000 in
theorem r_582l {V : Nat → Nat → Value} {I : Nat → Nat → Int32} {L : Nat → Nat → Int64} {R : Nat → Nat → Option Nat} {tl : am_H} {N sz b S : Nat} {val : Nat → Int32} {nxt : Nat → Nat → Nat} {o : (Nat → Int32) → (Nat → Int32) → (Nat → Int32) → (Nat → Int32) → Option am_O} (hN : 100 < N) (ho : mcO sz nxt) (hm : mcR V I sz val nxt) (hcl : ∀ x, x < sz → I 262 x = nI (clR val nxt 6 x)) (hO : ∀ g q A B, mcG val nxt S A B → (if am_pOk 12 (.ref 174) (fx (vup V 174 14 (.int (nI S))) (iup (iup (iup (iup I 264 g) 265 q) 186 A) 187 B) L R ++ tl) then am_cI true (fm_356 N (.ref 174) 7 (nI b) ((-1)) ((-1)) ((-1)) 0 (fx (vup V 174 14 (.int (nI S))) (iup (iup (iup (iup I 264 g) 265 q) 186 A) 187 B) L R ++ tl)) (fun v3 h4 => some (.inl (some (.int v3), h4))) else none) = o g q A B) : ∀ (m k K : Nat) (g q A B : Nat → Int32), k + m = 6 → m < K → stp val nxt m k = S → (∀ j, j < k → j < (bsK val nxt j).1) → bAr sz (bsK val nxt k) g q → mcG val nxt k A B → ∃ g' q' A' B', mcG val nxt S A' B' ∧ fg_582_128 N K (.ref 174) (nI b) (nI (bsK val nxt k).1) (nI k) (fx (vup V 174 14 (.int (nI k))) (iup (iup (iup (iup I 264 g) 265 q) 186 A) 187 B) L R ++ tl) = o g' q' A' B' := by
  have s6 := ho.2.1
  intro m
  induction m with
  | zero =>
    intro k K g q A B hk hK hS hj hA hG
    obtain ⟨K, rfl⟩ : ∃ k, K = k + 1 := ⟨K - 1, by omega⟩
    have bl := b_le (bsK_ok (val := val) ho k hj)
    obtain rfl : k = S := hS
    refine ⟨g, q, A, B, hG, ?_⟩
    rw [fg_582_128]
    exact ev_t (nI_le (by omega) (by omega)) (hO g q A B hG)
  | succ m ih =>
    intro k K g q A B hk hK hS hj hA hG
    obtain ⟨K, rfl⟩ : ∃ k, K = k + 1 := ⟨K - 1, by omega⟩
    have bi := bsK_ok (val := val) ho k hj
    have bl := b_le bi
    by_cases c : (bsK val nxt k).1 ≤ k
    · have e : stp val nxt (m + 1) k = k := by rw [stp, if_pos c]
      obtain rfl : k = S := e.symm.trans hS
      refine ⟨g, q, A, B, hG, ?_⟩
      rw [fg_582_128]
      exact ev_t (nI_le c (by omega)) (hO g q A B hG)
    · have e : stp val nxt (m + 1) k = stp val nxt m (k + 1) := by rw [stp, if_neg c]
      have kl : k < (bsK val nxt k).1 := by omega
      obtain ⟨g1, q1, a1, a2⟩ := r_582e (V := V) (I := I) (L := L) (R := R) (tl := tl) (N := N) (k := k) (b := b) (st := bsK val nxt k) (A := A) (B := B) (rc := fg_582_128 N K) ho hm bi kl hcl 4 0 N g q (by omega) (by omega) hA
      obtain ⟨g', q', A', B', b1, b2⟩ := ih (k + 1) K g1 q1 (upd A k (val ((bsK val nxt k).2.2 k))) (upd B k (nI (pkN val nxt k (bsK val nxt k) 4))) (by omega) (by omega) (e.symm.trans hS) (fun j hj2 => by
        by_cases e : j = k
        · rw [e]; exact kl
        · exact hj j (by omega)) a1 (fun i hi => by
        by_cases e : i = k
        · rw [e, upd_eq, upd_eq]; exact ⟨rfl, rfl⟩
        · rw [upd_ne e, upd_ne e]; exact hG i (by omega))
      refine ⟨g', q', A', B', b1, ?_⟩
      rw [fg_582_128]
      exact ev_f (nI_ge kl (by omega)) (a2.trans b2)
set_option maxRecDepth 100000 in
set_option maxHeartbeats 1600000 in
theorem r_582n {V : Nat → Nat → Value} {I : Nat → Nat → Int32} {L : Nat → Nat → Int64} {R : Nat → Nat → Option Nat} {tl : am_H} {N b : Nat} : ∀ (m k K : Nat) (g : Nat → Int32), k + m = 6 → m < K → (∀ j, j < k → g j = -1) → ∃ g' K', (∀ j, j < 6 → g' j = -1) ∧ fg_582_77 N K (.ref 174) (nI b) (nI k) (fx V (iup I 264 g) L R ++ tl) = fg_582_77 N (K' + 1) (.ref 174) (nI b) (nI 6) (fx V (iup I 264 g') L R ++ tl) := by
  intro m
  induction m with
  | zero =>
    intro k K g hk hK hg
    obtain ⟨K, rfl⟩ : ∃ k, K = k + 1 := ⟨K - 1, by omega⟩
    exact ⟨g, K, fun j hj => hg j (by omega), by rw [show k = 6 by omega]⟩
  | succ m ih =>
    intro k K g hk hK hg
    obtain ⟨K, rfl⟩ : ∃ k, K = k + 1 := ⟨K - 1, by omega⟩
    obtain ⟨g', K', h1, h2⟩ := ih (k + 1) K (upd g k (-1)) (by omega) (by omega) (fun j hj => by
      by_cases e : j = k
      · rw [e, upd_eq]
      · rw [upd_ne e]; exact hg j (by omega))
    refine ⟨g', K', h1, ?_⟩
    rw [← h2, fg_582_77]
    refine ev_f (nI_ge (b := 6) (by omega) (by decide)) (ev_b (a := Value.ref 264) rfl (ev_b (a := fx V (iup I 264 (upd g k (-1))) L R ++ tl) ((qs_264 (by omega)).trans (by rw [iup_eq, iup_iup])) ?_))
    rw [nI_1]
