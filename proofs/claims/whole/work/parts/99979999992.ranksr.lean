/-! ===== ranks in the reference ===== -/
def srtd (bt : Nat → Nat → Bool) (x : Nat) (g : Nat → Nat) : Prop := (∀ k, k < x → g k < x) ∧ ∀ k l, k < l → l < x → bt (g k) (g l) = true
def insO (g : Nat → Nat) (x j : Nat) : Nat → Nat := fun k => if k < j then g k else if k = j then x else g (k - 1)
theorem srtd_ins {bt : Nat → Nat → Bool} {x j : Nat} {g : Nat → Nat} (hs : sto bt) (h : srtd bt x g) (hj : j ≤ x) (h1 : ∀ k, j ≤ k → k < x → bt x (g k) = true) (h2 : ∀ k, k < j → bt (g k) x = true) : srtd bt (x + 1) (insO g x j) := by
  obtain ⟨a, b⟩ := h
  refine ⟨fun k hk => ?_, fun k l hkl hl => ?_⟩
  · unfold insO
    by_cases c1 : k < j
    · rw [if_pos c1]; have := a k (by omega); omega
    · rw [if_neg c1]
      by_cases c2 : k = j
      · rw [if_pos c2]; omega
      · rw [if_neg c2]; have := a (k - 1) (by omega); omega
  · unfold insO
    by_cases c1 : l < j
    · rw [if_pos c1, if_pos (by omega)]; exact b k l hkl (by omega)
    · rw [if_neg c1]
      by_cases c2 : l = j
      · rw [if_pos c2, if_pos (by omega)]; exact h2 k (by omega)
      · rw [if_neg c2]
        by_cases d1 : k < j
        · rw [if_pos d1]; exact b k (l - 1) (by omega) (by omega)
        · rw [if_neg d1]
          by_cases d2 : k = j
          · rw [if_pos d2]; exact h1 (l - 1) (by omega) (by omega)
          · rw [if_neg d2]; exact b (k - 1) (l - 1) (by omega) (by omega)
theorem inc_id {h : Nat → Nat} {c : Nat} (hb : ∀ k, k < c → h k < c) (hi : ∀ k l, k < l → l < c → h k < h l) : ∀ k, k < c → h k = k := by
  have lo : ∀ k, k < c → k ≤ h k := by
    intro k
    induction k with
    | zero => intro _; omega
    | succ k ih => intro hk; have := ih (by omega); have := hi k (k + 1) (by omega) hk; omega
  have up : ∀ m k, k + m + 1 = c → h k ≤ k := by
    intro m
    induction m with
    | zero => intro k hk; have := hb k (by omega); omega
    | succ m ih => intro k hk; have := ih (k + 1) (by omega); have := hi k (k + 1) (by omega) (by omega); omega
  intro k hk
  have a := lo k hk
  have b := up (c - 1 - k) k (by omega)
  omega
/-- a sorted row holds each at the number of those ahead -/
theorem srtd_ah {bt : Nat → Nat → Bool} {c : Nat} {g : Nat → Nat} (hs : sto bt) (h : srtd bt c g) : ∀ k, k < c → ahN bt c (g k) = k := inc_id (h := fun k => ahN bt c (g k)) (fun k hk => ah_b hs (h.1 k hk)) (fun k l hkl hl => ah_lt hs (h.1 k (by omega)) (h.2 k l hkl hl))
set_option maxRecDepth 100000 in
set_option maxHeartbeats 4000000 in
theorem r_507i {V : Nat → Nat → Value} {L : Nat → Nat → Int64} {R : Nat → Nat → Option Nat} {tl : am_H} {I0 : Nat → Nat → Int32} {N c x : Nat} {g : Nat → Nat} {bt : Nat → Nat → Bool} {rc : Value → Int32 → am_H → Option am_O} (hs : sto bt) (hc : c ≤ 16) (hx : x < c) (hg : srtd bt x g) (h508 : ∀ (F : Nat → Int32) p q, p < c → q < c → fm_508 (.ref 174) (nI p) (nI q) (fx V (iup I0 243 F) L R ++ tl) = some (.inl (some (.int (nI (bt p q).toNat)), fx V (iup I0 243 F) L R ++ tl))) : ∀ (j K : Nat) (F : Nat → Int32), j ≤ x → j < K → (∀ k, k < j → F k = nI (g k)) → (∀ k, j ≤ k → k < x → F (k + 1) = nI (g k) ∧ bt x (g k) = true) → ∃ G g', fg_507_12 N rc K (.ref 174) (nI x) (nI j) (fx V (iup I0 243 F) L R ++ tl) = rc (.ref 174) (nI (x + 1)) (fx V (iup I0 243 G) L R ++ tl) ∧ srtd bt (x + 1) g' ∧ ∀ k, k < x + 1 → G k = nI (g' k) := by
  have put : ∀ (j : Nat) (F : Nat → Int32), j ≤ x → (∀ k, k < j → F k = nI (g k)) → (∀ k, j ≤ k → k < x → F (k + 1) = nI (g k) ∧ bt x (g k) = true) → (∀ k, k < j → bt (g k) x = true) → ∃ G g', fg_507_52 N rc (.ref 174) (nI x) (nI j) (fx V (iup I0 243 F) L R ++ tl) = rc (.ref 174) (nI (x + 1)) (fx V (iup I0 243 G) L R ++ tl) ∧ srtd bt (x + 1) g' ∧ ∀ k, k < x + 1 → G k = nI (g' k) := fun j F hj h1 h2 h3 => by
    refine ⟨upd F j (nI x), insO g x j, ?_, srtd_ins hs hg hj (fun k a b => (h2 k a b).2) h3, fun k hk => ?_⟩
    · unfold fg_507_52
      refine ev_b (rdR rfl) (ev_b (qs_243 (by omega)) ?_)
      rw [iup_2, iup_eq, nI_1]
    · unfold insO
      by_cases c1 : k < j
      · rw [if_pos c1, upd_ne (by omega)]; exact h1 k c1
      · rw [if_neg c1]
        by_cases c2 : k = j
        · rw [if_pos c2, c2]; exact upd_eq
        · rw [if_neg c2, upd_ne c2]
          have := (h2 (k - 1) (by omega) (by omega)).1
          rw [show k - 1 + 1 = k by omega] at this
          exact this
  intro j
  induction j with
  | zero =>
    intro K F hj hK h1 h2
    obtain ⟨K, rfl⟩ : ∃ k, K = k + 1 := ⟨K - 1, by omega⟩
    obtain ⟨G, g', e, r1, r2⟩ := put 0 F hj h1 h2 (fun k hk => absurd hk (by omega))
    refine ⟨G, g', ?_, r1, r2⟩
    rw [fg_507_12]
    exact ev_t (by decide) e
  | succ j ih =>
    intro K F hj hK h1 h2
    obtain ⟨K, rfl⟩ : ∃ k, K = k + 1 := ⟨K - 1, by omega⟩
    have gj := hg.1 j (by omega)
    have rd : am_pA 0 (.ref 243) (nI (j + 1) - 1) (fx V (iup I0 243 F) L R ++ tl) = some (nI (g j)) := by
      rw [show nI (j + 1) - 1 = nI j from nI_sub (b := 1) (by omega)]
      exact (qa_243 (by omega)).trans (by rw [iup_eq, h1 j (by omega)])
    cases b : bt x (g j) with
    | false =>
      have bj : bt (g j) x = true := by
        rcases hs.2.2 x (g j) (by omega) with u | u
        · rw [b] at u; exact absurd u (by decide)
        · exact u
      obtain ⟨G, g', e, r1, r2⟩ := put (j + 1) F hj h1 h2 (fun k hk => by
        by_cases z : k = j
        · rw [z]; exact bj
        · exact hs.2.1 _ _ _ (hg.2 k j (by omega) (by omega)) bj)
      refine ⟨G, g', ?_, r1, r2⟩
      rw [fg_507_12]
      refine ev_f (nI_nle (by omega) (by omega)) (ev_b (rdR rfl) (ev_b rd (ev_i rfl (ev_cI (h508 F x (g j) hx (by omega)) ?_))))
      rw [b]
      exact ev_t rfl e
    | true =>
      obtain ⟨G, g', e, r1, r2⟩ := ih K (upd F (j + 1) (nI (g j))) (by omega) (by omega) (fun k hk => by rw [upd_ne (by omega)]; exact h1 k (by omega)) (fun k a d => by
        by_cases z : k = j
        · subst z; exact ⟨upd_eq, b⟩
        · rw [upd_ne (by omega)]; exact h2 k (by omega) d)
      refine ⟨G, g', ?_, r1, r2⟩
      rw [fg_507_12]
      refine ev_f (nI_nle (by omega) (by omega)) (ev_b (rdR rfl) (ev_b rd (ev_i rfl (ev_cI (h508 F x (g j) hx (by omega)) ?_))))
      rw [b]
      refine ev_f (by decide) (ev_b (rdR rfl) (ev_b (rdR rfl) (ev_b rd (ev_b (qs_243 (by omega)) ?_))))
      rw [iup_2, iup_eq, nI_m1]
      exact e
set_option maxRecDepth 100000 in
set_option maxHeartbeats 4000000 in
theorem r_507l {V : Nat → Nat → Value} {L : Nat → Nat → Int64} {R : Nat → Nat → Option Nat} {tl : am_H} {I0 : Nat → Nat → Int32} {N c : Nat} {bt : Nat → Nat → Bool} (hN : 100 < N) (hs : sto bt) (hc : c ≤ 16) (h5 : V 174 105 = .int (nI c)) (h508 : ∀ (F : Nat → Int32) p q, p < c → q < c → fm_508 (.ref 174) (nI p) (nI q) (fx V (iup I0 243 F) L R ++ tl) = some (.inl (some (.int (nI (bt p q).toNat)), fx V (iup I0 243 F) L R ++ tl))) : ∀ (m x K : Nat) (F : Nat → Int32) (g : Nat → Nat), x + m = c → m < K → srtd bt x g → (∀ k, k < x → F k = nI (g k)) → ∃ G g', fg_507_2 N K (.ref 174) (nI x) (fx V (iup I0 243 F) L R ++ tl) = some (.inl (none, fx V (iup I0 243 G) L R ++ tl)) ∧ srtd bt c g' ∧ ∀ k, k < c → G k = nI (g' k) := by
  intro m
  induction m with
  | zero =>
    intro x K F g hx hK hg h
    obtain ⟨K, rfl⟩ : ∃ k, K = k + 1 := ⟨K - 1, by omega⟩
    obtain rfl : x = c := by omega
    refine ⟨F, g, ?_, hg, h⟩
    rw [fg_507_2]
    exact ev_b (rdI h5) (ev_t (nI_le (Nat.le_refl _) (by omega)) rfl)
  | succ m ih =>
    intro x K F g hx hK hg h
    obtain ⟨K, rfl⟩ : ∃ k, K = k + 1 := ⟨K - 1, by omega⟩
    obtain ⟨G, g', e, r1, r2⟩ := r_507i (V := V) (L := L) (R := R) (tl := tl) (I0 := I0) (N := N) (x := x) (rc := fg_507_2 N K) hs hc (by omega) hg h508 x N F (Nat.le_refl _) (by omega) h (fun k a b => absurd b (by omega))
    obtain ⟨G2, g2, e2, s1, s2⟩ := ih (x + 1) K G g' (by omega) (by omega) r1 r2
    refine ⟨G2, g2, ?_, s1, s2⟩
    rw [fg_507_2]
    exact ev_b (rdI h5) (ev_f (nI_ge (by omega) (by omega)) (e.trans e2))
/-- both rows of ranks are one -/
theorem rk_same {bt : Nat → Nat → Bool} {c : Nat} {g : Nat → Nat} {F G : Nat → Int32} (hs : sto bt) (h : srtd bt c g) (hF : ∀ x, x < c → F (ahN bt c x) = nI x) (hG : ∀ k, k < c → G k = nI (g k)) : ∀ k, k < c → F k = G k ∧ g k < c := fun k hk => by
  have a := srtd_ah hs h k hk
  have b := hF (g k) (h.1 k hk)
  rw [a] at b
  exact ⟨b.trans (hG k hk).symm, h.1 k hk⟩
