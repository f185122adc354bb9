/-! ===== unr doesn't depend on its fuel; tasks ===== -/
theorem unr_fuel : ∀ n, n ≤ 12 → 1 ≤ n → ∀ (J J' c p : Nat), n ≤ J → n ≤ J' → c < 6 → p < uT c n → unr J c n p = unr J' c n p := by
  intro n
  induction n using Nat.strongRecOn with
  | _ n ih =>
    intro hn h1 J J' c p hJ hJ' hc hp
    obtain ⟨J, rfl⟩ : ∃ k, J = k + 1 := ⟨J - 1, by omega⟩
    obtain ⟨J', rfl⟩ : ∃ k, J' = k + 1 := ⟨J' - 1, by omega⟩
    obtain ⟨uc, ul⟩ := u_c h1 hn hc
    have hpk := pk_ok (c := c) (n := n) 20 0 p rfl (by rw [uc]; exact hp)
    have us := u_s h1 hn hc (s := (pk c n 20 0 p).1) (by omega) (by omega)
    rw [unr, unr]
    generalize hr : pk c n 20 0 p = r at hpk us
    obtain ⟨S, P⟩ := r
    simp only at hpk us ⊢
    obtain ⟨hS, hP⟩ := hpk
    obtain ⟨u0, u1, u2, u3, u4⟩ := us
    have hle := ar_le S
    rcases (by omega : arN S = 0 ∨ arN S = 1 ∨ arN S = 2 ∨ arN S = 3) with k | k | k | k
    · rw [if_pos k, if_pos k]
    · rw [if_neg (show ¬ arN S = 0 by omega), if_pos k, if_neg (show ¬ arN S = 0 by omega), if_pos k]
      obtain ⟨hn2, hu⟩ := u2 k
      rw [ih (n - 1) (by omega) (by omega) (by omega) J J' _ P (by omega) (by omega) (pc_lt hc) (by omega)]
    · rw [if_neg (show ¬ arN S = 0 by omega), if_neg (show ¬ arN S = 1 by omega), if_pos k, if_neg (show ¬ arN S = 0 by omega), if_neg (show ¬ arN S = 1 by omega), if_pos k]
      obtain ⟨hn3, hu⟩ := u3 k
      have q := pk2_ok (a := pcN c S 0) (b := pcN c S 1) (M := n - 1) (n - 2) 1 P (by omega) (by omega) (by omega)
      generalize hg2 : pk2 (pcN c S 0) (pcN c S 1) (n - 1) (n - 2) 1 P = r at q
      obtain ⟨F, Q⟩ := r
      simp only at q ⊢
      obtain ⟨q1, q2, q3⟩ := q
      rw [ih F (by omega) (by omega) q1 J J' _ _ (by omega) (by omega) (pc_lt hc) (div_lt2 q3), ih (n - 1 - F) (by omega) (by omega) (by omega) J J' _ _ (by omega) (by omega) (pc_lt hc) (Nat.mod_lt _ (pos_r q3))]
    · rw [if_neg (show ¬ arN S = 0 by omega), if_neg (show ¬ arN S = 1 by omega), if_neg (show ¬ arN S = 2 by omega), if_neg (show ¬ arN S = 0 by omega), if_neg (show ¬ arN S = 1 by omega), if_neg (show ¬ arN S = 2 by omega)]
      obtain ⟨hn4, hu⟩ := u4 k
      have q := pk3_ok (a := pcN c S 0) (b := pcN c S 1) (M := n - 1) (n - 3) 1 P (by omega) (by omega) (by omega)
      generalize hg3 : pk3 (pcN c S 0) (pcN c S 1) (n - 1) (n - 3) 1 P = r at q
      obtain ⟨F, G, Q⟩ := r
      simp only at q ⊢
      obtain ⟨q1, q2, q3, q4⟩ := q
      have hpu := pos_r q4
      have hpt := pos_r (Nat.mod_lt Q hpu)
      rw [ih F (by omega) (by omega) q1 J J' _ _ (by omega) (by omega) (pc_lt hc) (div_lt2 q4), ih G (by omega) (by omega) q2 J J' _ _ (by omega) (by omega) (pc_lt hc) (div_lt2 (Nat.mod_lt Q hpu)), ih (n - 1 - F - G) (by omega) (by omega) (by omega) J J' _ _ (by omega) (by omega) (pc_lt hc) (Nat.mod_lt _ hpt)]
/-- the tree with a place -/
def un (c n p : Nat) : List (Nat × Nat) := unr n c n p
theorem un_of {J c n p : Nat} (hn : n ≤ 12) (h1 : 1 ≤ n) (hJ : n ≤ J) (hc : c < 6) (hp : p < uT c n) : unr J c n p = un c n p := unr_fuel n hn h1 J n c p hJ (Nat.le_refl _) hc hp
/-- what is still to be grown: contexts, sizes, places, the next one first -/
def tun : List (Nat × Nat × Nat) → List (Nat × Nat)
  | [] => []
  | x :: r => un x.1 x.2.1 x.2.2 ++ tun r
def tsum : List (Nat × Nat × Nat) → Nat
  | [] => 0
  | x :: r => x.2.1 + tsum r
def tok : List (Nat × Nat × Nat) → Prop
  | [] => True
  | x :: r => x.1 < 6 ∧ 1 ≤ x.2.1 ∧ x.2.1 ≤ 12 ∧ x.2.2 < uT x.1 x.2.1 ∧ tok r
theorem tun_app : ∀ l r, tun (l ++ r) = tun l ++ tun r := by
  intro l
  induction l with
  | nil => intro r; rfl
  | cons x l ih => intro r; show un _ _ _ ++ tun (l ++ r) = (un _ _ _ ++ tun l) ++ tun r; rw [ih, List.append_assoc]
theorem tsum_app : ∀ l r, tsum (l ++ r) = tsum l + tsum r := by
  intro l
  induction l with
  | nil => intro r; show tsum r = 0 + tsum r; omega
  | cons x l ih => intro r; show x.2.1 + tsum (l ++ r) = (x.2.1 + tsum l) + tsum r; rw [ih]; omega
theorem tok_app : ∀ {l r}, tok l → tok r → tok (l ++ r) := by
  intro l
  induction l with
  | nil => intro r _ h; exact h
  | cons x l ih => intro r h h2; exact ⟨h.1, h.2.1, h.2.2.1, h.2.2.2.1, ih h.2.2.2.2 h2⟩
theorem tok_len : ∀ {l}, tok l → l.length ≤ tsum l := by
  intro l
  induction l with
  | nil => intro _; exact Nat.le_refl _
  | cons x l ih => intro h; have := ih h.2.2.2.2; have := h.2.1; show l.length + 1 ≤ x.2.1 + tsum l; omega
/-- the parts of a tree, by the sort of its first node and what is left -/
def prt (c n S P : Nat) : List (Nat × Nat × Nat) :=
  if arN S = 0 then [] else if arN S = 1 then [(pcN c S 0, n - 1, P)]
  else if arN S = 2 then (fun a b (r : Nat × Nat) => [(a, r.1, r.2 / uT b (n - 1 - r.1)), (b, n - 1 - r.1, r.2 % uT b (n - 1 - r.1))]) (pcN c S 0) (pcN c S 1) (pk2 (pcN c S 0) (pcN c S 1) (n - 1) (n - 2) 1 P)
  else (fun a b (r : Nat × Nat × Nat) => [(a, r.1, r.2.2 / (uT b r.2.1 * uT b (n - 1 - r.1 - r.2.1))), (b, r.2.1, r.2.2 % (uT b r.2.1 * uT b (n - 1 - r.1 - r.2.1)) / uT b (n - 1 - r.1 - r.2.1)), (b, n - 1 - r.1 - r.2.1, r.2.2 % uT b (n - 1 - r.1 - r.2.1))]) (pcN c S 0) (pcN c S 1) (pk3 (pcN c S 0) (pcN c S 1) (n - 1) (n - 3) 1 P)
theorem un_prt {c n p : Nat} (hn : n ≤ 12) (h1 : 1 ≤ n) (hc : c < 6) (hp : p < uT c n) : un c n p = ((pk c n 20 0 p).1, if (pk c n 20 0 p).1 = 0 then (pk c n 20 0 p).2 else 0) :: tun (prt c n (pk c n 20 0 p).1 (pk c n 20 0 p).2) ∧ tok (prt c n (pk c n 20 0 p).1 (pk c n 20 0 p).2) ∧ tsum (prt c n (pk c n 20 0 p).1 (pk c n 20 0 p).2) + 1 = n ∧ (pk c n 20 0 p).1 ≤ 20 ∧ (pk c n 20 0 p).2 < uW c (pk c n 20 0 p).1 n := by
  obtain ⟨uc, ul⟩ := u_c h1 hn hc
  have hpk := pk_ok (c := c) (n := n) 20 0 p rfl (by rw [uc]; exact hp)
  have us := u_s h1 hn hc (s := (pk c n 20 0 p).1) (by omega) (by omega)
  obtain ⟨J, hJ⟩ : ∃ k, n = k + 1 := ⟨n - 1, by omega⟩
  unfold un
  rw [show unr n c n p = unr (J + 1) c n p by rw [← hJ], unr]
  unfold prt
  generalize hr : pk c n 20 0 p = r at hpk us
  obtain ⟨S, P⟩ := r
  simp only at hpk us ⊢
  obtain ⟨hS, hP⟩ := hpk
  obtain ⟨u0, u1, u2, u3, u4⟩ := us
  have hle := ar_le S
  rcases (by omega : arN S = 0 ∨ arN S = 1 ∨ arN S = 2 ∨ arN S = 3) with k | k | k | k
  · rw [if_pos k, if_pos k]
    exact ⟨rfl, trivial, by have := (u1 k).1; show 0 + 1 = n; omega, hS, hP⟩
  · rw [if_neg (show ¬ arN S = 0 by omega), if_pos k, if_neg (show ¬ arN S = 0 by omega), if_pos k]
    obtain ⟨hn2, hu⟩ := u2 k
    refine ⟨?_, ⟨pc_lt hc, by show 1 ≤ n - 1; omega, by show n - 1 ≤ 12; omega, by show P < uT (pcN c S 0) (n - 1); omega, trivial⟩, by show n - 1 + 0 + 1 = n; omega, hS, hP⟩
    rw [un_of (by omega) (by omega) (by omega) (pc_lt hc) (by omega : P < uT (pcN c S 0) (n - 1))]
    show _ = _ :: (un _ _ _ ++ [])
    rw [List.append_nil]
  · rw [if_neg (show ¬ arN S = 0 by omega), if_neg (show ¬ arN S = 1 by omega), if_pos k, if_neg (show ¬ arN S = 0 by omega), if_neg (show ¬ arN S = 1 by omega), if_pos k]
    obtain ⟨hn3, hu⟩ := u3 k
    have q := pk2_ok (a := pcN c S 0) (b := pcN c S 1) (M := n - 1) (n - 2) 1 P (by omega) (by omega) (by omega)
    generalize hg2 : pk2 (pcN c S 0) (pcN c S 1) (n - 1) (n - 2) 1 P = r at q
    obtain ⟨F, Q⟩ := r
    simp only at q ⊢
    obtain ⟨q1, q2, q3⟩ := q
    refine ⟨?_, ⟨pc_lt hc, q1, by show F ≤ 12; omega, div_lt2 q3, pc_lt hc, by show 1 ≤ n - 1 - F; omega, by show n - 1 - F ≤ 12; omega, Nat.mod_lt _ (pos_r q3), trivial⟩, by show F + (n - 1 - F + 0) + 1 = n; omega, hS, hP⟩
    rw [un_of (by omega) q1 (by omega) (pc_lt hc) (div_lt2 q3), un_of (by omega) (by omega) (by omega) (pc_lt hc) (Nat.mod_lt _ (pos_r q3))]
    show _ = _ :: (un _ _ _ ++ (un _ _ _ ++ []))
    rw [List.append_nil]
  · rw [if_neg (show ¬ arN S = 0 by omega), if_neg (show ¬ arN S = 1 by omega), if_neg (show ¬ arN S = 2 by omega), if_neg (show ¬ arN S = 0 by omega), if_neg (show ¬ arN S = 1 by omega), if_neg (show ¬ arN S = 2 by omega)]
    obtain ⟨hn4, hu⟩ := u4 k
    have q := pk3_ok (a := pcN c S 0) (b := pcN c S 1) (M := n - 1) (n - 3) 1 P (by omega) (by omega) (by omega)
    generalize hg3 : pk3 (pcN c S 0) (pcN c S 1) (n - 1) (n - 3) 1 P = r at q
    obtain ⟨F, G, Q⟩ := r
    simp only at q ⊢
    obtain ⟨q1, q2, q3, q4⟩ := q
    have hpu := pos_r q4
    have hpt := pos_r (Nat.mod_lt Q hpu)
    refine ⟨?_, ⟨pc_lt hc, q1, by show F ≤ 12; omega, div_lt2 q4, pc_lt hc, q2, by show G ≤ 12; omega, div_lt2 (Nat.mod_lt Q hpu), pc_lt hc, by show 1 ≤ n - 1 - F - G; omega, by show n - 1 - F - G ≤ 12; omega, Nat.mod_lt _ hpt, trivial⟩, by show F + (G + (n - 1 - F - G + 0)) + 1 = n; omega, hS, hP⟩
    rw [un_of (by omega) q1 (by omega) (pc_lt hc) (div_lt2 q4), un_of (by omega) q2 (by omega) (pc_lt hc) (div_lt2 (Nat.mod_lt Q hpu)), un_of (by omega) (by omega) (by omega) (pc_lt hc) (Nat.mod_lt _ hpt)]
    show _ = _ :: (un _ _ _ ++ (un _ _ _ ++ (un _ _ _ ++ [])))
    rw [List.append_nil]
