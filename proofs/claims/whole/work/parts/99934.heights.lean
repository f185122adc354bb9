/-! ===== sound code, by its heights ===== -/
theorem rch_ok {sz q h : Nat} {g g' : Nat → Option Nat} (e : rch sz q h g = some g') : q ≤ sz ∧ (q = sz → h = 1) ∧ g' q = some h ∧ (∀ j y, g j = some y → g' j = some y) ∧ (∀ j y, g' j = some y → g j = some y ∨ j = q) := by
  unfold rch at e
  by_cases c1 : sz < q
  · rw [if_pos c1] at e; exact absurd e (by simp)
  rw [if_neg c1] at e
  by_cases c2 : q = sz ∧ h ≠ 1
  · rw [if_pos c2] at e; exact absurd e (by simp)
  rw [if_neg c2] at e
  refine ⟨by omega, fun e1 => ?_, ?_⟩
  · by_cases d : h = 1
    · exact d
    · exact absurd ⟨e1, d⟩ c2
  cases eg : g q with
  | none =>
    rw [eg] at e
    have e := Option.some.inj e
    subst e
    refine ⟨if_pos rfl, fun j y hy => ?_, fun j y hy => ?_⟩
    · by_cases d : j = q
      · subst d; rw [eg] at hy; exact absurd hy (by simp)
      · dsimp only; rw [if_neg d]; exact hy
    · by_cases d : j = q
      · exact .inr d
      · dsimp only at hy; rw [if_neg d] at hy; exact .inl hy
  | some z =>
    rw [eg] at e
    dsimp only at e
    by_cases c3 : z = h
    · rw [if_pos c3] at e
      have e := Option.some.inj e
      subst e
      exact ⟨by rw [eg, c3], fun j y hy => hy, fun j y hy => .inl hy⟩
    · rw [if_neg c3] at e; exact absurd e (by simp)
theorem rch_y {sz q h : Nat} {g : Nat → Option Nat} (h1 : q ≤ sz) (h2 : q = sz → h = 1) (h3 : ∀ y, g q = some y → y = h) : ∃ g', rch sz q h g = some g' := by
  unfold rch
  rw [if_neg (by omega), if_neg (fun e => e.2 (h2 e.1))]
  cases eg : g q with
  | none => exact ⟨_, rfl⟩
  | some z =>
    dsimp only
    rw [if_pos (h3 z eg)]
    exact ⟨_, rfl⟩
/-- an instruction leads to a place -/
def ldsT (P : xI) (i j : Nat) : Prop := i + 1 = j ∧ sN (srt P i) ≠ 17 ∨ 17 ≤ sN (srt P i) ∧ i + 1 + sN (vlu P i) = j
def hN2 (P : xI) (i h : Nat) : Nat := h - tkN (sN (srt P i)) + ptN (sN (srt P i))
def stpO (P : xI) (g : Nat → Option Nat) (i : Nat) : Prop := ∃ h, g i = some h ∧ tkN (sN (srt P i)) ≤ h ∧ hN2 P i h ≤ 8 ∧ ∀ j, ldsT P i j → j ≤ P.length ∧ g j = some (hN2 P i h) ∧ (j = P.length → hN2 P i h = 1)
theorem cdX_f {P : xI} : ∀ (m k : Nat) (g0 g : Nat → Option Nat), k + m = P.length → cdX P m k g0 = .inr g → (∀ j y, g0 j = some y → g j = some y) ∧ (∀ i, k ≤ i → i < P.length → stpO P g i) ∧ (∀ j y, g j = some y → g0 j = some y ∨ ∃ i, k ≤ i ∧ i < P.length ∧ ldsT P i j) := by
  intro m
  induction m with
  | zero =>
    intro k g0 g hk e
    rw [cdX] at e
    injection e with e
    subst e
    exact ⟨fun j y h => h, fun i a b => by omega, fun j y h => .inl h⟩
  | succ m ih =>
    intro k g0 g hk e
    rw [cdX] at e
    cases eg : g0 k with
    | none => rw [eg] at e; exact absurd e (by simp)
    | some h =>
      rw [eg] at e
      dsimp only at e
      by_cases c1 : h < tkN (sN (srt P k))
      · rw [if_pos c1] at e; exact absurd e (by simp)
      rw [if_neg c1] at e
      by_cases c2 : 8 < h - tkN (sN (srt P k)) + ptN (sN (srt P k))
      · rw [if_pos c2] at e; exact absurd e (by simp)
      rw [if_neg c2] at e
      cases e1 : (if sN (srt P k) = 17 then some g0 else rch P.length (k + 1) (h - tkN (sN (srt P k)) + ptN (sN (srt P k))) g0) with
      | none => rw [e1] at e; exact absurd e (by simp)
      | some g1 =>
        rw [e1] at e
        dsimp only at e
        cases e2 : (if sN (srt P k) < 17 then some g1 else rch P.length (k + 1 + sN (vlu P k)) (h - tkN (sN (srt P k)) + ptN (sN (srt P k))) g1) with
        | none => rw [e2] at e; exact absurd e (by simp)
        | some g2 =>
          rw [e2] at e
          dsimp only at e
          obtain ⟨i1, i2, i3⟩ := ih (k + 1) g2 g (by omega) e
          have a1 : (∀ j y, g0 j = some y → g1 j = some y) ∧ (∀ j y, g1 j = some y → g0 j = some y ∨ ldsT P k j) ∧ (sN (srt P k) ≠ 17 → k + 1 ≤ P.length ∧ (k + 1 = P.length → hN2 P k h = 1) ∧ g1 (k + 1) = some (hN2 P k h)) := by
            by_cases c : sN (srt P k) = 17
            · rw [if_pos c] at e1
              have e1 := Option.some.inj e1
              subst e1
              exact ⟨fun j y h => h, fun j y h => .inl h, fun n => absurd c n⟩
            · rw [if_neg c] at e1
              obtain ⟨b1, b2, b3, b4, b5⟩ := rch_ok e1
              exact ⟨b4, fun j y h => (b5 j y h).imp id (fun e => .inl ⟨e.symm, c⟩), fun _ => ⟨b1, b2, b3⟩⟩
          have a2 : (∀ j y, g1 j = some y → g2 j = some y) ∧ (∀ j y, g2 j = some y → g1 j = some y ∨ ldsT P k j) ∧ (17 ≤ sN (srt P k) → k + 1 + sN (vlu P k) ≤ P.length ∧ (k + 1 + sN (vlu P k) = P.length → hN2 P k h = 1) ∧ g2 (k + 1 + sN (vlu P k)) = some (hN2 P k h)) := by
            by_cases c : sN (srt P k) < 17
            · rw [if_pos c] at e2
              have e2 := Option.some.inj e2
              subst e2
              exact ⟨fun j y h => h, fun j y h => .inl h, fun n => by omega⟩
            · rw [if_neg c] at e2
              obtain ⟨b1, b2, b3, b4, b5⟩ := rch_ok e2
              exact ⟨b4, fun j y h => (b5 j y h).imp id (fun e => .inr ⟨by omega, e.symm⟩), fun _ => ⟨b1, b2, b3⟩⟩
          refine ⟨fun j y hy => i1 j y (a2.1 j y (a1.1 j y hy)), fun i hi hl => ?_, fun j y hy => ?_⟩
          · by_cases c : i = k
            · subst c
              refine ⟨h, i1 i h (a2.1 i h (a1.1 i h eg)), by omega, by unfold hN2; omega, fun j hj => ?_⟩
              rcases hj with ⟨d1, d2⟩ | ⟨d1, d2⟩
              · obtain ⟨x1, x2, x3⟩ := a1.2.2 d2
                subst d1
                exact ⟨x1, i1 _ _ (a2.1 _ _ x3), x2⟩
              · obtain ⟨x1, x2, x3⟩ := a2.2.2 d1
                subst d2
                exact ⟨x1, i1 _ _ x3, x2⟩
            · exact i2 i (by omega) hl
          · rcases i3 j y hy with h1 | ⟨i, x1, x2, x3⟩
            · rcases a2.2.1 j y h1 with h2 | h2
              · rcases a1.2.1 j y h2 with h3 | h3
                · exact .inl h3
                · exact .inr ⟨k, Nat.le_refl _, by omega, h3⟩
              · exact .inr ⟨k, Nat.le_refl _, by omega, h2⟩
            · exact .inr ⟨i, by omega, x2, x3⟩
/-- what code has besides its heights -/
def vlC (P : xI) : Prop := ∀ k, k < P.length → (sN (srt P k) = 0 → two (vlu P k)) ∧ (sN (srt P k) ≠ 0 → sN (srt P k) < 17 → vlu P k = 0)
theorem sN_nI {a : Nat} (h : a < 2 ^ 31) : sN (nI a) = a := nI_clamp h
theorem snd_code {P : xI} {g : Nat → Option Nat} {s v : Nat → Int32} (hc : okI P) (hv : vlC P) (h1 : 1 ≤ P.length) (h60 : P.length ≤ 60) (e : cdX P P.length 0 g00 = .inr g) (hl : lay2 s v P) : sound 1 0 P.length s v := by
  obtain ⟨f1, f2, f3⟩ := cdX_f P.length 0 g00 g (by omega) e
  have g0 : g 0 = some 0 := f1 0 0 rfl
  refine ⟨by omega, h60, fun _ => ⟨h1, rfl⟩, fun h => absurd h (by decide), fun _ => ?_, fun h => absurd h (by decide), fun h => absurd h (by decide)⟩
  have gz : g P.length = some 1 := by
    obtain ⟨h, x1, x2, x3, x4⟩ := f2 (P.length - 1) (by omega) (by omega)
    by_cases c : sN (srt P (P.length - 1)) = 17
    · obtain ⟨y1, y2, y3⟩ := x4 (P.length - 1 + 1 + sN (vlu P (P.length - 1))) (.inr ⟨by omega, rfl⟩)
      have z : P.length - 1 + 1 + sN (vlu P (P.length - 1)) = P.length := by omega
      rw [z] at y2 y3
      rw [y2, y3 rfl]
    · obtain ⟨y1, y2, y3⟩ := x4 (P.length - 1 + 1) (.inl ⟨rfl, c⟩)
      have z : P.length - 1 + 1 = P.length := by omega
      rw [z] at y2 y3
      rw [y2, y3 rfl]
  have gs : ∀ j, j ≤ P.length → ∃ h, g j = some h := fun j hj => by
    by_cases c : j = P.length
    · exact ⟨1, by rw [c]; exact gz⟩
    · obtain ⟨h, x1, -⟩ := f2 j (by omega) (by omega)
      exact ⟨h, x1⟩
  refine ⟨fun k => sN (srt P k), fun k => sN (vlu P k), fun j => (g j).getD 0, ⟨by dsimp only; rw [g0]; rfl, fun k k1 k2 => ?_⟩, by dsimp only; rw [gz]; rfl, fun k hk => ?_⟩
  · obtain ⟨h, hh⟩ := gs k k2
    rcases f3 k h hh with h0 | ⟨i, i1, i2, i3⟩
    · unfold g00 at h0
      rw [if_neg (by omega)] at h0
      exact absurd h0 (by simp)
    · rcases i3 with ⟨d1, d2⟩ | ⟨d1, d2⟩
      · exact ⟨i, by omega, .inl ⟨d1, d2⟩⟩
      · exact ⟨i, by omega, .inr ⟨d1, d2⟩⟩
  · obtain ⟨a1, a2, a3⟩ := hc k hk
    obtain ⟨v1, v2⟩ := hv k hk
    obtain ⟨l1, l2⟩ := hl k _ (srt_at hk)
    obtain ⟨h, x1, x2, x3, x4⟩ := f2 k (by omega) hk
    dsimp only
    dsimp only at l1 l2
    rw [l1, l2]
    refine ⟨a2, a1, v1, fun n0 => ?_, fun n1 n0 => ?_, ?_, ?_, fun n => ?_, fun n => ?_⟩
    · by_cases c : sN (srt P k) < 17
      · rw [v2 n0 c]
        exact ⟨rfl, by decide⟩
      · obtain ⟨b1, b2⟩ := a3 (by omega)
        refine ⟨b1, ?_⟩
        have := (x4 _ (.inr ⟨by omega, rfl⟩)).1
        omega
    · rw [v2 n0 n1]; rfl
    · rw [x1]; exact x2
    · rw [x1]; exact x3
    · have y := x4 (k + 1) (.inl ⟨rfl, n⟩)
      rw [y.2.1, x1]
      rfl
    · have y := x4 _ (.inr ⟨n, rfl⟩)
      rw [y.2.1, x1]
      exact ⟨y.1, rfl⟩
/-- sound code passes -/
theorem cdX_b {P : xI} {ht : Nat → Nat} (h0 : ht 0 = 0) (hz : ht P.length = 1) (hr : ∀ k, 1 ≤ k → k ≤ P.length → ∃ p, p < k ∧ ldsT P p k) (hk : ∀ k, k < P.length → tkN (sN (srt P k)) ≤ ht k ∧ hN2 P k (ht k) ≤ 8 ∧ ∀ j, ldsT P k j → j ≤ P.length ∧ ht j = hN2 P k (ht k)) : ∃ g, cdX P P.length 0 g00 = .inr g ∧ ∀ j, j ≤ P.length → g j = some (ht j) := by
  have key : ∀ (m k : Nat) (g : Nat → Option Nat), k + m = P.length → (∀ j y, g j = some y → y = ht j) → (∀ j, j ≤ P.length → (j = 0 ∨ ∃ p, p < k ∧ ldsT P p j) → g j = some (ht j)) → ∃ g', cdX P m k g = .inr g' ∧ ∀ j, j ≤ P.length → g' j = some (ht j) := by
    intro m
    induction m with
    | zero =>
      intro k g hm h1 h2
      refine ⟨g, rfl, fun j hj => h2 j hj ?_⟩
      by_cases c : j = 0
      · exact .inl c
      · obtain ⟨p, p1, p2⟩ := hr j (by omega) hj
        exact .inr ⟨p, by omega, p2⟩
    | succ m ih =>
      intro k g hm h1 h2
      have gk : g k = some (ht k) := h2 k (by omega) (by
        by_cases c : k = 0
        · exact .inl c
        · obtain ⟨p, p1, p2⟩ := hr k (by omega) (by omega)
          exact .inr ⟨p, p1, p2⟩)
      obtain ⟨t1, t2, t3⟩ := hk k (by omega)
      have t2' : ht k - tkN (sN (srt P k)) + ptN (sN (srt P k)) = hN2 P k (ht k) := rfl
      rw [cdX, gk]
      dsimp only
      rw [if_neg (by omega), t2', if_neg (by omega)]
      have s1 : ∃ g1, (if sN (srt P k) = 17 then some g else rch P.length (k + 1) (hN2 P k (ht k)) g) = some g1 ∧ (∀ j y, g1 j = some y → y = ht j) ∧ (∀ j y, g j = some y → g1 j = some y) ∧ (sN (srt P k) ≠ 17 → g1 (k + 1) = some (ht (k + 1))) := by
        by_cases c : sN (srt P k) = 17
        · rw [if_pos c]
          exact ⟨g, rfl, h1, fun j y h => h, fun n => absurd c n⟩
        · rw [if_neg c]
          obtain ⟨x1, x2⟩ := t3 (k + 1) (.inl ⟨rfl, c⟩)
          obtain ⟨g1, e1⟩ := rch_y (g := g) (h := hN2 P k (ht k)) x1 (fun e => by rw [← x2, e, hz]) (fun y hy => by rw [← x2]; exact h1 _ y hy)
          obtain ⟨b1, b2, b3, b4, b5⟩ := rch_ok e1
          refine ⟨g1, e1, fun j y hy => ?_, b4, fun _ => by rw [b3, x2]⟩
          rcases b5 j y hy with h | h
          · exact h1 j y h
          · rw [h] at hy ⊢
            rw [b3] at hy
            rw [← Option.some.inj hy, x2]
      obtain ⟨g1, e1, p1, p2, p3⟩ := s1
      rw [e1]
      dsimp only
      have s2 : ∃ g2, (if sN (srt P k) < 17 then some g1 else rch P.length (k + 1 + sN (vlu P k)) (hN2 P k (ht k)) g1) = some g2 ∧ (∀ j y, g2 j = some y → y = ht j) ∧ (∀ j y, g1 j = some y → g2 j = some y) ∧ (17 ≤ sN (srt P k) → g2 (k + 1 + sN (vlu P k)) = some (ht (k + 1 + sN (vlu P k)))) := by
        by_cases c : sN (srt P k) < 17
        · rw [if_pos c]
          exact ⟨g1, rfl, p1, fun j y h => h, fun n => by omega⟩
        · rw [if_neg c]
          obtain ⟨x1, x2⟩ := t3 (k + 1 + sN (vlu P k)) (.inr ⟨by omega, rfl⟩)
          obtain ⟨g2, e2⟩ := rch_y (g := g1) (h := hN2 P k (ht k)) x1 (fun e => by rw [← x2, e, hz]) (fun y hy => by rw [← x2]; exact p1 _ y hy)
          obtain ⟨b1, b2, b3, b4, b5⟩ := rch_ok e2
          refine ⟨g2, e2, fun j y hy => ?_, b4, fun _ => by rw [b3, x2]⟩
          rcases b5 j y hy with h | h
          · exact p1 j y h
          · rw [h] at hy ⊢
            rw [b3] at hy
            rw [← Option.some.inj hy, x2]
      obtain ⟨g2, e2, r1, r2, r3⟩ := s2
      rw [e2]
      refine ih (k + 1) g2 (by omega) r1 (fun j hj hc => ?_)
      rcases hc with hc | ⟨p, q1, q2⟩
      · exact r2 _ _ (p2 _ _ (h2 j hj (.inl hc)))
      · by_cases c : p = k
        · subst c
          rcases q2 with ⟨d1, d2⟩ | ⟨d1, d2⟩
          · subst d1; exact r2 _ _ (p3 d2)
          · subst d2; exact r3 d1
        · exact r2 _ _ (p2 _ _ (h2 j hj (.inr ⟨p, by omega, q2⟩)))
  refine key P.length 0 g00 (by omega) (fun j y h => ?_) (fun j hj hc => ?_)
  · unfold g00 at h
    by_cases c : j = 0
    · rw [if_pos c] at h
      rw [← Option.some.inj h, c, h0]
    · rw [if_neg c] at h
      exact absurd h (by simp)
  · rcases hc with hc | ⟨p, q1, -⟩
    · rw [hc, h0]; rfl
    · omega
/-! the numbers in a tree's code -/
theorem cOf_o {P : xT} {j : Nat} (h : P.length ≤ j) : ∀ n x, x ∈ cOf P n j → x = (0, 0) := by
  have e : P.getD j (0, 0) = (0, 0) := by rw [List.getD_eq_getElem?_getD, List.getElem?_eq_none h]; rfl
  intro n x hx
  cases n with
  | zero => rw [cOf] at hx; exact absurd hx (by simp)
  | succ n =>
    have e1 : xS P j = 0 := by unfold xS; rw [e]
    have e2 : xV P j = 0 := by unfold xV; rw [e]
    rw [cOf, e1, e2, if_pos (by omega)] at hx
    exact List.mem_singleton.mp hx
theorem cOf_v {P : xT} (ho : okP P) : ∀ (n k : Nat), k < P.length → ∀ x, x ∈ cOf P n k → x.1 ≤ 18 ∧ (17 ≤ x.1 → ∃ a, x.2 = nI a ∧ a ≤ (cOf P n k).length + 2) ∧ (x.1 = 0 → two x.2) ∧ (x.1 ≠ 0 → x.1 < 17 → x.2 = 0) := by
  have tw : ∀ a : Nat, a ≤ 99 → two (nI a) := fun a h => .inl ⟨a, h, rfl⟩
  intro n
  induction n with
  | zero => intro k hk x hx; rw [cOf] at hx; exact absurd hx (by simp)
  | succ n ih =>
    intro k hk x hx
    obtain ⟨n1, n2, n3, n4, n5, n6, n7, n8, n9⟩ := nd_at ho hk
    have up : ∀ (k2 M : Nat), k2 < P.length → (cOf P n k2).length ≤ M → x ∈ cOf P n k2 → x.1 ≤ 18 ∧ (17 ≤ x.1 → ∃ a, x.2 = nI a ∧ a ≤ M + 2) ∧ (x.1 = 0 → two x.2) ∧ (x.1 ≠ 0 → x.1 < 17 → x.2 = 0) := fun k2 M h1 h2 h3 => by
      obtain ⟨a1, a2, a3⟩ := ih k2 h1 x h3
      exact ⟨a1, fun h => by obtain ⟨a, b1, b2⟩ := a2 h; exact ⟨a, b1, by omega⟩, a3⟩
    have lt : ∀ (s M : Nat) (v : Int32), s < 17 → s ≠ 0 → v = 0 → x = (s, v) → x.1 ≤ 18 ∧ (17 ≤ x.1 → ∃ a, x.2 = nI a ∧ a ≤ M + 2) ∧ (x.1 = 0 → two x.2) ∧ (x.1 ≠ 0 → x.1 < 17 → x.2 = 0) := fun s M v h1 h0 h2 e => by
      subst e
      exact ⟨by show s ≤ 18; omega, fun h => by have : 17 ≤ s := h; omega, fun h => absurd h h0, fun _ _ => h2⟩
    have lc : ∀ (c M : Nat), c ≤ 99 → x = (0, nI c) → x.1 ≤ 18 ∧ (17 ≤ x.1 → ∃ a, x.2 = nI a ∧ a ≤ M + 2) ∧ (x.1 = 0 → two x.2) ∧ (x.1 ≠ 0 → x.1 < 17 → x.2 = 0) := fun c M h e => by
      subst e
      exact ⟨by show 0 ≤ 18; omega, fun h => by have : 17 ≤ 0 := h; omega, fun _ => tw c h, fun h => absurd rfl h⟩
    have lj : ∀ (s c M : Nat), 17 ≤ s → s ≤ 18 → c ≤ M + 2 → x = (s, nI c) → x.1 ≤ 18 ∧ (17 ≤ x.1 → ∃ a, x.2 = nI a ∧ a ≤ M + 2) ∧ (x.1 = 0 → two x.2) ∧ (x.1 ≠ 0 → x.1 < 17 → x.2 = 0) := fun s c M h1 h2 h e => by
      subst e
      exact ⟨h2, fun _ => ⟨c, rfl, h⟩, fun h => by have : s = 0 := h; omega, fun _ h => by have : s < 17 := h; omega⟩
    rw [cOf] at hx ⊢
    by_cases c1 : xS P k < 5
    · rw [if_pos c1] at hx ⊢
      have hx := List.mem_singleton.mp hx
      obtain ⟨b1, b2⟩ := ho.2 _ (List.mem_of_getElem? (xS_at hk))
      subst hx
      exact ⟨by show xS P k ≤ 18; omega, fun h => by have : 17 ≤ xS P k := h; omega, b1, fun h _ => b2 h⟩
    rw [if_neg c1] at hx ⊢
    by_cases c2 : xS P k = 9
    · rw [if_pos c2] at hx ⊢
      obtain ⟨m1, -⟩ := n4 (by omega)
      rw [List.mem_append] at hx
      rcases hx with hx | hx
      · exact up _ _ m1 (by rw [List.length_append]; omega) hx
      · rw [List.mem_cons, List.mem_singleton] at hx
        rcases hx with hx | hx
        · exact lc 0 _ (by omega) hx
        · exact lt 13 _ 0 (by omega) (by omega) rfl hx
    rw [if_neg c2] at hx ⊢
    by_cases c3 : xS P k < 10
    · rw [if_pos c3] at hx ⊢
      rw [List.mem_append, List.mem_singleton] at hx
      rcases hx with hx | hx
      · by_cases c4 : 7 ≤ xS P k
        · exact up _ _ (n4 c4).1 (by rw [List.length_append]; omega) hx
        · by_cases c5 : k + 1 < P.length
          · exact up _ _ c5 (by rw [List.length_append]; omega) hx
          · exact lc 0 _ (by omega) (cOf_o (by omega) n x hx)
      · exact lt (xS P k - 2) _ 0 (by omega) (by omega) rfl hx
    rw [if_neg c3] at hx ⊢
    obtain ⟨m1, -⟩ := n4 (by omega)
    obtain ⟨a1, -⟩ := n5 (by omega)
    by_cases c5 : xS P k = 17
    · rw [if_pos c5] at hx ⊢
      rw [List.mem_append, List.mem_append, List.mem_append, List.mem_singleton, List.mem_cons, List.mem_singleton] at hx
      rcases hx with hx | hx | hx | hx | hx
      · exact up _ _ m1 (by simp) hx
      · exact lj 18 _ _ (by omega) (by omega) (by simp <;> omega) hx
      · exact up _ _ a1 (by simp <;> omega) hx
      · exact lj 17 1 _ (by omega) (by omega) (by omega) hx
      · exact lc 0 _ (by omega) hx
    rw [if_neg c5] at hx ⊢
    by_cases c6 : xS P k = 18
    · rw [if_pos c6] at hx ⊢
      rw [List.mem_append, List.mem_append, List.mem_cons, List.mem_cons, List.mem_singleton] at hx
      rcases hx with hx | (hx | hx | hx) | hx
      · exact up _ _ m1 (by simp) hx
      · exact lj 18 2 _ (by omega) (by omega) (by omega) hx
      · exact lc 1 _ (by omega) hx
      · exact lj 17 _ _ (by omega) (by omega) (by simp <;> omega) hx
      · exact up _ _ a1 (by simp <;> omega) hx
    rw [if_neg c6] at hx ⊢
    by_cases c7 : xS P k = 20
    · rw [if_pos c7] at hx ⊢
      obtain ⟨d1, -⟩ := n6 c7
      rw [List.mem_append, List.mem_append, List.mem_append, List.mem_append, List.mem_singleton, List.mem_singleton] at hx
      rcases hx with hx | hx | hx | hx | hx
      · exact up _ _ m1 (by simp) hx
      · exact lj 18 _ _ (by omega) (by omega) (by simp <;> omega) hx
      · exact up _ _ a1 (by simp <;> omega) hx
      · exact lj 17 _ _ (by omega) (by omega) (by simp <;> omega) hx
      · exact up _ _ d1 (by simp <;> omega) hx
    rw [if_neg c7] at hx ⊢
    rw [List.mem_append, List.mem_append, List.mem_singleton] at hx
    rcases hx with hx | hx | hx
    · exact up _ _ m1 (by simp) hx
    · exact up _ _ a1 (by simp <;> omega) hx
    · exact lt (xS P k - 3) _ 0 (by omega) (by omega) rfl hx
