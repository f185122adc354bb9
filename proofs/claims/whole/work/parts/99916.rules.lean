/-! ===== the rules, as what they make of a tree ===== -/
def cB (P : xT) (k : Nat) : Bool := decide (k < P.length ∧ xS P k = 0)
def iB (P : xT) (k : Nat) (v : Int32) : Bool := decide (k < P.length ∧ xS P k = 0 ∧ xV P k = v)
def usf (s : Nat) : Prop := s = 13 ∨ s = 14 ∨ s = 8 ∨ s = 19
def sfR (P : xT) : Nat → Nat → Bool
  | 0, _ => true
  | m + 1, i => if xS P i = 13 ∨ xS P i = 14 ∨ xS P i = 8 ∨ xS P i = 19 then false else sfR P m (i + 1)
def sfB (P : xT) (k : Nat) : Bool := sfR P (xE P k - k) k
def lkR (P : xT) (a b : Nat) : Nat → Nat → Bool
  | 0, _ => true
  | m + 1, i => if xS P (a + i) = xS P (b + i) ∧ xV P (a + i) = xV P (b + i) then lkR P a b m (i + 1) else false
def lkB (P : xT) (a b : Nat) : Bool := if xE P a - a = xE P b - b then lkR P a b (xE P a - a) 0 else false
/-- a number that comes: 0 and the number; 1: the condition is turned; q + 2: node q comes -/
def bcm (v : Int32) : Option (Nat × Int32) := if v < -99 then none else if 99 < v then none else some (0, v)
def ru0 (P : xT) (s a b : Nat) : Option (Nat × Int32) := if s < 7 then none else if cB P a = false then none else if s = 7 then bcm (- xV P a) else if s < 10 then none else if 14 < s then none else if cB P b = false then none else if s = 10 then bcm (xV P a + xV P b) else if s = 11 then bcm (xV P a - xV P b) else if s = 12 then bcm (xV P a * xV P b) else if xV P b = 0 then none else if s = 13 then bcm (xV P a / xV P b) else bcm (xV P a - xV P a / xV P b * xV P b)
def ru1 (P : xT) (s a b : Nat) : Option (Nat × Int32) := if s < 10 then none else if 13 < s then none else if iB P b (if s = 10 ∨ s = 11 then 0 else 1) = true then some (a + 2, 0) else if s = 11 ∨ s = 13 then none else if iB P a (if s = 10 ∨ s = 11 then 0 else 1) = true then some (b + 2, 0) else none
def ru2 (P : xT) (s a : Nat) : Option (Nat × Int32) := if s = 7 ∨ s = 9 then (if xS P a = s then some (a + 1 + 2, 0) else none) else none
def ru3 (P : xT) (s a b : Nat) : Option (Nat × Int32) := if s = 20 then (if xS P a = 15 ∨ xS P a = 16 then (if cB P (a + 1) = true then (if cB P (a + 2) = true then (if xS P a = 15 then (if xV P (a + 2) ≤ xV P (a + 1) then some (xE P b + 2, 0) else some (b + 2, 0)) else (if xV P (a + 1) = xV P (a + 2) then some (b + 2, 0) else some (xE P b + 2, 0))) else none) else none) else none) else none
def ru4 (P : xT) (s a b : Nat) : Option (Nat × Int32) := if s = 20 then (if sfB P a = true then (if lkB P b (xE P b) = true then some (b + 2, 0) else none) else none) else none
def ru5 (P : xT) (s a b : Nat) : Option (Nat × Int32) := if s = 11 then (if lkB P a b = true then (if sfB P a = true then some (0, 0) else none) else none) else if s = 20 then (if xS P a = 15 ∨ xS P a = 16 then (if lkB P (a + 1) (xE P (a + 1)) = true then (if sfB P (a + 1) = true then (if xS P a = 16 then some (b + 2, 0) else some (xE P b + 2, 0)) else none) else none) else none) else none
def ru6 (P : xT) (s a : Nat) : Option (Nat × Int32) := if s = 20 then (if xS P a = 9 then some (1, 0) else none) else none
def ru7 (P : xT) (s a b : Nat) : Option (Nat × Int32) := if s = 12 then (if iB P a 0 = true ∧ sfB P b = true ∨ iB P b 0 = true ∧ sfB P a = true then some (0, 0) else none) else none
def ru8 (P : xT) (s a b : Nat) : Option (Nat × Int32) := if s = 14 then (if iB P b 1 = true ∧ sfB P a = true then some (0, 0) else none) else none
def ru (P : xT) (k w : Nat) : Option (Nat × Int32) := if w = 0 then ru0 P (xS P k) (k + 1) (xE P (k + 1)) else if w = 1 then ru1 P (xS P k) (k + 1) (xE P (k + 1)) else if w = 2 then ru2 P (xS P k) (k + 1) else if w = 3 then ru3 P (xS P k) (k + 1) (xE P (k + 1)) else if w = 4 then ru4 P (xS P k) (k + 1) (xE P (k + 1)) else if w = 5 then ru5 P (xS P k) (k + 1) (xE P (k + 1)) else if w = 6 then ru6 P (xS P k) (k + 1) else if w = 7 then ru7 P (xS P k) (k + 1) (xE P (k + 1)) else ru8 P (xS P k) (k + 1) (xE P (k + 1))
def rMid (P : xT) (k : Nat) (c : Nat × Int32) : xT := if c.1 = 0 then [(0, c.2)] else if c.1 = 1 then (20, 0) :: (seg P (k + 2) (xE P (k + 1)) ++ (seg P (xE P (xE P (k + 1))) (xE P k) ++ seg P (xE P (k + 1)) (xE P (xE P (k + 1))))) else seg P (c.1 - 2) (xE P (c.1 - 2))
theorem two_in {v : Int32} (h1 : ¬ v < -99) (h2 : ¬ 99 < v) : two v := by
  by_cases c : v < 0
  · right
    have h3 : ¬ -v < 0 := by
      have a1 := Int32.lt_iff_toInt_lt.mp c
      have a2 : ¬ v.toInt < (-99 : Int32).toInt := fun h => h1 (Int32.lt_iff_toInt_lt.mpr h)
      intro h
      have a3 := Int32.lt_iff_toInt_lt.mp h
      have e1 : (-99 : Int32).toInt = -99 := by decide
      have e2 : (0 : Int32).toInt = 0 := by decide
      rw [e1] at a2
      rw [e2] at a1 a3
      rw [Int32.toInt_neg, Int.bmod_def] at a3
      omega
    obtain ⟨k, hk, e⟩ := nI_of h3
    refine ⟨k, ?_, by rw [← e]; exact (Int32.neg_neg).symm⟩
    have a2 : ¬ v.toInt < (-99 : Int32).toInt := fun h => h1 (Int32.lt_iff_toInt_lt.mpr h)
    have a1 := Int32.lt_iff_toInt_lt.mp c
    have e1 : (-99 : Int32).toInt = -99 := by decide
    have e2 : (0 : Int32).toInt = 0 := by decide
    rw [e1] at a2
    rw [e2] at a1
    refine (nI_leI hk (b := 99) (by decide)).mp ?_
    rw [← e]
    rw [Int32.le_iff_toInt_le, Int32.toInt_neg, Int.bmod_def]
    have e3 : (nI 99).toInt = 99 := by decide
    rw [e3]
    omega
  · left
    obtain ⟨k, hk, e⟩ := nI_of c
    refine ⟨k, ?_, e⟩
    refine (nI_leI hk (b := 99) (by decide)).mp ?_
    rw [← e]
    exact Int32.not_lt.mp h2
theorem bcm_s {v : Int32} {c : Nat × Int32} (h : bcm v = some c) : c = (0, v) ∧ two v := by
  unfold bcm at h
  by_cases c1 : v < -99
  · rw [if_pos c1] at h; exact absurd h (by simp)
  · rw [if_neg c1] at h
    by_cases c2 : 99 < v
    · rw [if_pos c2] at h; exact absurd h (by simp)
    · rw [if_neg c2] at h
      exact ⟨(Option.some.inj h).symm, two_in c1 c2⟩
/-- a node below another, wanted alike -/
def des (P : xT) (k q : Nat) : Prop := q < P.length ∧ k < q ∧ xE P q ≤ xE P k ∧ (cxP P k).1 = (cxP P q).1 ∧ (cxP P k).2.1 ≤ (cxP P q).2.1 ∧ (cxP P k).2.2 = (cxP P q).2.2
/-- what can come of a rule -/
def ruR (P : xT) (k : Nat) (c : Nat × Int32) : Prop := 7 ≤ xS P k ∧ ((c.1 = 0 ∧ two c.2 ∧ truN (xS P k) = 0) ∨ (c = (1, 0) ∧ xS P k = 20 ∧ xS P (k + 1) = 9) ∨ ∃ q, c = (q + 2, 0) ∧ des P k q)
theorem ru_R {P : xT} (ho : okP P) {k w : Nat} (hk : k < P.length) {c : Nat × Int32} (h : ru P k w = some c) : ruR P k c := by
  obtain ⟨n1, n2, n3, n4, n5, n6, n7, n8, n9⟩ := nd_at ho hk
  have t0 : two 0 := .inl ⟨0, by omega, rfl⟩
  have dA : 10 ≤ xS P k → xS P k ≤ 13 → des P k (k + 1) := fun h1 h2 => by
    obtain ⟨m1, m2, m3⟩ := n4 (by omega)
    refine ⟨m1, by omega, m2, ?_, ?_, ?_⟩
    · rw [m3, ← n2]
      show truN (xS P k) = twN (xS P k) 0
      rcases (by omega : xS P k = 10 ∨ xS P k = 11 ∨ xS P k = 12 ∨ xS P k = 13) with e | e | e | e <;> rw [e] <;> rfl
    · rw [m3]; exact Nat.le_succ _
    · rw [m3]
  have dB : 10 ≤ xS P k → xS P k ≤ 13 → des P k (xE P (k + 1)) := fun h1 h2 => by
    obtain ⟨m1, m2, m3⟩ := n5 h1
    have m3 := m3 (by omega)
    refine ⟨m1, Nat.lt_of_lt_of_le (Nat.lt_succ_self k) xE_ge, m2, ?_, ?_, ?_⟩
    · rw [m3, ← n2]
      show truN (xS P k) = twN (xS P k) 1
      rcases (by omega : xS P k = 10 ∨ xS P k = 11 ∨ xS P k = 12 ∨ xS P k = 13) with e | e | e | e <;> rw [e] <;> rfl
    · rw [m3]; exact Nat.le_succ _
    · rw [m3]
  have dI : xS P k = 20 → des P k (xE P (k + 1)) := fun h1 => by
    obtain ⟨m1, m2, m3⟩ := n5 (by omega)
    have m3 := m3 (by omega)
    refine ⟨m1, Nat.lt_of_lt_of_le (Nat.lt_succ_self k) xE_ge, m2, ?_, ?_, ?_⟩
    · rw [m3, ← n2, h1]; rfl
    · rw [m3]; exact Nat.le_succ _
    · rw [m3]
  have dJ : xS P k = 20 → des P k (xE P (xE P (k + 1))) := fun h1 => by
    obtain ⟨m1, m2, m3⟩ := n6 h1
    refine ⟨m1, Nat.lt_of_lt_of_le (Nat.lt_succ_self k) (Nat.le_trans xE_ge xE_ge), by rw [m2]; exact Nat.le_refl _, ?_, ?_, ?_⟩
    · rw [m3, ← n2, h1]; rfl
    · rw [m3]; exact Nat.le_succ _
    · rw [m3]
  have dT : (xS P k = 7 ∨ xS P k = 9) → xS P (k + 1) = xS P k → des P k (k + 1 + 1) := fun h1 h2 => by
    obtain ⟨m1, m2, m3⟩ := n4 (by omega)
    obtain ⟨p1, p2, p3, p4, -⟩ := nd_at ho m1
    obtain ⟨q1, q2, q3⟩ := p4 (by omega)
    refine ⟨q1, by omega, Nat.le_trans q2 m2, ?_, ?_, ?_⟩
    · rw [q3, ← n2, h2]
      rcases h1 with e | e <;> rw [e] <;> rfl
    · rw [q3, m3]; show _ ≤ _ + 1 + 1; omega
    · rw [q3, m3]
  have cons : ∀ v, bcm v = some c → 7 ≤ xS P k → truN (xS P k) = 0 → ruR P k c := fun v hb h7 ht => by
    obtain ⟨e, t⟩ := bcm_s hb
    rw [e]
    exact ⟨h7, .inl ⟨rfl, t, ht⟩⟩
  have no : ∀ {q : Prop}, (none : Option (Nat × Int32)) = some c → q := fun e => absurd e (by simp)
  have nd : ∀ q, some (q + 2, (0 : Int32)) = some c → 7 ≤ xS P k → des P k q → ruR P k c := fun q e h7 d => ⟨h7, .inr (.inr ⟨q, (Option.some.inj e).symm, d⟩)⟩
  unfold ru at h
  by_cases w0 : w = 0
  · rw [if_pos w0] at h
    unfold ru0 at h
    by_cases c1 : xS P k < 7
    · rw [if_pos c1] at h; exact no h
    rw [if_neg c1] at h
    by_cases c2 : cB P (k + 1) = false
    · rw [if_pos c2] at h; exact no h
    rw [if_neg c2] at h
    by_cases c3 : xS P k = 7
    · rw [if_pos c3] at h; exact cons _ h (by omega) (by rw [c3]; rfl)
    rw [if_neg c3] at h
    by_cases c4 : xS P k < 10
    · rw [if_pos c4] at h; exact no h
    rw [if_neg c4] at h
    by_cases c5 : 14 < xS P k
    · rw [if_pos c5] at h; exact no h
    rw [if_neg c5] at h
    have ht : truN (xS P k) = 0 := by unfold truN; rw [if_neg (by omega)]
    by_cases c6 : cB P (xE P (k + 1)) = false
    · rw [if_pos c6] at h; exact no h
    rw [if_neg c6] at h
    by_cases c7 : xS P k = 10
    · rw [if_pos c7] at h; exact cons _ h (by omega) ht
    rw [if_neg c7] at h
    by_cases c8 : xS P k = 11
    · rw [if_pos c8] at h; exact cons _ h (by omega) ht
    rw [if_neg c8] at h
    by_cases c9 : xS P k = 12
    · rw [if_pos c9] at h; exact cons _ h (by omega) ht
    rw [if_neg c9] at h
    by_cases d1 : xV P (xE P (k + 1)) = 0
    · rw [if_pos d1] at h; exact no h
    rw [if_neg d1] at h
    by_cases d2 : xS P k = 13
    · rw [if_pos d2] at h; exact cons _ h (by omega) ht
    rw [if_neg d2] at h
    exact cons _ h (by omega) ht
  rw [if_neg w0] at h
  by_cases w1 : w = 1
  · rw [if_pos w1] at h
    unfold ru1 at h
    by_cases c1 : xS P k < 10
    · rw [if_pos c1] at h; exact no h
    rw [if_neg c1] at h
    by_cases c2 : 13 < xS P k
    · rw [if_pos c2] at h; exact no h
    rw [if_neg c2] at h
    generalize (if xS P k = 10 ∨ xS P k = 11 then (0 : Int32) else 1) = pl at h
    split at h
    · exact nd _ h (by omega) (dA (by omega) (by omega))
    · split at h
      · exact no h
      · split at h
        · exact nd _ h (by omega) (dB (by omega) (by omega))
        · exact no h
  rw [if_neg w1] at h
  by_cases w2 : w = 2
  · rw [if_pos w2] at h
    unfold ru2 at h
    split at h
    · rename_i c1
      split at h
      · rename_i c2
        exact nd _ h (by omega) (dT c1 c2)
      · exact no h
    · exact no h
  rw [if_neg w2] at h
  by_cases w3 : w = 3
  · rw [if_pos w3] at h
    unfold ru3 at h
    split at h
    · rename_i c1
      split at h
      · split at h
        · split at h
          · split at h
            · split at h
              · exact nd _ h (by omega) (dJ c1)
              · exact nd _ h (by omega) (dI c1)
            · split at h
              · exact nd _ h (by omega) (dI c1)
              · exact nd _ h (by omega) (dJ c1)
          · exact no h
        · exact no h
      · exact no h
    · exact no h
  rw [if_neg w3] at h
  by_cases w4 : w = 4
  · rw [if_pos w4] at h
    unfold ru4 at h
    split at h
    · rename_i c1
      split at h
      · split at h
        · exact nd _ h (by omega) (dI c1)
        · exact no h
      · exact no h
    · exact no h
  rw [if_neg w4] at h
  by_cases w5 : w = 5
  · rw [if_pos w5] at h
    unfold ru5 at h
    split at h
    · rename_i c1
      split at h
      · split at h
        · rw [← Option.some.inj h]
          exact ⟨by omega, .inl ⟨rfl, t0, by rw [c1]; rfl⟩⟩
        · exact no h
      · exact no h
    · split at h
      · rename_i c1
        split at h
        · split at h
          · split at h
            · split at h
              · exact nd _ h (by omega) (dI c1)
              · exact nd _ h (by omega) (dJ c1)
            · exact no h
          · exact no h
        · exact no h
      · exact no h
  rw [if_neg w5] at h
  by_cases w6 : w = 6
  · rw [if_pos w6] at h
    unfold ru6 at h
    split at h
    · rename_i c1
      split at h
      · rename_i c2
        exact ⟨by omega, .inr (.inl ⟨(Option.some.inj h).symm, c1, c2⟩)⟩
      · exact no h
    · exact no h
  rw [if_neg w6] at h
  by_cases w7 : w = 7
  · rw [if_pos w7] at h
    unfold ru7 at h
    split at h
    · rename_i c1
      split at h
      · rw [← Option.some.inj h]
        exact ⟨by omega, .inl ⟨rfl, t0, by rw [c1]; rfl⟩⟩
      · exact no h
    · exact no h
  rw [if_neg w7] at h
  unfold ru8 at h
  split at h
  · rename_i c1
    split at h
    · rw [← Option.some.inj h]
      exact ⟨by omega, .inl ⟨rfl, t0, by rw [c1]; rfl⟩⟩
    · exact no h
  · exact no h
/-- what comes is sound, and shorter -/
theorem rm_ok {P : xT} (ho : okP P) {k : Nat} (hk : k < P.length) {c : Nat × Int32} (h : ruR P k c) : okP (rp P k (rMid P k c)) ∧ (rMid P k c).length < xE P k - k := by
  obtain ⟨n1, n2, n3, n4, n5, n6, n7, n8, n9⟩ := nd_at ho hk
  obtain ⟨h7, h⟩ := h
  obtain ⟨m1, m2, m3⟩ := n4 h7
  have g1 := xE_gt m1
  rcases h with ⟨e, t, ht⟩ | ⟨e, s20, s9⟩ | ⟨q, e, d1, d2, d3, d4, d5, d6⟩
  · have em : rMid P k c = [(0, c.2)] := by unfold rMid; rw [if_pos e]
    rw [em]
    refine ⟨rp_ok ho hk ?_ (fun x hx => ?_), by show 1 < _; omega⟩
    · show okF [cxP P k] [(0, 0)]
      rw [okF]
      refine ⟨by omega, by rw [← n2, ht]; rfl, n3, fun _ => ⟨by omega, by omega⟩, fun _ => by omega, ?_⟩
      show okF (kid 0 (cxP P k) ++ []) []
      rw [show kid 0 (cxP P k) ++ [] = [] from rfl, okF]
      trivial
    · rw [List.mem_singleton] at hx
      rw [hx]
      exact ⟨fun _ => t, fun h => absurd rfl h⟩
  · subst e
    obtain ⟨a1, a2, a3⟩ := n5 (by omega)
    have a3 := a3 (by omega)
    obtain ⟨b1, b2, b3⟩ := n6 s20
    obtain ⟨p1, p2, p3, p4, -, -, -, p8, -⟩ := nd_at ho m1
    obtain ⟨q1, q2, q3⟩ := p4 (by omega)
    have p8 := p8 (by omega) (by omega)
    have ga := xE_gt a1
    have gb := xE_gt b1
    have gq := xE_gt q1
    have em : rMid P k (1, 0) = (20, 0) :: (seg P (k + 2) (xE P (k + 1)) ++ (seg P (xE P (xE P (k + 1))) (xE P k) ++ seg P (xE P (k + 1)) (xE P (xE P (k + 1))))) := rfl
    rw [em]
    have l1 := xE_le (P := P) (k := k) (Nat.le_of_lt hk)
    have l2 := xE_le (P := P) (k := k + 1) (Nat.le_of_lt m1)
    have l3 := xE_le (P := P) (k := xE P (k + 1)) (Nat.le_of_lt a1)
    refine ⟨rp_ok ho hk ?_ (fun x hx => ?_), ?_⟩
    · have s1 := seg_ok ho q1
      rw [p8, q3] at s1
      have s2 := seg_ok ho b1
      rw [b2, b3] at s2
      have s3 := seg_ok ho a1
      rw [a3] at s3
      show okF [cxP P k] ((20, 0) :: sl (seg P (k + 2) (xE P (k + 1)) ++ (seg P (xE P (xE P (k + 1))) (xE P k) ++ seg P (xE P (k + 1)) (xE P (xE P (k + 1))))))
      rw [okF, sl_app, sl_app]
      refine ⟨by show 20 ≤ 20; omega, by rw [← n2, s20], n3, fun _ => ⟨by show 20 ≠ 5; omega, by show 20 ≠ 6; omega⟩, fun _ => by show 20 ≠ 19; omega, ?_⟩
      show okF ([(1, (cxP P k).2.1 + 1, (cxP P k).2.2)] ++ ([(0, (cxP P k).2.1 + 1, (cxP P k).2.2)] ++ [(0, (cxP P k).2.1 + 1, (cxP P k).2.2)])) _
      refine okF_app _ _ _ _ (okF_dn s1 (by rw [s9]; rfl) (by rw [m3]; exact Nat.le_succ _) (by rw [m3])) (okF_app _ _ _ _ s2 (okF_dn s3 (by rw [s20]; rfl) (Nat.le_refl _) rfl))
    · rw [List.mem_cons, List.mem_append, List.mem_append] at hx
      rcases hx with hx | hx | hx | hx
      · rw [hx]; exact ⟨fun h => absurd h (by decide), fun _ => rfl⟩
      · exact ho.2 x (mem_seg hx)
      · exact ho.2 x (mem_seg hx)
      · exact ho.2 x (mem_seg hx)
    · rw [List.length_cons, List.length_append, List.length_append, seg_len l2, seg_len l1, seg_len l3]
      omega
  · subst e
    have em : rMid P k (q + 2, 0) = seg P q (xE P q) := by
      unfold rMid
      rw [if_neg (by show q + 2 ≠ 0; omega), if_neg (by show q + 2 ≠ 1; omega)]
      rfl
    rw [em]
    have l1 := xE_le (P := P) (k := q) (Nat.le_of_lt d1)
    refine ⟨rp_ok ho hk (okF_dn (seg_ok ho d1) d4 d5 d6) (fun x hx => ho.2 x (mem_seg hx)), ?_⟩
    rw [seg_len l1]
    omega
/-! one step, and all -/
def fsW (P : xT) (k : Nat) : Nat → Nat → Option (Nat × Nat × Int32)
  | 0, _ => none
  | m + 1, w => match ru P k w with
    | some c => some (w, c)
    | none => fsW P k m (w + 1)
def fsK (P : xT) : Nat → Option (Nat × Nat × Nat × Int32)
  | 0 => none
  | k + 1 => match fsW P k 9 0 with
    | some c => some (k, c)
    | none => fsK P k
theorem fsW_s {P : xT} {k : Nat} : ∀ (m w w' : Nat) (c : Nat × Int32), fsW P k m w = some (w', c) → ru P k w' = some c ∧ w ≤ w' ∧ w' < w + m := by
  intro m
  induction m with
  | zero => intro w w' c h; rw [fsW] at h; exact absurd h (by simp)
  | succ m ih =>
    intro w w' c h
    rw [fsW] at h
    cases e : ru P k w with
    | some d =>
      rw [e] at h
      injection h with h
      injection h with h1 h2
      subst h1; subst h2
      exact ⟨e, Nat.le_refl _, by omega⟩
    | none =>
      rw [e] at h
      obtain ⟨a, b, d⟩ := ih (w + 1) w' c h
      exact ⟨a, by omega, by omega⟩
theorem fsK_s {P : xT} : ∀ (n k w : Nat) (c : Nat × Int32), fsK P n = some (k, w, c) → k < n ∧ w < 9 ∧ ru P k w = some c := by
  intro n
  induction n with
  | zero => intro k w c h; rw [fsK] at h; exact absurd h (by simp)
  | succ n ih =>
    intro k w c h
    rw [fsK] at h
    cases e : fsW P n 9 0 with
    | some d =>
      rw [e] at h
      injection h with h
      injection h with h1 h2
      subst h1; subst h2
      obtain ⟨a, b, d⟩ := fsW_s 9 0 w c e
      exact ⟨by omega, by omega, a⟩
    | none =>
      rw [e] at h
      obtain ⟨a, b, d⟩ := ih k w c h
      exact ⟨by omega, b, d⟩
theorem ru_len {P : xT} (ho : okP P) {k w : Nat} (hk : k < P.length) {c : Nat × Int32} (h : ru P k w = some c) : okP (rp P k (rMid P k c)) ∧ (rp P k (rMid P k c)).length < P.length := by
  obtain ⟨a, b⟩ := rm_ok ho hk (ru_R ho hk h)
  refine ⟨a, ?_⟩
  rw [rp_len hk]
  have := xE_le (P := P) (k := k) (Nat.le_of_lt hk)
  omega
theorem okP_pos {P : xT} (ho : okP P) : 1 ≤ P.length := by
  have h := okF_len (sl P) [(0, 1, 0)] ho.1
  rw [sl_len] at h
  exact h
/-- all steps, and their rows -/
def smp : Nat → xT → xT
  | 0, P => P
  | n + 1, P => match fsK P P.length with
    | none => P
    | some (k, _, c) => smp n (rp P k (rMid P k c))
def smR : Nat → xT → List (Nat × Nat)
  | 0, _ => []
  | n + 1, P => match fsK P P.length with
    | none => []
    | some (k, w, c) => (k, w) :: smR n (rp P k (rMid P k c))
theorem smp_ok : ∀ (n : Nat) (P : xT), okP P → okP (smp n P) ∧ (smp n P).length ≤ P.length := by
  intro n
  induction n with
  | zero => intro P ho; exact ⟨ho, Nat.le_refl _⟩
  | succ n ih =>
    intro P ho
    rw [smp]
    cases e : fsK P P.length with
    | none => exact ⟨ho, Nat.le_refl _⟩
    | some d =>
      obtain ⟨k, w, c⟩ := d
      obtain ⟨a1, a2, a3⟩ := fsK_s _ _ _ _ e
      obtain ⟨b1, b2⟩ := ru_len ho a1 a3
      obtain ⟨c1, c2⟩ := ih _ b1
      exact ⟨c1, by show (smp n (rp P k (rMid P k c))).length ≤ _; omega⟩
/-- going over rows again -/
def gov : List (Nat × Nat) → xT → Option xT
  | [], P => some P
  | r :: l, P => if r.1 < P.length then (match ru P r.1 r.2 with
    | some c => gov l (rp P r.1 (rMid P r.1 c))
    | none => none) else none
