/-! ===== members that are left, and orders of cases ===== -/
/-- the least error of those that are left -/
def mnE (er : Nat → Nat) (A : Nat → Bool) (s : Nat) : Nat → Nat
  | 0 => s
  | p + 1 => if A p = true ∧ er p < mnE er A s p then er p else mnE er A s p
theorem mnE_le {er : Nat → Nat} {A : Nat → Bool} {s : Nat} : ∀ p x, x < p → A x = true → mnE er A s p ≤ er x := by
  intro p
  induction p with
  | zero => intro x hx; exact absurd hx (Nat.not_lt_zero _)
  | succ p ih =>
    intro x hx ha
    rw [mnE]
    by_cases e : x = p
    · subst e
      by_cases c : A x = true ∧ er x < mnE er A s x
      · rw [if_pos c]; exact Nat.le_refl _
      · rw [if_neg c]
        exact Nat.le_of_not_lt (fun q => c ⟨ha, q⟩)
    · have := ih x (by omega) ha
      by_cases c : A p = true ∧ er p < mnE er A s p
      · rw [if_pos c]; omega
      · rw [if_neg c]; exact this
theorem mnE_s {er : Nat → Nat} {A : Nat → Bool} {s : Nat} : ∀ p, mnE er A s p ≤ s := by
  intro p
  induction p with
  | zero => exact Nat.le_refl _
  | succ p ih =>
    rw [mnE]
    by_cases c : A p = true ∧ er p < mnE er A s p
    · rw [if_pos c]; omega
    · rw [if_neg c]; exact ih
theorem mnE_at {er : Nat → Nat} {A : Nat → Bool} {s : Nat} : ∀ p, mnE er A s p = s ∨ ∃ x, x < p ∧ A x = true ∧ er x = mnE er A s p := by
  intro p
  induction p with
  | zero => exact .inl rfl
  | succ p ih =>
    rw [mnE]
    by_cases c : A p = true ∧ er p < mnE er A s p
    · rw [if_pos c]; exact .inr ⟨p, by omega, c.1, rfl⟩
    · rw [if_neg c]
      rcases ih with e | ⟨x, h1, h2, h3⟩
      · exact .inl e
      · exact .inr ⟨x, by omega, h2, h3⟩
theorem mnE_3 {er : Nat → Nat} {A : Nat → Bool} {c x : Nat} (hx : x < c) (ha : A x = true) (hb : ∀ x, x < c → er x ≤ 2000000) : mnE er A 3000000 c = mnE er A 2000000 c ∧ ∃ y, y < c ∧ A y = true ∧ er y = mnE er A 2000000 c := by
  have h1 := mnE_le (er := er) (A := A) (s := 3000000) c x hx ha
  have h2 := mnE_le (er := er) (A := A) (s := 2000000) c x hx ha
  have h3 := hb x hx
  have at2 : ∃ y, y < c ∧ A y = true ∧ er y = mnE er A 2000000 c := by
    rcases mnE_at (er := er) (A := A) (s := 2000000) c with e | e
    · exact ⟨x, hx, ha, by omega⟩
    · exact e
  refine ⟨?_, at2⟩
  obtain ⟨y, y1, y2, y3⟩ := at2
  have h4 := mnE_le (er := er) (A := A) (s := 3000000) c y y1 y2
  rcases mnE_at (er := er) (A := A) (s := 3000000) c with e | ⟨z, z1, z2, z3⟩
  · have := hb y y1; omega
  · have := mnE_le (er := er) (A := A) (s := 2000000) c z z1 z2
    omega
/-- of those that are left those with the least error at a case -/
def narE (c : Nat) (E : Nat → Nat → Nat) (A : Nat → Bool) (k : Nat) : Nat → Bool := fun x => decide (x < c) && (A x && decide (E x k = mnE (fun x => E x k) A 2000000 c))
theorem narE_t {c : Nat} {E : Nat → Nat → Nat} {A : Nat → Bool} {k x : Nat} : narE c E A k x = true ↔ x < c ∧ A x = true ∧ E x k = mnE (fun x => E x k) A 2000000 c := by
  unfold narE
  rw [Bool.and_eq_true, Bool.and_eq_true, decide_eq_true_iff, decide_eq_true_iff]
theorem narE_ne {c : Nat} {E : Nat → Nat → Nat} {A : Nat → Bool} {k x : Nat} (hx : x < c) (ha : A x = true) (hb : ∀ x, x < c → E x k ≤ 2000000) : ∃ y, y < c ∧ narE c E A k y = true := by
  obtain ⟨-, y, y1, y2, y3⟩ := mnE_3 (er := fun x => E x k) hx ha hb
  exact ⟨y, y1, narE_t.mpr ⟨y1, y2, y3⟩⟩
theorem narE_1 {c : Nat} {E : Nat → Nat → Nat} {A : Nat → Bool} {k : Nat} (hs : ∀ x, A x = true → x < c) (h1 : ∀ x y, A x = true → A y = true → x = y) (hb : ∀ x, x < c → E x k ≤ 2000000) : narE c E A k = A := by
  funext x
  by_cases ha : A x = true
  · rw [ha]
    obtain ⟨-, y, y1, y2, y3⟩ := mnE_3 (er := fun x => E x k) (hs x ha) ha hb
    exact narE_t.mpr ⟨hs x ha, ha, by rw [h1 x y ha y2]; exact y3⟩
  · have e : ¬ narE c E A k x = true := fun e => ha (narE_t.mp e).2.1
    rw [Bool.eq_false_iff.mpr ha, Bool.eq_false_iff.mpr e]
/-- the first that is left -/
def lsF (A : Nat → Bool) : Nat → Nat → Nat
  | 0, p => p
  | m + 1, p => if A p = true then p else lsF A m (p + 1)
theorem lsF_at {A : Nat → Bool} : ∀ m p, lsF A m p < p + m → A (lsF A m p) = true := by
  intro m
  induction m with
  | zero => intro p h; exact absurd h (by show ¬ p < p + 0; omega)
  | succ m ih =>
    intro p h
    rw [lsF] at h ⊢
    by_cases c : A p = true
    · rw [if_pos c]; exact c
    · rw [if_neg c] at h ⊢
      exact ih (p + 1) (by omega)
theorem lsF_le {A : Nat → Bool} : ∀ m p x, p ≤ x → x < p + m → A x = true → lsF A m p ≤ x := by
  intro m
  induction m with
  | zero => intro p x h1 h2; omega
  | succ m ih =>
    intro p x h1 h2 h3
    rw [lsF]
    by_cases c : A p = true
    · rw [if_pos c]; exact h1
    · rw [if_neg c]
      exact ih (p + 1) x (by rcases Nat.eq_or_lt_of_le h1 with e | e; subst e; exact absurd h3 c; omega) (by omega) h3
def fdE (c : Nat) (E : Nat → Nat → Nat) (A : Nat → Bool) (l : List Nat) : Nat → Bool := l.foldl (narE c E) A
theorem fdE_sub {c : Nat} {E : Nat → Nat → Nat} : ∀ (l : List Nat) (A : Nat → Bool) (x : Nat), fdE c E A l x = true → A x = true := by
  intro l
  induction l with
  | nil => intro A x h; exact h
  | cons k l ih => intro A x h; exact (narE_t.mp (ih (narE c E A k) x h)).2.1
theorem fdE_1 {c : Nat} {E : Nat → Nat → Nat} {A : Nat → Bool} (hs : ∀ x, A x = true → x < c) (h1 : ∀ x y, A x = true → A y = true → x = y) : ∀ (l : List Nat), (∀ k, k ∈ l → ∀ x, x < c → E x k ≤ 2000000) → fdE c E A l = A := by
  intro l
  induction l with
  | nil => intro _; rfl
  | cons k l ih =>
    intro hb
    show fdE c E (narE c E A k) l = A
    rw [narE_1 hs h1 (hb k (List.mem_cons_self ..))]
    exact ih (fun j hj => hb j (List.mem_cons_of_mem _ hj))
/-- the orders of the cases of a set -/
def pmM : Nat → Nat → List (List Nat)
  | 0, _ => [[]]
  | f + 1, C => if C = 0 then [[]] else (List.range' 0 6).flatMap (fun k => if C.testBit k = true then (pmM f (C - 2 ^ k)).map (fun l => k :: l) else [])
def pc6 (C : Nat) : Nat := (List.range 6).countP (fun k => C.testBit k)
def fct : Nat → Nat
  | 0 => 1
  | n + 1 => (n + 1) * fct n
theorem pm_len : ∀ f, f < 7 → ∀ C, C < 64 → pc6 C ≤ f → (pmM f C).length = fct (pc6 C) := by decide +kernel
theorem pc_sub : ∀ C, C < 64 → ∀ k, k < 6 → C.testBit k = true → pc6 (C - 2 ^ k) + 1 = pc6 C ∧ C - 2 ^ k < 64 ∧ nI C &&& ((1 <<< (nI k &&& 31)) ^^^ (-1)) = nI (C - 2 ^ k) := by decide +kernel
theorem pc_0 : ∀ C, C < 64 → pc6 C = 0 → C = 0 := by decide +kernel
theorem pc_6 : ∀ C, C < 64 → pc6 C ≤ 6 := by decide +kernel
/-! next order -/
def pvO (P : Nat → Nat) : Nat → Option Nat
  | 0 => none
  | j + 1 => if P j ≤ P (j + 1) then some j else pvO P j
def scO (P : Nat → Nat) (i : Nat) : Nat → Nat
  | 0 => 0
  | j + 1 => if P i ≤ P (j + 1) then j + 1 else scO P i j
def swO (P : Nat → Nat) (i j : Nat) : Nat → Nat := fun x => if x = j then P i else if x = i then P j else P x
def rvO : Nat → (Nat → Nat) → Nat → Nat → Nat → Nat
  | 0, P, _, _ => P
  | m + 1, P, lo, hi => if hi ≤ lo then P else rvO m (swO P lo hi) (lo + 1) (hi - 1)
def ofL (l : List Nat) : Nat → Nat := fun x => l.getD x 0
def toL (s : Nat) (P : Nat → Nat) : List Nat := (List.range s).map P
/-- the order before and the one behind -/
def nxL (s : Nat) (l r : List Nat) : Bool := match pvO (ofL l) (s - 1) with
  | none => false
  | some i => decide (i < scO (ofL l) i (s - 1)) && decide (ofL l i ≤ ofL l (scO (ofL l) i (s - 1))) && (toL s (rvO s (swO (ofL l) i (scO (ofL l) i (s - 1))) (i + 1) (s - 1)) == r)
def lsL (s : Nat) (l : List Nat) : Bool := match pvO (ofL l) (s - 1) with
  | none => true
  | some _ => false
def chL (s : Nat) : List Nat → List (List Nat) → Bool
  | l, [] => lsL s l
  | l, r :: t => nxL s l r && chL s r t
def okL (s : Nat) (l : List Nat) : Bool := (l.length == s) && l.all (fun x => decide (x < s))
theorem pm_ch : ∀ s, s < 7 → (match pmM 6 (2 ^ s - 1) with | [] => false | l :: t => (l == List.range s) && chL s l t && okL s l && t.all (okL s)) = true := by decide +kernel
/-! bits of an int -/
def tbi (x : Int32) (d : Nat) : Bool := x.toBitVec.getLsbD d
theorem tbi_sh : ∀ d, d < 32 → (nI d &&& 31) = nI d ∧ (nI d).toBitVec.smod 32 = BitVec.ofNat 32 d := by decide +kernel
theorem tbi_1 (i : Nat) : (1 : Int32).toBitVec.getLsbD i = decide (i = 0) := by
  show (1#32).getLsbD i = _
  rw [BitVec.getLsbD_one]
  simp
theorem tbi_r {x : Int32} {d : Nat} (hd : d < 32) : (x >>> (nI d &&& 31)).toBitVec.getLsbD 0 = tbi x d := by
  have e : (x >>> (nI d &&& 31)).toBitVec = x.toBitVec.sshiftRight d := by
    rw [(tbi_sh d hd).1, Int32.toBitVec_shiftRight, (tbi_sh d hd).2, BitVec.sshiftRight_eq', BitVec.toNat_ofNat, Nat.mod_eq_of_lt (by omega)]
  rw [e, BitVec.getLsbD_sshiftRight, Nat.add_zero, if_pos (by omega : d < 32)]
  unfold tbi
  simp
theorem tbi_v {x : Int32} {d : Nat} (hd : d < 32) : ((x >>> (nI d &&& 31)) &&& 1) = (if tbi x d = true then 1 else 0) := by
  rw [← tbi_r hd]
  refine Int32.toBitVec_inj.mp (BitVec.eq_of_getLsbD_eq (fun i hi => ?_))
  rw [Int32.toBitVec_and, BitVec.getLsbD_and, tbi_1]
  by_cases c : i = 0
  · subst c
    rw [decide_eq_true (rfl : 0 = 0), Bool.and_true]
    cases (x >>> (nI d &&& 31)).toBitVec.getLsbD 0 <;> rfl
  · rw [decide_eq_false c, Bool.and_false]
    cases (x >>> (nI d &&& 31)).toBitVec.getLsbD 0
    · show false = (0#32).getLsbD i
      simp
    · show false = (1 : Int32).toBitVec.getLsbD i
      rw [tbi_1, decide_eq_false c]
theorem tbi_o {x : Int32} {c d : Nat} (hc : c < 32) (hd : d < 32) : tbi (x ||| (1 <<< (nI c &&& 31))) d = (tbi x d || decide (d = c)) := by
  have e : (1 <<< (nI c &&& 31) : Int32).toBitVec = (1 : Int32).toBitVec <<< c := by
    rw [(tbi_sh c hc).1, Int32.toBitVec_shiftLeft, (tbi_sh c hc).2, BitVec.shiftLeft_eq', BitVec.toNat_ofNat, Nat.mod_eq_of_lt (by omega)]
  unfold tbi
  rw [Int32.toBitVec_or, BitVec.getLsbD_or, e, BitVec.getLsbD_shiftLeft, tbi_1]
  congr 1
  by_cases h : d = c
  · subst h
    simp [Nat.lt_irrefl]
    omega
  · by_cases h2 : d < c
    · simp [h2, h]
    · rw [decide_eq_false h, decide_eq_false (by omega : ¬ d - c = 0), Bool.and_false]
theorem tbi_0 (d : Nat) : tbi 0 d = false := by
  unfold tbi
  show (0#32).getLsbD d = false
  simp
theorem tbi_n : ∀ d, d < 32 → ∀ C, C < 64 → tbi (nI C) d = C.testBit d := by decide +kernel
theorem tbi_f : ∀ c, c < 17 → ∀ d, d < 32 → tbi ((1 <<< (nI c &&& 31)) - 1) d = decide (d < c) := by decide +kernel
theorem fl_6 : ∀ s, s < 7 → (1 <<< (nI s &&& 31)) - 1 = nI (2 ^ s - 1) := by decide +kernel
/-! how many bits -/
def pcI (x0 : Int32) : Int32 := ((((((((x0 - (((Int32.toUInt32 x0 >>> (Int32.toUInt32 1 &&& Int32.toUInt32 31)).toInt32) &&& 1431655765)) &&& 858993459) + (((Int32.toUInt32 (x0 - (((Int32.toUInt32 x0 >>> (Int32.toUInt32 1 &&& Int32.toUInt32 31)).toInt32) &&& 1431655765)) >>> (Int32.toUInt32 2 &&& Int32.toUInt32 31)).toInt32) &&& 858993459)) + ((Int32.toUInt32 (((x0 - (((Int32.toUInt32 x0 >>> (Int32.toUInt32 1 &&& Int32.toUInt32 31)).toInt32) &&& 1431655765)) &&& 858993459) + (((Int32.toUInt32 (x0 - (((Int32.toUInt32 x0 >>> (Int32.toUInt32 1 &&& Int32.toUInt32 31)).toInt32) &&& 1431655765)) >>> (Int32.toUInt32 2 &&& Int32.toUInt32 31)).toInt32) &&& 858993459)) >>> (Int32.toUInt32 4 &&& Int32.toUInt32 31)).toInt32)) &&& 252645135) + ((Int32.toUInt32 (((((x0 - (((Int32.toUInt32 x0 >>> (Int32.toUInt32 1 &&& Int32.toUInt32 31)).toInt32) &&& 1431655765)) &&& 858993459) + (((Int32.toUInt32 (x0 - (((Int32.toUInt32 x0 >>> (Int32.toUInt32 1 &&& Int32.toUInt32 31)).toInt32) &&& 1431655765)) >>> (Int32.toUInt32 2 &&& Int32.toUInt32 31)).toInt32) &&& 858993459)) + ((Int32.toUInt32 (((x0 - (((Int32.toUInt32 x0 >>> (Int32.toUInt32 1 &&& Int32.toUInt32 31)).toInt32) &&& 1431655765)) &&& 858993459) + (((Int32.toUInt32 (x0 - (((Int32.toUInt32 x0 >>> (Int32.toUInt32 1 &&& Int32.toUInt32 31)).toInt32) &&& 1431655765)) >>> (Int32.toUInt32 2 &&& Int32.toUInt32 31)).toInt32) &&& 858993459)) >>> (Int32.toUInt32 4 &&& Int32.toUInt32 31)).toInt32)) &&& 252645135) >>> (Int32.toUInt32 8 &&& Int32.toUInt32 31)).toInt32)) + ((Int32.toUInt32 ((((((x0 - (((Int32.toUInt32 x0 >>> (Int32.toUInt32 1 &&& Int32.toUInt32 31)).toInt32) &&& 1431655765)) &&& 858993459) + (((Int32.toUInt32 (x0 - (((Int32.toUInt32 x0 >>> (Int32.toUInt32 1 &&& Int32.toUInt32 31)).toInt32) &&& 1431655765)) >>> (Int32.toUInt32 2 &&& Int32.toUInt32 31)).toInt32) &&& 858993459)) + ((Int32.toUInt32 (((x0 - (((Int32.toUInt32 x0 >>> (Int32.toUInt32 1 &&& Int32.toUInt32 31)).toInt32) &&& 1431655765)) &&& 858993459) + (((Int32.toUInt32 (x0 - (((Int32.toUInt32 x0 >>> (Int32.toUInt32 1 &&& Int32.toUInt32 31)).toInt32) &&& 1431655765)) >>> (Int32.toUInt32 2 &&& Int32.toUInt32 31)).toInt32) &&& 858993459)) >>> (Int32.toUInt32 4 &&& Int32.toUInt32 31)).toInt32)) &&& 252645135) + ((Int32.toUInt32 (((((x0 - (((Int32.toUInt32 x0 >>> (Int32.toUInt32 1 &&& Int32.toUInt32 31)).toInt32) &&& 1431655765)) &&& 858993459) + (((Int32.toUInt32 (x0 - (((Int32.toUInt32 x0 >>> (Int32.toUInt32 1 &&& Int32.toUInt32 31)).toInt32) &&& 1431655765)) >>> (Int32.toUInt32 2 &&& Int32.toUInt32 31)).toInt32) &&& 858993459)) + ((Int32.toUInt32 (((x0 - (((Int32.toUInt32 x0 >>> (Int32.toUInt32 1 &&& Int32.toUInt32 31)).toInt32) &&& 1431655765)) &&& 858993459) + (((Int32.toUInt32 (x0 - (((Int32.toUInt32 x0 >>> (Int32.toUInt32 1 &&& Int32.toUInt32 31)).toInt32) &&& 1431655765)) >>> (Int32.toUInt32 2 &&& Int32.toUInt32 31)).toInt32) &&& 858993459)) >>> (Int32.toUInt32 4 &&& Int32.toUInt32 31)).toInt32)) &&& 252645135) >>> (Int32.toUInt32 8 &&& Int32.toUInt32 31)).toInt32)) >>> (Int32.toUInt32 16 &&& Int32.toUInt32 31)).toInt32)) &&& 63)
theorem c_242 (x : Int32) (h : am_H) : fm_242 x h = some (.inl (some (.int (pcI x)), h)) := rfl
theorem pcI_6 : ∀ C, C < 64 → pcI (nI C) = nI (pc6 C) := by decide +kernel
def pcA (x : Nat) : Nat := x - ((x >>> 1) &&& 1431655765)
def pcB (x : Nat) : Nat := (x &&& 858993459) + ((x >>> 2) &&& 858993459)
def pcC (x : Nat) : Nat := (x + (x >>> 4)) &&& 252645135
def pcW (x : Nat) : Nat := ((pcC (pcB (pcA x)) + (pcC (pcB (pcA x)) >>> 8)) + ((pcC (pcB (pcA x)) + (pcC (pcB (pcA x)) >>> 8)) >>> 16)) &&& 63
theorem pcW_1 : ∀ a, a < 256 → ∀ b, b < 256 → (Nat.beq (pcW (a + 256 * b)) 1 = true → (List.range 16).any (fun d => Nat.beq (a + 256 * b) (2 ^ d)) = true) := by decide +kernel
theorem nI_and (a b : Nat) : nI a &&& nI b = nI (a &&& b) := by
  refine Int32.toBitVec_inj.mp ?_
  rw [Int32.toBitVec_and]
  show BitVec.ofNat 32 a &&& BitVec.ofNat 32 b = BitVec.ofNat 32 (a &&& b)
  rw [BitVec.ofNat_and]
theorem nI_ush : ∀ k, k < 17 → ∀ a, a < 2 ^ 31 → (Int32.toUInt32 (nI a) >>> (Int32.toUInt32 (nI k) &&& Int32.toUInt32 31)).toInt32 = nI (a >>> k) := fun k hk a ha => by
  have e : (Int32.toUInt32 (nI k) &&& Int32.toUInt32 31) = UInt32.ofNat k := by
    have key : ∀ k, k < 17 → (Int32.toUInt32 (nI k) &&& Int32.toUInt32 31) = UInt32.ofNat k := by decide +kernel
    exact key k hk
  refine Int32.toBitVec_inj.mp ?_
  rw [e]
  show (BitVec.ofNat 32 a) >>> ((UInt32.ofNat k).toBitVec % 32) = BitVec.ofNat 32 (a >>> k)
  refine BitVec.eq_of_toNat_eq ?_
  have e2 : ((UInt32.ofNat k).toBitVec % 32).toNat = k := by
    have key : ∀ k, k < 17 → ((UInt32.ofNat k).toBitVec % 32).toNat = k := by decide +kernel
    exact key k hk
  rw [BitVec.ushiftRight_eq', BitVec.toNat_ushiftRight, e2, BitVec.toNat_ofNat, BitVec.toNat_ofNat, Nat.mod_eq_of_lt (by omega)]
  have := Nat.shiftRight_le a k
  rw [Nat.mod_eq_of_lt (by omega)]
theorem pcI_W {M : Nat} (h : M < 65536) : pcI (nI M) = nI (pcW M) := by
  have u1 := fun a (ha : a < 2 ^ 31) => nI_ush 1 (by decide) a ha
  have u2 := fun a (ha : a < 2 ^ 31) => nI_ush 2 (by decide) a ha
  have u4 := fun a (ha : a < 2 ^ 31) => nI_ush 4 (by decide) a ha
  have u8 := fun a (ha : a < 2 ^ 31) => nI_ush 8 (by decide) a ha
  have u16 := fun a (ha : a < 2 ^ 31) => nI_ush 16 (by decide) a ha
  have l1 : (M >>> 1) &&& 1431655765 ≤ M := Nat.le_trans Nat.and_le_left (Nat.shiftRight_le _ _)
  have eA : nI M - (((Int32.toUInt32 (nI M) >>> (Int32.toUInt32 1 &&& Int32.toUInt32 31)).toInt32) &&& 1431655765) = nI (pcA M) := by
    rw [show (1 : Int32) = nI 1 from rfl, u1 M (by omega), show (1431655765 : Int32) = nI 1431655765 from rfl, nI_and, nI_sub l1]
    rfl
  have lA : pcA M < 65536 := by unfold pcA; omega
  have eB : (nI (pcA M) &&& 858993459) + (((Int32.toUInt32 (nI (pcA M)) >>> (Int32.toUInt32 2 &&& Int32.toUInt32 31)).toInt32) &&& 858993459) = nI (pcB (pcA M)) := by
    rw [show (2 : Int32) = nI 2 from rfl, u2 _ (by omega), show (858993459 : Int32) = nI 858993459 from rfl, nI_and, nI_and, nI_add]
    rfl
  have lB : pcB (pcA M) < 131072 := by
    unfold pcB
    have h1 : pcA M &&& 858993459 ≤ pcA M := Nat.and_le_left
    have h2 : (pcA M >>> 2) &&& 858993459 ≤ pcA M := Nat.le_trans Nat.and_le_left (Nat.shiftRight_le _ _)
    omega
  have eC : (nI (pcB (pcA M)) + ((Int32.toUInt32 (nI (pcB (pcA M))) >>> (Int32.toUInt32 4 &&& Int32.toUInt32 31)).toInt32)) &&& 252645135 = nI (pcC (pcB (pcA M))) := by
    rw [show (4 : Int32) = nI 4 from rfl, u4 _ (by omega), nI_add, show (252645135 : Int32) = nI 252645135 from rfl, nI_and]
    rfl
  have lC : pcC (pcB (pcA M)) < 262144 := by
    unfold pcC
    have h1 : (pcB (pcA M) + pcB (pcA M) >>> 4) &&& 252645135 ≤ pcB (pcA M) + pcB (pcA M) >>> 4 := Nat.and_le_left
    have h2 : pcB (pcA M) >>> 4 ≤ pcB (pcA M) := Nat.shiftRight_le _ _
    omega
  have l8 : pcC (pcB (pcA M)) >>> 8 ≤ pcC (pcB (pcA M)) := Nat.shiftRight_le _ _
  unfold pcI
  rw [eA, eB, eC, show (8 : Int32) = nI 8 from rfl, u8 _ (by omega), nI_add, show (16 : Int32) = nI 16 from rfl, u16 _ (by omega), nI_add, show (63 : Int32) = nI 63 from rfl, nI_and]
  rfl
/-- one bit alone -/
theorem pc_one {x : Int32} {A : Nat → Bool} (h : ∀ d, d < 32 → tbi x d = A d) (h16 : ∀ d, A d = true → d < 16) (h1 : pcI x = 1) : ∀ d e, A d = true → A e = true → d = e := by
  obtain ⟨M, hM⟩ : ∃ M, M = x.toBitVec.toNat := ⟨_, rfl⟩
  have tb : ∀ d, d < 32 → M.testBit d = A d := fun d hd => by
    rw [← h d hd, hM]
    rfl
  have lt : M < 65536 := by
    refine Nat.lt_pow_two_of_testBit (n := 16) M (fun d hd => ?_)
    by_cases c : d < 32
    · rw [tb d c]
      exact Bool.eq_false_iff.mpr (fun q => absurd (h16 d q) (by omega))
    · have : M < 2 ^ 32 := by rw [hM]; exact x.toBitVec.isLt
      exact Nat.testBit_lt_two_pow (Nat.lt_of_lt_of_le this (Nat.pow_le_pow_right (by decide) (by omega)))
  have ex : x = nI M := by
    refine Int32.toBitVec_inj.mp ?_
    show x.toBitVec = BitVec.ofNat 32 M
    rw [hM, BitVec.ofNat_toNat, BitVec.setWidth_eq]
  have lw : pcW M < 64 := by unfold pcW; exact Nat.lt_of_le_of_lt Nat.and_le_right (by decide)
  have e1 : pcW M = 1 := (nI_eq (a := pcW M) (b := 1) (by omega) (by omega)).mp (by rw [← pcI_W lt, ← ex]; exact h1)
  have es : M % 256 + 256 * (M / 256) = M := Nat.mod_add_div M 256
  have key := pcW_1 (M % 256) (Nat.mod_lt _ (by decide)) (M / 256) (by omega)
  rw [es] at key
  have ky := key (by rw [e1]; rfl)
  rw [List.any_eq_true] at ky
  obtain ⟨b, b1, b2⟩ := ky
  have b3 : M = 2 ^ b := Nat.eq_of_beq_eq_true b2
  have b4 : ∀ d, A d = true → b = d := fun d hd => by
    have := tb d (by have := h16 d hd; omega)
    rw [b3, hd, Nat.testBit_two_pow] at this
    exact of_decide_eq_true this
  intro d e hd he
  exact (b4 d hd).symm.trans (b4 e he)
