/-! ===== the second desk; take(); clean(b) ===== -/
def dk2V (V : Nat → Nat → Value) (kd ln sz : Nat) : Nat → Nat → Value := vup (vup (vup V 174 20 (.int (nI kd))) 174 18 (.int (nI sz))) 174 19 (.int (nI ln))
def dk2I (I : Nat → Nat → Int32) (b sz : Nat) : Nat → Nat → Int32 := iup (iup I 188 (ldr (I 188) (I 184) b sz)) 189 (ldr (I 189) (I 185) b sz)
set_option maxRecDepth 100000 in
set_option maxHeartbeats 1600000 in
theorem r_391l {V : Nat → Nat → Value} {I : Nat → Nat → Int32} {L : Nat → Nat → Int64} {R : Nat → Nat → Option Nat} {tl : am_H} {N b sz : Nat} {o : Option am_O} (h18 : V 174 18 = .int (nI sz)) (hb : b < 600) (hs : sz ≤ 60) (ho : ((am_vI (am_pG 3092 (.ref 174) (fx V (iup (iup I 188 (ldr (I 188) (I 184) b sz)) 189 (ldr (I 189) (I 185) b sz)) L R ++ tl))).bind fun v4 => (if ¬ v4 = 0 then (fg_391_91 N (fx V (iup (iup I 188 (ldr (I 188) (I 184) b sz)) 189 (ldr (I 189) (I 185) b sz)) L R ++ tl)) else (if am_pOk 12 (.ref 174) (fx V (iup (iup I 188 (ldr (I 188) (I 184) b sz)) 189 (ldr (I 189) (I 185) b sz)) L R ++ tl) then am_cV true (fm_392 N (.ref 174) (fx V (iup (iup I 188 (ldr (I 188) (I 184) b sz)) 189 (ldr (I 189) (I 185) b sz)) L R ++ tl)) (fun h9 => (fg_391_91 N h9)) else none))) = o) : ∀ (m k K : Nat), k + m = sz → m < K → fg_391_32 N K (.ref 174) (nI b) (nI k) (fx V (iup (iup I 188 (ldr (I 188) (I 184) b k)) 189 (ldr (I 189) (I 185) b k)) L R ++ tl) = o := by
  intro m
  induction m with
  | zero =>
    intro k K hk hK
    obtain ⟨K, rfl⟩ : ∃ k, K = k + 1 := ⟨K - 1, by omega⟩
    obtain rfl : k = sz := by omega
    rw [fg_391_32]
    exact ev_b (rdI h18) (ev_t (nI_le (Nat.le_refl _) (by omega)) ho)
  | succ m ih =>
    intro k K hk hK
    obtain ⟨K, rfl⟩ : ∃ k, K = k + 1 := ⟨K - 1, by omega⟩
    rw [fg_391_32]
    dsimp only
    rw [show (60 : Int32) * nI b + nI k = nI (60 * b + k) from nI_add' b 60 k, nI_1]
    refine ev_b (rdI h18) (ev_f (nI_ge (by omega) (by omega)) (ev_b (a := Value.ref 188) rfl (ev_b (a := Value.ref 184) rfl (ev_b (qa_184 (by omega)) ?_))))
    refine ev_b (a := fx V (iup (iup I 188 (ldr (I 188) (I 184) b (k + 1))) 189 (ldr (I 189) (I 185) b k)) L R ++ tl) (ev_s (f := ldr (I 188) (I 184) b k) (n := 400) rfl (am_inb_n (by omega) (by omega)) rfl (by rw [nI_clamp (by omega), ← ldr_s (D := I 188) (Q := I 184)]; rfl)) ?_
    refine ev_b (a := Value.ref 189) rfl (ev_b (a := Value.ref 185) rfl (ev_b (qa_185 (by omega)) ?_))
    refine ev_b (a := fx V (iup (iup I 188 (ldr (I 188) (I 184) b (k + 1))) 189 (ldr (I 189) (I 185) b (k + 1))) L R ++ tl) (ev_s (f := ldr (I 189) (I 185) b k) (n := 400) rfl (am_inb_n (by omega) (by omega)) rfl (by rw [nI_clamp (by omega), ← ldr_s (D := I 189) (Q := I 185)]; rfl)) ?_
    exact ih (k + 1) K (by omega) (by omega)
set_option maxRecDepth 100000 in
set_option maxHeartbeats 1600000 in
theorem r_391h {V : Nat → Nat → Value} {I : Nat → Nat → Int32} {L : Nat → Nat → Int64} {R : Nat → Nat → Option Nat} {tl : am_H} {N b kd ln sz : Nat} {o : Option am_O} (hN : 100 < N) (hb : b < 600) (hs : sz ≤ 60) (q1 : I 175 b = nI kd) (q2 : I 176 b = nI sz) (q3 : I 177 b = nI ln) (ho : (if ¬ nI kd = 0 then (fg_391_91 N (fx (dk2V V kd ln sz) (dk2I I b sz) L R ++ tl)) else (if am_pOk 12 (.ref 174) (fx (dk2V V kd ln sz) (dk2I I b sz) L R ++ tl) then am_cV true (fm_392 N (.ref 174) (fx (dk2V V kd ln sz) (dk2I I b sz) L R ++ tl)) (fun h9 => (fg_391_91 N h9)) else none)) = o) : fm_391 N (.ref 174) (nI b) (fx V I L R ++ tl) = o := by
  have k := r_391l (V := dk2V V kd ln sz) (I := I) (L := L) (R := R) (tl := tl) (N := N) (b := b) (sz := sz) (o := o) (by show vup _ 174 19 _ 174 18 = _; rw [vup_v (by omega), vup_eq]) hb hs (ev_b (a := nI kd) (by show am_vI (some (vup (vup (vup V 174 20 _) 174 18 _) 174 19 _ 174 20)) = _; rw [vup_v (by omega), vup_v (by omega), vup_eq]; rfl) ho) sz 0 N (by omega) (by omega)
  have e1 : iup (iup I 188 (ldr (I 188) (I 184) b 0)) 189 (ldr (I 189) (I 185) b 0) = I := by rw [ldr_0, ldr_0, iup_self, iup_self]
  rw [e1] at k
  unfold fm_391 fg_391_0
  refine ev_b (a := Value.ref 175) rfl (ev_b (a := nI kd) ((qa_175 hb).trans (by rw [q1])) (ev_b qp_174_20 (ev_b (a := Value.ref 176) rfl (ev_b (a := nI sz) ((qa_176 hb).trans (by rw [q2])) (ev_b qp_174_18 (ev_b (a := Value.ref 177) rfl (ev_b (a := nI ln) ((qa_177 hb).trans (by rw [q3])) (ev_b qp_174_19 ?_))))))))
  exact k
theorem r_391 {V : Nat → Nat → Value} {I : Nat → Nat → Int32} {L : Nat → Nat → Int64} {R : Nat → Nat → Option Nat} {tl : am_H} {N b kd ln sz : Nat} (hN : 100 < N) (hb : b < 600) (hs : sz ≤ 60) (hk : kd ≠ 0) (hk3 : kd ≤ 3) (q1 : I 175 b = nI kd) (q2 : I 176 b = nI sz) (q3 : I 177 b = nI ln) : fm_391 N (.ref 174) (nI b) (fx V I L R ++ tl) = some (.inl (none, fx (dk2V V kd ln sz) (dk2I I b sz) L R ++ tl)) := r_391h hN hb hs q1 q2 q3 (ev_t (fun e => hk ((nI_eq (b := 0) (by omega) (by omega)).mp e)) rfl)
theorem r_391t {V : Nat → Nat → Value} {I : Nat → Nat → Int32} {L : Nat → Nat → Int64} {R : Nat → Nat → Option Nat} {tl : am_H} {N b ln : Nat} {l : List (Nat × Nat)} (hN : 100 < N) (hb : b < 600) (hl : l.length ≤ 60) (hF : isF 1 l) (q1 : I 175 b = nI 0) (q2 : I 176 b = nI l.length) (q3 : I 177 b = nI ln) (hS : ∀ k x r, l.drop k = x :: r → I 184 (60 * b + k) = nI x.1 ∧ x.1 ≤ 20) : ∃ g, rowT g l 0 ∧ fm_391 N (.ref 174) (nI b) (fx V I L R ++ tl) = some (.inl (none, fx (dk2V V 0 ln l.length) (iup (dk2I I b l.length) 192 g) L R ++ tl)) := by
  obtain ⟨g, g1, g2⟩ := r_392 (V := dk2V V 0 ln l.length) (I := dk2I I b l.length) (L := L) (R := R) (tl := tl) (N := N) (l := l) hN hl (by show vup _ 174 19 _ 174 18 = _; rw [vup_v (by omega), vup_eq]) (fun k x r hd => ⟨(ldr_at (by have := drop_len hd; omega)).trans (hS k x r hd).1, (hS k x r hd).2⟩) hF
  exact ⟨g, g1, r_391h hN hb hl q1 q2 q3 (ev_f (fun e => e rfl) (ev_i rfl (ev_cV g2 rfl)))⟩
set_option maxRecDepth 100000 in
set_option maxHeartbeats 1600000 in
/-- take(): items of a program, onto the spare one -/
theorem c_170 {V : Nat → Nat → Value} {I : Nat → Nat → Int32} {L : Nat → Nat → Int64} {R : Nat → Nat → Option Nat} {tl : am_H} {A it m i j cnt wd sz : Nat} {kd ln x1 x2 x3 x4 x5 : Int32} {x6 : Int64} {f : Nat → Int32} (p1 : (fx V I L R ++ tl)[A]? = some (.inr (3, [.ref it, .int kd, .int ln, .int (nI sz), .int (nI wd), .int x1, .int x2, .int x3, .int x4, .int x5, .long x6]))) (p2 : (fx V I L R ++ tl)[it]? = some (.inl (0, m, .inl f))) (h3 : V 167 3 = .int (nI cnt)) (h4 : V 167 4 = .int (nI wd)) (hij : i ≤ j) (hj : j ≤ sz) (hsz : sz ≤ 60) (hw : wd ≤ 5) (hm : sz * wd ≤ m) (hm2 : m ≤ 1000) (hc : (cnt + (j - i)) * wd ≤ 120) (hcn : cnt ≤ 120) : fm_170 (.ref 167) (.ref A) (nI i) (nI j) (fx V I L R ++ tl) = some (.inl (some (.int 1), fx (vup V 167 3 (.int (nI (cnt + (j - i))))) (iup I 168 (va_cpy f (I 168) (i * wd) (cnt * wd) ((j - i) * wd))) L R ++ tl)) := by
  have hq : (fx V I L R ++ tl)[167]? = some (.inr (3, [.ref 168, V 167 1, V 167 2, V 167 3, V 167 4, V 167 5, V 167 6, V 167 7, V 167 8, V 167 9, V 167 10])) := rfl
  have g3 : am_vI (am_pG 771 (.ref 167) (fx V I L R ++ tl)) = some (nI cnt) := ev_gI hq rfl (by show some (V 167 3) = _; rw [h3])
  have g4 : am_vI (am_pG 772 (.ref 167) (fx V I L R ++ tl)) = some (nI wd) := ev_gI hq rfl (by show some (V 167 4) = _; rw [h4])
  have a1 : i * wd + (j - i) * wd = j * wd := by rw [← Nat.add_mul, show i + (j - i) = j by omega]
  have a2 : cnt * wd + (j - i) * wd = (cnt + (j - i)) * wd := (Nat.add_mul ..).symm
  have a3 : j * wd ≤ sz * wd := Nat.mul_le_mul_right _ hj
  unfold fm_170 fg_170_0
  refine ev_b (ev_gI p1 rfl rfl) (ev_b g4 (ev_f (fun e => e rfl) (ev_f (nI_pos (by omega)) ?_)))
  rw [nI_sub hij]
  refine ev_f (nI_pos (by omega)) (ev_b (ev_gI p1 rfl rfl) (ev_f (nI_nlt hj (by omega)) (ev_b g3 (ev_b g4 (ev_b (a := Value.ref 168) rfl (ev_b (a := nI 120) rfl ?_))))))
  rw [nI_add, ← nI_mul]
  refine ev_t (nI_le (b := 120) hc (by omega)) (ev_b (ev_gR p1 rfl rfl rfl) (ev_b g4 (ev_b (a := Value.ref 168) rfl (ev_b g3 (ev_b g4 (ev_b g4 ?_))))))
  rw [← nI_mul, ← nI_mul, ← nI_mul]
  refine ev_b (ev_cpy (f := f) (g := I 168) (n0 := m) (n1 := 120) (sp := i * wd) (dp := cnt * wd) (n := (j - i) * wd) (h1 := fx V (iup I 168 (va_cpy f (I 168) (i * wd) (cnt * wd) ((j - i) * wd))) L R ++ tl) p2 rfl (by omega) (by omega) (by omega) (by omega) rfl) ?_
  refine ev_b (a := nI cnt) (ev_gI (fs := [.ref 168, V 167 1, V 167 2, V 167 3, V 167 4, V 167 5, V 167 6, V 167 7, V 167 8, V 167 9, V 167 10]) (c := 3) rfl rfl (by show some (V 167 3) = _; rw [h3])) ?_
  rw [nI_add]
  exact ev_b qp_167_3 rfl
/-- which comparators ever exchange -/
def acR (s v : Nat → Nat) : Nat → Nat → Nat → (Nat → Bool) → (Nat → Bool)
  | 0, _, _, A => A
  | m + 1, c, x, A => acR s v m (c + 1) (xch x (s c) (v c)) (if xch x (s c) (v c) = x then A else adB A c)
def acA (s v : Nat → Nat) (sz : Nat) : Nat → Nat → (Nat → Bool) → (Nat → Bool)
  | 0, _, A => A
  | m + 1, x, A => acA s v sz m (x + 1) (acR s v sz 0 x A)
set_option maxRecDepth 100000 in
set_option maxHeartbeats 1600000 in
theorem c_316i {V : Nat → Nat → Value} {I : Nat → Nat → Int32} {L : Nat → Nat → Int64} {R : Nat → Nat → Option Nat} {tl : am_H} {N a it ln sz row : Nat} {f : Nat → Int32} {s v : Nat → Nat} {T : Value} {rc : Value → Value → Int64 → Int32 → am_H → Option am_O} (ho : ntO ln sz s v) (hp : ntC V I tl a it ln sz f s v) : ∀ (m c K x : Nat) (w : Int64) (A : Nat → Bool), c + m = sz → m < K → x < 2 ^ ln → (∀ d, d < 40 → tb w d = A d) → ∃ w', (∀ d, d < 40 → tb w' d = acR s v m c x A d) ∧ fg_316_23 N rc K (.ref (269 + a)) T w (nI row) (nI x) (nI c) (fx V I L R ++ tl) = rc (.ref (269 + a)) T w' (nI (row + 1)) (fx V I L R ++ tl) := by
  have h40 := ho.2.2.1
  have o3 := ho.2.1
  obtain ⟨⟨x1, x2, x3, x4, x5, x6, p1⟩, hG⟩ := nt_get ho hp V I L R (fun _ => rfl) rfl
  intro m
  induction m with
  | zero =>
    intro c K x w A hc hK hx hA
    obtain ⟨K, rfl⟩ : ∃ k, K = k + 1 := ⟨K - 1, by omega⟩
    refine ⟨w, hA, ?_⟩
    rw [fg_316_23]
    dsimp only
    rw [nI_1]
    exact ev_b (ev_gI p1 rfl rfl) (ev_t (nI_le (by omega) (by omega)) rfl)
  | succ m ih =>
    intro c K x w A hc hK hx hA
    obtain ⟨K, rfl⟩ : ∃ k, K = k + 1 := ⟨K - 1, by omega⟩
    obtain ⟨g0, g1⟩ := hG c (by omega)
    obtain ⟨o1, o2⟩ := ho.2.2.2 c (by omega)
    have xl := xc_lt ln (by omega) x hx _ (by omega) _ o2 o1
    have x8 := p8 o3 hx
    have x9 := p8 o3 xl
    have hA2 : ∀ d, d < 40 → tb (w ||| (if xch x (s c) (v c) = x then (0 : Int64) else (1 <<< (Int32.toInt64 (nI c) &&& 63) : Int64))) d = (if xch x (s c) (v c) = x then A else adB A c) d := fun d hd => by
      by_cases e : xch x (s c) (v c) = x
      · rw [if_pos e, if_pos e, tb_z]; exact hA d hd
      · rw [if_neg e, if_neg e, tb_o (by omega) hd, hA d hd]
        unfold adB
        by_cases e2 : d = c
        · rw [if_pos e2, decide_eq_true e2, Bool.or_true]
        · rw [if_neg e2, decide_eq_false e2, Bool.or_false]
    obtain ⟨w', h1, h2⟩ := ih (c + 1) K _ _ _ (by omega) (by omega) xl hA2
    refine ⟨w', h1, ?_⟩
    rw [fg_316_23]
    refine ev_b (ev_gI p1 rfl rfl) (ev_f (nI_ge (by omega) (by omega)) (ev_i (ev_ok p1) (ev_cI g0 (ev_i (ev_ok p1) (ev_cI g1 (ev_cI (pe_292 _ _ _ _) ?_))))))
    rw [xc_t x x8 (s c) (by omega) (v c) (by omega) o1]
    by_cases e : xch x (s c) (v c) = x
    · rw [if_pos e] at h2
      refine ev_t (by rw [e]) ?_
      unfold fg_316_69
      rw [nI_1]
      exact h2
    · rw [if_neg e] at h2
      refine ev_f (fun e' => e ((nI_eq (by omega) (by omega)).mp e')) ?_
      unfold fg_316_69
      rw [nI_1]
      exact h2
set_option maxRecDepth 100000 in
set_option maxHeartbeats 1600000 in
theorem c_316o {V : Nat → Nat → Value} {I : Nat → Nat → Int32} {L : Nat → Nat → Int64} {R : Nat → Nat → Option Nat} {tl : am_H} {N a it ln sz : Nat} {f : Nat → Int32} {s v : Nat → Nat} {T : Value} (hN : 5000 < N) (ho : ntO ln sz s v) (hp : ntC V I tl a it ln sz f s v) : ∀ (m x K : Nat) (w : Int64) (A : Nat → Bool), x + m = 2 ^ ln → m < K → (∀ d, d < 40 → tb w d = A d) → ∃ w', (∀ d, d < 40 → tb w' d = acA s v sz m x A d) ∧ fg_316_5 N K (.ref (269 + a)) T w (nI x) (fx V I L R ++ tl) = (if am_pOk 3 T (fx V I L R ++ tl) then am_cV true (fm_34 T 3 (nI ln) (fx V I L R ++ tl)) (fun h8 => (fg_316_99 N N (.ref (269 + a)) T w' 0 h8)) else none) := by
  have h40 := ho.2.2.1
  have o3 := ho.2.1
  have l8 := p8l o3
  obtain ⟨⟨x1, x2, x3, x4, x5, x6, p1⟩, hG⟩ := nt_get ho hp V I L R (fun _ => rfl) rfl
  intro m
  induction m with
  | zero =>
    intro x K w A hx hK hA
    obtain ⟨K, rfl⟩ : ∃ k, K = k + 1 := ⟨K - 1, by omega⟩
    refine ⟨w, hA, ?_⟩
    rw [fg_316_5]
    refine ev_b (ev_gI p1 rfl rfl) ?_
    rw [sh_n ln (by omega)]
    exact ev_t (nI_le (by omega) (by omega)) (ev_b (ev_gI p1 rfl rfl) rfl)
  | succ m ih =>
    intro x K w A hx hK hA
    obtain ⟨K, rfl⟩ : ∃ k, K = k + 1 := ⟨K - 1, by omega⟩
    obtain ⟨w1, h1, h2⟩ := c_316i (V := V) (I := I) (L := L) (R := R) (tl := tl) (N := N) (row := x) (T := T) (rc := fg_316_5 N K) ho hp sz 0 N x w A (by omega) (by omega) (by omega) hA
    obtain ⟨w2, h3, h4⟩ := ih (x + 1) K w1 _ (by omega) (by omega) h1
    refine ⟨w2, h3, ?_⟩
    rw [fg_316_5]
    refine ev_b (ev_gI p1 rfl rfl) ?_
    rw [sh_n ln (by omega)]
    exact ev_f (nI_ge (by omega) (by omega)) (h2.trans h4)
/-- the comparators that are kept, of the first c -/
def clK (A : Nat → Bool) (s v : Nat → Nat) : Nat → Nat × (Nat → Nat) × (Nat → Nat)
  | 0 => (0, fun _ => 0, fun _ => 0)
  | c + 1 => if A c = true then ((clK A s v c).1 + 1, fun k => if k = (clK A s v c).1 then s c else (clK A s v c).2.1 k, fun k => if k = (clK A s v c).1 then v c else (clK A s v c).2.2 k) else clK A s v c
theorem clK_le (A : Nat → Bool) (s v : Nat → Nat) : ∀ c, (clK A s v c).1 ≤ c := by
  intro c
  induction c with
  | zero => exact Nat.le_refl _
  | succ c ih =>
    rw [clK]
    split
    · show (clK A s v c).1 + 1 ≤ c + 1
      omega
    · omega
theorem clK_in {A : Nat → Bool} {s v : Nat → Nat} {sz ln : Nat} (h : ∀ c, c < sz → s c < v c ∧ v c < ln) : ∀ c, c ≤ sz → ∀ k, k < (clK A s v c).1 → (clK A s v c).2.1 k < (clK A s v c).2.2 k ∧ (clK A s v c).2.2 k < ln := by
  intro c
  induction c with
  | zero => intro _ k hk; exact absurd hk (Nat.not_lt_zero _)
  | succ c ih =>
    intro hc k hk
    by_cases e : A c = true
    · rw [clK, if_pos e] at hk ⊢
      show (if k = (clK A s v c).1 then s c else (clK A s v c).2.1 k) < (if k = (clK A s v c).1 then v c else (clK A s v c).2.2 k) ∧ (if k = (clK A s v c).1 then v c else (clK A s v c).2.2 k) < ln
      have hk : k < (clK A s v c).1 + 1 := hk
      by_cases e2 : k = (clK A s v c).1
      · rw [if_pos e2, if_pos e2]; exact h c (by omega)
      · rw [if_neg e2, if_neg e2]; exact ih (by omega) k (by omega)
    · rw [clK, if_neg e] at hk ⊢
      exact ih (by omega) k hk
def clF (q : Nat × (Nat → Nat) × (Nat → Nat)) (g : Nat → Int32) : Prop := ∀ k, k < q.1 → g (k * 2) = nI (q.2.1 k) ∧ g (k * 2 + 1) = nI (q.2.2 k)
theorem clF_s {A : Nat → Bool} {s v : Nat → Nat} {c sz : Nat} {f g : Nat → Int32} (hc : c < sz) (hf : ∀ c, c < sz → f (c * 2) = nI (s c) ∧ f (c * 2 + 1) = nI (v c)) (e : A c = true) (h : clF (clK A s v c) g) : clF (clK A s v (c + 1)) (va_cpy f g (c * 2) ((clK A s v c).1 * 2) (1 * 2)) := by
  intro k hk
  rw [clK, if_pos e] at hk ⊢
  have hk : k < (clK A s v c).1 + 1 := hk
  show va_cpy f g (c * 2) ((clK A s v c).1 * 2) (1 * 2) (k * 2) = nI (if k = (clK A s v c).1 then s c else (clK A s v c).2.1 k) ∧ va_cpy f g (c * 2) ((clK A s v c).1 * 2) (1 * 2) (k * 2 + 1) = nI (if k = (clK A s v c).1 then v c else (clK A s v c).2.2 k)
  unfold va_cpy
  by_cases e2 : k = (clK A s v c).1
  · rw [if_pos e2, if_pos e2, if_pos ⟨by omega, by omega⟩, if_pos ⟨by omega, by omega⟩, show c * 2 + (k * 2 - (clK A s v c).1 * 2) = c * 2 by omega, show c * 2 + (k * 2 + 1 - (clK A s v c).1 * 2) = c * 2 + 1 by omega]
    exact hf c hc
  · rw [if_neg e2, if_neg e2, if_neg (fun e => by omega), if_neg (fun e => by omega)]
    exact h k (by omega)
set_option maxRecDepth 100000 in
set_option maxHeartbeats 1600000 in
theorem c_316k {V : Nat → Nat → Value} {I : Nat → Nat → Int32} {L : Nat → Nat → Int64} {R : Nat → Nat → Option Nat} {tl : am_H} {N a it ln sz : Nat} {f : Nat → Int32} {s v : Nat → Nat} {w : Int64} {A : Nat → Bool} (ho : ntO ln sz s v) (hp : ntC V I tl a it ln sz f s v) (h4 : V 167 4 = .int (nI 2)) (hA : ∀ d, d < 40 → tb w d = A d) : ∀ (m c K : Nat) (g : Nat → Int32), c + m = sz → m < K → clF (clK A s v c) g → ∃ g', clF (clK A s v sz) g' ∧ fg_316_99 N K (.ref (269 + a)) (.ref 167) w (nI c) (fx (vup V 167 3 (.int (nI (clK A s v c).1))) (iup I 168 g) L R ++ tl) = some (.inl (none, fx (vup V 167 3 (.int (nI (clK A s v sz).1))) (iup I 168 g') L R ++ tl)) := by
  have h40 := ho.2.2.1
  intro m
  induction m with
  | zero =>
    intro c K g hc hK hg
    obtain ⟨K, rfl⟩ : ∃ k, K = k + 1 := ⟨K - 1, by omega⟩
    obtain rfl : c = sz := by omega
    obtain ⟨⟨x1, x2, x3, x4, x5, x6, p1⟩, -⟩ := nt_get ho hp (vup V 167 3 (.int (nI (clK A s v c).1))) (iup I 168 g) L R (fun _ => vup_na (by omega)) (iup_na (by omega))
    refine ⟨g, hg, ?_⟩
    rw [fg_316_99]
    exact ev_b (ev_gI p1 rfl rfl) (ev_t (nI_le (by omega) (by omega)) rfl)
  | succ m ih =>
    intro c K g hc hK hg
    obtain ⟨K, rfl⟩ : ∃ k, K = k + 1 := ⟨K - 1, by omega⟩
    obtain ⟨⟨x1, x2, x3, x4, x5, x6, p1⟩, -⟩ := nt_get ho hp (vup V 167 3 (.int (nI (clK A s v c).1))) (iup I 168 g) L R (fun _ => vup_na (by omega)) (iup_na (by omega))
    have cl := clK_le A s v c
    by_cases e : A c = true
    · obtain ⟨g', h1, h2⟩ := ih (c + 1) K (va_cpy f g (c * 2) ((clK A s v c).1 * 2) (1 * 2)) (by omega) (by omega) (clF_s (by omega) hp.2 e hg)
      obtain ⟨y1, y2, y3, y4, y5, y6, z1, z2⟩ := hp.1 (vup V 167 3 (.int (nI (clK A s v c).1))) (iup I 168 g) L R (fun _ => vup_na (by omega)) (iup_na (by omega))
      have t := c_170 (V := vup V 167 3 (.int (nI (clK A s v c).1))) (I := iup I 168 g) (L := L) (R := R) (tl := tl) (A := 269 + a) (it := 269 + it) (m := sz * wdN 3) (i := c) (j := c + 1) (cnt := (clK A s v c).1) (wd := 2) (sz := sz) z1 z2 vup_eq ((vup_nj (by decide)).trans h4) (by omega) (by omega) (by omega) (by omega) (Nat.le_refl _) (by show sz * 2 ≤ 1000; omega) (by omega) (by omega)
      rw [show c + 1 - c = 1 by omega, iup_eq, iup_iup, vup_2] at t
      have k1 : (clK A s v (c + 1)).1 = (clK A s v c).1 + 1 := by rw [clK, if_pos e]
      rw [k1] at h2
      refine ⟨g', h1, ?_⟩
      rw [fg_316_99]
      refine ev_b (ev_gI p1 rfl rfl) (ev_f (nI_ge (by omega) (by omega)) (ev_f (fun e' => e' ((tb_t (by omega)).mpr ((hA c (by omega)).trans e))) (ev_i rfl ?_)))
      rw [nI_1]
      refine ev_cI t ?_
      unfold fg_316_131
      rw [nI_1]
      exact h2
    · have k1 : clK A s v (c + 1) = clK A s v c := by rw [clK, if_neg e]
      obtain ⟨g', h1, h2⟩ := ih (c + 1) K g (by omega) (by omega) (by rw [k1]; exact hg)
      rw [k1] at h2
      refine ⟨g', h1, ?_⟩
      rw [fg_316_99]
      refine ev_b (ev_gI p1 rfl rfl) (ev_f (nI_ge (by omega) (by omega)) (ev_t (fun e' => e ((hA c (by omega)).symm.trans ((tb_t (by omega)).mp e'))) ?_))
      unfold fg_316_131
      rw [nI_1]
      exact h2
