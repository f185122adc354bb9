/-! ===== a birth on both sides ===== -/
theorem csq_in {D S : Nat → Int32} {x k : Nat} : ∀ n, k < n → csq D S x n (x + k) = S k := by
  intro n
  induction n with
  | zero => intro h; exact absurd h (Nat.not_lt_zero _)
  | succ n ih =>
    intro h
    show upd (csq D S x n) (x + n) (S n) (x + k) = S k
    by_cases c : k = n
    · subst c; exact upd_eq
    · rw [upd_ne (by omega)]; exact ih (by omega)
theorem csq_out {D S : Nat → Int32} {x y : Nat} : ∀ n, (y < x ∨ x + n ≤ y) → csq D S x n y = D y := by
  intro n
  induction n with
  | zero => intro _; rfl
  | succ n ih =>
    intro h
    show upd (csq D S x n) (x + n) (S n) y = D y
    rw [upd_ne (by omega)]
    exact ih (by omega)
theorem itm_k {kd sz : Nat} {s v s' v' f : Nat → Int32} (h : ∀ k, k < sz → s' k = s k ∧ v' k = v k) (hi : itm kd s v sz f) : itm kd s' v' sz f := by
  unfold itm at hi ⊢
  by_cases c : kd = 2
  · rw [if_pos c] at hi ⊢
    intro k hk
    rw [(h k hk).1, (h k hk).2]
    exact hi k hk
  · rw [if_neg c] at hi ⊢
    intro k hk
    rw [(h k hk).1, (h k hk).2]
    exact hi k hk
theorem okT_k {sz : Nat} {s v s' v' : Nat → Int32} (h : ∀ k, k < sz → s' k = s k ∧ v' k = v k) (hi : okT sz s v) : okT sz s' v' := by
  obtain ⟨l, l1, l2, l3⟩ := hi
  refine ⟨l, l1, l2, fun k x r e => ?_⟩
  have hk : k < sz := by
    have e2 := congrArg List.length e
    rw [List.length_drop, List.length_cons] at e2
    omega
  rw [(h k hk).1, (h k hk).2]
  exact l3 k x r e
theorem sound_k {kd ln sz : Nat} {s v s' v' : Nat → Int32} (h : ∀ k, k < sz → s' k = s k ∧ v' k = v k) (hi : sound kd ln sz s v) : sound kd ln sz s' v' := by
  obtain ⟨h1, h2, h3, h4, h5, h6, h7⟩ := hi
  refine ⟨h1, h2, h3, fun e => okT_k h (h4 e), fun e => ?_, fun e => ?_, fun e => ?_⟩
  · obtain ⟨l, a, ht, k1, k2, k3⟩ := h5 e
    refine ⟨l, a, ht, k1, k2, fun k hk => ?_⟩
    rw [(h k hk).1, (h k hk).2]
    exact k3 k hk
  · obtain ⟨k1, k2⟩ := h6 e
    refine ⟨k1, fun k hk => ?_⟩
    rw [(h k hk).1, (h k hk).2]
    exact k2 k hk
  · obtain ⟨k1, k2, k3, k4⟩ := h7 e
    refine ⟨k1, k2, k3, fun k hk => ?_⟩
    rw [(h k hk).1, (h k hk).2]
    exact k4 k hk
theorem va_eq {f : Nat → Option Nat} {i : Nat} {v : Option Nat} : va_up f i v i = v := if_pos rfl
theorem va_ne {f : Nat → Option Nat} {i j : Nat} {v : Option Nat} (h : j ≠ i) : va_up f i v j = f j := if_neg h
theorem rup_eq {R : Nat → Nat → Option Nat} {a : Nat} {f : Nat → Option Nat} : rup R a f a = f := if_pos rfl
theorem rup_na {R : Nat → Nat → Option Nat} {a b : Nat} {f : Nat → Option Nat} (h : b ≠ a) : rup R a f b = R b := if_neg h
/-- what is born -/
def brt (t : Nat) (kd ln sz : Nat) (x1 x2 x3 x4 x5 : Int32) (x6 : Int64) (f : Nat → Int32) : am_H := [.inr (3, [.ref (269 + t + 1), .int (nI kd), .int (nI ln), .int (nI sz), .int (nI (wdN kd)), .int x1, .int x2, .int x3, .int x4, .int x5, .long x6]), .inl (0, sz * wdN kd, .inl f)]
theorem brt_0 {tl : am_H} {kd ln sz : Nat} {x1 x2 x3 x4 x5 : Int32} {x6 : Int64} {f : Nat → Int32} : (tl ++ brt tl.length kd ln sz x1 x2 x3 x4 x5 x6 f)[tl.length]? = some (.inr (3, [.ref (269 + (tl.length + 1)), .int (nI kd), .int (nI ln), .int (nI sz), .int (nI (wdN kd)), .int x1, .int x2, .int x3, .int x4, .int x5, .long x6])) := by
  rw [List.getElem?_append_right (Nat.le_refl _), Nat.sub_self]
  rfl
theorem brt_1 {tl : am_H} {kd ln sz : Nat} {x1 x2 x3 x4 x5 : Int32} {x6 : Int64} {f : Nat → Int32} : (tl ++ brt tl.length kd ln sz x1 x2 x3 x4 x5 x6 f)[tl.length + 1]? = some (.inl (0, sz * wdN kd, .inl f)) := by
  rw [List.getElem?_append_right (by omega), show tl.length + 1 - tl.length = 1 by omega]
  rfl
theorem room_b {tl : am_H} {n p j kd ln sz : Nat} {x1 x2 x3 x4 x5 : Int32} {x6 : Int64} {f : Nat → Int32} (hs : sz * wdN kd ≤ 120) (h : room tl n p j) : room (tl ++ brt tl.length kd ln sz x1 x2 x3 x4 x5 x6 f) (n + 1) p j := by
  refine ⟨?_, ?_⟩
  · rw [List.length_append]
    have := h.1
    show tl.length + 2 ≤ _
    omega
  · have e : am_sz (tl ++ brt tl.length kd ln sz x1 x2 x3 x4 x5 x6 f) = am_sz tl + am_sz (brt tl.length kd ln sz x1 x2 x3 x4 x5 x6 f) := by unfold am_sz; rw [List.map_append, List.sum_append]
    have k : am_sz (brt tl.length kd ln sz x1 x2 x3 x4 x5 x6 f) = 11 + (sz * wdN kd + 0) := rfl
    have := h.2
    omega
theorem rel_bear {V : Nat → Nat → Value} {I : Nat → Nat → Int32} {L : Nat → Nat → Int64} {R : Nat → Nat → Option Nat} {tl : am_H} {W : Nat → Nat → Value} {J : Nat → Nat → Int32} {M : Nat → Nat → Int64} {n p kd ln sz : Nat} {x1 x2 x3 x4 x5 : Int32} {x6 : Int64} {S T f : Nat → Int32} (hr : rel V I L R tl n p) (hn : n < 600) (v : ∀ a j, j ∈ vRel a → ¬ (a = 0 ∧ j = 1) → ¬ (a = 174 ∧ j = 1) → W a j = V a j) (w0 : W 0 1 = .int (nI (n + 1))) (w1 : W 174 1 = .int (nI (n + 1))) (e : ∀ y, y ∈ iRel → (y < 175 ∨ 185 < y) → J y = I y) (j175 : J 175 = upd (I 175) n (nI kd)) (j176 : J 176 = upd (I 176) n (nI sz)) (j177 : J 177 = upd (I 177) n (nI ln)) (j178 : J 178 = upd (I 178) n x1) (j179 : J 179 = upd (I 179) n x2) (j180 : J 180 = upd (I 180) n x3) (j181 : J 181 = upd (I 181) n x4) (j182 : J 182 = upd (I 182) n x5) (j184 : J 184 = csq (I 184) S (60 * n) sz) (j185 : J 185 = csq (I 185) T (60 * n) sz) (l : ∀ y, y ∈ lRel → y ≠ 183 → M y = L y) (m183 : M 183 = vp_updL (L 183) n x6) (w : wt W) (hi : itm kd S T sz f) (hs : sound kd ln sz S T) (hp : ped n x1 x2 x3 x4 x5) (hg : gen1 I n x1 x2 x3 x4 x5) : rel W J M (rup R 1 (va_up (R 1) n (some (269 + tl.length)))) (tl ++ brt tl.length kd ln sz x1 x2 x3 x4 x5 x6 f) (n + 1) p := by
  obtain ⟨z1, z2, z3, z4, z5, z6, z7, z8, z9, z10, z11, z12, -⟩ := hr
  have e197 : ∀ y, 197 ≤ y → y ≤ 204 → J y = I y := fun y a b => by
    rcases (by omega : y = 197 ∨ y = 198 ∨ y = 199 ∨ y = 200 ∨ y = 201 ∨ y = 202 ∨ y = 203 ∨ y = 204) with rfl | rfl | rfl | rfl | rfl | rfl | rfl | rfl <;> exact e _ (by decide) (by decide)
  have oldB : eqB I J n := fun q hq => by
    rw [j175, j176, j177, j184, j185, upd_ne (by omega), upd_ne (by omega), upd_ne (by omega)]
    exact ⟨rfl, rfl, rfl, fun k hk => by rw [csq_out sz (by omega), csq_out sz (by omega)]; exact ⟨rfl, rfl⟩⟩
  have old : ∀ b, b < n → J 175 b = I 175 b := fun b hb => by rw [j175, upd_ne (by omega)]
  refine ⟨⟨by omega, w0, w1⟩, fun b hb => ?_, rTx_c (e 3 (by decide) (by decide)) (e 218 (by decide) (by decide)) (v 2 1 (by decide) (by decide) (by decide)) (v 174 68 (by decide) (by decide) (by decide)) z3, rCs_c (e 15 (by decide) (by decide)) e197 (v 14 1 (by decide) (by decide) (by decide)) (v 174 31 (by decide) (by decide) (by decide)) z4, rDr_c (e 164 (by decide) (by decide)) (e 205 (by decide) (by decide)) (v 174 40 (by decide) (by decide) (by decide)) z5, rSe_c (e 38 (by decide) (by decide)) (e 206 (by decide) (by decide)) (v 16 0 (by decide) (by decide) (by decide)) (v 27 0 (by decide) (by decide) (by decide)) z6, ?_, rTo_c (v 0 12 (by decide) (by decide) (by decide)) (v 0 13 (by decide) (by decide) (by decide)) (v 174 56 (by decide) (by decide) (by decide)) (v 174 57 (by decide) (by decide) (by decide)) z8, ⟨by rw [e 166 (by decide) (by decide), e 254 (by decide) (by decide)]; exact z9.1, by rw [e 165 (by decide) (by decide)]; exact z9.2.1, fun k hk => zr_c (e 203 (by decide) (by decide)) (e 204 (by decide) (by decide)) (z9.2.2.1 k hk), fun b hb => by
    by_cases c : b = n
    · subst c
      rw [j178, j179, j180, j181, j182, upd_eq, upd_eq, upd_eq, upd_eq, upd_eq]
      exact gen1_m oldB hg
    · rw [j178, j179, j180, j181, j182, upd_ne c, upd_ne c, upd_ne c, upd_ne c, upd_ne c]
      exact gen1_m (fun q hq => oldB q (by omega)) (z9.2.2.2 b (by omega))⟩, rRu_c (e 119 (by decide) (by decide)) (e 120 (by decide) (by decide)) (e 248 (by decide) (by decide)) (e 249 (by decide) (by decide)) (v 118 2 (by decide) (by decide) (by decide)) (v 174 115 (by decide) (by decide) (by decide)) z10, rRk_c (v 174 80 (by decide) (by decide) (by decide)) (l 77 (by decide) (by decide)) (l 78 (by decide) (by decide)) (l 224 (by decide) (by decide)) (l 225 (by decide) (by decide)) z11, ⟨z12.1, fun k hk => ?_, ?_, ?_⟩, w⟩
  · by_cases c : b = n
    · subst c
      have q : ∀ k, k < sz → J 184 (60 * b + k) = S k ∧ J 185 (60 * b + k) = T k := fun k hk => by
        rw [j184, j185, csq_in sz hk, csq_in sz hk]
        exact ⟨rfl, rfl⟩
      refine ⟨kd, ln, sz, tl.length, tl.length + 1, f, by rw [j175, upd_eq], by rw [j176, upd_eq], by rw [j177, upd_eq], by rw [rup_eq, va_eq], ?_, brt_1, itm_k (fun k hk => ⟨(q k hk).1, (q k hk).2⟩) hi, sound_k (fun k hk => ⟨(q k hk).1, (q k hk).2⟩) hs, ?_⟩
      · rw [j178, j179, j180, j181, j182, m183, upd_eq, upd_eq, upd_eq, upd_eq, upd_eq, updL_eq]
        exact brt_0
      · rw [j178, j179, j180, j181, j182, upd_eq, upd_eq, upd_eq, upd_eq, upd_eq]
        exact hp
    · have hb' : b < n := by omega
      obtain ⟨kd', ln', sz', a, it, f', q1, q2, q3, q4, q5, q6, q7, q8, q9⟩ := z2 b hb'
      have s60 := q8.2.1
      have q : ∀ k, k < sz' → J 184 (60 * b + k) = I 184 (60 * b + k) ∧ J 185 (60 * b + k) = I 185 (60 * b + k) := fun k hk => by
        rw [j184, j185, csq_out sz (by omega), csq_out sz (by omega)]
        exact ⟨rfl, rfl⟩
      refine ⟨kd', ln', sz', a, it, f', by rw [old b hb']; exact q1, by rw [j176, upd_ne c]; exact q2, by rw [j177, upd_ne c]; exact q3, by rw [rup_eq, va_ne c]; exact q4, ?_, get_app q6, itm_k (fun k hk => q k hk) q7, sound_k (fun k hk => q k hk) q8, ?_⟩
      · rw [j178, j179, j180, j181, j182, m183, upd_ne c, upd_ne c, upd_ne c, upd_ne c, upd_ne c, updL_ne c]
        exact get_app q5
      · rw [j178, j179, j180, j181, j182, upd_ne c, upd_ne c, upd_ne c, upd_ne c, upd_ne c]
        exact q9
  · have key : ∀ i, i < 4 → sOk W J M (n + 1) i := fun i hi' => by
      obtain ⟨c, k', t1, t2, t3, t4, t5⟩ := rIs_at z7 hi'
      have va : W (40 + 9 * i) 0 = V (40 + 9 * i) 0 ∧ W (42 + 9 * i) 0 = V (42 + 9 * i) 0 ∧ J (41 + 9 * i) = I (41 + 9 * i) := by
        rcases (by omega : i = 0 ∨ i = 1 ∨ i = 2 ∨ i = 3) with rfl | rfl | rfl | rfl <;> exact ⟨v _ _ (by decide) (by decide) (by decide), v _ _ (by decide) (by decide) (by decide), e _ (by decide) (by decide)⟩
      refine ⟨c, k', t1, va.1.trans t2, by rw [e 233 (by decide) (by decide)]; exact t3, ?_, fun k hk => ?_⟩
      · rw [va.2.1, l 235 (by decide) (by decide)]
        exact t4
      · obtain ⟨d, d1, d2, d3, d4⟩ := t5 k hk
        exact ⟨d, by omega, by rw [va.2.2]; exact d2, by rw [e 234 (by decide) (by decide)]; exact d3, by rw [old d d1]; exact d4⟩
    exact ⟨key 0 (by decide), key 1 (by decide), key 2 (by decide), key 3 (by decide)⟩
  · obtain ⟨a, f', q1, q2⟩ := z12.2.1 k hk
    exact ⟨a, f', by rw [rup_na (by decide)]; exact q1, get_app q2⟩
  · rw [rup_na (by decide)]
    exact z12.2.2.1
  · unfold rPl
    rw [rup_na (by decide)]
    exact z12.2.2.2
