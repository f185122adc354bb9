/-! ===== walking the abstract machine: goal first, a row an instruction ===== -/
/-- the run from here on comes to an outcome with Q -/
def am_W (X : am_X) (d y pc : Nat) (lv : am_LV) (st : List Value) (h : am_H) (Q : am_O → Prop) : Prop := ∃ n o, am_run X n d y pc lv st h = some o ∧ Q o
/-- more steps and more depth change nothing -/
theorem am_run_up {X : am_X} : ∀ (n d y pc : Nat) (lv : am_LV) (st : List Value) (h : am_H) (o : am_O), am_run X n d y pc lv st h = some o → ∀ n1 d1, n ≤ n1 → d ≤ d1 → am_run X n1 d1 y pc lv st h = some o := by
  intro n
  induction n with
  | zero => intro d y pc lv st h o hs; cases hs
  | succ n ih =>
    intro d y pc lv st h o hs n1 d1 hn hd
    obtain ⟨k, rfl⟩ : ∃ k, n1 = k + 1 := ⟨n1 - 1, by omega⟩
    have hk : n ≤ k := by omega
    unfold am_run at hs ⊢
    split at hs
    · cases hs
    · rename_i i r hat
      split at hs
      · rename_i hkd
        try simp only [hkd]
        split at hs
        · rename_i hs1
          try simp only [hs1]
          exact ih _ _ _ _ _ _ _ hs _ _ hk hd
        · cases hs
      · rename_i hkd
        try simp only [hkd]
        exact hs
      · rename_i hkd
        try simp only [hkd]
        exact hs
      · rename_i hkd
        try simp only [hkd]
        split at hs
        · rename_i hok
          try rw [if_pos hok]
          split at hs
          · cases hs
          · rename_i d2
            obtain ⟨e, rfl⟩ : ∃ e, d1 = e + 1 := ⟨d1 - 1, by omega⟩
            have hd2 : d2 ≤ e := by omega
            split at hs
            · rename_i hs1
              try simp only [ih _ _ _ _ _ _ _ hs1 k e hk hd2]
              exact ih _ _ _ _ _ _ _ hs _ _ hk hd
            · rename_i hs1
              try simp only [ih _ _ _ _ _ _ _ hs1 k e hk hd2]
              split at hs
              · rename_i h1
                try rw [if_pos h1]
                split at hs
                · rename_i h2
                  try rw [if_pos h2]
                  exact hs
                · rename_i h2
                  try rw [if_neg h2]
                  split at hs
                  · rename_i h3
                    try simp only [h3]
                    exact ih _ _ _ _ _ _ _ hs _ _ hk hd
                  · cases hs
              · cases hs
            · cases hs
        · cases hs
      · rename_i hkd
        try simp only [hkd]
        split at hs
        · rename_i hs1
          try simp only [hs1]
          split at hs
          · rename_i hc
            try rw [if_pos hc]
            exact ih _ _ _ _ _ _ _ hs _ _ hk hd
          · cases hs
        · cases hs
      · rename_i hkd
        try simp only [hkd]
        split at hs
        · split at hs
          · rename_i hc
            try rw [if_pos hc]
            exact ih _ _ _ _ _ _ _ hs _ _ hk hd
          · cases hs
        · cases hs
      · rename_i hkd
        try simp only [hkd]
        split at hs
        · split at hs
          · rename_i hc
            try rw [if_pos hc]
            exact ih _ _ _ _ _ _ _ hs _ _ hk hd
          · cases hs
        · cases hs
      · rename_i hkd
        try simp only [hkd]
        split at hs
        · split at hs
          · rename_i hc
            try rw [if_pos hc]
            exact ih _ _ _ _ _ _ _ hs _ _ hk hd
          · cases hs
        · cases hs
      · rename_i hkd
        try simp only [hkd]
        exact ih _ _ _ _ _ _ _ hs _ _ hk hd
      · cases hs
section
variable {X : am_X} {d y pc : Nat} {lv : am_LV} {st : List Value} {h : am_H} {Q : am_O → Prop}
theorem am_W.up {d1 : Nat} (hd : d ≤ d1) (k : am_W X d y pc lv st h Q) : am_W X d1 y pc lv st h Q := by
  obtain ⟨n, o, h1, h2⟩ := k
  exact ⟨n, o, am_run_up _ _ _ _ _ _ _ _ h1 n d1 (Nat.le_refl _) hd, h2⟩
theorem am_W.imp {Q1 : am_O → Prop} (k : am_W X d y pc lv st h Q) (hq : ∀ o, Q o → Q1 o) : am_W X d y pc lv st h Q1 := by
  obtain ⟨n, o, h1, h2⟩ := k
  exact ⟨n, o, h1, hq o h2⟩
/-- a plain instruction -/
theorem am_W.s1 {i : Instr} {r pc1 : Nat} {lv1 : am_LV} {st1 : List Value} {h1 : am_H} (hat : am_at (am_m y) pc = some (i, r)) (hk : am_kind i r = 0) (hs : am_s1 X i r pc lv st h = some (pc1, lv1, st1, h1)) (k : am_W X d y pc1 lv1 st1 h1 Q) : am_W X d y pc lv st h Q := by
  obtain ⟨n, o, hr, hq⟩ := k
  refine ⟨n + 1, o, ?_, hq⟩
  unfold am_run
  simp only [hat, hk, hs]
  exact hr
/-- a return -/
theorem am_W.ret {i : Instr} {r : Nat} {o : am_O} (hat : am_at (am_m y) pc = some (i, r)) (hk : am_kind i r = 1) (hs : am_ret (am_m y) i st h = some o) (hq : Q o) : am_W X d y pc lv st h Q := by
  refine ⟨1, o, ?_, hq⟩
  unfold am_run
  simp only [hat, hk]
  exact hs
/-- throw new -/
theorem am_W.thr {i : Instr} {r : Nat} (hat : am_at (am_m y) pc = some (i, r)) (hk : am_kind i r = 2) (hth : am_thr (am_m y) pc r = true) (hc : Nat.ble (am_cats st) 8 = true) (hq : Q (.inr (r - 100, h ++ [am_dummy]))) : am_W X d y pc lv st h Q := by
  refine ⟨1, _, ?_, hq⟩
  unfold am_run
  simp only [hat, hk, hth, hc, Bool.and_self, if_true]
/-- a call, by what it comes to -/
theorem am_W.call {i : Instr} {r na : Nat} {as rest : List Value} {Qc : am_O → Prop} (hat : am_at (am_m y) pc = some (i, r)) (hk : am_kind i r = 3) (hna : am_na (am_m r) = na) (ht : (st.take na).reverse = as) (hdr : st.drop na = rest) (hok : am_ok (am_m r) as h = true) (hc : Nat.ble (am_cats rest) 8 = true)
    (c : am_W X d r 0 (am_args 0 as) [] h Qc)
    (kr : ∀ v h1, Qc (.inl (v, h1)) → am_W X (d + 1) y (pc + 3) lv (v.toList ++ rest) h1 Q)
    (kt : ∀ x h1, Qc (.inr (x, h1)) → am_kd (am_m r) = 1 ∧ ((am_hh (am_m y) = [] ∧ Q (.inr (x, h1))) ∨ (am_hh (am_m y) ≠ [] ∧ ∃ pc1 k, am_hd (am_m y) pc x (am_hh (am_m y)) = some (pc1, k) ∧ am_W X (d + 1) y pc1 ((am_put1 lv k .null).drop 1) [] h1 Q))) :
    am_W X (d + 1) y pc lv st h Q := by
  subst hna
  subst ht
  subst hdr
  obtain ⟨n, o, hr, hq⟩ := c
  have fin : ∀ o1 n1, (match o with
      | .inl (v, h1) => am_run X (n + n1) (d + 1) y (pc + 3) lv (v.toList ++ st.drop (am_na (am_m r))) h1
      | .inr (x, h1) => (if am_kd (am_m r) == 1 then (if (am_hh (am_m y)).isEmpty then some (.inr (x, h1)) else (match am_hd (am_m y) pc x (am_hh (am_m y)) with
            | some (pc1, k) => am_run X (n + n1) (d + 1) y pc1 ((am_put1 lv k .null).drop 1) [] h1
            | none => none)) else none)) = some o1 → am_run X (n + n1 + 1) (d + 1) y pc lv st h = some o1 := by
    intro o1 n1 h9
    have hr9 := am_run_up _ _ _ _ _ _ _ _ hr (n + n1) d (Nat.le_add_right _ _) (Nat.le_refl _)
    unfold am_run
    simp only [hat, hk, hok, hc, Bool.and_self, if_true, hr9]
    rcases o with ⟨v, h1⟩ | ⟨x, h1⟩
    · exact h9
    · exact h9
  rcases o with ⟨v, h1⟩ | ⟨x, h1⟩
  · obtain ⟨n1, o1, hr1, hq1⟩ := kr v h1 hq
    refine ⟨n + n1 + 1, o1, fin o1 n1 ?_, hq1⟩
    exact am_run_up _ _ _ _ _ _ _ _ hr1 (n + n1) _ (Nat.le_add_left _ _) (Nat.le_refl _)
  · obtain ⟨hkd, h9⟩ := kt x h1 hq
    rcases h9 with ⟨hh, hq1⟩ | ⟨hh, pc1, k, hhd, n1, o1, hr1, hq1⟩
    · refine ⟨n + 0 + 1, _, fin _ 0 ?_, hq1⟩
      simp only [hkd, hh, beq_self_eq_true, if_true, List.isEmpty_nil]
    · refine ⟨n + n1 + 1, o1, fin o1 n1 ?_, hq1⟩
      have he : (am_hh (am_m y)).isEmpty = false := by
        cases h8 : am_hh (am_m y) with
        | nil => exact absurd h8 hh
        | cons a b => rfl
      simp only [hkd, beq_self_eq_true, if_true, he, hhd]
      exact am_run_up _ _ _ _ _ _ _ _ hr1 (n + n1) _ (Nat.le_add_left _ _) (Nat.le_refl _)
/-- the copy of a row of ints -/
theorem am_W.cpy {i : Instr} {r pc1 : Nat} {lv1 : am_LV} {st1 : List Value} {h1 : am_H} (hat : am_at (am_m y) pc = some (i, r)) (hk : am_kind i r = 4) (hs : am_acopy pc lv st h = some (pc1, lv1, st1, h1)) (hc : Nat.ble (am_cats st1) 8 = true) (k : am_W X d y pc1 lv1 st1 h1 Q) : am_W X d y pc lv st h Q := by
  obtain ⟨n, o, hr, hq⟩ := k
  refine ⟨n + 1, o, ?_, hq⟩
  unfold am_run
  simp only [hat, hk, hs, hc, if_true]
  exact hr
/-- Object's constructor -/
theorem am_W.obi {i : Instr} {r a : Nat} (hat : am_at (am_m y) pc = some (i, r)) (hk : am_kind i r = 5) (hc : Nat.ble (am_cats st) 8 = true) (k : am_W X d y (pc + 3) lv st h Q) : am_W X d y pc lv (.ref a :: st) h Q := by
  obtain ⟨n, o, hr, hq⟩ := k
  refine ⟨n + 1, o, ?_, hq⟩
  unfold am_run
  simp only [hat, hk, hc, if_true]
  exact hr
/-- indexOf of a text -/
theorem am_W.idx {i : Instr} {r : Nat} {c : Int32} {e : UInt32} (hat : am_at (am_m y) pc = some (i, r)) (hk : am_kind i r = 6) (he : am_xtx e.toNat = true) (hc : Nat.ble (am_cats st) 8 = true) (k : am_W X d y (pc + 3) lv (.int (am_ixF c (am_txt e.toNat) 0) :: st) h Q) : am_W X d y pc lv (.int c :: .float e :: st) h Q := by
  obtain ⟨n, o, hr, hq⟩ := k
  refine ⟨n + 1, o, ?_, hq⟩
  unfold am_run
  simp only [hat, hk, he, hc, Bool.and_self, if_true]
  exact hr
/-- charAt of a text -/
theorem am_W.chr {i : Instr} {r : Nat} {c : Int32} {e : UInt32} (hat : am_at (am_m y) pc = some (i, r)) (hk : am_kind i r = 7) (he : am_xtx e.toNat = true) (hi : am_inb c (am_txt e.toNat).length = true) (hc : Nat.ble (am_cats st) 8 = true) (k : am_W X d y (pc + 3) lv (.int ((am_txt e.toNat).getD c.toNatClampNeg 0) :: st) h Q) : am_W X d y pc lv (.int c :: .float e :: st) h Q := by
  obtain ⟨n, o, hr, hq⟩ := k
  refine ⟨n + 1, o, ?_, hq⟩
  unfold am_run
  simp only [hat, hk, he, hi, hc, Bool.and_self, if_true]
  exact hr
/-- ldc of a text -/
theorem am_W.ldt {i : Instr} {r : Nat} (hat : am_at (am_m y) pc = some (i, r)) (hk : am_kind i r = 8) (k : am_W X d y (pc + 2) lv (.float (UInt32.ofNat (r - 2)) :: st) h Q) : am_W X d y pc lv st h Q := by
  obtain ⟨n, o, hr, hq⟩ := k
  refine ⟨n + 1, o, ?_, hq⟩
  unfold am_run
  simp only [hat, hk]
  exact hr
/-- what a call asks of a method: how many values, kind, owner, locals -/
def am_mi (r : Nat) : Nat × Nat × Nat × Nat := (am_na (am_m r), am_kd (am_m r), am_ow (am_m r), am_mx (am_m r))
theorem am_ok_o {r na kd ow mx a : Nat} {as1 fs : List Value} (hmi : am_mi r = (na, kd, ow, mx)) (hl : ((Value.ref a :: as1).length == na && Nat.ble (am_cats (.ref a :: as1)) mx) = true) (hb : h[a]? = some (.inr (ow, fs))) : am_ok (am_m r) (.ref a :: as1) h = true := by
  have e1 : am_na (am_m r) = na := congrArg (fun q => q.1) hmi
  have e3 : am_ow (am_m r) = ow := congrArg (fun q => q.2.2.1) hmi
  have e4 : am_mx (am_m r) = mx := congrArg (fun q => q.2.2.2) hmi
  unfold am_ok
  rw [e1, e4, hl]
  simp only [hb, e3, beq_self_eq_true, Bool.or_true, Bool.and_self]
theorem am_ok_s {r na ow mx : Nat} {as : List Value} (hmi : am_mi r = (na, 0, ow, mx)) (hl : (as.length == na && Nat.ble (am_cats as) mx) = true) : am_ok (am_m r) as h = true := by
  have e1 : am_na (am_m r) = na := congrArg (fun q => q.1) hmi
  have e2 : am_kd (am_m r) = 0 := congrArg (fun q => q.2.1) hmi
  have e4 : am_mx (am_m r) = mx := congrArg (fun q => q.2.2.2) hmi
  unfold am_ok
  rw [e1, e4, hl, e2]
  rfl
/-- a call of a method of an object, or of a constructor, that returns -/
theorem am_W.callo {i : Instr} {r na kd ow mx a : Nat} {as1 rest fs : List Value} {Qc : am_O → Prop} (hat : am_at (am_m y) pc = some (i, r)) (hk : am_kind i r = 3) (hmi : am_mi r = (na, kd, ow, mx)) (ht : (st.take na).reverse = .ref a :: as1) (hdr : st.drop na = rest) (hl : ((Value.ref a :: as1).length == na && Nat.ble (am_cats (.ref a :: as1)) mx) = true) (hb : h[a]? = some (.inr (ow, fs))) (hc : Nat.ble (am_cats rest) 8 = true)
    (c : am_W X d r 0 (am_args 0 (.ref a :: as1)) [] h Qc) (hn : ∀ x h1, ¬ Qc (.inr (x, h1)))
    (kr : ∀ v h1, Qc (.inl (v, h1)) → am_W X (d + 1) y (pc + 3) lv (v.toList ++ rest) h1 Q) : am_W X (d + 1) y pc lv st h Q :=
  am_W.call hat hk (congrArg (fun q => q.1) hmi) ht hdr (am_ok_o hmi hl hb) hc c kr (fun x h1 h9 => absurd h9 (hn x h1))
/-- a call of a static method that returns -/
theorem am_W.calls {i : Instr} {r na ow mx : Nat} {as rest : List Value} {Qc : am_O → Prop} (hat : am_at (am_m y) pc = some (i, r)) (hk : am_kind i r = 3) (hmi : am_mi r = (na, 0, ow, mx)) (ht : (st.take na).reverse = as) (hdr : st.drop na = rest) (hl : (as.length == na && Nat.ble (am_cats as) mx) = true) (hc : Nat.ble (am_cats rest) 8 = true)
    (c : am_W X d r 0 (am_args 0 as) [] h Qc) (hn : ∀ x h1, ¬ Qc (.inr (x, h1)))
    (kr : ∀ v h1, Qc (.inl (v, h1)) → am_W X (d + 1) y (pc + 3) lv (v.toList ++ rest) h1 Q) : am_W X (d + 1) y pc lv st h Q :=
  am_W.call hat hk (congrArg (fun q => q.1) hmi) ht hdr (am_ok_s hmi hl) hc c kr (fun x h1 h9 => absurd h9 (hn x h1))
end
/-! the end of the heap: an object under construction and what it has made -/
theorem am_gg0 {h1 T : am_H} {e : am_E} {n : Nat} (hn : h1.length = n) : (h1 ++ (e :: T))[n]? = some e := by subst hn; simp
theorem am_gs0 {h1 T : am_H} {e e1 : am_E} {n : Nat} (hn : h1.length = n) : (h1 ++ (e :: T)).set n e1 = h1 ++ (e1 :: T) := by subst hn; simp
theorem am_gl {h1 L : am_H} {n k : Nat} (hn : h1.length = n) (hk : L.length = k) : (h1 ++ L).length = n + k := by rw [List.length_append, hn, hk]
theorem am_gp {h1 T : am_H} {e e1 e2 : am_E} (he : e1 = e2) : (h1 ++ (e :: T)) ++ [e1] = h1 ++ (e :: (T ++ [e2])) := by subst he; simp
theorem am_gc {h1 T C : am_H} {e : am_E} : (h1 ++ (e :: T)) ++ C = h1 ++ (e :: (T ++ C)) := by simp
theorem am_gk {h1 L : am_H} {n k : Nat} {e : am_E} (hn : h1.length = n) (hk : L[k]? = some e) : (h1 ++ L)[n + k]? = some e := by
  subst hn
  rw [List.getElem?_append_right (Nat.le_add_right _ _), Nat.add_sub_cancel_left]
  exact hk
theorem am_gsk {h1 L L1 : am_H} {n k : Nat} {e : am_E} (hn : h1.length = n) (hL : L.set k e = L1) : (h1 ++ L).set (n + k) e = h1 ++ L1 := by
  subst hn
  subst hL
  rw [List.set_append_right _ _ (Nat.le_add_right _ _), Nat.add_sub_cancel_left]
