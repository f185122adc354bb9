/-! ===== walking the abstract machine: goal first, a row an instruction ===== -/
/-- the run from here on comes to an outcome with Q -/
def am_W (X : am_X) (d y pc : Nat) (lv : am_LV) (st : List Value) (h : am_H) (Q : am_O → Prop) : Prop := ∃ n o, am_run X n d y pc lv st h = some o ∧ Q o
/-- more steps and more depth change nothing -/
theorem am_run_up {X : am_X} : ∀ (n d y pc : Nat) (lv : am_LV) (st : List Value) (h : am_H) (o : am_O), am_run X n d y pc lv st h = some o → ∀ n1 d1, n ≤ n1 → d ≤ d1 → am_run X n1 d1 y pc lv st h = some o := sorry
section
variable {X : am_X} {d y pc : Nat} {lv : am_LV} {st : List Value} {h : am_H} {Q : am_O → Prop}
theorem am_W.up {d1 : Nat} (hd : d ≤ d1) (k : am_W X d y pc lv st h Q) : am_W X d1 y pc lv st h Q := sorry
theorem am_W.imp {Q1 : am_O → Prop} (k : am_W X d y pc lv st h Q) (hq : ∀ o, Q o → Q1 o) : am_W X d y pc lv st h Q1 := sorry
/-- a plain instruction -/
theorem am_W.s1 {i : Instr} {r pc1 : Nat} {lv1 : am_LV} {st1 : List Value} {h1 : am_H} (hat : am_at (am_m y) pc = some (i, r)) (hk : am_kind i r = 0) (hs : am_s1 X i r pc lv st h = some (pc1, lv1, st1, h1)) (k : am_W X d y pc1 lv1 st1 h1 Q) : am_W X d y pc lv st h Q := sorry
/-- a return -/
theorem am_W.ret {i : Instr} {r : Nat} {o : am_O} (hat : am_at (am_m y) pc = some (i, r)) (hk : am_kind i r = 1) (hs : am_ret (am_m y) i st h = some o) (hq : Q o) : am_W X d y pc lv st h Q := sorry
/-- throw new -/
theorem am_W.thr {i : Instr} {r : Nat} (hat : am_at (am_m y) pc = some (i, r)) (hk : am_kind i r = 2) (hth : am_thr (am_m y) pc r = true) (hc : Nat.ble (am_cats st) 8 = true) (hq : Q (.inr (r - 100, h ++ [am_dummy]))) : am_W X d y pc lv st h Q := sorry
/-- a call, by what it comes to -/
theorem am_W.call {i : Instr} {r na : Nat} {as rest : List Value} {Qc : am_O → Prop} (hat : am_at (am_m y) pc = some (i, r)) (hk : am_kind i r = 3) (hna : am_na (am_m r) = na) (ht : (st.take na).reverse = as) (hdr : st.drop na = rest) (hok : am_ok (am_m r) as h = true) (hc : Nat.ble (am_cats rest) 8 = true)
    (c : am_W X d r 0 (am_args 0 as) [] h Qc)
    (kr : ∀ v h1, Qc (.inl (v, h1)) → am_W X (d + 1) y (pc + 3) lv (v.toList ++ rest) h1 Q)
    (kt : ∀ x h1, Qc (.inr (x, h1)) → am_kd (am_m r) = 1 ∧ ((am_hh (am_m y) = [] ∧ Q (.inr (x, h1))) ∨ (am_hh (am_m y) ≠ [] ∧ ∃ pc1 k, am_hd (am_m y) pc x (am_hh (am_m y)) = some (pc1, k) ∧ am_W X (d + 1) y pc1 ((am_put1 lv k .null).drop 1) [] h1 Q))) :
    am_W X (d + 1) y pc lv st h Q := sorry
/-- the copy of a row of ints -/
theorem am_W.cpy {i : Instr} {r pc1 : Nat} {lv1 : am_LV} {st1 : List Value} {h1 : am_H} (hat : am_at (am_m y) pc = some (i, r)) (hk : am_kind i r = 4) (hs : am_acopy pc lv st h = some (pc1, lv1, st1, h1)) (hc : Nat.ble (am_cats st1) 8 = true) (k : am_W X d y pc1 lv1 st1 h1 Q) : am_W X d y pc lv st h Q := sorry
/-- Object's constructor -/
theorem am_W.obi {i : Instr} {r a : Nat} (hat : am_at (am_m y) pc = some (i, r)) (hk : am_kind i r = 5) (hc : Nat.ble (am_cats st) 8 = true) (k : am_W X d y (pc + 3) lv st h Q) : am_W X d y pc lv (.ref a :: st) h Q := sorry
/-- indexOf of a text -/
theorem am_W.idx {i : Instr} {r : Nat} {c : Int32} {e : UInt32} (hat : am_at (am_m y) pc = some (i, r)) (hk : am_kind i r = 6) (he : am_xtx e.toNat = true) (hc : Nat.ble (am_cats st) 8 = true) (k : am_W X d y (pc + 3) lv (.int (am_ixF c (am_txt e.toNat) 0) :: st) h Q) : am_W X d y pc lv (.int c :: .float e :: st) h Q := sorry
/-- charAt of a text -/
theorem am_W.chr {i : Instr} {r : Nat} {c : Int32} {e : UInt32} (hat : am_at (am_m y) pc = some (i, r)) (hk : am_kind i r = 7) (he : am_xtx e.toNat = true) (hi : am_inb c (am_txt e.toNat).length = true) (hc : Nat.ble (am_cats st) 8 = true) (k : am_W X d y (pc + 3) lv (.int ((am_txt e.toNat).getD c.toNatClampNeg 0) :: st) h Q) : am_W X d y pc lv (.int c :: .float e :: st) h Q := sorry
/-- ldc of a text -/
theorem am_W.ldt {i : Instr} {r : Nat} (hat : am_at (am_m y) pc = some (i, r)) (hk : am_kind i r = 8) (k : am_W X d y (pc + 2) lv (.float (UInt32.ofNat (r - 2)) :: st) h Q) : am_W X d y pc lv st h Q := sorry
/-- what a call asks of a method: how many values, kind, owner, locals -/
def am_mi (r : Nat) : Nat × Nat × Nat × Nat := (am_na (am_m r), am_kd (am_m r), am_ow (am_m r), am_mx (am_m r))
theorem am_ok_o {r na kd ow mx a : Nat} {as1 fs : List Value} (hmi : am_mi r = (na, kd, ow, mx)) (hl : ((Value.ref a :: as1).length == na && Nat.ble (am_cats (.ref a :: as1)) mx) = true) (hb : h[a]? = some (.inr (ow, fs))) : am_ok (am_m r) (.ref a :: as1) h = true := sorry
theorem am_ok_s {r na ow mx : Nat} {as : List Value} (hmi : am_mi r = (na, 0, ow, mx)) (hl : (as.length == na && Nat.ble (am_cats as) mx) = true) : am_ok (am_m r) as h = true := sorry
/-- a call of a method of an object, or of a constructor, that returns -/
theorem am_W.callo {i : Instr} {r na kd ow mx a : Nat} {as1 rest fs : List Value} {Qc : am_O → Prop} (hat : am_at (am_m y) pc = some (i, r)) (hk : am_kind i r = 3) (hmi : am_mi r = (na, kd, ow, mx)) (ht : (st.take na).reverse = .ref a :: as1) (hdr : st.drop na = rest) (hl : ((Value.ref a :: as1).length == na && Nat.ble (am_cats (.ref a :: as1)) mx) = true) (hb : h[a]? = some (.inr (ow, fs))) (hc : Nat.ble (am_cats rest) 8 = true)
    (c : am_W X d r 0 (am_args 0 (.ref a :: as1)) [] h Qc) (hn : ∀ x h1, ¬ Qc (.inr (x, h1)))
    (kr : ∀ v h1, Qc (.inl (v, h1)) → am_W X (d + 1) y (pc + 3) lv (v.toList ++ rest) h1 Q) : am_W X (d + 1) y pc lv st h Q :=
  am_W.call hat hk (congrArg (fun q => q.1) hmi) ht hdr (am_ok_o hmi hl hb) hc c kr (fun x h1 h9 => absurd h9 (hn x h1))
/-- a call of a static method that returns -/
theorem am_W.calls {i : Instr} {r na ow mx : Nat} {as rest : List Value} {Qc : am_O → Prop} (hat : am_at (am_m y) pc = some (i, r)) (hk : am_kind i r = 3) (hmi : am_mi r = (na, 0, ow, mx)) (ht : (st.take na).reverse = as) (hdr : st.drop na = rest) (hl : (as.length == na && Nat.ble (am_cats as) mx) = true) (hc : Nat.ble (am_cats rest) 8 = true)
    (c : am_W X d r 0 (am_args 0 as) [] h Qc) (hn : ∀ x h1, ¬ Qc (.inr (x, h1)))
    (kr : ∀ v h1, Qc (.inl (v, h1)) → am_W X (d + 1) y (pc + 3) lv (v.toList ++ rest) h1 Q) : am_W X (d + 1) y pc lv st h Q :=
  am_W.call hat hk (congrArg (fun q => q.1) hmi) ht hdr (am_ok_s hmi hl) hc c kr (fun x h1 h9 => absurd h9 (hn x h1))
end
/-! the end of the heap: an object under construction and what it has made -/
theorem am_gg0 {h1 T : am_H} {e : am_E} {n : Nat} (hn : h1.length = n) : (h1 ++ (e :: T))[n]? = some e := by subst hn; simp
theorem am_gs0 {h1 T : am_H} {e e1 : am_E} {n : Nat} (hn : h1.length = n) : (h1 ++ (e :: T)).set n e1 = h1 ++ (e1 :: T) := by subst hn; simp
theorem am_gl {h1 L : am_H} {n k : Nat} (hn : h1.length = n) (hk : L.length = k) : (h1 ++ L).length = n + k := by rw [List.length_append, hn, hk]
theorem am_gp {h1 T : am_H} {e e1 e2 : am_E} (he : e1 = e2) : (h1 ++ (e :: T)) ++ [e1] = h1 ++ (e :: (T ++ [e2])) := by subst he; simp
theorem am_gc {h1 T C : am_H} {e : am_E} : (h1 ++ (e :: T)) ++ C = h1 ++ (e :: (T ++ C)) := by simp
theorem am_gk {h1 L : am_H} {n k : Nat} {e : am_E} (hn : h1.length = n) (hk : L[k]? = some e) : (h1 ++ L)[n + k]? = some e := sorry
theorem am_gsk {h1 L L1 : am_H} {n k : Nat} {e : am_E} (hn : h1.length = n) (hL : L.set k e = L1) : (h1 ++ L).set (n + k) e = h1 ++ L1 := sorry