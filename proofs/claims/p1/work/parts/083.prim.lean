/-! ===== what methods are made of: reads and writes of the abstract heap, calls; a row each ===== -/
def am_vI : Option Value → Option Int32
  | some (.int x) => some x
  | _ => none
def am_vL : Option Value → Option Int64
  | some (.long x) => some x
  | _ => none
def am_vR : Option Value → Option Value
  | some v => if am_isR v then some v else none
  | none => none
theorem am_vI_s {o : Option Value} {x : Int32} (h : am_vI o = some x) : o = some (.int x) := by
  unfold am_vI at h
  split at h
  · cases h; rfl
  · cases h
theorem am_vL_s {o : Option Value} {x : Int64} (h : am_vL o = some x) : o = some (.long x) := by
  unfold am_vL at h
  split at h
  · cases h; rfl
  · cases h
theorem am_vR_s {o : Option Value} {v : Value} (h : am_vR o = some v) : o = some v ∧ am_isR v = true := by
  unfold am_vR at h
  split at h
  · split at h
    · rename_i hr; cases h; exact ⟨rfl, hr⟩
    · cases h
  · cases h
theorem am_bind {α β : Type} {o : Option α} {f : α → Option β} {b : β} (h : o.bind f = some b) : ∃ a, o = some a ∧ f a = some b := by
  cases o with
  | none => cases h
  | some a => exact ⟨a, rfl, h⟩
theorem am_ift {α : Type} {c : Prop} [Decidable c] {a : Option α} {b : α} (h : (if c then a else none) = some b) : c ∧ a = some b := by
  split at h
  · rename_i hc; exact ⟨hc, h⟩
  · cases h
theorem am_isRc {v : Value} (h : am_isR v = true) : v.category = 1 := by
  cases v <;> first | rfl | cases h
theorem am_rf_R (o : Option Nat) : am_isR (va_rf o) = true := by cases o <;> rfl
theorem am_cats_R {v : Value} {s : List Value} (h : am_isR v = true) : am_cats (v :: s) = 1 + am_cats s := by
  show (v.category :: s.map fun v => v.category).sum = _
  rw [am_isRc h]
  rfl
theorem am_cats_I {x : Int32} {s : List Value} : am_cats (.int x :: s) = 1 + am_cats s := rfl
theorem am_cats_L {x : Int64} {s : List Value} : am_cats (.long x :: s) = 2 + am_cats s := rfl
theorem am_cats_0 : am_cats [] = 0 := rfl
theorem am_args_R {k : Nat} {v : Value} {s : List Value} (h : am_isR v = true) : am_args k (v :: s) = (k, v) :: am_args (k + 1) s := by
  show (k, v) :: am_args (k + v.category) s = _
  rw [am_isRc h]
theorem am_args_I {k : Nat} {x : Int32} {s : List Value} : am_args k (.int x :: s) = (k, .int x) :: am_args (k + 1) s := rfl
theorem am_args_L {k : Nat} {x : Int64} {s : List Value} : am_args k (.long x :: s) = (k, .long x) :: am_args (k + 2) s := rfl
theorem am_args_0 {k : Nat} : am_args k [] = [] := rfl
theorem am_ccR {v : Value} {s : List Value} {k : Nat} (h : am_isR v = true) (hk : am_cats s = k) : am_cats (v :: s) = 1 + k := by rw [am_cats_R h, hk]
theorem am_ccI {x : Int32} {s : List Value} {k : Nat} (hk : am_cats s = k) : am_cats (.int x :: s) = 1 + k := by rw [am_cats_I, hk]
theorem am_ccL {x : Int64} {s : List Value} {k : Nat} (hk : am_cats s = k) : am_cats (.long x :: s) = 2 + k := by rw [am_cats_L, hk]
theorem am_hl {as : List Value} {na mx k : Nat} (hl : as.length = na) (hk : am_cats as = k) (hm : Nat.ble k mx = true) : (as.length == na && Nat.ble (am_cats as) mx) = true := by rw [hl, hk, hm, beq_self_eq_true]; rfl
theorem am_hc {rest : List Value} {k : Nat} (hk : am_cats rest = k) (hm : Nat.ble k 8 = true) : Nat.ble (am_cats rest) 8 = true := by rw [hk, hm]
/-! locals -/
theorem am_lkf {p : Nat × Value → Bool} {j : Nat} {v : Value} : ∀ {lv : am_LV}, lv.lookup j = some v → p (j, v) = true → (lv.filter p).lookup j = some v := by
  intro lv
  induction lv with
  | nil => intro h; cases h
  | cons q r ih =>
    obtain ⟨a, b⟩ := q
    intro h hp
    rw [List.lookup_cons] at h
    rw [List.filter_cons]
    split at h
    · rename_i hb
      cases h
      rw [beq_iff_eq] at hb
      subst hb
      rw [if_pos hp, List.lookup_cons, beq_self_eq_true]
    · rename_i hb
      split
      · rw [List.lookup_cons, hb]; exact ih h hp
      · exact ih h hp
theorem am_lk0 {lv : am_LV} {i : Nat} {w : Value} : (am_put1 lv i w).lookup i = some w := by
  unfold am_put1
  rw [List.lookup_cons, beq_self_eq_true]
theorem am_lk02 {lv : am_LV} {i : Nat} {w : Value} : (am_put2 lv i w).lookup i = some w := by
  unfold am_put2
  rw [List.lookup_cons, beq_self_eq_true]
theorem am_lk1 {lv : am_LV} {i j : Nat} {v w : Value} (hl : lv.lookup j = some v) (hj : (j == i) = false) (hp : (!(j == i) && !(j + 1 == i && v.category == 2)) = true) : (am_put1 lv i w).lookup j = some v := by
  unfold am_put1
  rw [List.lookup_cons, hj]
  exact am_lkf hl hp
theorem am_lk2 {lv : am_LV} {i j : Nat} {v w : Value} (hl : lv.lookup j = some v) (hj : (j == i) = false) (hp : (!(j == i) && (!(j == i + 1) && !(j + 1 == i && v.category == 2))) = true) : (am_put2 lv i w).lookup j = some v := by
  unfold am_put2
  rw [List.lookup_cons, hj]
  exact am_lkf hl hp
theorem am_lkd {lv : am_LV} {i j : Nat} {v w : Value} (hl : lv.lookup j = some v) (hp : (!(j == i) && !(j + 1 == i && v.category == 2)) = true) : ((am_put1 lv i w).drop 1).lookup j = some v := am_lkf hl hp
/-! reads and writes -/
def am_pG (r : Nat) (v : Value) (h : am_H) : Option Value := match v with
  | .ref a => (match h[a]? with
    | some (.inr (c, fs)) => if c == r / 256 then fs[r % 256]? else none
    | _ => none)
  | _ => none
def am_pP (r : Nat) (v w : Value) (h : am_H) : Option am_H := match v with
  | .ref a => (match h[a]? with
    | some (.inr (c, fs)) => if c == r / 256 && Nat.blt (r % 256) fs.length && am_fit (am_ty (r / 256) (r % 256)) w then some (h.set a (.inr (c, fs.set (r % 256) w))) else none
    | _ => none)
  | _ => none
def am_pA (t : Nat) (v : Value) (i : Int32) (h : am_H) : Option Int32 := match v with
  | .ref a => (match h[a]? with
    | some (.inl (t1, n, .inl f)) => if t1 == t && am_inb i n then some (f i.toNatClampNeg) else none
    | _ => none)
  | _ => none
def am_pX (X : am_X) (j : Nat) (i : Int32) : Option Int32 := if am_inb i (X j).1 then some ((X j).2 i.toNatClampNeg) else none
def am_pAL (v : Value) (i : Int32) (h : am_H) : Option Int64 := match v with
  | .ref a => (match h[a]? with
    | some (.inl (t1, n, .inr (.inl f))) => if t1 == 1 && am_inb i n then some (f i.toNatClampNeg) else none
    | _ => none)
  | _ => none
def am_pAA (v : Value) (i : Int32) (h : am_H) : Option Value := match v with
  | .ref a => (match h[a]? with
    | some (.inl (t1, n, .inr (.inr (.inr (.inr f))))) => if Nat.ble 4 t1 && Nat.ble t1 6 && am_inb i n then some (va_rf (f i.toNatClampNeg)) else none
    | _ => none)
  | _ => none
def am_pS (t : Nat) (v : Value) (i x : Int32) (h : am_H) : Option am_H := match v with
  | .ref a => (match h[a]? with
    | some (.inl (t1, n, .inl f)) => if t1 == t && am_inb i n && am_afit t x then some (h.set a (.inl (t1, n, .inl (upd f i.toNatClampNeg x)))) else none
    | _ => none)
  | _ => none
def am_pSL (v : Value) (i : Int32) (x : Int64) (h : am_H) : Option am_H := match v with
  | .ref a => (match h[a]? with
    | some (.inl (t1, n, .inr (.inl f))) => if t1 == 1 && am_inb i n then some (h.set a (.inl (t1, n, .inr (.inl (vp_updL f i.toNatClampNeg x))))) else none
    | _ => none)
  | _ => none
def am_pSA (v : Value) (i : Int32) (w : Value) (h : am_H) : Option am_H := match v, w with
  | .ref a, .ref b => (match h[a]?, h[b]? with
    | some (.inl (t1, n, .inr (.inr (.inr (.inr f))))), some ev => if am_comp t1 ev && am_inb i n then some (h.set a (.inl (t1, n, .inr (.inr (.inr (.inr (va_up f i.toNatClampNeg (some b)))))))) else none
    | _, _ => none)
  | _, _ => none
def am_pLen (v : Value) (h : am_H) : Option Int32 := match v with
  | .ref a => (match h[a]? with
    | some (.inl (t, n, _)) => if Nat.blt t 7 then some (Int32.ofNat n) else none
    | _ => none)
  | _ => none
def am_pNew (t : Nat) (k : Int32) (h : am_H) : Option am_H := if decide (0 ≤ k) && decide (k ≤ 1000000) then some (h ++ [.inl (t, k.toNatClampNeg, am_zero t)]) else none
def am_pObj (c : Nat) (h : am_H) : Option am_H := match am_df[c]? with
  | some fs => some (h ++ [.inr (c, fs)])
  | none => none
def am_pCpy (a : Value) (sp : Int32) (b : Value) (dp n : Int32) (h : am_H) : Option am_H := match a, b with
  | .ref a, .ref b => (match h[a]?, h[b]? with
    | some (.inl (t0, n0, .inl f)), some (.inl (t1, n1, .inl g)) =>
      if t0 == 0 && t1 == 0 && decide (0 ≤ sp) && decide (0 ≤ dp) && decide (0 ≤ n) && Nat.ble (sp.toNatClampNeg + n.toNatClampNeg) n0 && Nat.ble (dp.toNatClampNeg + n.toNatClampNeg) n1 then
        some (h.set b (.inl (t1, n1, .inl (va_cpy f g sp.toNatClampNeg dp.toNatClampNeg n.toNatClampNeg)))) else none
    | _, _ => none)
  | _, _ => none
/-- charAt -/
def am_pTx (j : Nat) (i : Int32) : Option Int32 := if am_inb i (am_txt j).length then some ((am_txt j).getD i.toNatClampNeg 0) else none
def am_pZ (v : Value) : Option Bool := match v with
  | .null => some true
  | .ref _ => some false
  | _ => none
def am_pOk (ow : Nat) (v : Value) (h : am_H) : Bool := match v with
  | .ref a => (match h[a]? with
    | some (.inr (c, _)) => c == ow
    | _ => false)
  | _ => false
def am_pRf (v : Value) : Bool := match v with
  | .ref _ => true
  | _ => false
def am_pRet (v : Value) (h : am_H) : Option am_O := match v with
  | .ref a => some (.inl (some (.ref a), h))
  | _ => none
/-! calls: what comes back goes on; 'T': what is thrown goes on to the caller -/
def am_cI (t : Bool) (o : Option am_O) (k : Int32 → am_H → Option am_O) : Option am_O := match o with
  | some (.inl (some (.int v), h1)) => k v h1
  | some (.inr e) => if t then some (.inr e) else none
  | _ => none
def am_cL (t : Bool) (o : Option am_O) (k : Int64 → am_H → Option am_O) : Option am_O := match o with
  | some (.inl (some (.long v), h1)) => k v h1
  | some (.inr e) => if t then some (.inr e) else none
  | _ => none
def am_cR (t : Bool) (o : Option am_O) (k : Value → am_H → Option am_O) : Option am_O := match o with
  | some (.inl (some v, h1)) => if am_isR v then k v h1 else none
  | some (.inr e) => if t then some (.inr e) else none
  | _ => none
def am_cV (t : Bool) (o : Option am_O) (k : am_H → Option am_O) : Option am_O := match o with
  | some (.inl (none, h1)) => k h1
  | some (.inr e) => if t then some (.inr e) else none
  | _ => none
section
variable {X : am_X} {d y pc pc1 : Nat} {lv : am_LV} {st : List Value} {h : am_H} {Q : am_O → Prop}
theorem aw_pG {r x : Nat} {v w : Value} (hat : am_at (am_m y) pc = some (.getfield x, r)) (hg : am_pG r v h = some w) (hp : pc + 3 = pc1) (k : am_W X d y pc1 lv (w :: st) h Q) : am_W X d y pc lv (v :: st) h Q := by
  unfold am_pG at hg
  split at hg
  · split at hg
    · rename_i hb
      obtain ⟨hc, hg2⟩ := am_ift hg
      exact aw_getf hat hb hc hg2 hp k
    · cases hg
  · cases hg
theorem aw_pP {r x : Nat} {v w : Value} {h1 : am_H} (hat : am_at (am_m y) pc = some (.putfield x, r)) (hg : am_pP r v w h = some h1) (hp : pc + 3 = pc1) (k : am_W X d y pc1 lv st h1 Q) : am_W X d y pc lv (w :: v :: st) h Q := by
  unfold am_pP at hg
  split at hg
  · split at hg
    · rename_i hb
      obtain ⟨hc, hg2⟩ := am_ift hg
      exact aw_putf hat hb hc rfl (Option.some.inj hg2) hp k
    · cases hg
  · cases hg
theorem aw_pA {i : Instr} {r t : Nat} {v : Value} {j x : Int32} (hat : am_at (am_m y) pc = some (i, r)) (hi : (i = .iaload ∧ t = 0) ∨ (i = .baload ∧ t = 2) ∨ (i = .caload ∧ t = 3)) (hg : am_pA t v j h = some x) (hp : pc + 1 = pc1) (k : am_W X d y pc1 lv (.int x :: st) h Q) : am_W X d y pc lv (.int j :: v :: st) h Q := by
  unfold am_pA at hg
  split at hg
  · split at hg
    · rename_i hb
      obtain ⟨hc, hg2⟩ := am_ift hg
      rw [Bool.and_eq_true, beq_iff_eq] at hc
      obtain ⟨rfl, hc⟩ := hc
      cases hg2
      rcases hi with ⟨rfl, rfl⟩ | ⟨rfl, rfl⟩ | ⟨rfl, rfl⟩
      · exact aw_iaload hat hb hc hp k
      · exact aw_baload hat hb hc hp k
      · exact aw_caload hat hb hc hp k
    · cases hg
  · cases hg
theorem aw_pX {r j : Nat} {e : UInt32} {i x : Int32} (hat : am_at (am_m y) pc = some (.iaload, r)) (hj : e.toNat = j) (hx : am_xint j = true) (hg : am_pX X j i = some x) (hp : pc + 1 = pc1) (k : am_W X d y pc1 lv (.int x :: st) h Q) : am_W X d y pc lv (.int i :: .float e :: st) h Q := by
  subst hj
  obtain ⟨hc, hg2⟩ := am_ift hg
  cases hg2
  exact aw_xaload hat hx hc hp k
theorem aw_pAL {r : Nat} {v : Value} {j : Int32} {x : Int64} (hat : am_at (am_m y) pc = some (.laload, r)) (hg : am_pAL v j h = some x) (hp : pc + 1 = pc1) (k : am_W X d y pc1 lv (.long x :: st) h Q) : am_W X d y pc lv (.int j :: v :: st) h Q := by
  unfold am_pAL at hg
  split at hg
  · split at hg
    · rename_i hb
      obtain ⟨hc, hg2⟩ := am_ift hg
      rw [Bool.and_eq_true, beq_iff_eq] at hc
      obtain ⟨rfl, hc⟩ := hc
      cases hg2
      exact aw_laload hat hb hc hp k
    · cases hg
  · cases hg
theorem am_pAA_R {v w : Value} {j : Int32} (hg : am_pAA v j h = some w) : am_isR w = true := by
  unfold am_pAA at hg
  split at hg
  · split at hg
    · obtain ⟨hc, hg2⟩ := am_ift hg
      cases hg2
      exact am_rf_R _
    · cases hg
  · cases hg
theorem aw_pAA {r : Nat} {v w : Value} {j : Int32} (hat : am_at (am_m y) pc = some (.aaload, r)) (hg : am_pAA v j h = some w) (hp : pc + 1 = pc1) (k : am_W X d y pc1 lv (w :: st) h Q) : am_W X d y pc lv (.int j :: v :: st) h Q := by
  unfold am_pAA at hg
  split at hg
  · split at hg
    · rename_i hb
      obtain ⟨hc, hg2⟩ := am_ift hg
      rw [Bool.and_eq_true] at hc
      cases hg2
      exact aw_aaload hat hb hc.1 hc.2 hp k
    · cases hg
  · cases hg
theorem aw_pS {i : Instr} {r t : Nat} {v : Value} {j x : Int32} {h1 : am_H} (hat : am_at (am_m y) pc = some (i, r)) (hi : (i = .iastore ∧ t = 0) ∨ (i = .bastore ∧ t = 2) ∨ (i = .castore ∧ t = 3)) (hg : am_pS t v j x h = some h1) (hp : pc + 1 = pc1) (k : am_W X d y pc1 lv st h1 Q) : am_W X d y pc lv (.int x :: .int j :: v :: st) h Q := by
  unfold am_pS at hg
  split at hg
  · split at hg
    · rename_i hb
      obtain ⟨hc, hg2⟩ := am_ift hg
      rw [Bool.and_eq_true, Bool.and_eq_true, beq_iff_eq] at hc
      obtain ⟨⟨rfl, hc⟩, hf⟩ := hc
      cases hg2
      rcases hi with ⟨rfl, rfl⟩ | ⟨rfl, rfl⟩ | ⟨rfl, rfl⟩
      · exact aw_iastore hat hb hc rfl hp k
      · exact aw_bastore hat hb hc hf rfl hp k
      · exact aw_castore hat hb hc hf rfl hp k
    · cases hg
  · cases hg
theorem aw_pSL {r : Nat} {v : Value} {j : Int32} {x : Int64} {h1 : am_H} (hat : am_at (am_m y) pc = some (.lastore, r)) (hg : am_pSL v j x h = some h1) (hp : pc + 1 = pc1) (k : am_W X d y pc1 lv st h1 Q) : am_W X d y pc lv (.long x :: .int j :: v :: st) h Q := by
  unfold am_pSL at hg
  split at hg
  · split at hg
    · rename_i hb
      obtain ⟨hc, hg2⟩ := am_ift hg
      rw [Bool.and_eq_true, beq_iff_eq] at hc
      obtain ⟨rfl, hc⟩ := hc
      cases hg2
      exact aw_lastore hat hb hc rfl hp k
    · cases hg
  · cases hg
theorem aw_pSA {r : Nat} {v w : Value} {j : Int32} {h1 : am_H} (hat : am_at (am_m y) pc = some (.aastore, r)) (hg : am_pSA v j w h = some h1) (hp : pc + 1 = pc1) (k : am_W X d y pc1 lv st h1 Q) : am_W X d y pc lv (w :: .int j :: v :: st) h Q := by
  unfold am_pSA at hg
  split at hg
  · split at hg
    · rename_i hb hv
      obtain ⟨hc, hg2⟩ := am_ift hg
      rw [Bool.and_eq_true] at hc
      cases hg2
      exact aw_aastore hat hb hv hc.1 hc.2 rfl hp k
    · cases hg
  · cases hg
theorem aw_pLen {r : Nat} {v : Value} {x : Int32} (hat : am_at (am_m y) pc = some (.arraylength, r)) (hg : am_pLen v h = some x) (hp : pc + 1 = pc1) (k : am_W X d y pc1 lv (.int x :: st) h Q) : am_W X d y pc lv (v :: st) h Q := by
  unfold am_pLen at hg
  split at hg
  · split at hg
    · rename_i hb
      obtain ⟨hc, hg2⟩ := am_ift hg
      exact aw_alen hat hb hc (Option.some.inj hg2) hp k
    · cases hg
  · cases hg
theorem aw_pNew {r : Nat} {t : ArrayType} {x : Int32} {h1 : am_H} (hat : am_at (am_m y) pc = some (.newarray t, r)) (hg : am_pNew r x h = some h1) (hp : pc + 2 = pc1) (k : am_W X d y pc1 lv (.ref h.length :: st) h1 Q) : am_W X d y pc lv (.int x :: st) h Q := by
  obtain ⟨hc, hg2⟩ := am_ift hg
  exact aw_newa hat hc rfl (Option.some.inj hg2) hp k
theorem aw_pNewR {r t : Nat} {x : Int32} {h1 : am_H} (hat : am_at (am_m y) pc = some (.anewarray t, r)) (hr : Nat.blt r 7 = true) (hg : am_pNew r x h = some h1) (hp : pc + 3 = pc1) (k : am_W X d y pc1 lv (.ref h.length :: st) h1 Q) : am_W X d y pc lv (.int x :: st) h Q := by
  obtain ⟨hc, hg2⟩ := am_ift hg
  exact aw_newr hat hr hc rfl (Option.some.inj hg2) hp k
theorem aw_pObj {r t : Nat} {h1 : am_H} (hat : am_at (am_m y) pc = some (.new t, r)) (hr : Nat.blt r 100 = true) (hr2 : Nat.ble 100 r = false) (hg : am_pObj r h = some h1) (hp : pc + 3 = pc1) (k : am_W X d y pc1 lv (.ref h.length :: st) h1 Q) : am_W X d y pc lv st h Q := by
  unfold am_pObj at hg
  split at hg
  · rename_i hf
    exact aw_newo hat hr hr2 hf rfl (Option.some.inj hg) hp k
  · cases hg
theorem aw_pCpy {r x : Nat} {a b : Value} {sp dp n : Int32} {h1 : am_H} (hat : am_at (am_m y) pc = some (.invokestatic x, r)) (hr : am_kind (.invokestatic x) r = 4) (hg : am_pCpy a sp b dp n h = some h1) (hc : Nat.ble (am_cats st) 8 = true) (k : am_W X d y (pc + 3) lv st h1 Q) : am_W X d y pc lv (.int n :: .int dp :: b :: .int sp :: a :: st) h Q := by
  unfold am_pCpy at hg
  split at hg
  · split at hg
    · rename_i ha hb
      obtain ⟨hcc, hg2⟩ := am_ift hg
      cases hg2
      exact am_W.cpy hat hr (by unfold am_acopy; simp only [ha, hb, hcc, if_true]) hc k
    · cases hg
  · cases hg
theorem aw_pZt {r : Nat} {f : Int} {v : Value} (hat : am_at (am_m y) pc = some (.ifnull f, r)) (hg : am_pZ v = some true) (k : am_W X d y r lv st h Q) : am_W X d y pc lv (v :: st) h Q := by
  unfold am_pZ at hg
  split at hg
  · exact aw_ifnull_t hat k
  · cases hg
  · cases hg
theorem aw_pZf {r : Nat} {f : Int} {v : Value} (hat : am_at (am_m y) pc = some (.ifnull f, r)) (hg : am_pZ v = some false) (hp : pc + 3 = pc1) (k : am_W X d y pc1 lv st h Q) : am_W X d y pc lv (v :: st) h Q := by
  unfold am_pZ at hg
  split at hg
  · cases hg
  · exact aw_ifnull_f hat hp k
  · cases hg
theorem aw_pYf {r : Nat} {f : Int} {v : Value} (hat : am_at (am_m y) pc = some (.ifnonnull f, r)) (hg : am_pZ v = some true) (hp : pc + 3 = pc1) (k : am_W X d y pc1 lv st h Q) : am_W X d y pc lv (v :: st) h Q := by
  unfold am_pZ at hg
  split at hg
  · exact aw_ifnn_f hat hp k
  · cases hg
  · cases hg
theorem aw_pYt {r : Nat} {f : Int} {v : Value} (hat : am_at (am_m y) pc = some (.ifnonnull f, r)) (hg : am_pZ v = some false) (k : am_W X d y r lv st h Q) : am_W X d y pc lv (v :: st) h Q := by
  unfold am_pZ at hg
  split at hg
  · cases hg
  · exact aw_ifnn_t hat k
  · cases hg
theorem aw_pRet {r : Nat} {v : Value} {c : String} {o : am_O} (hat : am_at (am_m y) pc = some (.areturn, r)) (hf : am_rt (am_m y) = some (.object c)) (hg : am_pRet v h = some o) : am_W X d y pc lv [v] h (fun q => q = o) := by
  unfold am_pRet at hg
  split at hg
  · exact aw_aret hat hf (Option.some.inj hg)
  · cases hg
theorem aw_vload {r : Nat} {i : Nat} {v : Value} (hat : am_at (am_m y) pc = some (.aload i, r)) (hl : lv.lookup i = some v) (hv : am_isR v = true) (hp : pc + 2 = pc1) (k : am_W X d y pc1 lv (v :: st) h Q) : am_W X d y pc lv st h Q := by
  cases v with
  | ref a => exact aw_aload hat hl hp k
  | float e => exact aw_xload hat hl hp k
  | null => exact aw_nload hat hl hp k
  | int _ => cases hv
  | long _ => cases hv
  | double _ => cases hv
  | retAddr _ => cases hv
theorem aw_vload_n {r : Nat} {i : Fin 4} {v : Value} (hat : am_at (am_m y) pc = some (.aload_n i, r)) (hl : lv.lookup (i : Nat) = some v) (hv : am_isR v = true) (hp : pc + 1 = pc1) (k : am_W X d y pc1 lv (v :: st) h Q) : am_W X d y pc lv st h Q := by
  cases v with
  | ref a => exact aw_aload_n hat hl hp k
  | float e => exact aw_xload_n hat hl hp k
  | null => exact aw_nload_n hat hl hp k
  | int _ => cases hv
  | long _ => cases hv
  | double _ => cases hv
  | retAddr _ => cases hv
theorem aw_vstore {r : Nat} {i : Nat} {v : Value} {lv1 : am_LV} (hat : am_at (am_m y) pc = some (.astore i, r)) (hv : am_isR v = true) (hl : am_put1 lv i v = lv1) (hp : pc + 2 = pc1) (k : am_W X d y pc1 lv1 st h Q) : am_W X d y pc lv (v :: st) h Q := by
  subst hp
  subst hl
  refine am_W.s1 hat rfl ?_ k
  cases v with
  | ref a => rfl
  | float e => rfl
  | null => rfl
  | int _ => cases hv
  | long _ => cases hv
  | double _ => cases hv
  | retAddr _ => cases hv
theorem aw_vstore_n {r : Nat} {i : Fin 4} {v : Value} {lv1 : am_LV} (hat : am_at (am_m y) pc = some (.astore_n i, r)) (hv : am_isR v = true) (hl : am_put1 lv (i : Nat) v = lv1) (hp : pc + 1 = pc1) (k : am_W X d y pc1 lv1 st h Q) : am_W X d y pc lv (v :: st) h Q := by
  subst hp
  subst hl
  refine am_W.s1 hat rfl ?_ k
  cases v with
  | ref a => rfl
  | float e => rfl
  | null => rfl
  | int _ => cases hv
  | long _ => cases hv
  | double _ => cases hv
  | retAddr _ => cases hv
theorem aw_vdup {r : Nat} {v : Value} (hat : am_at (am_m y) pc = some (.dup, r)) (hv : am_isR v = true) (hp : pc + 1 = pc1) (k : am_W X d y pc1 lv (v :: v :: st) h Q) : am_W X d y pc lv (v :: st) h Q := by
  subst hp
  refine am_W.s1 hat rfl ?_ k
  show (if v.category == 1 then some (pc + 1, lv, v :: v :: st, h) else none) = _
  rw [am_isRc hv]
  rfl
theorem aw_vpop {r : Nat} {v : Value} (hat : am_at (am_m y) pc = some (.pop, r)) (hv : am_isR v = true) (hp : pc + 1 = pc1) (k : am_W X d y pc1 lv st h Q) : am_W X d y pc lv (v :: st) h Q := by
  subst hp
  refine am_W.s1 hat rfl ?_ k
  show (if v.category == 1 then some (pc + 1, lv, st, h) else none) = _
  rw [am_isRc hv]
  rfl
theorem aw_vdup2 {r : Nat} {v : Value} {x : Int32} (hat : am_at (am_m y) pc = some (.dup2, r)) (hv : am_isR v = true) (hp : pc + 1 = pc1) (k : am_W X d y pc1 lv (.int x :: v :: .int x :: v :: st) h Q) : am_W X d y pc lv (.int x :: v :: st) h Q := by
  subst hp
  refine am_W.s1 hat rfl ?_ k
  show (if (Value.int x).category == 1 && v.category == 1 then some (pc + 1, lv, .int x :: v :: .int x :: v :: st, h) else none) = _
  rw [am_isRc hv]
  rfl
/-- whether the callee takes the values -/
theorem am_ok_v {r na kd ow mx : Nat} {v : Value} {as1 : List Value} (hmi : am_mi r = (na, kd, ow, mx)) (hl : ((v :: as1).length == na && Nat.ble (am_cats (v :: as1)) mx) = true) (hb : am_pOk ow v h = true) : am_ok (am_m r) (v :: as1) h = true := by
  unfold am_pOk at hb
  split at hb
  · split at hb
    · rename_i hb9
      rw [beq_iff_eq] at hb
      subst hb
      exact am_ok_o hmi hl hb9
    · cases hb
  · cases hb
/-- a call, whatever it gives: by the outcome of the method's own function -/
theorem aw_call {i : Instr} {r na kd : Nat} {as rest : List Value} {F : Option am_O} {t : Bool} {o : am_O} (hat : am_at (am_m y) pc = some (i, r)) (hk : am_kind i r = 3) (hna : am_na (am_m r) = na) (hkd : am_kd (am_m r) = kd) (ht : (st.take na).reverse = as) (hdr : st.drop na = rest) (hok : am_ok (am_m r) as h = true) (hc : Nat.ble (am_cats rest) 8 = true) (htt : t = true → kd = 1 ∧ am_hh (am_m y) = [])
    (c : ∀ o1, F = some o1 → am_W X d r 0 (am_args 0 as) [] h (fun q => q = o1))
    (hs : (∃ v h1, F = some (.inl (v, h1)) ∧ am_W X (d + 1) y (pc + 3) lv (v.toList ++ rest) h1 (fun q => q = o)) ∨ (∃ e, F = some (.inr e) ∧ t = true ∧ o = .inr e)) : am_W X (d + 1) y pc lv st h (fun q => q = o) := by
  rcases hs with ⟨v, h1, hF, k⟩ | ⟨⟨x, h1⟩, hF, htr, rfl⟩
  · exact am_W.call hat hk hna ht hdr hok hc (c _ hF) (fun v9 h9 e9 => by cases e9; exact k) (fun x9 h9 e9 => by cases e9)
  · obtain ⟨hkd1, hh⟩ := htt htr
    exact am_W.call hat hk hna ht hdr hok hc (c _ hF) (fun v9 h9 e9 => by cases e9) (fun x9 h9 e9 => by
      cases e9
      exact ⟨hkd.trans hkd1, Or.inl ⟨hh, rfl⟩⟩)
theorem am_cI_s {t : Bool} {F : Option am_O} {K : Int32 → am_H → Option am_O} {o : am_O} (hs : am_cI t F K = some o) : (∃ v h1, F = some (.inl (some (.int v), h1)) ∧ K v h1 = some o) ∨ (∃ e, F = some (.inr e) ∧ t = true ∧ o = .inr e) := by
  unfold am_cI at hs
  split at hs
  · exact Or.inl ⟨_, _, rfl, hs⟩
  · obtain ⟨ht, hs2⟩ := am_ift hs
    cases hs2
    exact Or.inr ⟨_, rfl, ht, rfl⟩
  · cases hs
theorem am_cL_s {t : Bool} {F : Option am_O} {K : Int64 → am_H → Option am_O} {o : am_O} (hs : am_cL t F K = some o) : (∃ v h1, F = some (.inl (some (.long v), h1)) ∧ K v h1 = some o) ∨ (∃ e, F = some (.inr e) ∧ t = true ∧ o = .inr e) := by
  unfold am_cL at hs
  split at hs
  · exact Or.inl ⟨_, _, rfl, hs⟩
  · obtain ⟨ht, hs2⟩ := am_ift hs
    cases hs2
    exact Or.inr ⟨_, rfl, ht, rfl⟩
  · cases hs
theorem am_cR_s {t : Bool} {F : Option am_O} {K : Value → am_H → Option am_O} {o : am_O} (hs : am_cR t F K = some o) : (∃ v h1, F = some (.inl (some v, h1)) ∧ am_isR v = true ∧ K v h1 = some o) ∨ (∃ e, F = some (.inr e) ∧ t = true ∧ o = .inr e) := by
  unfold am_cR at hs
  split at hs
  · obtain ⟨ht, hs⟩ := am_ift hs
    exact Or.inl ⟨_, _, rfl, ht, hs⟩
  · obtain ⟨ht, hs2⟩ := am_ift hs
    cases hs2
    exact Or.inr ⟨_, rfl, ht, rfl⟩
  · cases hs
theorem am_cV_s {t : Bool} {F : Option am_O} {K : am_H → Option am_O} {o : am_O} (hs : am_cV t F K = some o) : (∃ h1, F = some (.inl (none, h1)) ∧ K h1 = some o) ∨ (∃ e, F = some (.inr e) ∧ t = true ∧ o = .inr e) := by
  unfold am_cV at hs
  split at hs
  · exact Or.inl ⟨_, rfl, hs⟩
  · obtain ⟨ht, hs2⟩ := am_ift hs
    cases hs2
    exact Or.inr ⟨_, rfl, ht, rfl⟩
  · cases hs
theorem am_tsw_d {dd lo hi : Int} {os : Array Int} {x : Int32} (hx : x.toInt < lo ∨ hi < x.toInt) : am_tsw dd lo hi os pc lv (.int x :: st) h = some (((pc : Int) + dd).toNat, lv, st, h) := by
  show (if decide (x.toInt < lo) || decide (hi < x.toInt) then _ else _) = _
  rw [if_pos]
  rw [Bool.or_eq_true, decide_eq_true_eq, decide_eq_true_eq]
  exact hx
theorem aw_obi {i : Instr} {r : Nat} {v : Value} (hat : am_at (am_m y) pc = some (i, r)) (hk : am_kind i r = 5) (hv : am_pRf v = true) (hc : Nat.ble (am_cats st) 8 = true) (k : am_W X d y (pc + 3) lv st h Q) : am_W X d y pc lv (v :: st) h Q := by
  unfold am_pRf at hv
  split at hv
  · exact am_W.obi hat hk hc k
  · cases hv
/-- a call within a table: what is thrown is caught, or goes on -/
theorem aw_callH {i : Instr} {r na kd : Nat} {as rest : List Value} {F : Option am_O} {o : am_O} (hat : am_at (am_m y) pc = some (i, r)) (hk : am_kind i r = 3) (hna : am_na (am_m r) = na) (hkd : am_kd (am_m r) = kd) (ht : (st.take na).reverse = as) (hdr : st.drop na = rest) (hok : am_ok (am_m r) as h = true) (hc : Nat.ble (am_cats rest) 8 = true)
    (c : ∀ o1, F = some o1 → am_W X d r 0 (am_args 0 as) [] h (fun q => q = o1))
    (hs : (∃ v h1, F = some (.inl (v, h1)) ∧ am_W X (d + 1) y (pc + 3) lv (v.toList ++ rest) h1 (fun q => q = o)) ∨ (∃ x h1 pc1 k, F = some (.inr (x, h1)) ∧ kd = 1 ∧ am_hh (am_m y) ≠ [] ∧ am_hd (am_m y) pc x (am_hh (am_m y)) = some (pc1, k) ∧ am_W X (d + 1) y pc1 ((am_put1 lv k .null).drop 1) [] h1 (fun q => q = o))) : am_W X (d + 1) y pc lv st h (fun q => q = o) := by
  rcases hs with ⟨v, h1, hF, k⟩ | ⟨x, h1, pc1, k, hF, hk1, hh, hd, kk⟩
  · exact am_W.call hat hk hna ht hdr hok hc (c _ hF) (fun v9 h9 e9 => by cases e9; exact k) (fun x9 h9 e9 => by cases e9)
  · exact am_W.call hat hk hna ht hdr hok hc (c _ hF) (fun v9 h9 e9 => by cases e9) (fun x9 h9 e9 => by
      cases e9
      exact ⟨hkd.trans hk1, Or.inr ⟨hh, pc1, k, hd, kk⟩⟩)
theorem aw_pTx {i : Instr} {r j : Nat} {c x : Int32} {e : UInt32} (hat : am_at (am_m y) pc = some (i, r)) (hk : am_kind i r = 7) (hj : e.toNat = j) (he : am_xtx j = true) (hg : am_pTx j c = some x) (hc : Nat.ble (am_cats st) 8 = true) (k : am_W X d y (pc + 3) lv (.int x :: st) h Q) : am_W X d y pc lv (.int c :: .float e :: st) h Q := by
  subst hj
  obtain ⟨hi, hg2⟩ := am_ift hg
  cases hg2
  exact am_W.chr hat hk he hi hc k
end
theorem am_k3v {x r : Nat} (h : Nat.ble 10000 r = false) : am_kind (.invokevirtual x) r = 3 := by
  show (if Nat.ble 10000 r = true then _ else 3) = 3
  rw [h]
  rfl
theorem am_k3p {x r : Nat} (h : Nat.ble 10000 r = false) : am_kind (.invokespecial x) r = 3 := by
  show (if Nat.ble 10000 r = true then _ else 3) = 3
  rw [h]
  rfl
theorem am_k3s {x r : Nat} (h : Nat.ble 10000 r = false) : am_kind (.invokestatic x) r = 3 := by
  show (if Nat.ble 10000 r = true then _ else 3) = 3
  rw [h]
  rfl
