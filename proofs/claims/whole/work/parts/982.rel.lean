/-! ===== what both sides keep between calls ===== -/
def wdN (kd : Nat) : Nat := if kd = 2 then 5 else 2
/-- the numbers of the items, as the class lays them; s, v: sorts and values, as the reference lays them -/
def itm (kd : Nat) (s v : Nat → Int32) (sz : Nat) (f : Nat → Int32) : Prop := if kd = 2 then (∀ k, k < sz → f (k * 5) = s k ∧ ∀ c, c < 4 → f (k * 5 + (1 + c)) = pv_367 (v k) (nI c)) else (∀ k, k < sz → f (k * 2) = s k ∧ f (k * 2 + 1) = v k)
/-- a number of two digits with a sign -/
def two (x : Int32) : Prop := (∃ a, a ≤ 99 ∧ x = nI a) ∨ (∃ a, a ≤ 99 ∧ x = - nI a)
/-- what a node's parts want: a truth, how deep, within a fold -/
def kid (s : Nat) (c : Nat × Nat × Nat) : List (Nat × Nat × Nat) := (List.range (arN s)).map (fun p => (twN s p, c.2.1 + 1, if s = 19 ∧ p = 1 then 1 else c.2.2))
/-- sorts that make trees, by what each place still wants -/
def okF : List (Nat × Nat × Nat) → List (Nat × Nat) → Prop
  | [], [] => True
  | [], _ :: _ => False
  | _ :: _, [] => False
  | c :: st, x :: l => x.1 ≤ 20 ∧ truN x.1 = c.1 ∧ c.2.1 ≤ 12 ∧ (c.2.2 = 0 → x.1 ≠ 5 ∧ x.1 ≠ 6) ∧ (c.2.2 = 1 → x.1 ≠ 19) ∧ okF (kid x.1 c ++ st) l
def okT (sz : Nat) (s v : Nat → Int32) : Prop := ∃ l : List (Nat × Nat), l.length = sz ∧ okF [(0, 1, 0)] l ∧ ∀ k x r, l.drop k = x :: r → s k = nI x.1 ∧ (x.1 = 0 → two (v k)) ∧ (x.1 ≠ 0 → v k = 0)
def tkN (s : Nat) : Nat := if s < 5 then 0 else if s < 7 then 1 else if s < 14 then 2 else if s = 15 then 2 else if s = 17 then 0 else 1
def ptN (s : Nat) : Nat := if s < 14 then 1 else if s < 16 then 2 else 0
/-- sorts and arguments that are sound code; ht: the pile's heights -/
def okC (sz : Nat) (s v : Nat → Int32) : Prop := ∃ (l a ht : Nat → Nat), (ht 0 = 0 ∧ ∀ k, 1 ≤ k → k ≤ sz → ∃ p, p < k ∧ (p + 1 = k ∧ l p ≠ 17 ∨ 17 ≤ l p ∧ p + 1 + a p = k)) ∧ ht sz = 1 ∧ (∀ k, k < sz → l k ≤ 18 ∧ s k = nI (l k) ∧ (l k = 0 → two (v k)) ∧ (l k ≠ 0 → v k = nI (a k) ∧ a k ≤ 99) ∧ (l k < 17 → l k ≠ 0 → a k = 0) ∧ tkN (l k) ≤ ht k ∧ ht k - tkN (l k) + ptN (l k) ≤ 8 ∧ (l k ≠ 17 → ht (k + 1) = ht k - tkN (l k) + ptN (l k)) ∧ (17 ≤ l k → k + 1 + a k ≤ sz ∧ ht (k + 1 + a k) = ht k - tkN (l k) + ptN (l k)))
def okM (sz : Nat) (s v : Nat → Int32) : Prop := sz ≤ 6 ∧ ∀ k, k < sz → two (s k) ∧ ∃ e0 e1 e2 e3, e0 < sz ∧ e1 < sz ∧ e2 < sz ∧ e3 < sz ∧ v k = nI (e0 + 8 * e1 + 64 * e2 + 512 * e3)
def okN (ln sz : Nat) (s v : Nat → Int32) : Prop := 2 ≤ ln ∧ ln ≤ 8 ∧ sz ≤ 40 ∧ ∀ k, k < sz → ∃ i j, i < j ∧ j < ln ∧ s k = nI i ∧ v k = nI j
/-- a sound program -/
def sound (kd ln sz : Nat) (s v : Nat → Int32) : Prop := kd ≤ 3 ∧ sz ≤ 60 ∧ (kd ≠ 3 → 1 ≤ sz ∧ ln = 0) ∧ (kd = 0 → okT sz s v) ∧ (kd = 1 → okC sz s v) ∧ (kd = 2 → okM sz s v) ∧ (kd = 3 → okN ln sz s v)
/-- where a birth comes from -/
def ped (b : Nat) (wy f1 f2 hw nb : Int32) : Prop := ∃ w, w ≤ 7 ∧ wy = nI w ∧ (f1 = -1 ∨ ∃ p, p < b ∧ f1 = nI p) ∧ (f2 = -1 ∨ ∃ p, p < b ∧ f2 = nI p) ∧ (3 ≤ w → f1 ≠ -1) ∧ (w = 4 → f2 ≠ -1 ∧ hw = -1) ∧ (w = 3 → f2 = -1 ∧ ∃ j, j ≤ 4 ∧ hw = nI j) ∧ (nb = -1 ∨ ∃ j, j < 1000000 ∧ nb = nI j)
/-- a birth of both sides -/
def bOk (I : Nat → Nat → Int32) (L : Nat → Nat → Int64) (R : Nat → Nat → Option Nat) (tl : am_H) (b : Nat) : Prop := ∃ (kd ln sz a it : Nat) (f : Nat → Int32), I 175 b = nI kd ∧ I 176 b = nI sz ∧ I 177 b = nI ln ∧ R 1 b = some (269 + a) ∧ tl[a]? = some (.inr (3, [.ref (269 + it), .int (nI kd), .int (nI ln), .int (nI sz), .int (nI (wdN kd)), .int (I 178 b), .int (I 179 b), .int (I 180 b), .int (I 181 b), .int (I 182 b), .long (L 183 b)])) ∧ tl[it]? = some (.inl (0, sz * wdN kd, .inl f)) ∧ itm kd (fun k => I 184 (60 * b + k)) (fun k => I 185 (60 * b + k)) sz f ∧ sound kd ln sz (fun k => I 184 (60 * b + k)) (fun k => I 185 (60 * b + k)) ∧ ped b (I 178 b) (I 179 b) (I 180 b) (I 181 b) (I 182 b)
def rBn (V : Nat → Nat → Value) (n : Nat) : Prop := n ≤ 600 ∧ V 0 1 = .int (nI n) ∧ V 174 1 = .int (nI n)
def rBp (I : Nat → Nat → Int32) (L : Nat → Nat → Int64) (R : Nat → Nat → Option Nat) (tl : am_H) (n : Nat) : Prop := ∀ b, b < n → bOk I L R tl b
/-- the text -/
def rTx (V : Nat → Nat → Value) (I : Nat → Nat → Int32) : Prop := ∃ m, m ≤ 240 ∧ V 2 1 = .int (nI m) ∧ V 174 68 = .int (nI m) ∧ ∀ j, j < m → I 218 j = I 3 j ∧ ∃ c, c < 256 ∧ I 3 j = nI c
/-- a case -/
def cOk (I : Nat → Nat → Int32) (k : Nat) : Prop := I 15 (15 * k) = I 197 k ∧ I 15 (15 * k + 1) = I 198 k ∧ I 15 (15 * k + 2) = I 199 k ∧ I 15 (15 * k + 3) = I 200 k ∧ (∃ w, 1 ≤ w ∧ w ≤ 9 ∧ I 201 k = nI w ∧ I 15 (15 * k + 4) = nI w) ∧ (∃ d, d ≤ 1 ∧ I 202 k = nI d ∧ I 15 (15 * k + 5) = nI d) ∧ (∃ s, s ≤ 8 ∧ I 203 k = nI s ∧ I 15 (15 * k + 6) = nI s) ∧ ∀ i, i < 8 → I 15 (15 * k + (7 + i)) = I 204 (8 * k + i)
def rCs (V : Nat → Nat → Value) (I : Nat → Nat → Int32) : Prop := ∃ m, m ≤ 24 ∧ V 14 1 = .int (nI m) ∧ V 174 31 = .int (nI m) ∧ ∀ k, k < m → cOk I k
/-- the row that is put -/
def rDr (V : Nat → Nat → Value) (I : Nat → Nat → Int32) : Prop := ∃ s, s ≤ 8 ∧ I 164 6 = nI s ∧ V 174 40 = .int (nI s) ∧ (∀ i, i < s → I 164 (7 + i) = I 205 i) ∧ (∀ i, s ≤ i → i < 8 → I 164 (7 + i) = 0)
def rSe (V : Nat → Nat → Value) (I : Nat → Nat → Int32) : Prop := ∃ a b c d e, 10 ≤ a ∧ a ≤ 2000 ∧ b ≤ 4 ∧ 1 ≤ c ∧ c ≤ 5 ∧ d ≤ 100 ∧ e ≤ 2 ∧ V 16 0 = .int (nI a) ∧ V 27 0 = .int (nI a) ∧ I 38 0 = nI a ∧ I 206 0 = nI a ∧ I 38 1 = nI b ∧ I 206 1 = nI b ∧ I 38 2 = nI c ∧ I 206 2 = nI c ∧ I 38 3 = nI d ∧ I 206 3 = nI d ∧ I 38 4 = nI e ∧ I 206 4 = nI e
/-- an island -/
def sOk (V : Nat → Nat → Value) (I : Nat → Nat → Int32) (L : Nat → Nat → Int64) (n i : Nat) : Prop := ∃ c kd, c ≤ 16 ∧ V (40 + 9 * i) 0 = .int (nI c) ∧ I 233 i = nI c ∧ V (42 + 9 * i) 0 = .long (L 235 i) ∧ ∀ k, k < c → ∃ b, b < n ∧ I (41 + 9 * i) k = nI b ∧ I 234 (16 * i + k) = nI b ∧ I 175 b = nI kd
def rIs (V : Nat → Nat → Value) (I : Nat → Nat → Int32) (L : Nat → Nat → Int64) (n : Nat) : Prop := sOk V I L n 0 ∧ sOk V I L n 1 ∧ sOk V I L n 2 ∧ sOk V I L n 3
def rTo (V : Nat → Nat → Value) : Prop := ∃ x y, V 0 12 = .int x ∧ V 174 56 = .int x ∧ V 0 13 = .int y ∧ V 174 57 = .int y
/-! the edits of a program, as lists -/
abbrev xI := List (Int32 × Int32)
def sN (x : Int32) : Nat := x.toNatClampNeg
def srt (P : xI) (k : Nat) : Int32 := (P.getD k (0, 0)).1
def vlu (P : xI) (k : Nat) : Int32 := (P.getD k (0, 0)).2
def tL (P : xI) : List (Nat × Nat) := P.map (fun x => (sN x.1, 0))
def eT2 (P : xI) (k : Nat) : Nat := k + tk 1 ((tL P).drop k)
/-- whether sorts make a tree -/
def okB : List (Nat × Nat × Nat) → List (Nat × Nat) → Bool
  | [], [] => true
  | [], _ :: _ => false
  | _ :: _, [] => false
  | c :: st, x :: l => decide (truN x.1 = c.1 ∧ c.2.1 ≤ 12 ∧ (c.2.2 = 0 → x.1 ≠ 5 ∧ x.1 ≠ 6) ∧ (c.2.2 = 1 → x.1 ≠ 19)) && okB (kid x.1 c ++ st) l
/-- a place in code is reached with a height -/
def rch (sz q h : Nat) (g : Nat → Option Nat) : Option (Nat → Option Nat) := if sz < q then none else if q = sz ∧ h ≠ 1 then none else match g q with
  | none => some (fun j => if j = q then some h else g j)
  | some y => if y = h then some g else none
/-- whether code is sound from k on -/
def cdB (P : xI) : Nat → Nat → (Nat → Option Nat) → Bool
  | 0, _, _ => true
  | m + 1, k, g => match g k with
    | none => false
    | some h => if h < tkN (sN (srt P k)) then false else if 8 < h - tkN (sN (srt P k)) + ptN (sN (srt P k)) then false else
      match (if sN (srt P k) = 17 then some g else rch P.length (k + 1) (h - tkN (sN (srt P k)) + ptN (sN (srt P k))) g) with
      | none => false
      | some g1 => match (if sN (srt P k) < 17 then some g1 else rch P.length (k + 1 + sN (vlu P k)) (h - tkN (sN (srt P k)) + ptN (sN (srt P k))) g1) with
        | none => false
        | some g2 => cdB P m (k + 1) g2
def sndB (kd : Nat) (Q : xI) : Bool := if kd = 0 then decide (Q.length ≤ 60) && okB [(0, 1, 0)] (tL Q) else if kd = 1 then decide (1 ≤ Q.length ∧ Q.length ≤ 60) && cdB Q Q.length 0 (fun j => if j = 0 then some 0 else none) else if kd = 2 then decide (1 ≤ Q.length ∧ Q.length ≤ 6) else decide (Q.length ≤ 40)
def gS2 (kd : Nat) (Q : xI) : Option xI := if sndB kd Q = true then some Q else none
def ndg (b : Nat) (v : Int32) : Int32 := if b = 0 then v + 1 else if b = 1 then v - 1 else if b = 2 then v + 10 else if b = 3 then v - 10 else -v
def ndO2 (b : Nat) (v : Int32) : Bool := decide (ndg b v ≠ v ∧ ¬ ndg b v < -99 ∧ ¬ 99 < ndg b v)
/-- constants -/
def cd00 (P : xI) (c : Nat) : Option xI := if srt P (c / 5) = 0 then (if ndO2 (c % 5) (vlu P (c / 5)) = true then some (P.set (c / 5) (0, ndg (c % 5) (vlu P (c / 5)))) else none) else none
def likB (a b : Nat) : Bool := decide (arN a = arN b ∧ truN a = truN b ∧ twN a 0 = twN b 0)
def nwS (s : Nat) : Int32 × Int32 := (nI s, if s = 0 then 1 else 0)
/-- other sorts -/
def cd01 (P : xI) (c : Nat) : Option xI := if c % 21 ≠ sN (srt P (c / 21)) ∧ likB (c % 21) (sN (srt P (c / 21))) = true then gS2 0 (P.set (c / 21) (nwS (c % 21))) else none
def lfO (w : Nat) : Int32 × Int32 := if w = 0 then (0, 0) else if w = 1 then (1, 0) else (0, 1)
/-- leaves -/
def cd02 (P : xI) (c : Nat) : Option xI := if truN (sN (srt P (c / 3))) = 1 ∨ (srt P (c / 3), vlu P (c / 3)) = lfO (c % 3) then none else gS2 0 (P.take (c / 3) ++ (lfO (c % 3) :: P.drop (eT2 P (c / 3))))
def ptA (P : xI) (k p : Nat) : Nat := k + 1 + tk p ((tL P).drop (k + 1))
/-- parts -/
def cd03 (P : xI) (c : Nat) : Option xI := if c % 3 < arN (sN (srt P (c / 3))) ∧ twN (sN (srt P (c / 3))) (c % 3) = truN (sN (srt P (c / 3))) then gS2 0 (P.take (c / 3) ++ ((P.drop (ptA P (c / 3) (c % 3))).take (eT2 P (ptA P (c / 3) (c % 3)) - ptA P (c / 3) (c % 3)) ++ P.drop (eT2 P (c / 3)))) else none
def fam (s : Nat) : Nat := if s < 5 then 0 else if s < 7 then 1 else if s < 14 then 2 else 3
/-- other signs -/
def cd11 (P : xI) (c : Nat) : Option xI := if c % 14 ≠ sN (srt P (c / 14)) ∧ fam (c % 14) = fam (sN (srt P (c / 14))) then some (P.set (c / 14) (nwS (c % 14))) else none
def jmp (P : xI) (k : Nat) : Nat := k + 1 + sN (vlu P k)
/-- code without n instructions at p -/
def wOut (P : xI) (p n : Nat) : xI := (List.range p).map (fun k => (srt P k, if 16 < sN (srt P k) ∧ p < jmp P k then vlu P k - nI n else vlu P k)) ++ P.drop (p + n)
def wBad (P : xI) (p n : Nat) : Nat → Bool
  | 0 => false
  | k + 1 => wBad P p n k || decide (16 < sN (srt P k) ∧ p < jmp P k ∧ jmp P k < p + n)
def cd12 (P : xI) (c : Nat) : Option xI := if c / 3 + (c % 3 + 1) ≤ P.length ∧ wBad P (c / 3) (c % 3 + 1) (c / 3) = false then gS2 1 (wOut P (c / 3) (c % 3 + 1)) else none
def insL (w : Nat) : xI := if w = 0 then [(5, 0)] else [(if w < 3 then (0, 1) else if w = 3 then (1, 0) else (14, 0)), (if w = 2 then 8 else if w = 4 then 9 else 7, 0)]
/-- code with instructions at p -/
def wIn (P : xI) (p w : Nat) : xI := (List.range p).map (fun k => (srt P k, if 16 < sN (srt P k) ∧ p < jmp P k then vlu P k + nI (insL w).length else vlu P k)) ++ (insL w ++ P.drop p)
def cd13 (P : xI) (c : Nat) : Option xI := gS2 1 (wIn P (c / 5) (c % 5))
/-- outputs -/
def cd20 (P : xI) (c : Nat) : Option xI := if ndO2 (c % 5) (srt P (c / 5)) = true then some (P.set (c / 5) (ndg (c % 5) (srt P (c / 5)), vlu P (c / 5))) else none
def edg0 (P : xI) (e : Nat) : Int32 := pv_367 (vlu P (e / 4)) (nI (e % 4))
def wEd (P : xI) (e : Nat) (x : Int32) : xI := P.set (e / 4) (srt P (e / 4), pv_353 (vlu P (e / 4)) (nI (e % 4)) x)
/-- edges -/
def cd21 (P : xI) (c : Nat) : Option xI := if edg0 P (c / P.length) = nI (c % P.length) then none else some (wEd P (c / P.length) (nI (c % P.length)))
/-- a state more -/
def cd22 (P : xI) (c : Nat) : Option xI := some (wEd P c (nI P.length) ++ [(srt P (sN (edg0 P c)), vlu P (sN (edg0 P c)))])
def lsE (g x : Int32) : Int32 := if x = g then 0 else if g < x then x - 1 else x
def lsV (g v : Int32) : Int32 := pv_353 (pv_353 (pv_353 (pv_353 0 0 (lsE g (pv_367 v 0))) 1 (lsE g (pv_367 v 1))) 2 (lsE g (pv_367 v 2))) 3 (lsE g (pv_367 v 3))
/-- a state less -/
def cd23 (P : xI) (c : Nat) : Option xI := some ((P.take (c + 1) ++ P.drop (c + 2)).map (fun x => (x.1, lsV (nI (c + 1)) x.2)))
/-- the comparator with a number -/
def cmpN (ln : Nat) : Nat → Nat → Nat → Nat × Nat
  | 0, i, y => (i, i + 1 + y)
  | m + 1, i, y => if i + 1 < ln ∧ ln - 1 - i ≤ y then cmpN ln m (i + 1) (y - (ln - 1 - i)) else (i, i + 1 + y)
def cmpI (ln y : Nat) : Int32 × Int32 := (nI (cmpN ln 8 0 y).1, nI (cmpN ln 8 0 y).2)
def acr (ln : Nat) : Nat := ln * (ln - 1) / 2
def cd30 (ln : Nat) (P : xI) (c : Nat) : Option xI := if (srt P (c / acr ln), vlu P (c / acr ln)) = cmpI ln (c % acr ln) then none else some (P.set (c / acr ln) (cmpI ln (c % acr ln)))
def cd31 (P : xI) (c : Nat) : Option xI := some (P.take c ++ P.drop (c + 1))
def cd32 (ln : Nat) (P : xI) (c : Nat) : Option xI := some (P.take (c / acr ln) ++ (cmpI ln (c % acr ln) :: P.drop (c / acr ln)))
def cd33 (P : xI) (c : Nat) : Option xI := if (srt P c, vlu P c) = (srt P (c + 1), vlu P (c + 1)) then none else some (P.take c ++ ((srt P (c + 1), vlu P (c + 1)) :: (srt P c, vlu P c) :: P.drop (c + 2)))
def cdE (kd ln : Nat) (P : xI) (w c : Nat) : Option xI := if kd = 0 then (if w = 0 then cd00 P c else if w = 1 then cd01 P c else if w = 2 then cd02 P c else cd03 P c) else if kd = 1 then (if w = 0 then cd00 P c else if w = 1 then cd11 P c else if w = 2 then cd12 P c else cd13 P c) else if kd = 2 then (if w = 0 then cd20 P c else if w = 1 then cd21 P c else if w = 2 then cd22 P c else cd23 P c) else (if w = 0 then cd30 ln P c else if w = 1 then cd31 P c else if w = 2 then cd32 ln P c else cd33 P c)
def ncE (kd ln sz w : Nat) : Nat := if kd = 0 then (if w = 0 then 5 * sz else if w = 1 then 21 * sz else 3 * sz) else if kd = 1 then (if w = 0 then 5 * sz else if w = 1 then 14 * sz else if w = 2 then 3 * sz else 5 * (sz + 1)) else if kd = 2 then (if w = 0 then 5 * sz else if w = 1 then 4 * sz * sz else if w = 2 then (if sz < 6 then 4 * sz else 0) else sz - 1) else (if w = 0 then sz * acr ln else if w = 1 then sz else if w = 2 then (if sz < 40 then (sz + 1) * acr ln else 0) else sz - 1)
/-- pairs -/
def cdP0 (P Q : xI) (c : Nat) : Option xI := if truN (sN (srt P (c / Q.length))) = truN (sN (srt Q (c % Q.length))) then gS2 0 (P.take (c / Q.length) ++ ((Q.drop (c % Q.length)).take (eT2 Q (c % Q.length) - c % Q.length) ++ P.drop (eT2 P (c / Q.length)))) else none
def cdP1 (kd : Nat) (P Q : xI) (c : Nat) : Option xI := gS2 kd (P.take (c / (Q.length + 1)) ++ Q.drop (c % (Q.length + 1)))
def cdP2 (P Q : xI) (c : Nat) : Option xI := some ((List.range P.length).map (fun k => if (c + 1) / 2 ^ k % 2 = 1 then (srt Q k, vlu Q k) else (srt P k, vlu P k)))
def cdP (kd : Nat) (P Q : xI) (c : Nat) : Option xI := if kd = 0 then cdP0 P Q c else if kd = 2 then cdP2 P Q c else cdP1 kd P Q c
def ncP (kd ln ln2 sz sz2 : Nat) : Nat := if kd = 0 then sz * sz2 else if kd = 2 then (if sz = sz2 then 2 ^ sz - 2 else 0) else if kd = 3 ∧ ln ≠ ln2 then 0 else (sz + 1) * (sz2 + 1)
def cnt (cd : Nat → Option xI) : Nat → Nat → Nat
  | 0, _ => 0
  | m + 1, c => (if (cd c).isSome = true then 1 else 0) + cnt cd m (c + 1)
def prgI (I : Nat → Nat → Int32) (q sz : Nat) : xI := (List.range sz).map (fun k => (I 184 (60 * q + k), I 185 (60 * q + k)))
/-- the number of a change or a cross is one that there is -/
def numK (I : Nat → Nat → Int32) (b : Nat) (x1 x2 x3 x4 x5 : Int32) : Prop := (x1 = nI 3 → ∀ w j, w < 4 → j < 1000000 → x4 = nI w → x5 = nI j → ∃ q kd ln sz, q < b ∧ x2 = nI q ∧ kd ≤ 3 ∧ sz ≤ 60 ∧ ln ≤ 8 ∧ I 175 q = nI kd ∧ I 176 q = nI sz ∧ I 177 q = nI ln ∧ j < cnt (cdE kd ln (prgI I q sz) w) (ncE kd ln sz w) 0) ∧ (x1 = nI 4 → ∀ j, j < 1000000 → x5 = nI j → ∃ q r kd ln ln2 sz sz2, q < b ∧ r < b ∧ x2 = nI q ∧ x3 = nI r ∧ kd ≤ 3 ∧ sz ≤ 60 ∧ sz2 ≤ 60 ∧ ln ≤ 8 ∧ ln2 ≤ 8 ∧ I 175 q = nI kd ∧ I 175 r = nI kd ∧ I 176 q = nI sz ∧ I 177 q = nI ln ∧ I 176 r = nI sz2 ∧ I 177 r = nI ln2 ∧ j < cnt (cdP kd (prgI I q sz) (prgI I r sz2)) (ncP kd ln ln2 sz sz2) 0)
/-- a regrown tree comes from a tree, a cross from two of a kind -/
def gen1 (I : Nat → Nat → Int32) (b : Nat) (x1 x2 x3 x4 x5 : Int32) : Prop := (x1 = nI 3 → x4 = nI 4 → ∃ q, q < b ∧ x2 = nI q ∧ I 175 q = nI 0) ∧ (x1 = nI 4 → ∃ q r, q < b ∧ r < b ∧ x2 = nI q ∧ x3 = nI r ∧ I 175 q = I 175 r) ∧ numK I b x1 x2 x3 x4 x5
/-- behind a case's row are zeros -/
def zr (I : Nat → Nat → Int32) (k : Nat) : Prop := ∃ s, s ≤ 8 ∧ I 203 k = nI s ∧ ∀ i, s ≤ i → i < 8 → I 204 (8 * k + i) = 0
def rUn (I : Nat → Nat → Int32) (n : Nat) : Prop := (∀ j, j < 15 → I 166 j = I 254 j) ∧ (∀ j, 10 ≤ j → j < 15 → I 165 j = 0) ∧ (∀ k, k < 24 → zr I k) ∧ ∀ b, b < n → gen1 I b (I 178 b) (I 179 b) (I 180 b) (I 181 b) (I 182 b)
/-- the rows of the last simplifying -/
def rRu (V : Nat → Nat → Value) (I : Nat → Nat → Int32) : Prop := ∃ m, m ≤ 60 ∧ V 118 2 = .int (nI m) ∧ V 174 115 = .int (nI m) ∧ ∀ k, k < m → I 119 k = I 248 k ∧ I 120 k = I 249 k ∧ (∃ a, a < 60 ∧ I 119 k = nI a) ∧ ∃ a, a ≤ 8 ∧ I 120 k = nI a
def rRk (V : Nat → Nat → Value) (L : Nat → Nat → Int64) : Prop := L 77 = tW ∧ L 78 = tT ∧ rInv V L
/-- the turner's pile: its programs in some order -/
def rPl (R : Nat → Nat → Option Nat) : Prop := ∃ q : Nat → Nat, (∀ k, k < 8 → q k < 8 ∧ R 140 k = some (148 + 2 * q k)) ∧ ∀ i j, i < 8 → j < 8 → q i = q j → i = j
/-- search's tables: p of them are made -/
def rSr (R : Nat → Nat → Option Nat) (tl : am_H) (p : Nat) : Prop := p ≤ 24 ∧ (∀ k, k < p → ∃ (a : Nat) (f : Nat → Int64), R 87 k = some (269 + a) ∧ tl[a]? = some (.inl (1, 7070, .inr (.inl f)))) ∧ ((∀ k, p ≤ k → R 87 k = none) ∧ ∀ k k', k < p → k' < p → R 87 k = R 87 k' → k = k') ∧ rPl R
/-- the scalars have their types -/
def wt (V : Nat → Nat → Value) : Prop := (∀ a j, j ∈ fI a → ∃ x, V a j = .int x) ∧ (∀ a j, j ∈ fL a → ∃ x, V a j = .long x)
def rel (V : Nat → Nat → Value) (I : Nat → Nat → Int32) (L : Nat → Nat → Int64) (R : Nat → Nat → Option Nat) (tl : am_H) (n p : Nat) : Prop := rBn V n ∧ rBp I L R tl n ∧ rTx V I ∧ rCs V I ∧ rDr V I ∧ rSe V I ∧ rIs V I L n ∧ rTo V ∧ rUn I n ∧ rRu V I ∧ rRk V L ∧ rSr R tl p ∧ wt V
/-- the room, after j turns with n births -/
def room (tl : am_H) (n p j : Nat) : Prop := tl.length ≤ 2 * n + p + j ∧ am_sz tl ≤ 200 * n + 7200 * p + 50 * j
def invW (j : Nat) (h : am_H) : Prop := ∃ V I L R tl n p, h = fx V I L R ++ tl ∧ rel V I L R tl n p ∧ room tl n p j
theorem wt_i {V : Nat → Nat → Value} {a j : Nat} {x : Int32} (h : wt V) (hl : ¬ j ∈ fL a) : wt (vup V a j (.int x)) := by
  refine ⟨fun b k hk => ?_, fun b k hk => ?_⟩
  · rw [vup_at]
    by_cases c : b = a
    · rw [if_pos c]
      by_cases d : k = j
      · rw [if_pos d]; exact ⟨x, rfl⟩
      · rw [if_neg d]; exact h.1 b k hk
    · rw [if_neg c]; exact h.1 b k hk
  · rw [vup_at]
    by_cases c : b = a
    · rw [if_pos c]
      by_cases d : k = j
      · subst c; subst d; exact absurd hk hl
      · rw [if_neg d]; exact h.2 b k hk
    · rw [if_neg c]; exact h.2 b k hk
theorem wt_l {V : Nat → Nat → Value} {a j : Nat} {x : Int64} (h : wt V) (hl : ¬ j ∈ fI a) : wt (vup V a j (.long x)) := by
  refine ⟨fun b k hk => ?_, fun b k hk => ?_⟩
  · rw [vup_at]
    by_cases c : b = a
    · rw [if_pos c]
      by_cases d : k = j
      · subst c; subst d; exact absurd hk hl
      · rw [if_neg d]; exact h.1 b k hk
    · rw [if_neg c]; exact h.1 b k hk
  · rw [vup_at]
    by_cases c : b = a
    · rw [if_pos c]
      by_cases d : k = j
      · rw [if_pos d]; exact ⟨x, rfl⟩
      · rw [if_neg d]; exact h.2 b k hk
    · rw [if_neg c]; exact h.2 b k hk
theorem rel_thr {V : Nat → Nat → Value} {I : Nat → Nat → Int32} {L : Nat → Nat → Int64} {R : Nat → Nat → Option Nat} {tl : am_H} {n p : Nat} (x : Int32) (h : rel V I L R tl n p) : rel (vup V 174 0 (.int x)) I L R tl n p := by
  obtain ⟨a1, a2, a3, a4, a5, a6, a7, a8, a9, a10, a11, a12, w⟩ := h
  exact ⟨a1, a2, a3, a4, a5, a6, a7, a8, a9, a10, a11, a12, wt_i w (by decide)⟩
theorem rel_out {V : Nat → Nat → Value} {I : Nat → Nat → Int32} {L : Nat → Nat → Int64} {R : Nat → Nat → Option Nat} {tl : am_H} {n p : Nat} (f : Nat → Int64) (h : rel V I L R tl n p) : rel V I (lup L 268 f) R tl n p := by
  obtain ⟨a1, a2, a3, a4, a5, a6, a7, a8, a9, a10, a11, a12, w⟩ := h
  exact ⟨a1, a2, a3, a4, a5, a6, a7, a8, a9, a10, a11, a12, w⟩
theorem get_app {tl t2 : am_H} {a : Nat} {e : am_E} (h : tl[a]? = some e) : (tl ++ t2)[a]? = some e := by
  rw [List.getElem?_append_left (List.getElem?_eq_some_iff.mp h).1]
  exact h
theorem rel_dum {V : Nat → Nat → Value} {I : Nat → Nat → Int32} {L : Nat → Nat → Int64} {R : Nat → Nat → Option Nat} {tl t2 : am_H} {n p : Nat} (h : rel V I L R tl n p) : rel V I L R (tl ++ t2) n p := by
  obtain ⟨a1, a2, a3, a4, a5, a6, a7, a8, a9, a10, a11, a12, w⟩ := h
  refine ⟨a1, fun b hb => ?_, a3, a4, a5, a6, a7, a8, a9, a10, a11, ⟨a12.1, fun k hk => ?_, a12.2.2⟩, w⟩
  · obtain ⟨kd, ln, sz, a, it, f, q1, q2, q3, q4, q5, q6, q7⟩ := a2 b hb
    exact ⟨kd, ln, sz, a, it, f, q1, q2, q3, q4, get_app q5, get_app q6, q7⟩
  · obtain ⟨a, f, q1, q2⟩ := a12.2.1 k hk
    exact ⟨a, f, q1, get_app q2⟩
theorem room_dum {tl : am_H} {n p j : Nat} (h : room tl n p j) : room (tl ++ [am_dummy]) n p (j + 1) := by
  refine ⟨?_, ?_⟩
  · rw [List.length_append]
    have := h.1
    show tl.length + 1 ≤ _
    omega
  · have e : am_sz (tl ++ [am_dummy]) = am_sz tl + am_sz [am_dummy] := by unfold am_sz; rw [List.map_append, List.sum_append]
    have k : am_sz [am_dummy] ≤ 50 := by decide
    have := h.2
    omega
theorem room_up {tl : am_H} {n p j : Nat} (h : room tl n p j) : room tl n p (j + 1) := by
  have := h.1
  have := h.2
  exact ⟨by omega, by omega⟩
theorem tl_at {V : Nat → Nat → Value} {I : Nat → Nat → Int32} {L : Nat → Nat → Int64} {R : Nat → Nat → Option Nat} {tl : am_H} {a : Nat} : (fx V I L R ++ tl)[269 + a]? = tl[a]? := by
  rw [List.getElem?_append_right (by rw [fx_len]; omega), fx_len, Nat.add_sub_cancel_left]
theorem rdI {V : Nat → Nat → Value} {a j : Nat} {x : Int32} (h : V a j = .int x) : am_vI (some (V a j)) = some x := by rw [h]; rfl
theorem rdL {V : Nat → Nat → Value} {a j : Nat} {x : Int64} (h : V a j = .long x) : am_vL (some (V a j)) = some x := by rw [h]; rfl
