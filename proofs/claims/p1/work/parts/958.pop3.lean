set_option maxRecDepth 100000 in
set_option maxHeartbeats 4000000 in
theorem r_488g {V : Nat → Nat → Value} {I : Nat → Nat → Int32} {L : Nat → Nat → Int64} {R : Nat → Nat → Option Nat} {tl : am_H} {N i kd z n : Nat} {x : Int64} {Q : (Nat → Nat → Int32) → Prop} (hN : 100 < N) (hi : i < 4) (hg : pGood (nI kd) (nI n) (nI z)) (hn1 : 1 ≤ n) (hn : n ≤ 16) (hD : rOk N kd z Q) (hQ : ∀ I I' : Nat → Nat → Int32, (∀ y, 186 ≤ y → y ≠ 234 → I' y = I y) → Q I → Q I') (hq : Q (iup I 233 (upd (I 233) i (nI n)))) (h1 : V 174 1 = .int (nI 0)) (hinv : rInv V L) (h88 : ∃ k0, V 174 88 = .int (nI k0)) :
    ∃ V' I' L', fm_488 N (.ref 174) (nI i) (nI kd) (nI n) (nI z) x (fx V I L R ++ tl) = some (.inl (some (.int (nI 0)), fx V' I' L' R ++ tl)) ∧ V' 174 0 = .int 0 ∧ L' 268 = L 268 := sorry
/-- what is kept of the reference's rows while it draws a kind: any Q that holds of zero rows -/
def rOk1 (N kd z : Nat) : Prop := ∃ Q : (Nat → Nat → Int32) → Prop, rOk N kd z Q ∧ (∀ I I' : Nat → Nat → Int32, (∀ y, 186 ≤ y → y ≠ 234 → I' y = I y) → Q I → Q I') ∧ (∀ I : Nat → Nat → Int32, (∀ y, 186 ≤ y → y ≠ 233 → y ≠ 234 → I y = I0 y) → Q I)
theorem rOk1_T {N kd z : Nat} (h : rOk N kd z (fun _ => True)) : rOk1 N kd z := ⟨fun _ => True, h, fun _ _ _ _ => trivial, fun _ _ => trivial⟩
theorem t489i (a : Int32) : (a < 0 ∨ 4 ≤ a) ∨ ∃ i, i < 4 ∧ a = nI i := sorry
/-- the numbers of a good call -/
theorem pGood_n {a2 a3 a4 : Int32} (h : pGood a2 a3 a4) : ∃ kd n z, a2 = nI kd ∧ a3 = nI n ∧ a4 = nI z ∧ kd ≤ 3 ∧ 1 ≤ n ∧ n ≤ 16 ∧ ((kd = 0 ∨ kd = 1) → 1 ≤ z ∧ z ≤ 9) ∧ (kd = 2 → 1 ≤ z ∧ z ≤ 6) ∧ (kd = 3 → 2 ≤ z ∧ z ≤ 8) := sorry
set_option maxRecDepth 100000 in
set_option maxHeartbeats 4000000 in
/-- populate on the fresh objects, given that both sides draw code -/
theorem p_32 (HC : ∀ z, 1 ≤ z → z ≤ 9 → dOk 1000 (L0 (tW, tT)) 1 z) (HR : ∀ z, 1 ≤ z → z ≤ 9 → rOk1 1000 1 z) (a1 a2 a3 a4 : Int32) (x : Int64) : ∃ h', opBI (fm_199 1000 (.ref 0) a1 a2 a3 a4 x (.ref 268) (hp0 (tW, tT))) (fun h1 => fm_488 1000 (.ref 174) a1 a2 a3 a4 x h1) vfI h' ∧ fits h' := sorry