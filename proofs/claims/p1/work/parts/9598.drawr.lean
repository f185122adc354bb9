/-! ===== the reference draws code ===== -/
theorem u56 : ∀ n, n < 13 → ∀ c, c < 2 → uW c 5 n = 0 ∧ uW c 6 n = 0 := sorry
theorem pc2 {c S q : Nat} (hc : c < 2) (hS : S ≠ 19) : pcN c S q < 2 := sorry
theorem prt_c {c n S P : Nat} (hc : c < 2) (hS : S ≠ 19) : ∀ y, y ∈ prt c n S P → y.1 < 2 := sorry
/-- a tree of world 0 without a node 19 has neither a 5 nor a 6 -/
theorem un_no : ∀ n, n ≤ 12 → 1 ≤ n → ∀ c p, c < 2 → p < uT c n → (∀ x, x ∈ un c n p → x.1 ≠ 19) → ∀ x, x ∈ un c n p → x.1 ≠ 5 ∧ x.1 ≠ 6 := sorry
theorem mem_drop {l r : List (Nat × Nat)} {x : Nat × Nat} {k : Nat} (h : l.drop k = x :: r) : x ∈ l := List.mem_of_mem_drop (show x ∈ l.drop k by rw [h]; exact List.mem_cons_self ..)
theorem drop_mem : ∀ {l : List (Nat × Nat)} {x : Nat × Nat}, x ∈ l → ∃ k r, l.drop k = x :: r := sorry
set_option maxRecDepth 100000 in
set_option maxHeartbeats 4000000 in
theorem r_451 {V : Nat → Nat → Value} {I : Nat → Nat → Int32} {L : Nat → Nat → Int64} {R : Nat → Nat → Option Nat} {tl : am_H} {nt : Int32} (h20 : V 174 20 = .int 0) (h19 : V 174 19 = .int nt) : fm_451 (.ref 174) (fx V I L R ++ tl) = some (.inl (none, fx (vup (vup (vup V 174 13 (.int 0)) 174 15 (.int nt)) 174 14 (.int 0)) I L R ++ tl)) := sorry
/-- what toCode() ends in -/
def tcOk (V : Nat → Nat → Value) (I : Nat → Nat → Int32) (L : Nat → Nat → Int64) (R : Nat → Nat → Option Nat) (tl : am_H) (o : Option am_O) : Prop := ∃ (v : Int32) (V' : Nat → Nat → Value) (I' : Nat → Nat → Int32) (s : Nat) (kd' nt' : Int32), o = some (.inl (some (.int v), fx V' I' L R ++ tl)) ∧ V' 174 13 = .int kd' ∧ V' 174 14 = .int (nI s) ∧ s ≤ 60 ∧ V' 174 15 = .int nt' ∧ (∀ j, j ≠ 13 → j ≠ 14 → j ≠ 15 → j ≠ 18 → j ≠ 19 → j ≠ 20 → V' 174 j = V 174 j) ∧ sml (I' 187) ∧ I' 234 = I 234
set_option maxRecDepth 100000 in
set_option maxHeartbeats 4000000 in
theorem r_494e {V : Nat → Nat → Value} {I : Nat → Nat → Int32} {L : Nat → Nat → Int64} {R : Nat → Nat → Option Nat} {tl : am_H} {N : Nat} {l : List (Nat × Nat)} {nt : Int32} (hN : 100 < N) (hl : l.length ≤ 20) (hF : isF 1 l) (h0 : 0 < l.length) (h18 : V 174 18 = .int (nI l.length)) (h19 : V 174 19 = .int nt) (h20 : V 174 20 = .int 0) (hS : rowS (I 188) l) (hT : rowT (I 192) l 0) (hC : rowC (I 253) l 0) (hV : ∀ j, j < l.length → ∃ n, n < 1000 ∧ I 189 j = nI n) (hb : sml (I 187)) (hx : ∀ k x r, l.drop k = x :: r → x.1 ≠ 5 ∧ x.1 ≠ 6 ∧ x.1 ≠ 19) (K : Nat) : tcOk V I L R tl (fg_494_34 N (K + 1) (.ref 174) (nI l.length) (fx V I L R ++ tl)) := sorry
set_option maxRecDepth 100000 in
set_option maxHeartbeats 4000000 in
theorem r_494q {V : Nat → Nat → Value} {I : Nat → Nat → Int32} {L : Nat → Nat → Int64} {R : Nat → Nat → Option Nat} {tl : am_H} {N s : Nat} {l : List (Nat × Nat)} {nt kd : Int32} (hN : 100 < N) (hl : l.length ≤ 20) (hF : isF 1 l) (h0 : 0 < l.length) (h13 : V 174 13 = .int kd) (h14 : V 174 14 = .int (nI s)) (hs : s ≤ 60) (h15 : V 174 15 = .int nt) (h18 : V 174 18 = .int (nI l.length)) (h19 : V 174 19 = .int nt) (h20 : V 174 20 = .int 0) (hS : rowS (I 188) l) (hT : rowT (I 192) l 0) (hC : rowC (I 253) l 0) (hV : ∀ j, j < l.length → ∃ n, n < 1000 ∧ I 189 j = nI n) (hb : sml (I 187)) (h56 : (∀ x, x ∈ l → x.1 ≠ 19) → ∀ x, x ∈ l → x.1 ≠ 5 ∧ x.1 ≠ 6) : ∀ (m k K : Nat), k + m = l.length → m < K → (∀ j x r, j < k → l.drop j = x :: r → x.1 ≠ 19) → tcOk V I L R tl (fg_494_34 N K (.ref 174) (nI k) (fx V I L R ++ tl)) := sorry
set_option maxRecDepth 100000 in
set_option maxHeartbeats 4000000 in
theorem r_494c {V : Nat → Nat → Value} {I : Nat → Nat → Int32} {L : Nat → Nat → Int64} {R : Nat → Nat → Option Nat} {tl : am_H} {N s : Nat} {l : List (Nat × Nat)} {nt kd : Int32} (hN : 100 < N) (hl : l.length ≤ 20) (hF : isF 1 l) (h0 : 0 < l.length) (h13 : V 174 13 = .int kd) (h14 : V 174 14 = .int (nI s)) (hs : s ≤ 60) (h15 : V 174 15 = .int nt) (h18 : V 174 18 = .int (nI l.length)) (h19 : V 174 19 = .int nt) (h20 : V 174 20 = .int 0) (hS : rowS (I 188) l) (hT : rowT (I 192) l 0) (hV : ∀ j, j < l.length → ∃ n, n < 1000 ∧ I 189 j = nI n) (hb : sml (I 187)) (h56 : (∀ x, x ∈ l → x.1 ≠ 19) → ∀ x, x ∈ l → x.1 ≠ 5 ∧ x.1 ≠ 6) : ∀ (k K : Nat) (g : Nat → Int32), k ≤ l.length → k < K → rowC g l k → tcOk V I L R tl (fg_494_11 N K (.ref 174) (nI k + (-1)) (fx V (iup I 253 g) L R ++ tl)) := sorry
set_option maxRecDepth 100000 in
set_option maxHeartbeats 4000000 in
theorem r_494 {V : Nat → Nat → Value} {I : Nat → Nat → Int32} {L : Nat → Nat → Int64} {R : Nat → Nat → Option Nat} {tl : am_H} {N : Nat} {l : List (Nat × Nat)} {nt : Int32} (hN : 100 < N) (hl : l.length ≤ 20) (h0 : 0 < l.length) (hF : isF 1 l) (hS : rowS (I 186) l) (h13 : V 174 13 = .int 0) (h14 : V 174 14 = .int (nI l.length)) (h15 : V 174 15 = .int nt) (hb : sml (I 187)) (h56 : (∀ x, x ∈ l → x.1 ≠ 19) → ∀ x, x ∈ l → x.1 ≠ 5 ∧ x.1 ≠ 6) : tcOk V I L R tl (fm_494 N (.ref 174) (fx V I L R ++ tl)) := sorry
theorem rInv_v {V V' : Nat → Nat → Value} {L : Nat → Nat → Int64} (h : V' 174 80 = V 174 80) (hi : rInv V L) : rInv V' L := sorry
set_option maxRecDepth 100000 in
set_option maxHeartbeats 4000000 in
theorem rOk_1 {N z : Nat} (hN : 100 < N) (hz : 1 ≤ z) (hz9 : z ≤ 9) : rOk N 1 z (fun I => sml (I 187)) := sorry
theorem rOk1_1 {N z : Nat} (hN : 100 < N) (hz : 1 ≤ z) (hz9 : z ≤ 9) : rOk1 N 1 z := ⟨fun I => sml (I 187), rOk_1 hN hz hz9, fun I I' h hq => by
    show sml (I' 187)
    rw [h 187 (by omega) (by omega)]
    exact hq, fun I h => by
    show sml (I 187)
    rw [h 187 (by omega) (by omega) (by omega)]
    exact fun j => ⟨0, by omega, rfl⟩⟩
