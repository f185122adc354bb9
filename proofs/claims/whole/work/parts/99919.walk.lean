/-! ===== walking a function by its head ===== -/
theorem i_0 : (0 : Int32) = nI 0 := rfl
theorem i_1 : (1 : Int32) = nI 1 := rfl
theorem i_2 : (2 : Int32) = nI 2 := rfl
theorem i_3 : (3 : Int32) = nI 3 := rfl
theorem i_4 : (4 : Int32) = nI 4 := rfl
theorem i_5 : (5 : Int32) = nI 5 := rfl
theorem i_6 : (6 : Int32) = nI 6 := rfl
theorem i_7 : (7 : Int32) = nI 7 := rfl
theorem i_8 : (8 : Int32) = nI 8 := rfl
theorem i_9 : (9 : Int32) = nI 9 := rfl
theorem i_10 : (10 : Int32) = nI 10 := rfl
theorem i_11 : (11 : Int32) = nI 11 := rfl
theorem i_12 : (12 : Int32) = nI 12 := rfl
theorem i_13 : (13 : Int32) = nI 13 := rfl
theorem i_14 : (14 : Int32) = nI 14 := rfl
theorem i_15 : (15 : Int32) = nI 15 := rfl
theorem i_16 : (16 : Int32) = nI 16 := rfl
theorem i_17 : (17 : Int32) = nI 17 := rfl
theorem i_18 : (18 : Int32) = nI 18 := rfl
theorem i_19 : (19 : Int32) = nI 19 := rfl
theorem i_20 : (20 : Int32) = nI 20 := rfl
theorem i_21 : (21 : Int32) = nI 21 := rfl
theorem i_25 : (25 : Int32) = nI 25 := rfl
theorem i_40 : (40 : Int32) = nI 40 := rfl
theorem i_60 : (60 : Int32) = nI 60 := rfl
theorem i_61 : (61 : Int32) = nI 61 := rfl
theorem i_99 : (99 : Int32) = nI 99 := rfl
theorem i_100 : (100 : Int32) = nI 100 := rfl
theorem i_120 : (120 : Int32) = nI 120 := rfl
theorem i_124 : (124 : Int32) = nI 124 := rfl
theorem i_128 : (128 : Int32) = nI 128 := rfl
theorem i_240 : (240 : Int32) = nI 240 := rfl
theorem i_400 : (400 : Int32) = nI 400 := rfl
theorem nI_p2 (a : Nat) : nI a + 2 = nI (a + 2) := nI_add a 2
theorem nI_p3 (a : Nat) : nI a + 3 = nI (a + 3) := nI_add a 3
theorem nI_p4 (a : Nat) : nI a + 4 = nI (a + 4) := nI_add a 4
theorem nI_p5 (a : Nat) : nI a + 5 = nI (a + 5) := nI_add a 5
theorem nI_p6 (a : Nat) : nI a + 6 = nI (a + 6) := nI_add a 6
theorem nI_p7 (a : Nat) : nI a + 7 = nI (a + 7) := nI_add a 7
theorem nI_p10 (a : Nat) : nI a + 10 = nI (a + 10) := nI_add a 10
theorem nI_mm (a b : Nat) : nI a * nI b = nI (a * b) := (nI_mul a b).symm
theorem nI_t2 (a : Nat) : nI a * 2 = nI (a * 2) := nI_mm a 2
theorem nI_t5 (a : Nat) : nI a * 5 = nI (a * 5) := nI_mm a 5
theorem nI_2t (a : Nat) : 2 * nI a = nI (2 * a) := nI_mm 2 a
theorem nI_4t (a : Nat) : 4 * nI a = nI (4 * a) := nI_mm 4 a
theorem nI_5t (a : Nat) : 5 * nI a = nI (5 * a) := nI_mm 5 a
theorem nI_6t (a : Nat) : 6 * nI a = nI (6 * a) := nI_mm 6 a
theorem nI_21t (a : Nat) : 21 * nI a = nI (21 * a) := nI_mm 21 a
theorem bI_t : bI true = nI 1 := rfl
theorem bI_f : bI false = nI 0 := rfl
theorem rdR {o : Option Value} {a : Nat} (h : o = some (.ref a)) : am_vR o = some (.ref a) := by rw [h]; rfl
theorem rVR {V : Nat → Nat → Value} {a j x : Nat} {o : Option Value} (q : o = some (V a j)) (h : V a j = .ref x) : am_vR o = some (.ref x) := by rw [q, h]; rfl
theorem rVI {V : Nat → Nat → Value} {a j : Nat} {x : Int32} {o : Option Value} (q : o = some (V a j)) (h : V a j = .int x) : am_vI o = some x := by rw [q, h]; rfl
theorem rVL {V : Nat → Nat → Value} {a j : Nat} {x : Int64} {o : Option Value} (q : o = some (V a j)) (h : V a j = .long x) : am_vL o = some x := by rw [q, h]; rfl
theorem ev_sp {β : Type} {c : Prop} [Decidable c] {a b r : Option β} (h1 : c → a = r) (h2 : ¬ c → b = r) : (if c then a else b) = r := by by_cases h : c; rw [if_pos h]; exact h1 h; rw [if_neg h]; exact h2 h
theorem ev_vR {β : Type} {o : Option Value} {a : Value} {f : Value → Option β} {r : Option β} (h : am_vR o = some a) (k : f a = r) : (am_vR o).bind f = r := ev_b h k
theorem ev_vI {β : Type} {o : Option Value} {a : Int32} {f : Int32 → Option β} {r : Option β} (h : am_vI o = some a) (k : f a = r) : (am_vI o).bind f = r := ev_b h k
theorem ev_vL {β : Type} {o : Option Value} {a : Int64} {f : Int64 → Option β} {r : Option β} (h : am_vL o = some a) (k : f a = r) : (am_vL o).bind f = r := ev_b h k
theorem ev_pA {β : Type} {t : Nat} {v : Value} {i a : Int32} {h : am_H} {f : Int32 → Option β} {r : Option β} (e : am_pA t v i h = some a) (k : f a = r) : (am_pA t v i h).bind f = r := ev_b e k
theorem ev_pS {β : Type} {t : Nat} {v : Value} {i x : Int32} {h a : am_H} {f : am_H → Option β} {r : Option β} (e : am_pS t v i x h = some a) (k : f a = r) : (am_pS t v i x h).bind f = r := ev_b e k
theorem ev_pP {β : Type} {t : Nat} {v x : Value} {h a : am_H} {f : am_H → Option β} {r : Option β} (e : am_pP t v x h = some a) (k : f a = r) : (am_pP t v x h).bind f = r := ev_b e k
theorem ev_len {β : Type} {v : Value} {a : Int32} {h : am_H} {f : Int32 → Option β} {r : Option β} (e : am_pLen v h = some a) (k : f a = r) : (am_pLen v h).bind f = r := ev_b e k
theorem rdRV {V : Nat → Nat → Value} {a j x : Nat} (h : V a j = .ref x) : am_vR (some (V a j)) = some (.ref x) := by rw [h]; rfl
theorem rdLen {h : am_H} {a t n : Nat} {d : (Nat → Int32) ⊕ (Nat → Int64) ⊕ (Nat → UInt32) ⊕ (Nat → UInt64) ⊕ (Nat → Option Nat)} (hb : h[a]? = some (.inl (t, n, d))) (ht : Nat.blt t 7 = true) : am_pLen (.ref a) h = some (nI n) := by
  unfold am_pLen
  simp only [hb, ht, if_true]
  rfl
theorem qk_0 {V : Nat → Nat → Value} {I : Nat → Nat → Int32} {L : Nat → Nat → Int64} {R : Nat → Nat → Option Nat} {tl : am_H} : am_pOk 11 (.ref 0) (fx V I L R ++ tl) = true := rfl
theorem qk_2 {V : Nat → Nat → Value} {I : Nat → Nat → Int32} {L : Nat → Nat → Int64} {R : Nat → Nat → Option Nat} {tl : am_H} : am_pOk 9 (.ref 2) (fx V I L R ++ tl) = true := rfl
theorem qk_5 {V : Nat → Nat → Value} {I : Nat → Nat → Int32} {L : Nat → Nat → Int64} {R : Nat → Nat → Option Nat} {tl : am_H} : am_pOk 7 (.ref 5) (fx V I L R ++ tl) = true := rfl
theorem qk_14 {V : Nat → Nat → Value} {I : Nat → Nat → Int32} {L : Nat → Nat → Int64} {R : Nat → Nat → Option Nat} {tl : am_H} : am_pOk 2 (.ref 14) (fx V I L R ++ tl) = true := rfl
theorem qk_16 {V : Nat → Nat → Value} {I : Nat → Nat → Int32} {L : Nat → Nat → Int64} {R : Nat → Nat → Option Nat} {tl : am_H} : am_pOk 6 (.ref 16) (fx V I L R ++ tl) = true := rfl
theorem qk_17 {V : Nat → Nat → Value} {I : Nat → Nat → Int32} {L : Nat → Nat → Int64} {R : Nat → Nat → Option Nat} {tl : am_H} : am_pOk 7 (.ref 17) (fx V I L R ++ tl) = true := rfl
theorem qk_27 {V : Nat → Nat → Value} {I : Nat → Nat → Int32} {L : Nat → Nat → Int64} {R : Nat → Nat → Option Nat} {tl : am_H} : am_pOk 6 (.ref 27) (fx V I L R ++ tl) = true := rfl
theorem qk_28 {V : Nat → Nat → Value} {I : Nat → Nat → Int32} {L : Nat → Nat → Int64} {R : Nat → Nat → Option Nat} {tl : am_H} : am_pOk 7 (.ref 28) (fx V I L R ++ tl) = true := rfl
theorem qk_40 {V : Nat → Nat → Value} {I : Nat → Nat → Int32} {L : Nat → Nat → Int64} {R : Nat → Nat → Option Nat} {tl : am_H} : am_pOk 1 (.ref 40) (fx V I L R ++ tl) = true := rfl
theorem qk_42 {V : Nat → Nat → Value} {I : Nat → Nat → Int32} {L : Nat → Nat → Int64} {R : Nat → Nat → Option Nat} {tl : am_H} : am_pOk 8 (.ref 42) (fx V I L R ++ tl) = true := rfl
theorem qk_49 {V : Nat → Nat → Value} {I : Nat → Nat → Int32} {L : Nat → Nat → Int64} {R : Nat → Nat → Option Nat} {tl : am_H} : am_pOk 1 (.ref 49) (fx V I L R ++ tl) = true := rfl
theorem qk_51 {V : Nat → Nat → Value} {I : Nat → Nat → Int32} {L : Nat → Nat → Int64} {R : Nat → Nat → Option Nat} {tl : am_H} : am_pOk 8 (.ref 51) (fx V I L R ++ tl) = true := rfl
theorem qk_58 {V : Nat → Nat → Value} {I : Nat → Nat → Int32} {L : Nat → Nat → Int64} {R : Nat → Nat → Option Nat} {tl : am_H} : am_pOk 1 (.ref 58) (fx V I L R ++ tl) = true := rfl
theorem qk_60 {V : Nat → Nat → Value} {I : Nat → Nat → Int32} {L : Nat → Nat → Int64} {R : Nat → Nat → Option Nat} {tl : am_H} : am_pOk 8 (.ref 60) (fx V I L R ++ tl) = true := rfl
theorem qk_67 {V : Nat → Nat → Value} {I : Nat → Nat → Int32} {L : Nat → Nat → Int64} {R : Nat → Nat → Option Nat} {tl : am_H} : am_pOk 1 (.ref 67) (fx V I L R ++ tl) = true := rfl
theorem qk_69 {V : Nat → Nat → Value} {I : Nat → Nat → Int32} {L : Nat → Nat → Int64} {R : Nat → Nat → Option Nat} {tl : am_H} : am_pOk 8 (.ref 69) (fx V I L R ++ tl) = true := rfl
theorem qk_76 {V : Nat → Nat → Value} {I : Nat → Nat → Int32} {L : Nat → Nat → Int64} {R : Nat → Nat → Option Nat} {tl : am_H} : am_pOk 4 (.ref 76) (fx V I L R ++ tl) = true := rfl
theorem qk_79 {V : Nat → Nat → Value} {I : Nat → Nat → Int32} {L : Nat → Nat → Int64} {R : Nat → Nat → Option Nat} {tl : am_H} : am_pOk 7 (.ref 79) (fx V I L R ++ tl) = true := rfl
theorem qk_89 {V : Nat → Nat → Value} {I : Nat → Nat → Int32} {L : Nat → Nat → Int64} {R : Nat → Nat → Option Nat} {tl : am_H} : am_pOk 0 (.ref 89) (fx V I L R ++ tl) = true := rfl
theorem qk_90 {V : Nat → Nat → Value} {I : Nat → Nat → Int32} {L : Nat → Nat → Int64} {R : Nat → Nat → Option Nat} {tl : am_H} : am_pOk 3 (.ref 90) (fx V I L R ++ tl) = true := rfl
theorem qk_92 {V : Nat → Nat → Value} {I : Nat → Nat → Int32} {L : Nat → Nat → Int64} {R : Nat → Nat → Option Nat} {tl : am_H} : am_pOk 3 (.ref 92) (fx V I L R ++ tl) = true := rfl
theorem qk_94 {V : Nat → Nat → Value} {I : Nat → Nat → Int32} {L : Nat → Nat → Int64} {R : Nat → Nat → Option Nat} {tl : am_H} : am_pOk 7 (.ref 94) (fx V I L R ++ tl) = true := rfl
theorem qk_102 {V : Nat → Nat → Value} {I : Nat → Nat → Int32} {L : Nat → Nat → Int64} {R : Nat → Nat → Option Nat} {tl : am_H} : am_pOk 7 (.ref 102) (fx V I L R ++ tl) = true := rfl
theorem qk_110 {V : Nat → Nat → Value} {I : Nat → Nat → Int32} {L : Nat → Nat → Int64} {R : Nat → Nat → Option Nat} {tl : am_H} : am_pOk 7 (.ref 110) (fx V I L R ++ tl) = true := rfl
theorem qk_118 {V : Nat → Nat → Value} {I : Nat → Nat → Int32} {L : Nat → Nat → Int64} {R : Nat → Nat → Option Nat} {tl : am_H} : am_pOk 5 (.ref 118) (fx V I L R ++ tl) = true := rfl
theorem qk_121 {V : Nat → Nat → Value} {I : Nat → Nat → Int32} {L : Nat → Nat → Int64} {R : Nat → Nat → Option Nat} {tl : am_H} : am_pOk 7 (.ref 121) (fx V I L R ++ tl) = true := rfl
theorem qk_129 {V : Nat → Nat → Value} {I : Nat → Nat → Int32} {L : Nat → Nat → Int64} {R : Nat → Nat → Option Nat} {tl : am_H} : am_pOk 3 (.ref 129) (fx V I L R ++ tl) = true := rfl
theorem qk_131 {V : Nat → Nat → Value} {I : Nat → Nat → Int32} {L : Nat → Nat → Int64} {R : Nat → Nat → Option Nat} {tl : am_H} : am_pOk 10 (.ref 131) (fx V I L R ++ tl) = true := rfl
theorem qk_132 {V : Nat → Nat → Value} {I : Nat → Nat → Int32} {L : Nat → Nat → Int64} {R : Nat → Nat → Option Nat} {tl : am_H} : am_pOk 7 (.ref 132) (fx V I L R ++ tl) = true := rfl
theorem qk_141 {V : Nat → Nat → Value} {I : Nat → Nat → Int32} {L : Nat → Nat → Int64} {R : Nat → Nat → Option Nat} {tl : am_H} : am_pOk 3 (.ref 141) (fx V I L R ++ tl) = true := rfl
theorem qk_148 {V : Nat → Nat → Value} {I : Nat → Nat → Int32} {L : Nat → Nat → Int64} {R : Nat → Nat → Option Nat} {tl : am_H} : am_pOk 3 (.ref 148) (fx V I L R ++ tl) = true := rfl
theorem qk_150 {V : Nat → Nat → Value} {I : Nat → Nat → Int32} {L : Nat → Nat → Int64} {R : Nat → Nat → Option Nat} {tl : am_H} : am_pOk 3 (.ref 150) (fx V I L R ++ tl) = true := rfl
theorem qk_152 {V : Nat → Nat → Value} {I : Nat → Nat → Int32} {L : Nat → Nat → Int64} {R : Nat → Nat → Option Nat} {tl : am_H} : am_pOk 3 (.ref 152) (fx V I L R ++ tl) = true := rfl
theorem qk_154 {V : Nat → Nat → Value} {I : Nat → Nat → Int32} {L : Nat → Nat → Int64} {R : Nat → Nat → Option Nat} {tl : am_H} : am_pOk 3 (.ref 154) (fx V I L R ++ tl) = true := rfl
theorem qk_156 {V : Nat → Nat → Value} {I : Nat → Nat → Int32} {L : Nat → Nat → Int64} {R : Nat → Nat → Option Nat} {tl : am_H} : am_pOk 3 (.ref 156) (fx V I L R ++ tl) = true := rfl
theorem qk_158 {V : Nat → Nat → Value} {I : Nat → Nat → Int32} {L : Nat → Nat → Int64} {R : Nat → Nat → Option Nat} {tl : am_H} : am_pOk 3 (.ref 158) (fx V I L R ++ tl) = true := rfl
theorem qk_160 {V : Nat → Nat → Value} {I : Nat → Nat → Int32} {L : Nat → Nat → Int64} {R : Nat → Nat → Option Nat} {tl : am_H} : am_pOk 3 (.ref 160) (fx V I L R ++ tl) = true := rfl
theorem qk_162 {V : Nat → Nat → Value} {I : Nat → Nat → Int32} {L : Nat → Nat → Int64} {R : Nat → Nat → Option Nat} {tl : am_H} : am_pOk 3 (.ref 162) (fx V I L R ++ tl) = true := rfl
theorem qk_167 {V : Nat → Nat → Value} {I : Nat → Nat → Int32} {L : Nat → Nat → Int64} {R : Nat → Nat → Option Nat} {tl : am_H} : am_pOk 3 (.ref 167) (fx V I L R ++ tl) = true := rfl
theorem qk_169 {V : Nat → Nat → Value} {I : Nat → Nat → Int32} {L : Nat → Nat → Int64} {R : Nat → Nat → Option Nat} {tl : am_H} : am_pOk 3 (.ref 169) (fx V I L R ++ tl) = true := rfl
theorem qk_173 {V : Nat → Nat → Value} {I : Nat → Nat → Int32} {L : Nat → Nat → Int64} {R : Nat → Nat → Option Nat} {tl : am_H} : am_pOk 8 (.ref 173) (fx V I L R ++ tl) = true := rfl
theorem qk_174 {V : Nat → Nat → Value} {I : Nat → Nat → Int32} {L : Nat → Nat → Int64} {R : Nat → Nat → Option Nat} {tl : am_H} : am_pOk 12 (.ref 174) (fx V I L R ++ tl) = true := rfl
theorem ql_3 {V : Nat → Nat → Value} {I : Nat → Nat → Int32} {L : Nat → Nat → Int64} {R : Nat → Nat → Option Nat} {tl : am_H} : am_pLen (.ref 3) (fx V I L R ++ tl) = some (nI 240) := rfl
theorem ql_4 {V : Nat → Nat → Value} {I : Nat → Nat → Int32} {L : Nat → Nat → Int64} {R : Nat → Nat → Option Nat} {tl : am_H} : am_pLen (.ref 4) (fx V I L R ++ tl) = some (nI 60) := rfl
theorem ql_6 {V : Nat → Nat → Value} {I : Nat → Nat → Int32} {L : Nat → Nat → Int64} {R : Nat → Nat → Option Nat} {tl : am_H} : am_pLen (.ref 6) (fx V I L R ++ tl) = some (nI 60) := rfl
theorem ql_7 {V : Nat → Nat → Value} {I : Nat → Nat → Int32} {L : Nat → Nat → Int64} {R : Nat → Nat → Option Nat} {tl : am_H} : am_pLen (.ref 7) (fx V I L R ++ tl) = some (nI 60) := rfl
theorem ql_8 {V : Nat → Nat → Value} {I : Nat → Nat → Int32} {L : Nat → Nat → Int64} {R : Nat → Nat → Option Nat} {tl : am_H} : am_pLen (.ref 8) (fx V I L R ++ tl) = some (nI 60) := rfl
theorem ql_9 {V : Nat → Nat → Value} {I : Nat → Nat → Int32} {L : Nat → Nat → Int64} {R : Nat → Nat → Option Nat} {tl : am_H} : am_pLen (.ref 9) (fx V I L R ++ tl) = some (nI 60) := rfl
theorem ql_10 {V : Nat → Nat → Value} {I : Nat → Nat → Int32} {L : Nat → Nat → Int64} {R : Nat → Nat → Option Nat} {tl : am_H} : am_pLen (.ref 10) (fx V I L R ++ tl) = some (nI 60) := rfl
theorem ql_11 {V : Nat → Nat → Value} {I : Nat → Nat → Int32} {L : Nat → Nat → Int64} {R : Nat → Nat → Option Nat} {tl : am_H} : am_pLen (.ref 11) (fx V I L R ++ tl) = some (nI 60) := rfl
theorem ql_12 {V : Nat → Nat → Value} {I : Nat → Nat → Int32} {L : Nat → Nat → Int64} {R : Nat → Nat → Option Nat} {tl : am_H} : am_pLen (.ref 12) (fx V I L R ++ tl) = some (nI 61) := rfl
theorem ql_13 {V : Nat → Nat → Value} {I : Nat → Nat → Int32} {L : Nat → Nat → Int64} {R : Nat → Nat → Option Nat} {tl : am_H} : am_pLen (.ref 13) (fx V I L R ++ tl) = some (nI 240) := rfl
theorem ql_15 {V : Nat → Nat → Value} {I : Nat → Nat → Int32} {L : Nat → Nat → Int64} {R : Nat → Nat → Option Nat} {tl : am_H} : am_pLen (.ref 15) (fx V I L R ++ tl) = some (nI 360) := rfl
theorem ql_18 {V : Nat → Nat → Value} {I : Nat → Nat → Int32} {L : Nat → Nat → Int64} {R : Nat → Nat → Option Nat} {tl : am_H} : am_pLen (.ref 18) (fx V I L R ++ tl) = some (nI 60) := rfl
theorem ql_19 {V : Nat → Nat → Value} {I : Nat → Nat → Int32} {L : Nat → Nat → Int64} {R : Nat → Nat → Option Nat} {tl : am_H} : am_pLen (.ref 19) (fx V I L R ++ tl) = some (nI 60) := rfl
theorem ql_20 {V : Nat → Nat → Value} {I : Nat → Nat → Int32} {L : Nat → Nat → Int64} {R : Nat → Nat → Option Nat} {tl : am_H} : am_pLen (.ref 20) (fx V I L R ++ tl) = some (nI 60) := rfl
theorem ql_21 {V : Nat → Nat → Value} {I : Nat → Nat → Int32} {L : Nat → Nat → Int64} {R : Nat → Nat → Option Nat} {tl : am_H} : am_pLen (.ref 21) (fx V I L R ++ tl) = some (nI 60) := rfl
theorem ql_22 {V : Nat → Nat → Value} {I : Nat → Nat → Int32} {L : Nat → Nat → Int64} {R : Nat → Nat → Option Nat} {tl : am_H} : am_pLen (.ref 22) (fx V I L R ++ tl) = some (nI 60) := rfl
theorem ql_23 {V : Nat → Nat → Value} {I : Nat → Nat → Int32} {L : Nat → Nat → Int64} {R : Nat → Nat → Option Nat} {tl : am_H} : am_pLen (.ref 23) (fx V I L R ++ tl) = some (nI 60) := rfl
theorem ql_24 {V : Nat → Nat → Value} {I : Nat → Nat → Int32} {L : Nat → Nat → Int64} {R : Nat → Nat → Option Nat} {tl : am_H} : am_pLen (.ref 24) (fx V I L R ++ tl) = some (nI 61) := rfl
theorem ql_25 {V : Nat → Nat → Value} {I : Nat → Nat → Int32} {L : Nat → Nat → Int64} {R : Nat → Nat → Option Nat} {tl : am_H} : am_pLen (.ref 25) (fx V I L R ++ tl) = some (nI 8) := rfl
theorem ql_26 {V : Nat → Nat → Value} {I : Nat → Nat → Int32} {L : Nat → Nat → Int64} {R : Nat → Nat → Option Nat} {tl : am_H} : am_pLen (.ref 26) (fx V I L R ++ tl) = some (nI 8) := rfl
theorem ql_29 {V : Nat → Nat → Value} {I : Nat → Nat → Int32} {L : Nat → Nat → Int64} {R : Nat → Nat → Option Nat} {tl : am_H} : am_pLen (.ref 29) (fx V I L R ++ tl) = some (nI 60) := rfl
theorem ql_30 {V : Nat → Nat → Value} {I : Nat → Nat → Int32} {L : Nat → Nat → Int64} {R : Nat → Nat → Option Nat} {tl : am_H} : am_pLen (.ref 30) (fx V I L R ++ tl) = some (nI 60) := rfl
theorem ql_31 {V : Nat → Nat → Value} {I : Nat → Nat → Int32} {L : Nat → Nat → Int64} {R : Nat → Nat → Option Nat} {tl : am_H} : am_pLen (.ref 31) (fx V I L R ++ tl) = some (nI 60) := rfl
theorem ql_32 {V : Nat → Nat → Value} {I : Nat → Nat → Int32} {L : Nat → Nat → Int64} {R : Nat → Nat → Option Nat} {tl : am_H} : am_pLen (.ref 32) (fx V I L R ++ tl) = some (nI 60) := rfl
theorem ql_33 {V : Nat → Nat → Value} {I : Nat → Nat → Int32} {L : Nat → Nat → Int64} {R : Nat → Nat → Option Nat} {tl : am_H} : am_pLen (.ref 33) (fx V I L R ++ tl) = some (nI 60) := rfl
theorem ql_34 {V : Nat → Nat → Value} {I : Nat → Nat → Int32} {L : Nat → Nat → Int64} {R : Nat → Nat → Option Nat} {tl : am_H} : am_pLen (.ref 34) (fx V I L R ++ tl) = some (nI 60) := rfl
theorem ql_35 {V : Nat → Nat → Value} {I : Nat → Nat → Int32} {L : Nat → Nat → Int64} {R : Nat → Nat → Option Nat} {tl : am_H} : am_pLen (.ref 35) (fx V I L R ++ tl) = some (nI 61) := rfl
theorem ql_36 {V : Nat → Nat → Value} {I : Nat → Nat → Int32} {L : Nat → Nat → Int64} {R : Nat → Nat → Option Nat} {tl : am_H} : am_pLen (.ref 36) (fx V I L R ++ tl) = some (nI 8) := rfl
theorem ql_37 {V : Nat → Nat → Value} {I : Nat → Nat → Int32} {L : Nat → Nat → Int64} {R : Nat → Nat → Option Nat} {tl : am_H} : am_pLen (.ref 37) (fx V I L R ++ tl) = some (nI 8) := rfl
theorem ql_38 {V : Nat → Nat → Value} {I : Nat → Nat → Int32} {L : Nat → Nat → Int64} {R : Nat → Nat → Option Nat} {tl : am_H} : am_pLen (.ref 38) (fx V I L R ++ tl) = some (nI 5) := rfl
theorem ql_41 {V : Nat → Nat → Value} {I : Nat → Nat → Int32} {L : Nat → Nat → Int64} {R : Nat → Nat → Option Nat} {tl : am_H} : am_pLen (.ref 41) (fx V I L R ++ tl) = some (nI 16) := rfl
theorem ql_43 {V : Nat → Nat → Value} {I : Nat → Nat → Int32} {L : Nat → Nat → Int64} {R : Nat → Nat → Option Nat} {tl : am_H} : am_pLen (.ref 43) (fx V I L R ++ tl) = some (nI 16) := rfl
theorem ql_44 {V : Nat → Nat → Value} {I : Nat → Nat → Int32} {L : Nat → Nat → Int64} {R : Nat → Nat → Option Nat} {tl : am_H} : am_pLen (.ref 44) (fx V I L R ++ tl) = some (nI 16) := rfl
theorem ql_45 {V : Nat → Nat → Value} {I : Nat → Nat → Int32} {L : Nat → Nat → Int64} {R : Nat → Nat → Option Nat} {tl : am_H} : am_pLen (.ref 45) (fx V I L R ++ tl) = some (nI 16) := rfl
theorem ql_46 {V : Nat → Nat → Value} {I : Nat → Nat → Int32} {L : Nat → Nat → Int64} {R : Nat → Nat → Option Nat} {tl : am_H} : am_pLen (.ref 46) (fx V I L R ++ tl) = some (nI 384) := rfl
theorem ql_47 {V : Nat → Nat → Value} {I : Nat → Nat → Int32} {L : Nat → Nat → Int64} {R : Nat → Nat → Option Nat} {tl : am_H} : am_pLen (.ref 47) (fx V I L R ++ tl) = some (nI 24) := rfl
theorem ql_48 {V : Nat → Nat → Value} {I : Nat → Nat → Int32} {L : Nat → Nat → Int64} {R : Nat → Nat → Option Nat} {tl : am_H} : am_pLen (.ref 48) (fx V I L R ++ tl) = some (nI 24) := rfl
theorem ql_50 {V : Nat → Nat → Value} {I : Nat → Nat → Int32} {L : Nat → Nat → Int64} {R : Nat → Nat → Option Nat} {tl : am_H} : am_pLen (.ref 50) (fx V I L R ++ tl) = some (nI 16) := rfl
theorem ql_52 {V : Nat → Nat → Value} {I : Nat → Nat → Int32} {L : Nat → Nat → Int64} {R : Nat → Nat → Option Nat} {tl : am_H} : am_pLen (.ref 52) (fx V I L R ++ tl) = some (nI 16) := rfl
theorem ql_53 {V : Nat → Nat → Value} {I : Nat → Nat → Int32} {L : Nat → Nat → Int64} {R : Nat → Nat → Option Nat} {tl : am_H} : am_pLen (.ref 53) (fx V I L R ++ tl) = some (nI 16) := rfl
theorem ql_54 {V : Nat → Nat → Value} {I : Nat → Nat → Int32} {L : Nat → Nat → Int64} {R : Nat → Nat → Option Nat} {tl : am_H} : am_pLen (.ref 54) (fx V I L R ++ tl) = some (nI 16) := rfl
theorem ql_55 {V : Nat → Nat → Value} {I : Nat → Nat → Int32} {L : Nat → Nat → Int64} {R : Nat → Nat → Option Nat} {tl : am_H} : am_pLen (.ref 55) (fx V I L R ++ tl) = some (nI 384) := rfl
theorem ql_56 {V : Nat → Nat → Value} {I : Nat → Nat → Int32} {L : Nat → Nat → Int64} {R : Nat → Nat → Option Nat} {tl : am_H} : am_pLen (.ref 56) (fx V I L R ++ tl) = some (nI 24) := rfl
theorem ql_57 {V : Nat → Nat → Value} {I : Nat → Nat → Int32} {L : Nat → Nat → Int64} {R : Nat → Nat → Option Nat} {tl : am_H} : am_pLen (.ref 57) (fx V I L R ++ tl) = some (nI 24) := rfl
theorem ql_59 {V : Nat → Nat → Value} {I : Nat → Nat → Int32} {L : Nat → Nat → Int64} {R : Nat → Nat → Option Nat} {tl : am_H} : am_pLen (.ref 59) (fx V I L R ++ tl) = some (nI 16) := rfl
theorem ql_61 {V : Nat → Nat → Value} {I : Nat → Nat → Int32} {L : Nat → Nat → Int64} {R : Nat → Nat → Option Nat} {tl : am_H} : am_pLen (.ref 61) (fx V I L R ++ tl) = some (nI 16) := rfl
theorem ql_62 {V : Nat → Nat → Value} {I : Nat → Nat → Int32} {L : Nat → Nat → Int64} {R : Nat → Nat → Option Nat} {tl : am_H} : am_pLen (.ref 62) (fx V I L R ++ tl) = some (nI 16) := rfl
theorem ql_63 {V : Nat → Nat → Value} {I : Nat → Nat → Int32} {L : Nat → Nat → Int64} {R : Nat → Nat → Option Nat} {tl : am_H} : am_pLen (.ref 63) (fx V I L R ++ tl) = some (nI 16) := rfl
theorem ql_64 {V : Nat → Nat → Value} {I : Nat → Nat → Int32} {L : Nat → Nat → Int64} {R : Nat → Nat → Option Nat} {tl : am_H} : am_pLen (.ref 64) (fx V I L R ++ tl) = some (nI 384) := rfl
theorem ql_65 {V : Nat → Nat → Value} {I : Nat → Nat → Int32} {L : Nat → Nat → Int64} {R : Nat → Nat → Option Nat} {tl : am_H} : am_pLen (.ref 65) (fx V I L R ++ tl) = some (nI 24) := rfl
theorem ql_66 {V : Nat → Nat → Value} {I : Nat → Nat → Int32} {L : Nat → Nat → Int64} {R : Nat → Nat → Option Nat} {tl : am_H} : am_pLen (.ref 66) (fx V I L R ++ tl) = some (nI 24) := rfl
theorem ql_68 {V : Nat → Nat → Value} {I : Nat → Nat → Int32} {L : Nat → Nat → Int64} {R : Nat → Nat → Option Nat} {tl : am_H} : am_pLen (.ref 68) (fx V I L R ++ tl) = some (nI 16) := rfl
theorem ql_70 {V : Nat → Nat → Value} {I : Nat → Nat → Int32} {L : Nat → Nat → Int64} {R : Nat → Nat → Option Nat} {tl : am_H} : am_pLen (.ref 70) (fx V I L R ++ tl) = some (nI 16) := rfl
theorem ql_71 {V : Nat → Nat → Value} {I : Nat → Nat → Int32} {L : Nat → Nat → Int64} {R : Nat → Nat → Option Nat} {tl : am_H} : am_pLen (.ref 71) (fx V I L R ++ tl) = some (nI 16) := rfl
theorem ql_72 {V : Nat → Nat → Value} {I : Nat → Nat → Int32} {L : Nat → Nat → Int64} {R : Nat → Nat → Option Nat} {tl : am_H} : am_pLen (.ref 72) (fx V I L R ++ tl) = some (nI 16) := rfl
theorem ql_73 {V : Nat → Nat → Value} {I : Nat → Nat → Int32} {L : Nat → Nat → Int64} {R : Nat → Nat → Option Nat} {tl : am_H} : am_pLen (.ref 73) (fx V I L R ++ tl) = some (nI 384) := rfl
theorem ql_74 {V : Nat → Nat → Value} {I : Nat → Nat → Int32} {L : Nat → Nat → Int64} {R : Nat → Nat → Option Nat} {tl : am_H} : am_pLen (.ref 74) (fx V I L R ++ tl) = some (nI 24) := rfl
theorem ql_75 {V : Nat → Nat → Value} {I : Nat → Nat → Int32} {L : Nat → Nat → Int64} {R : Nat → Nat → Option Nat} {tl : am_H} : am_pLen (.ref 75) (fx V I L R ++ tl) = some (nI 24) := rfl
theorem ql_77 {V : Nat → Nat → Value} {I : Nat → Nat → Int32} {L : Nat → Nat → Int64} {R : Nat → Nat → Option Nat} {tl : am_H} : am_pLen (.ref 77) (fx V I L R ++ tl) = some (nI 1638) := rfl
theorem ql_78 {V : Nat → Nat → Value} {I : Nat → Nat → Int32} {L : Nat → Nat → Int64} {R : Nat → Nat → Option Nat} {tl : am_H} : am_pLen (.ref 78) (fx V I L R ++ tl) = some (nI 78) := rfl
theorem ql_80 {V : Nat → Nat → Value} {I : Nat → Nat → Int32} {L : Nat → Nat → Int64} {R : Nat → Nat → Option Nat} {tl : am_H} : am_pLen (.ref 80) (fx V I L R ++ tl) = some (nI 60) := rfl
theorem ql_81 {V : Nat → Nat → Value} {I : Nat → Nat → Int32} {L : Nat → Nat → Int64} {R : Nat → Nat → Option Nat} {tl : am_H} : am_pLen (.ref 81) (fx V I L R ++ tl) = some (nI 60) := rfl
theorem ql_82 {V : Nat → Nat → Value} {I : Nat → Nat → Int32} {L : Nat → Nat → Int64} {R : Nat → Nat → Option Nat} {tl : am_H} : am_pLen (.ref 82) (fx V I L R ++ tl) = some (nI 60) := rfl
theorem ql_83 {V : Nat → Nat → Value} {I : Nat → Nat → Int32} {L : Nat → Nat → Int64} {R : Nat → Nat → Option Nat} {tl : am_H} : am_pLen (.ref 83) (fx V I L R ++ tl) = some (nI 60) := rfl
theorem ql_84 {V : Nat → Nat → Value} {I : Nat → Nat → Int32} {L : Nat → Nat → Int64} {R : Nat → Nat → Option Nat} {tl : am_H} : am_pLen (.ref 84) (fx V I L R ++ tl) = some (nI 60) := rfl
theorem ql_85 {V : Nat → Nat → Value} {I : Nat → Nat → Int32} {L : Nat → Nat → Int64} {R : Nat → Nat → Option Nat} {tl : am_H} : am_pLen (.ref 85) (fx V I L R ++ tl) = some (nI 60) := rfl
theorem ql_86 {V : Nat → Nat → Value} {I : Nat → Nat → Int32} {L : Nat → Nat → Int64} {R : Nat → Nat → Option Nat} {tl : am_H} : am_pLen (.ref 86) (fx V I L R ++ tl) = some (nI 61) := rfl
theorem ql_88 {V : Nat → Nat → Value} {I : Nat → Nat → Int32} {L : Nat → Nat → Int64} {R : Nat → Nat → Option Nat} {tl : am_H} : am_pLen (.ref 88) (fx V I L R ++ tl) = some (nI 24) := rfl
theorem ql_91 {V : Nat → Nat → Value} {I : Nat → Nat → Int32} {L : Nat → Nat → Int64} {R : Nat → Nat → Option Nat} {tl : am_H} : am_pLen (.ref 91) (fx V I L R ++ tl) = some (nI 120) := rfl
theorem ql_93 {V : Nat → Nat → Value} {I : Nat → Nat → Int32} {L : Nat → Nat → Int64} {R : Nat → Nat → Option Nat} {tl : am_H} : am_pLen (.ref 93) (fx V I L R ++ tl) = some (nI 120) := rfl
theorem ql_95 {V : Nat → Nat → Value} {I : Nat → Nat → Int32} {L : Nat → Nat → Int64} {R : Nat → Nat → Option Nat} {tl : am_H} : am_pLen (.ref 95) (fx V I L R ++ tl) = some (nI 60) := rfl
theorem ql_96 {V : Nat → Nat → Value} {I : Nat → Nat → Int32} {L : Nat → Nat → Int64} {R : Nat → Nat → Option Nat} {tl : am_H} : am_pLen (.ref 96) (fx V I L R ++ tl) = some (nI 60) := rfl
theorem ql_97 {V : Nat → Nat → Value} {I : Nat → Nat → Int32} {L : Nat → Nat → Int64} {R : Nat → Nat → Option Nat} {tl : am_H} : am_pLen (.ref 97) (fx V I L R ++ tl) = some (nI 60) := rfl
theorem ql_98 {V : Nat → Nat → Value} {I : Nat → Nat → Int32} {L : Nat → Nat → Int64} {R : Nat → Nat → Option Nat} {tl : am_H} : am_pLen (.ref 98) (fx V I L R ++ tl) = some (nI 60) := rfl
theorem ql_99 {V : Nat → Nat → Value} {I : Nat → Nat → Int32} {L : Nat → Nat → Int64} {R : Nat → Nat → Option Nat} {tl : am_H} : am_pLen (.ref 99) (fx V I L R ++ tl) = some (nI 60) := rfl
theorem ql_100 {V : Nat → Nat → Value} {I : Nat → Nat → Int32} {L : Nat → Nat → Int64} {R : Nat → Nat → Option Nat} {tl : am_H} : am_pLen (.ref 100) (fx V I L R ++ tl) = some (nI 60) := rfl
theorem ql_101 {V : Nat → Nat → Value} {I : Nat → Nat → Int32} {L : Nat → Nat → Int64} {R : Nat → Nat → Option Nat} {tl : am_H} : am_pLen (.ref 101) (fx V I L R ++ tl) = some (nI 61) := rfl
theorem ql_103 {V : Nat → Nat → Value} {I : Nat → Nat → Int32} {L : Nat → Nat → Int64} {R : Nat → Nat → Option Nat} {tl : am_H} : am_pLen (.ref 103) (fx V I L R ++ tl) = some (nI 60) := rfl
theorem ql_104 {V : Nat → Nat → Value} {I : Nat → Nat → Int32} {L : Nat → Nat → Int64} {R : Nat → Nat → Option Nat} {tl : am_H} : am_pLen (.ref 104) (fx V I L R ++ tl) = some (nI 60) := rfl
theorem ql_105 {V : Nat → Nat → Value} {I : Nat → Nat → Int32} {L : Nat → Nat → Int64} {R : Nat → Nat → Option Nat} {tl : am_H} : am_pLen (.ref 105) (fx V I L R ++ tl) = some (nI 60) := rfl
theorem ql_106 {V : Nat → Nat → Value} {I : Nat → Nat → Int32} {L : Nat → Nat → Int64} {R : Nat → Nat → Option Nat} {tl : am_H} : am_pLen (.ref 106) (fx V I L R ++ tl) = some (nI 60) := rfl
theorem ql_107 {V : Nat → Nat → Value} {I : Nat → Nat → Int32} {L : Nat → Nat → Int64} {R : Nat → Nat → Option Nat} {tl : am_H} : am_pLen (.ref 107) (fx V I L R ++ tl) = some (nI 60) := rfl
theorem ql_108 {V : Nat → Nat → Value} {I : Nat → Nat → Int32} {L : Nat → Nat → Int64} {R : Nat → Nat → Option Nat} {tl : am_H} : am_pLen (.ref 108) (fx V I L R ++ tl) = some (nI 60) := rfl
theorem ql_109 {V : Nat → Nat → Value} {I : Nat → Nat → Int32} {L : Nat → Nat → Int64} {R : Nat → Nat → Option Nat} {tl : am_H} : am_pLen (.ref 109) (fx V I L R ++ tl) = some (nI 61) := rfl
theorem ql_111 {V : Nat → Nat → Value} {I : Nat → Nat → Int32} {L : Nat → Nat → Int64} {R : Nat → Nat → Option Nat} {tl : am_H} : am_pLen (.ref 111) (fx V I L R ++ tl) = some (nI 60) := rfl
theorem ql_112 {V : Nat → Nat → Value} {I : Nat → Nat → Int32} {L : Nat → Nat → Int64} {R : Nat → Nat → Option Nat} {tl : am_H} : am_pLen (.ref 112) (fx V I L R ++ tl) = some (nI 60) := rfl
theorem ql_113 {V : Nat → Nat → Value} {I : Nat → Nat → Int32} {L : Nat → Nat → Int64} {R : Nat → Nat → Option Nat} {tl : am_H} : am_pLen (.ref 113) (fx V I L R ++ tl) = some (nI 60) := rfl
theorem ql_114 {V : Nat → Nat → Value} {I : Nat → Nat → Int32} {L : Nat → Nat → Int64} {R : Nat → Nat → Option Nat} {tl : am_H} : am_pLen (.ref 114) (fx V I L R ++ tl) = some (nI 60) := rfl
theorem ql_115 {V : Nat → Nat → Value} {I : Nat → Nat → Int32} {L : Nat → Nat → Int64} {R : Nat → Nat → Option Nat} {tl : am_H} : am_pLen (.ref 115) (fx V I L R ++ tl) = some (nI 60) := rfl
theorem ql_116 {V : Nat → Nat → Value} {I : Nat → Nat → Int32} {L : Nat → Nat → Int64} {R : Nat → Nat → Option Nat} {tl : am_H} : am_pLen (.ref 116) (fx V I L R ++ tl) = some (nI 60) := rfl
theorem ql_117 {V : Nat → Nat → Value} {I : Nat → Nat → Int32} {L : Nat → Nat → Int64} {R : Nat → Nat → Option Nat} {tl : am_H} : am_pLen (.ref 117) (fx V I L R ++ tl) = some (nI 61) := rfl
theorem ql_119 {V : Nat → Nat → Value} {I : Nat → Nat → Int32} {L : Nat → Nat → Int64} {R : Nat → Nat → Option Nat} {tl : am_H} : am_pLen (.ref 119) (fx V I L R ++ tl) = some (nI 60) := rfl
theorem ql_120 {V : Nat → Nat → Value} {I : Nat → Nat → Int32} {L : Nat → Nat → Int64} {R : Nat → Nat → Option Nat} {tl : am_H} : am_pLen (.ref 120) (fx V I L R ++ tl) = some (nI 60) := rfl
theorem ql_122 {V : Nat → Nat → Value} {I : Nat → Nat → Int32} {L : Nat → Nat → Int64} {R : Nat → Nat → Option Nat} {tl : am_H} : am_pLen (.ref 122) (fx V I L R ++ tl) = some (nI 60) := rfl
theorem ql_123 {V : Nat → Nat → Value} {I : Nat → Nat → Int32} {L : Nat → Nat → Int64} {R : Nat → Nat → Option Nat} {tl : am_H} : am_pLen (.ref 123) (fx V I L R ++ tl) = some (nI 60) := rfl
theorem ql_124 {V : Nat → Nat → Value} {I : Nat → Nat → Int32} {L : Nat → Nat → Int64} {R : Nat → Nat → Option Nat} {tl : am_H} : am_pLen (.ref 124) (fx V I L R ++ tl) = some (nI 60) := rfl
theorem ql_125 {V : Nat → Nat → Value} {I : Nat → Nat → Int32} {L : Nat → Nat → Int64} {R : Nat → Nat → Option Nat} {tl : am_H} : am_pLen (.ref 125) (fx V I L R ++ tl) = some (nI 60) := rfl
theorem ql_126 {V : Nat → Nat → Value} {I : Nat → Nat → Int32} {L : Nat → Nat → Int64} {R : Nat → Nat → Option Nat} {tl : am_H} : am_pLen (.ref 126) (fx V I L R ++ tl) = some (nI 60) := rfl
theorem ql_127 {V : Nat → Nat → Value} {I : Nat → Nat → Int32} {L : Nat → Nat → Int64} {R : Nat → Nat → Option Nat} {tl : am_H} : am_pLen (.ref 127) (fx V I L R ++ tl) = some (nI 60) := rfl
theorem ql_128 {V : Nat → Nat → Value} {I : Nat → Nat → Int32} {L : Nat → Nat → Int64} {R : Nat → Nat → Option Nat} {tl : am_H} : am_pLen (.ref 128) (fx V I L R ++ tl) = some (nI 61) := rfl
theorem ql_130 {V : Nat → Nat → Value} {I : Nat → Nat → Int32} {L : Nat → Nat → Int64} {R : Nat → Nat → Option Nat} {tl : am_H} : am_pLen (.ref 130) (fx V I L R ++ tl) = some (nI 120) := rfl
theorem ql_133 {V : Nat → Nat → Value} {I : Nat → Nat → Int32} {L : Nat → Nat → Int64} {R : Nat → Nat → Option Nat} {tl : am_H} : am_pLen (.ref 133) (fx V I L R ++ tl) = some (nI 60) := rfl
theorem ql_134 {V : Nat → Nat → Value} {I : Nat → Nat → Int32} {L : Nat → Nat → Int64} {R : Nat → Nat → Option Nat} {tl : am_H} : am_pLen (.ref 134) (fx V I L R ++ tl) = some (nI 60) := rfl
theorem ql_135 {V : Nat → Nat → Value} {I : Nat → Nat → Int32} {L : Nat → Nat → Int64} {R : Nat → Nat → Option Nat} {tl : am_H} : am_pLen (.ref 135) (fx V I L R ++ tl) = some (nI 60) := rfl
theorem ql_136 {V : Nat → Nat → Value} {I : Nat → Nat → Int32} {L : Nat → Nat → Int64} {R : Nat → Nat → Option Nat} {tl : am_H} : am_pLen (.ref 136) (fx V I L R ++ tl) = some (nI 60) := rfl
theorem ql_137 {V : Nat → Nat → Value} {I : Nat → Nat → Int32} {L : Nat → Nat → Int64} {R : Nat → Nat → Option Nat} {tl : am_H} : am_pLen (.ref 137) (fx V I L R ++ tl) = some (nI 60) := rfl
theorem ql_138 {V : Nat → Nat → Value} {I : Nat → Nat → Int32} {L : Nat → Nat → Int64} {R : Nat → Nat → Option Nat} {tl : am_H} : am_pLen (.ref 138) (fx V I L R ++ tl) = some (nI 60) := rfl
theorem ql_139 {V : Nat → Nat → Value} {I : Nat → Nat → Int32} {L : Nat → Nat → Int64} {R : Nat → Nat → Option Nat} {tl : am_H} : am_pLen (.ref 139) (fx V I L R ++ tl) = some (nI 61) := rfl
theorem ql_142 {V : Nat → Nat → Value} {I : Nat → Nat → Int32} {L : Nat → Nat → Int64} {R : Nat → Nat → Option Nat} {tl : am_H} : am_pLen (.ref 142) (fx V I L R ++ tl) = some (nI 120) := rfl
theorem ql_143 {V : Nat → Nat → Value} {I : Nat → Nat → Int32} {L : Nat → Nat → Int64} {R : Nat → Nat → Option Nat} {tl : am_H} : am_pLen (.ref 143) (fx V I L R ++ tl) = some (nI 36) := rfl
theorem ql_144 {V : Nat → Nat → Value} {I : Nat → Nat → Int32} {L : Nat → Nat → Int64} {R : Nat → Nat → Option Nat} {tl : am_H} : am_pLen (.ref 144) (fx V I L R ++ tl) = some (nI 6) := rfl
theorem ql_145 {V : Nat → Nat → Value} {I : Nat → Nat → Int32} {L : Nat → Nat → Int64} {R : Nat → Nat → Option Nat} {tl : am_H} : am_pLen (.ref 145) (fx V I L R ++ tl) = some (nI 36) := rfl
theorem ql_146 {V : Nat → Nat → Value} {I : Nat → Nat → Int32} {L : Nat → Nat → Int64} {R : Nat → Nat → Option Nat} {tl : am_H} : am_pLen (.ref 146) (fx V I L R ++ tl) = some (nI 36) := rfl
theorem ql_147 {V : Nat → Nat → Value} {I : Nat → Nat → Int32} {L : Nat → Nat → Int64} {R : Nat → Nat → Option Nat} {tl : am_H} : am_pLen (.ref 147) (fx V I L R ++ tl) = some (nI 8) := rfl
theorem ql_149 {V : Nat → Nat → Value} {I : Nat → Nat → Int32} {L : Nat → Nat → Int64} {R : Nat → Nat → Option Nat} {tl : am_H} : am_pLen (.ref 149) (fx V I L R ++ tl) = some (nI 120) := rfl
theorem ql_151 {V : Nat → Nat → Value} {I : Nat → Nat → Int32} {L : Nat → Nat → Int64} {R : Nat → Nat → Option Nat} {tl : am_H} : am_pLen (.ref 151) (fx V I L R ++ tl) = some (nI 120) := rfl
theorem ql_153 {V : Nat → Nat → Value} {I : Nat → Nat → Int32} {L : Nat → Nat → Int64} {R : Nat → Nat → Option Nat} {tl : am_H} : am_pLen (.ref 153) (fx V I L R ++ tl) = some (nI 120) := rfl
theorem ql_155 {V : Nat → Nat → Value} {I : Nat → Nat → Int32} {L : Nat → Nat → Int64} {R : Nat → Nat → Option Nat} {tl : am_H} : am_pLen (.ref 155) (fx V I L R ++ tl) = some (nI 120) := rfl
theorem ql_157 {V : Nat → Nat → Value} {I : Nat → Nat → Int32} {L : Nat → Nat → Int64} {R : Nat → Nat → Option Nat} {tl : am_H} : am_pLen (.ref 157) (fx V I L R ++ tl) = some (nI 120) := rfl
theorem ql_159 {V : Nat → Nat → Value} {I : Nat → Nat → Int32} {L : Nat → Nat → Int64} {R : Nat → Nat → Option Nat} {tl : am_H} : am_pLen (.ref 159) (fx V I L R ++ tl) = some (nI 120) := rfl
theorem ql_161 {V : Nat → Nat → Value} {I : Nat → Nat → Int32} {L : Nat → Nat → Int64} {R : Nat → Nat → Option Nat} {tl : am_H} : am_pLen (.ref 161) (fx V I L R ++ tl) = some (nI 120) := rfl
theorem ql_163 {V : Nat → Nat → Value} {I : Nat → Nat → Int32} {L : Nat → Nat → Int64} {R : Nat → Nat → Option Nat} {tl : am_H} : am_pLen (.ref 163) (fx V I L R ++ tl) = some (nI 120) := rfl
theorem ql_164 {V : Nat → Nat → Value} {I : Nat → Nat → Int32} {L : Nat → Nat → Int64} {R : Nat → Nat → Option Nat} {tl : am_H} : am_pLen (.ref 164) (fx V I L R ++ tl) = some (nI 15) := rfl
theorem ql_165 {V : Nat → Nat → Value} {I : Nat → Nat → Int32} {L : Nat → Nat → Int64} {R : Nat → Nat → Option Nat} {tl : am_H} : am_pLen (.ref 165) (fx V I L R ++ tl) = some (nI 15) := rfl
theorem ql_166 {V : Nat → Nat → Value} {I : Nat → Nat → Int32} {L : Nat → Nat → Int64} {R : Nat → Nat → Option Nat} {tl : am_H} : am_pLen (.ref 166) (fx V I L R ++ tl) = some (nI 15) := rfl
theorem ql_168 {V : Nat → Nat → Value} {I : Nat → Nat → Int32} {L : Nat → Nat → Int64} {R : Nat → Nat → Option Nat} {tl : am_H} : am_pLen (.ref 168) (fx V I L R ++ tl) = some (nI 120) := rfl
theorem ql_170 {V : Nat → Nat → Value} {I : Nat → Nat → Int32} {L : Nat → Nat → Int64} {R : Nat → Nat → Option Nat} {tl : am_H} : am_pLen (.ref 170) (fx V I L R ++ tl) = some (nI 120) := rfl
theorem ql_171 {V : Nat → Nat → Value} {I : Nat → Nat → Int32} {L : Nat → Nat → Int64} {R : Nat → Nat → Option Nat} {tl : am_H} : am_pLen (.ref 171) (fx V I L R ++ tl) = some (nI 600) := rfl
theorem ql_172 {V : Nat → Nat → Value} {I : Nat → Nat → Int32} {L : Nat → Nat → Int64} {R : Nat → Nat → Option Nat} {tl : am_H} : am_pLen (.ref 172) (fx V I L R ++ tl) = some (nI 16) := rfl
theorem ql_175 {V : Nat → Nat → Value} {I : Nat → Nat → Int32} {L : Nat → Nat → Int64} {R : Nat → Nat → Option Nat} {tl : am_H} : am_pLen (.ref 175) (fx V I L R ++ tl) = some (nI 600) := rfl
theorem ql_176 {V : Nat → Nat → Value} {I : Nat → Nat → Int32} {L : Nat → Nat → Int64} {R : Nat → Nat → Option Nat} {tl : am_H} : am_pLen (.ref 176) (fx V I L R ++ tl) = some (nI 600) := rfl
theorem ql_177 {V : Nat → Nat → Value} {I : Nat → Nat → Int32} {L : Nat → Nat → Int64} {R : Nat → Nat → Option Nat} {tl : am_H} : am_pLen (.ref 177) (fx V I L R ++ tl) = some (nI 600) := rfl
theorem ql_178 {V : Nat → Nat → Value} {I : Nat → Nat → Int32} {L : Nat → Nat → Int64} {R : Nat → Nat → Option Nat} {tl : am_H} : am_pLen (.ref 178) (fx V I L R ++ tl) = some (nI 600) := rfl
theorem ql_179 {V : Nat → Nat → Value} {I : Nat → Nat → Int32} {L : Nat → Nat → Int64} {R : Nat → Nat → Option Nat} {tl : am_H} : am_pLen (.ref 179) (fx V I L R ++ tl) = some (nI 600) := rfl
theorem ql_180 {V : Nat → Nat → Value} {I : Nat → Nat → Int32} {L : Nat → Nat → Int64} {R : Nat → Nat → Option Nat} {tl : am_H} : am_pLen (.ref 180) (fx V I L R ++ tl) = some (nI 600) := rfl
theorem ql_181 {V : Nat → Nat → Value} {I : Nat → Nat → Int32} {L : Nat → Nat → Int64} {R : Nat → Nat → Option Nat} {tl : am_H} : am_pLen (.ref 181) (fx V I L R ++ tl) = some (nI 600) := rfl
theorem ql_182 {V : Nat → Nat → Value} {I : Nat → Nat → Int32} {L : Nat → Nat → Int64} {R : Nat → Nat → Option Nat} {tl : am_H} : am_pLen (.ref 182) (fx V I L R ++ tl) = some (nI 600) := rfl
theorem ql_183 {V : Nat → Nat → Value} {I : Nat → Nat → Int32} {L : Nat → Nat → Int64} {R : Nat → Nat → Option Nat} {tl : am_H} : am_pLen (.ref 183) (fx V I L R ++ tl) = some (nI 600) := rfl
theorem ql_184 {V : Nat → Nat → Value} {I : Nat → Nat → Int32} {L : Nat → Nat → Int64} {R : Nat → Nat → Option Nat} {tl : am_H} : am_pLen (.ref 184) (fx V I L R ++ tl) = some (nI 36000) := rfl
theorem ql_185 {V : Nat → Nat → Value} {I : Nat → Nat → Int32} {L : Nat → Nat → Int64} {R : Nat → Nat → Option Nat} {tl : am_H} : am_pLen (.ref 185) (fx V I L R ++ tl) = some (nI 36000) := rfl
theorem ql_186 {V : Nat → Nat → Value} {I : Nat → Nat → Int32} {L : Nat → Nat → Int64} {R : Nat → Nat → Option Nat} {tl : am_H} : am_pLen (.ref 186) (fx V I L R ++ tl) = some (nI 400) := rfl
theorem ql_187 {V : Nat → Nat → Value} {I : Nat → Nat → Int32} {L : Nat → Nat → Int64} {R : Nat → Nat → Option Nat} {tl : am_H} : am_pLen (.ref 187) (fx V I L R ++ tl) = some (nI 400) := rfl
theorem ql_188 {V : Nat → Nat → Value} {I : Nat → Nat → Int32} {L : Nat → Nat → Int64} {R : Nat → Nat → Option Nat} {tl : am_H} : am_pLen (.ref 188) (fx V I L R ++ tl) = some (nI 400) := rfl
theorem ql_189 {V : Nat → Nat → Value} {I : Nat → Nat → Int32} {L : Nat → Nat → Int64} {R : Nat → Nat → Option Nat} {tl : am_H} : am_pLen (.ref 189) (fx V I L R ++ tl) = some (nI 400) := rfl
theorem ql_190 {V : Nat → Nat → Value} {I : Nat → Nat → Int32} {L : Nat → Nat → Int64} {R : Nat → Nat → Option Nat} {tl : am_H} : am_pLen (.ref 190) (fx V I L R ++ tl) = some (nI 400) := rfl
theorem ql_191 {V : Nat → Nat → Value} {I : Nat → Nat → Int32} {L : Nat → Nat → Int64} {R : Nat → Nat → Option Nat} {tl : am_H} : am_pLen (.ref 191) (fx V I L R ++ tl) = some (nI 400) := rfl
theorem ql_192 {V : Nat → Nat → Value} {I : Nat → Nat → Int32} {L : Nat → Nat → Int64} {R : Nat → Nat → Option Nat} {tl : am_H} : am_pLen (.ref 192) (fx V I L R ++ tl) = some (nI 400) := rfl
theorem ql_193 {V : Nat → Nat → Value} {I : Nat → Nat → Int32} {L : Nat → Nat → Int64} {R : Nat → Nat → Option Nat} {tl : am_H} : am_pLen (.ref 193) (fx V I L R ++ tl) = some (nI 400) := rfl
theorem ql_194 {V : Nat → Nat → Value} {I : Nat → Nat → Int32} {L : Nat → Nat → Int64} {R : Nat → Nat → Option Nat} {tl : am_H} : am_pLen (.ref 194) (fx V I L R ++ tl) = some (nI 400) := rfl
theorem ql_195 {V : Nat → Nat → Value} {I : Nat → Nat → Int32} {L : Nat → Nat → Int64} {R : Nat → Nat → Option Nat} {tl : am_H} : am_pLen (.ref 195) (fx V I L R ++ tl) = some (nI 400) := rfl
theorem ql_196 {V : Nat → Nat → Value} {I : Nat → Nat → Int32} {L : Nat → Nat → Int64} {R : Nat → Nat → Option Nat} {tl : am_H} : am_pLen (.ref 196) (fx V I L R ++ tl) = some (nI 400) := rfl
theorem ql_197 {V : Nat → Nat → Value} {I : Nat → Nat → Int32} {L : Nat → Nat → Int64} {R : Nat → Nat → Option Nat} {tl : am_H} : am_pLen (.ref 197) (fx V I L R ++ tl) = some (nI 24) := rfl
theorem ql_198 {V : Nat → Nat → Value} {I : Nat → Nat → Int32} {L : Nat → Nat → Int64} {R : Nat → Nat → Option Nat} {tl : am_H} : am_pLen (.ref 198) (fx V I L R ++ tl) = some (nI 24) := rfl
theorem ql_199 {V : Nat → Nat → Value} {I : Nat → Nat → Int32} {L : Nat → Nat → Int64} {R : Nat → Nat → Option Nat} {tl : am_H} : am_pLen (.ref 199) (fx V I L R ++ tl) = some (nI 24) := rfl
theorem ql_200 {V : Nat → Nat → Value} {I : Nat → Nat → Int32} {L : Nat → Nat → Int64} {R : Nat → Nat → Option Nat} {tl : am_H} : am_pLen (.ref 200) (fx V I L R ++ tl) = some (nI 24) := rfl
theorem ql_201 {V : Nat → Nat → Value} {I : Nat → Nat → Int32} {L : Nat → Nat → Int64} {R : Nat → Nat → Option Nat} {tl : am_H} : am_pLen (.ref 201) (fx V I L R ++ tl) = some (nI 24) := rfl
theorem ql_202 {V : Nat → Nat → Value} {I : Nat → Nat → Int32} {L : Nat → Nat → Int64} {R : Nat → Nat → Option Nat} {tl : am_H} : am_pLen (.ref 202) (fx V I L R ++ tl) = some (nI 24) := rfl
theorem ql_203 {V : Nat → Nat → Value} {I : Nat → Nat → Int32} {L : Nat → Nat → Int64} {R : Nat → Nat → Option Nat} {tl : am_H} : am_pLen (.ref 203) (fx V I L R ++ tl) = some (nI 24) := rfl
theorem ql_204 {V : Nat → Nat → Value} {I : Nat → Nat → Int32} {L : Nat → Nat → Int64} {R : Nat → Nat → Option Nat} {tl : am_H} : am_pLen (.ref 204) (fx V I L R ++ tl) = some (nI 192) := rfl
theorem ql_205 {V : Nat → Nat → Value} {I : Nat → Nat → Int32} {L : Nat → Nat → Int64} {R : Nat → Nat → Option Nat} {tl : am_H} : am_pLen (.ref 205) (fx V I L R ++ tl) = some (nI 8) := rfl
theorem ql_206 {V : Nat → Nat → Value} {I : Nat → Nat → Int32} {L : Nat → Nat → Int64} {R : Nat → Nat → Option Nat} {tl : am_H} : am_pLen (.ref 206) (fx V I L R ++ tl) = some (nI 5) := rfl
theorem ql_207 {V : Nat → Nat → Value} {I : Nat → Nat → Int32} {L : Nat → Nat → Int64} {R : Nat → Nat → Option Nat} {tl : am_H} : am_pLen (.ref 207) (fx V I L R ++ tl) = some (nI 400) := rfl
theorem ql_208 {V : Nat → Nat → Value} {I : Nat → Nat → Int32} {L : Nat → Nat → Int64} {R : Nat → Nat → Option Nat} {tl : am_H} : am_pLen (.ref 208) (fx V I L R ++ tl) = some (nI 400) := rfl
theorem ql_209 {V : Nat → Nat → Value} {I : Nat → Nat → Int32} {L : Nat → Nat → Int64} {R : Nat → Nat → Option Nat} {tl : am_H} : am_pLen (.ref 209) (fx V I L R ++ tl) = some (nI 400) := rfl
theorem ql_210 {V : Nat → Nat → Value} {I : Nat → Nat → Int32} {L : Nat → Nat → Int64} {R : Nat → Nat → Option Nat} {tl : am_H} : am_pLen (.ref 210) (fx V I L R ++ tl) = some (nI 400) := rfl
theorem ql_211 {V : Nat → Nat → Value} {I : Nat → Nat → Int32} {L : Nat → Nat → Int64} {R : Nat → Nat → Option Nat} {tl : am_H} : am_pLen (.ref 211) (fx V I L R ++ tl) = some (nI 130) := rfl
theorem ql_212 {V : Nat → Nat → Value} {I : Nat → Nat → Int32} {L : Nat → Nat → Int64} {R : Nat → Nat → Option Nat} {tl : am_H} : am_pLen (.ref 212) (fx V I L R ++ tl) = some (nI 8) := rfl
theorem ql_213 {V : Nat → Nat → Value} {I : Nat → Nat → Int32} {L : Nat → Nat → Int64} {R : Nat → Nat → Option Nat} {tl : am_H} : am_pLen (.ref 213) (fx V I L R ++ tl) = some (nI 130) := rfl
theorem ql_214 {V : Nat → Nat → Value} {I : Nat → Nat → Int32} {L : Nat → Nat → Int64} {R : Nat → Nat → Option Nat} {tl : am_H} : am_pLen (.ref 214) (fx V I L R ++ tl) = some (nI 130) := rfl
theorem ql_215 {V : Nat → Nat → Value} {I : Nat → Nat → Int32} {L : Nat → Nat → Int64} {R : Nat → Nat → Option Nat} {tl : am_H} : am_pLen (.ref 215) (fx V I L R ++ tl) = some (nI 130) := rfl
theorem ql_216 {V : Nat → Nat → Value} {I : Nat → Nat → Int32} {L : Nat → Nat → Int64} {R : Nat → Nat → Option Nat} {tl : am_H} : am_pLen (.ref 216) (fx V I L R ++ tl) = some (nI 130) := rfl
theorem ql_217 {V : Nat → Nat → Value} {I : Nat → Nat → Int32} {L : Nat → Nat → Int64} {R : Nat → Nat → Option Nat} {tl : am_H} : am_pLen (.ref 217) (fx V I L R ++ tl) = some (nI 400) := rfl
theorem ql_218 {V : Nat → Nat → Value} {I : Nat → Nat → Int32} {L : Nat → Nat → Int64} {R : Nat → Nat → Option Nat} {tl : am_H} : am_pLen (.ref 218) (fx V I L R ++ tl) = some (nI 240) := rfl
theorem ql_219 {V : Nat → Nat → Value} {I : Nat → Nat → Int32} {L : Nat → Nat → Int64} {R : Nat → Nat → Option Nat} {tl : am_H} : am_pLen (.ref 219) (fx V I L R ++ tl) = some (nI 61) := rfl
theorem ql_220 {V : Nat → Nat → Value} {I : Nat → Nat → Int32} {L : Nat → Nat → Int64} {R : Nat → Nat → Option Nat} {tl : am_H} : am_pLen (.ref 220) (fx V I L R ++ tl) = some (nI 64) := rfl
theorem ql_221 {V : Nat → Nat → Value} {I : Nat → Nat → Int32} {L : Nat → Nat → Int64} {R : Nat → Nat → Option Nat} {tl : am_H} : am_pLen (.ref 221) (fx V I L R ++ tl) = some (nI 64) := rfl
theorem ql_222 {V : Nat → Nat → Value} {I : Nat → Nat → Int32} {L : Nat → Nat → Int64} {R : Nat → Nat → Option Nat} {tl : am_H} : am_pLen (.ref 222) (fx V I L R ++ tl) = some (nI 64) := rfl
theorem ql_223 {V : Nat → Nat → Value} {I : Nat → Nat → Int32} {L : Nat → Nat → Int64} {R : Nat → Nat → Option Nat} {tl : am_H} : am_pLen (.ref 223) (fx V I L R ++ tl) = some (nI 800) := rfl
theorem ql_224 {V : Nat → Nat → Value} {I : Nat → Nat → Int32} {L : Nat → Nat → Int64} {R : Nat → Nat → Option Nat} {tl : am_H} : am_pLen (.ref 224) (fx V I L R ++ tl) = some (nI 84) := rfl
theorem ql_225 {V : Nat → Nat → Value} {I : Nat → Nat → Int32} {L : Nat → Nat → Int64} {R : Nat → Nat → Option Nat} {tl : am_H} : am_pLen (.ref 225) (fx V I L R ++ tl) = some (nI 819) := rfl
theorem ql_226 {V : Nat → Nat → Value} {I : Nat → Nat → Int32} {L : Nat → Nat → Int64} {R : Nat → Nat → Option Nat} {tl : am_H} : am_pLen (.ref 226) (fx V I L R ++ tl) = some (nI 6) := rfl
theorem ql_227 {V : Nat → Nat → Value} {I : Nat → Nat → Int32} {L : Nat → Nat → Int64} {R : Nat → Nat → Option Nat} {tl : am_H} : am_pLen (.ref 227) (fx V I L R ++ tl) = some (nI 40) := rfl
theorem ql_228 {V : Nat → Nat → Value} {I : Nat → Nat → Int32} {L : Nat → Nat → Int64} {R : Nat → Nat → Option Nat} {tl : am_H} : am_pLen (.ref 228) (fx V I L R ++ tl) = some (nI 40) := rfl
theorem ql_229 {V : Nat → Nat → Value} {I : Nat → Nat → Int32} {L : Nat → Nat → Int64} {R : Nat → Nat → Option Nat} {tl : am_H} : am_pLen (.ref 229) (fx V I L R ++ tl) = some (nI 40) := rfl
theorem ql_230 {V : Nat → Nat → Value} {I : Nat → Nat → Int32} {L : Nat → Nat → Int64} {R : Nat → Nat → Option Nat} {tl : am_H} : am_pLen (.ref 230) (fx V I L R ++ tl) = some (nI 40) := rfl
theorem ql_231 {V : Nat → Nat → Value} {I : Nat → Nat → Int32} {L : Nat → Nat → Int64} {R : Nat → Nat → Option Nat} {tl : am_H} : am_pLen (.ref 231) (fx V I L R ++ tl) = some (nI 13) := rfl
theorem ql_232 {V : Nat → Nat → Value} {I : Nat → Nat → Int32} {L : Nat → Nat → Int64} {R : Nat → Nat → Option Nat} {tl : am_H} : am_pLen (.ref 232) (fx V I L R ++ tl) = some (nI 13) := rfl
theorem ql_233 {V : Nat → Nat → Value} {I : Nat → Nat → Int32} {L : Nat → Nat → Int64} {R : Nat → Nat → Option Nat} {tl : am_H} : am_pLen (.ref 233) (fx V I L R ++ tl) = some (nI 4) := rfl
theorem ql_234 {V : Nat → Nat → Value} {I : Nat → Nat → Int32} {L : Nat → Nat → Int64} {R : Nat → Nat → Option Nat} {tl : am_H} : am_pLen (.ref 234) (fx V I L R ++ tl) = some (nI 64) := rfl
theorem ql_235 {V : Nat → Nat → Value} {I : Nat → Nat → Int32} {L : Nat → Nat → Int64} {R : Nat → Nat → Option Nat} {tl : am_H} : am_pLen (.ref 235) (fx V I L R ++ tl) = some (nI 4) := rfl
theorem ql_236 {V : Nat → Nat → Value} {I : Nat → Nat → Int32} {L : Nat → Nat → Int64} {R : Nat → Nat → Option Nat} {tl : am_H} : am_pLen (.ref 236) (fx V I L R ++ tl) = some (nI 16) := rfl
theorem ql_237 {V : Nat → Nat → Value} {I : Nat → Nat → Int32} {L : Nat → Nat → Int64} {R : Nat → Nat → Option Nat} {tl : am_H} : am_pLen (.ref 237) (fx V I L R ++ tl) = some (nI 16) := rfl
theorem ql_238 {V : Nat → Nat → Value} {I : Nat → Nat → Int32} {L : Nat → Nat → Int64} {R : Nat → Nat → Option Nat} {tl : am_H} : am_pLen (.ref 238) (fx V I L R ++ tl) = some (nI 16) := rfl
theorem ql_239 {V : Nat → Nat → Value} {I : Nat → Nat → Int32} {L : Nat → Nat → Int64} {R : Nat → Nat → Option Nat} {tl : am_H} : am_pLen (.ref 239) (fx V I L R ++ tl) = some (nI 16) := rfl
theorem ql_240 {V : Nat → Nat → Value} {I : Nat → Nat → Int32} {L : Nat → Nat → Int64} {R : Nat → Nat → Option Nat} {tl : am_H} : am_pLen (.ref 240) (fx V I L R ++ tl) = some (nI 384) := rfl
theorem ql_241 {V : Nat → Nat → Value} {I : Nat → Nat → Int32} {L : Nat → Nat → Int64} {R : Nat → Nat → Option Nat} {tl : am_H} : am_pLen (.ref 241) (fx V I L R ++ tl) = some (nI 24) := rfl
theorem ql_242 {V : Nat → Nat → Value} {I : Nat → Nat → Int32} {L : Nat → Nat → Int64} {R : Nat → Nat → Option Nat} {tl : am_H} : am_pLen (.ref 242) (fx V I L R ++ tl) = some (nI 16) := rfl
theorem ql_243 {V : Nat → Nat → Value} {I : Nat → Nat → Int32} {L : Nat → Nat → Int64} {R : Nat → Nat → Option Nat} {tl : am_H} : am_pLen (.ref 243) (fx V I L R ++ tl) = some (nI 16) := rfl
theorem ql_244 {V : Nat → Nat → Value} {I : Nat → Nat → Int32} {L : Nat → Nat → Int64} {R : Nat → Nat → Option Nat} {tl : am_H} : am_pLen (.ref 244) (fx V I L R ++ tl) = some (nI 16) := rfl
theorem ql_245 {V : Nat → Nat → Value} {I : Nat → Nat → Int32} {L : Nat → Nat → Int64} {R : Nat → Nat → Option Nat} {tl : am_H} : am_pLen (.ref 245) (fx V I L R ++ tl) = some (nI 3) := rfl
theorem ql_246 {V : Nat → Nat → Value} {I : Nat → Nat → Int32} {L : Nat → Nat → Int64} {R : Nat → Nat → Option Nat} {tl : am_H} : am_pLen (.ref 246) (fx V I L R ++ tl) = some (nI 600) := rfl
theorem ql_247 {V : Nat → Nat → Value} {I : Nat → Nat → Int32} {L : Nat → Nat → Int64} {R : Nat → Nat → Option Nat} {tl : am_H} : am_pLen (.ref 247) (fx V I L R ++ tl) = some (nI 600) := rfl
theorem ql_248 {V : Nat → Nat → Value} {I : Nat → Nat → Int32} {L : Nat → Nat → Int64} {R : Nat → Nat → Option Nat} {tl : am_H} : am_pLen (.ref 248) (fx V I L R ++ tl) = some (nI 400) := rfl
theorem ql_249 {V : Nat → Nat → Value} {I : Nat → Nat → Int32} {L : Nat → Nat → Int64} {R : Nat → Nat → Option Nat} {tl : am_H} : am_pLen (.ref 249) (fx V I L R ++ tl) = some (nI 400) := rfl
theorem ql_250 {V : Nat → Nat → Value} {I : Nat → Nat → Int32} {L : Nat → Nat → Int64} {R : Nat → Nat → Option Nat} {tl : am_H} : am_pLen (.ref 250) (fx V I L R ++ tl) = some (nI 1152) := rfl
theorem ql_251 {V : Nat → Nat → Value} {I : Nat → Nat → Int32} {L : Nat → Nat → Int64} {R : Nat → Nat → Option Nat} {tl : am_H} : am_pLen (.ref 251) (fx V I L R ++ tl) = some (nI 1152) := rfl
theorem ql_252 {V : Nat → Nat → Value} {I : Nat → Nat → Int32} {L : Nat → Nat → Int64} {R : Nat → Nat → Option Nat} {tl : am_H} : am_pLen (.ref 252) (fx V I L R ++ tl) = some (nI 9) := rfl
theorem ql_253 {V : Nat → Nat → Value} {I : Nat → Nat → Int32} {L : Nat → Nat → Int64} {R : Nat → Nat → Option Nat} {tl : am_H} : am_pLen (.ref 253) (fx V I L R ++ tl) = some (nI 61) := rfl
theorem ql_254 {V : Nat → Nat → Value} {I : Nat → Nat → Int32} {L : Nat → Nat → Int64} {R : Nat → Nat → Option Nat} {tl : am_H} : am_pLen (.ref 254) (fx V I L R ++ tl) = some (nI 15) := rfl
theorem ql_255 {V : Nat → Nat → Value} {I : Nat → Nat → Int32} {L : Nat → Nat → Int64} {R : Nat → Nat → Option Nat} {tl : am_H} : am_pLen (.ref 255) (fx V I L R ++ tl) = some (nI 36) := rfl
theorem ql_256 {V : Nat → Nat → Value} {I : Nat → Nat → Int32} {L : Nat → Nat → Int64} {R : Nat → Nat → Option Nat} {tl : am_H} : am_pLen (.ref 256) (fx V I L R ++ tl) = some (nI 36) := rfl
theorem ql_257 {V : Nat → Nat → Value} {I : Nat → Nat → Int32} {L : Nat → Nat → Int64} {R : Nat → Nat → Option Nat} {tl : am_H} : am_pLen (.ref 257) (fx V I L R ++ tl) = some (nI 36) := rfl
theorem ql_258 {V : Nat → Nat → Value} {I : Nat → Nat → Int32} {L : Nat → Nat → Int64} {R : Nat → Nat → Option Nat} {tl : am_H} : am_pLen (.ref 258) (fx V I L R ++ tl) = some (nI 36) := rfl
theorem ql_259 {V : Nat → Nat → Value} {I : Nat → Nat → Int32} {L : Nat → Nat → Int64} {R : Nat → Nat → Option Nat} {tl : am_H} : am_pLen (.ref 259) (fx V I L R ++ tl) = some (nI 40) := rfl
theorem ql_260 {V : Nat → Nat → Value} {I : Nat → Nat → Int32} {L : Nat → Nat → Int64} {R : Nat → Nat → Option Nat} {tl : am_H} : am_pLen (.ref 260) (fx V I L R ++ tl) = some (nI 60) := rfl
theorem ql_261 {V : Nat → Nat → Value} {I : Nat → Nat → Int32} {L : Nat → Nat → Int64} {R : Nat → Nat → Option Nat} {tl : am_H} : am_pLen (.ref 261) (fx V I L R ++ tl) = some (nI 60) := rfl
theorem ql_262 {V : Nat → Nat → Value} {I : Nat → Nat → Int32} {L : Nat → Nat → Int64} {R : Nat → Nat → Option Nat} {tl : am_H} : am_pLen (.ref 262) (fx V I L R ++ tl) = some (nI 6) := rfl
theorem ql_263 {V : Nat → Nat → Value} {I : Nat → Nat → Int32} {L : Nat → Nat → Int64} {R : Nat → Nat → Option Nat} {tl : am_H} : am_pLen (.ref 263) (fx V I L R ++ tl) = some (nI 6) := rfl
theorem ql_264 {V : Nat → Nat → Value} {I : Nat → Nat → Int32} {L : Nat → Nat → Int64} {R : Nat → Nat → Option Nat} {tl : am_H} : am_pLen (.ref 264) (fx V I L R ++ tl) = some (nI 6) := rfl
theorem ql_265 {V : Nat → Nat → Value} {I : Nat → Nat → Int32} {L : Nat → Nat → Int64} {R : Nat → Nat → Option Nat} {tl : am_H} : am_pLen (.ref 265) (fx V I L R ++ tl) = some (nI 6) := rfl
theorem ql_266 {V : Nat → Nat → Value} {I : Nat → Nat → Int32} {L : Nat → Nat → Int64} {R : Nat → Nat → Option Nat} {tl : am_H} : am_pLen (.ref 266) (fx V I L R ++ tl) = some (nI 40) := rfl
theorem ql_267 {V : Nat → Nat → Value} {I : Nat → Nat → Int32} {L : Nat → Nat → Int64} {R : Nat → Nat → Option Nat} {tl : am_H} : am_pLen (.ref 267) (fx V I L R ++ tl) = some (nI 8) := rfl
theorem ql_268 {V : Nat → Nat → Value} {I : Nat → Nat → Int32} {L : Nat → Nat → Int64} {R : Nat → Nat → Option Nat} {tl : am_H} : am_pLen (.ref 268) (fx V I L R ++ tl) = some (nI 1) := rfl
/-- a row of numbers that holds a tree, as the class lays it -/
def tO (F : Nat → Int32) (Q : xT) : Prop := ∀ k x, Q[k]? = some x → F (k * 2) = nI x.1 ∧ F (k * 2 + 1) = x.2
theorem tO_nil {F : Nat → Int32} : tO F [] := fun k x h => absurd h (by simp)
theorem tO_take {F f : Nat → Int32} {Q P : xT} {i j : Nat} (hF : tO F Q) (hf : tO f P) (hij : i ≤ j) (hj : j ≤ P.length) : tO (va_cpy f F (i * 2) (Q.length * 2) ((j - i) * 2)) (Q ++ seg P i j) := by
  intro k x h
  by_cases c : k < Q.length
  · rw [List.getElem?_append_left c] at h
    unfold va_cpy
    rw [if_neg (by omega), if_neg (by omega)]
    exact hF k x h
  · rw [List.getElem?_append_right (by omega)] at h
    unfold seg at h
    rw [List.getElem?_take] at h
    by_cases d : k - Q.length < j - i
    · rw [if_pos d, List.getElem?_drop] at h
      obtain ⟨a, b⟩ := hf _ x h
      unfold va_cpy
      rw [if_pos (by omega), if_pos (by omega), show i * 2 + (k * 2 - Q.length * 2) = (i + (k - Q.length)) * 2 by omega, show i * 2 + (k * 2 + 1 - Q.length * 2) = (i + (k - Q.length)) * 2 + 1 by omega]
      exact ⟨a, b⟩
    · rw [if_neg d] at h
      exact absurd h (by simp)
theorem tO_app {F : Nat → Int32} {Q : xT} {a : Nat} {b : Int32} (hF : tO F Q) : tO (upd (upd F (2 * Q.length) (nI a)) (2 * Q.length + 1) b) (Q ++ [(a, b)]) := by
  intro k x h
  by_cases c : k < Q.length
  · rw [List.getElem?_append_left c] at h
    rw [upd_ne (by omega), upd_ne (by omega), upd_ne (by omega), upd_ne (by omega)]
    exact hF k x h
  · rw [List.getElem?_append_right (by omega)] at h
    by_cases d : k = Q.length
    · subst d
      rw [Nat.sub_self, List.getElem?_cons_zero] at h
      have e := Option.some.inj h
      subst e
      rw [show Q.length * 2 = 2 * Q.length by omega, upd_ne (by omega), upd_eq, upd_eq]
      exact ⟨rfl, rfl⟩
    · rw [show k - Q.length = (k - Q.length - 1) + 1 by omega, List.getElem?_cons_succ] at h
      exact absurd h (by simp)
theorem tO_cpy {f g : Nat → Int32} {P : xT} (hf : tO f P) : tO (va_cpy f g 0 0 (P.length * 2)) P := by
  intro k x h
  have hk : k < P.length := (List.getElem?_eq_some_iff.mp h).1
  rw [cpy0 (by omega), cpy0 (by omega)]
  exact hf k x h
/-- a program's cell holds a list of items of two numbers each -/
def hold (V : Nat → Nat → Value) (I : Nat → Nat → Int32) (C kd ln : Nat) (Q : xT) : Prop := V C 1 = .int (nI kd) ∧ V C 2 = .int (nI ln) ∧ V C 3 = .int (nI Q.length) ∧ V C 4 = .int (nI 2) ∧ tO (I (C + 1)) Q
set_option maxRecDepth 100000 in
set_option maxHeartbeats 4000000 in
theorem p34_90 {V : Nat → Nat → Value} {I : Nat → Nat → Int32} {L : Nat → Nat → Int64} {R : Nat → Nat → Option Nat} {tl : am_H} (k l : Int32) : fm_34 (.ref 90) k l (fx V I L R ++ tl) = some (.inl (none, fx (vup (vup (vup (vup V 90 1 (.int k)) 90 2 (.int l)) 90 3 (.int 0)) 90 4 (.int (if k = 2 then 5 else 2))) I L R ++ tl)) := by
  unfold fm_34 fg_34_0
  refine ev_b (a := fx (vup V 90 1 (.int k)) I L R ++ tl) (ev_p rfl rfl rfl rfl) ?_
  refine ev_b (a := fx (vup (vup V 90 1 (.int k)) 90 2 (.int l)) I L R ++ tl) (ev_p rfl rfl rfl rfl) ?_
  refine ev_b (a := fx (vup (vup (vup V 90 1 (.int k)) 90 2 (.int l)) 90 3 (.int 0)) I L R ++ tl) (ev_p rfl rfl rfl rfl) ?_
  by_cases c : k = 2
  · rw [if_pos c]
    refine ev_f (fun e => e c) ?_
    unfold fg_34_26
    exact ev_b (ev_p rfl rfl rfl rfl) rfl
  · rw [if_neg c]
    refine ev_t c ?_
    unfold fg_34_26
    exact ev_b (ev_p rfl rfl rfl rfl) rfl
set_option maxRecDepth 100000 in
set_option maxHeartbeats 4000000 in
theorem p41_90 {V : Nat → Nat → Value} {I : Nat → Nat → Int32} {L : Nat → Nat → Int64} {R : Nat → Nat → Option Nat} {tl : am_H} {N s : Nat} (hN : 1 ≤ N) (h3 : V 90 3 = .int (nI s)) (h4 : V 90 4 = .int 2) (hs : 2 * s + 2 ≤ 120) (a b : Int32) : fm_41 N (.ref 90) a b (fx V I L R ++ tl) = some (.inl (some (.int 1), fx (vup V 90 3 (.int (nI (s + 1)))) (iup I 91 (upd (upd (I 91) (2 * s) a) (2 * s + 1) b)) L R ++ tl)) := by
  obtain ⟨N, rfl⟩ : ∃ k, N = k + 1 := ⟨N - 1, by omega⟩
  have g3 : ∀ {I : Nat → Nat → Int32}, am_vI (am_pG 771 (.ref 90) (fx V I L R ++ tl)) = some (nI s) := fun {I} => by show am_vI (some (V 90 3)) = _; rw [h3]; rfl
  have g4 : ∀ {I : Nat → Nat → Int32}, am_vI (am_pG 772 (.ref 90) (fx V I L R ++ tl)) = some 2 := fun {I} => by show am_vI (some (V 90 4)) = _; rw [h4]; rfl
  unfold fm_41 fg_41_0
  refine ev_b g3 ?_
  refine ev_b g4 ?_
  refine ev_b g4 ?_
  refine ev_b (a := .ref 91) rfl ?_
  refine ev_b (a := nI 120) rfl ?_
  rw [show nI s * 2 = nI (2 * s) by rw [Nat.mul_comm, nI_mul]; rfl]
  refine ev_t (by rw [show (2 : Int32) = nI 2 from rfl, nI_add]; exact nI_le hs (by omega)) ?_
  rw [fg_41_29]
  refine ev_b g4 ?_
  refine ev_t (by decide) ?_
  refine ev_b (a := .ref 91) rfl ?_
  refine ev_b (ev_s (f := I 91) (n := 120) (h1 := fx V (iup I 91 (upd (I 91) (2 * s) a)) L R ++ tl) rfl (am_inb_n (by omega) (by omega)) rfl (by rw [nI_clamp (by omega)]; rfl)) ?_
  refine ev_b (a := .ref 91) rfl ?_
  rw [nI_1]
  refine ev_b (ev_s (f := upd (I 91) (2 * s) a) (n := 120) (h1 := fx V (iup I 91 (upd (upd (I 91) (2 * s) a) (2 * s + 1) b)) L R ++ tl) rfl (am_inb_n (by omega) (by omega)) rfl (by rw [nI_clamp (by omega)]; rfl)) ?_
  refine ev_b g3 ?_
  rw [nI_1]
  exact ev_b (ev_p rfl rfl rfl rfl) rfl
set_option maxRecDepth 100000 in
set_option maxHeartbeats 1600000 in
/-- take(): items of a program, onto the spare one -/
theorem p170_90 {V : Nat → Nat → Value} {I : Nat → Nat → Int32} {L : Nat → Nat → Int64} {R : Nat → Nat → Option Nat} {tl : am_H} {A it m i j cnt wd sz : Nat} {kd ln x1 x2 x3 x4 x5 : Int32} {x6 : Int64} {f : Nat → Int32} (p1 : (fx V I L R ++ tl)[A]? = some (.inr (3, [.ref it, .int kd, .int ln, .int (nI sz), .int (nI wd), .int x1, .int x2, .int x3, .int x4, .int x5, .long x6]))) (p2 : (fx V I L R ++ tl)[it]? = some (.inl (0, m, .inl f))) (h3 : V 90 3 = .int (nI cnt)) (h4 : V 90 4 = .int (nI wd)) (hij : i ≤ j) (hj : j ≤ sz) (hsz : sz ≤ 60) (hw : wd ≤ 5) (hm : sz * wd ≤ m) (hm2 : m ≤ 1000) (hc : (cnt + (j - i)) * wd ≤ 120) (hcn : cnt ≤ 120) : fm_170 (.ref 90) (.ref A) (nI i) (nI j) (fx V I L R ++ tl) = some (.inl (some (.int 1), fx (vup V 90 3 (.int (nI (cnt + (j - i))))) (iup I 91 (va_cpy f (I 91) (i * wd) (cnt * wd) ((j - i) * wd))) L R ++ tl)) := by
  have hq : (fx V I L R ++ tl)[90]? = some (.inr (3, [.ref 91, V 90 1, V 90 2, V 90 3, V 90 4, V 90 5, V 90 6, V 90 7, V 90 8, V 90 9, V 90 10])) := rfl
  have g3 : am_vI (am_pG 771 (.ref 90) (fx V I L R ++ tl)) = some (nI cnt) := ev_gI hq rfl (by show some (V 90 3) = _; rw [h3])
  have g4 : am_vI (am_pG 772 (.ref 90) (fx V I L R ++ tl)) = some (nI wd) := ev_gI hq rfl (by show some (V 90 4) = _; rw [h4])
  have a1 : i * wd + (j - i) * wd = j * wd := by rw [← Nat.add_mul, show i + (j - i) = j by omega]
  have a2 : cnt * wd + (j - i) * wd = (cnt + (j - i)) * wd := (Nat.add_mul ..).symm
  have a3 : j * wd ≤ sz * wd := Nat.mul_le_mul_right _ hj
  unfold fm_170 fg_170_0
  refine ev_b (ev_gI p1 rfl rfl) (ev_b g4 (ev_f (fun e => e rfl) (ev_f (nI_pos (by omega)) ?_)))
  rw [nI_sub hij]
  refine ev_f (nI_pos (by omega)) (ev_b (ev_gI p1 rfl rfl) (ev_f (nI_nlt hj (by omega)) (ev_b g3 (ev_b g4 (ev_b (a := Value.ref 91) rfl (ev_b (a := nI 120) rfl ?_))))))
  rw [nI_add, ← nI_mul]
  refine ev_t (nI_le (b := 120) hc (by omega)) (ev_b (ev_gR p1 rfl rfl rfl) (ev_b g4 (ev_b (a := Value.ref 91) rfl (ev_b g3 (ev_b g4 (ev_b g4 ?_))))))
  rw [← nI_mul, ← nI_mul, ← nI_mul]
  refine ev_b (ev_cpy (f := f) (g := I 91) (n0 := m) (n1 := 120) (sp := i * wd) (dp := cnt * wd) (n := (j - i) * wd) (h1 := fx V (iup I 91 (va_cpy f (I 91) (i * wd) (cnt * wd) ((j - i) * wd))) L R ++ tl) p2 rfl (by omega) (by omega) (by omega) (by omega) rfl) ?_
  refine ev_b (a := nI cnt) (ev_gI (fs := [.ref 91, V 90 1, V 90 2, V 90 3, V 90 4, V 90 5, V 90 6, V 90 7, V 90 8, V 90 9, V 90 10]) (c := 3) rfl rfl (by show some (V 90 3) = _; rw [h3])) ?_
  rw [nI_add]
  exact ev_b qp_90_3 rfl
theorem prF_90 {V : Nat → Nat → Value} {I : Nat → Nat → Int32} {L : Nat → Nat → Int64} {R : Nat → Nat → Option Nat} {tl : am_H} {kd ln sz : Nat} (w : wt V) (h1 : V 90 1 = .int (nI kd)) (h2 : V 90 2 = .int (nI ln)) (h3 : V 90 3 = .int (nI sz)) (h4 : V 90 4 = .int (nI (wdN kd))) : prA V I tl 90 91 kd ln sz 120 (I 91) := by
  intro W J L R hw hj
  obtain ⟨x5, e5⟩ := w.1 90 5 (by decide)
  obtain ⟨x6, e6⟩ := w.1 90 6 (by decide)
  obtain ⟨x7, e7⟩ := w.1 90 7 (by decide)
  obtain ⟨x8, e8⟩ := w.1 90 8 (by decide)
  obtain ⟨x9, e9⟩ := w.1 90 9 (by decide)
  obtain ⟨x10, e10⟩ := w.2 90 10 (by decide)
  refine ⟨x5, x6, x7, x8, x9, x10, ?_, ?_⟩
  · show some (Sum.inr (3, [.ref 91, W 90 1, W 90 2, W 90 3, W 90 4, W 90 5, W 90 6, W 90 7, W 90 8, W 90 9, W 90 10])) = _
    rw [hw, hw, hw, hw, hw, hw, hw, hw, hw, hw, h1, h2, h3, h4, e5, e6, e7, e8, e9, e10]
  · show some (Sum.inl (0, 120, Sum.inl (J 91))) = _
    rw [hj]
set_option maxRecDepth 100000 in
set_option maxHeartbeats 4000000 in
theorem p60_90 {V : Nat → Nat → Value} {I : Nat → Nat → Int32} {L : Nat → Nat → Int64} {R : Nat → Nat → Option Nat} {tl : am_H} {A it kd ln sz m : Nat} {f : Nat → Int32} (hp : prA V I tl A it kd ln sz m f) (hA : A ≠ 90) (hk : kd ≤ 3) (hm : sz * wdN kd ≤ m) (hm2 : m ≤ 1000) (hs : sz * wdN kd ≤ 120) (hz : sz ≤ 120) : fm_60 (.ref 90) (.ref A) (fx V I L R ++ tl) = some (.inl (none, fx (vup (vup (vup (vup (vup V 90 1 (.int (nI kd))) 90 2 (.int (nI ln))) 90 3 (.int 0)) 90 4 (.int (if nI kd = 2 then 5 else 2))) 90 3 (.int (nI sz))) (iup I 91 (va_cpy f (I 91) 0 0 (sz * wdN kd))) L R ++ tl)) := by
  obtain ⟨x1, x2, x3, x4, x5, x6, p1, p2⟩ := hp V I L R (fun _ => rfl) rfl
  have ew : (if nI kd = 2 then (5 : Int32) else 2) = nI (wdN kd) := by
    unfold wdN
    by_cases c : kd = 2
    · rw [if_pos c, if_pos (show nI kd = 2 by rw [c]; rfl)]
      rfl
    · rw [if_neg c, if_neg (show ¬ nI kd = 2 from fun e => c ((nI_eq (b := 2) (by omega) (by omega)).mp e))]
      rfl
  have ne : ∀ {X : Value} {j : Nat} {W : Nat → Nat → Value} (i : Nat), vup W 90 j X A i = W A i := fun i => vup_o (fun e => hA e.1)
  obtain ⟨y1, y2, y3, y4, y5, y6, q1, q2⟩ := hp (vup (vup (vup (vup V 90 1 (.int (nI kd))) 90 2 (.int (nI ln))) 90 3 (.int 0)) 90 4 (.int (if nI kd = 2 then 5 else 2))) I L R (fun i => by rw [ne, ne, ne, ne]) rfl
  obtain ⟨z1, z2, z3, z4, z5, z6, r1, r2⟩ := hp (vup (vup (vup (vup (vup V 90 1 (.int (nI kd))) 90 2 (.int (nI ln))) 90 3 (.int 0)) 90 4 (.int (if nI kd = 2 then 5 else 2))) 90 3 (.int (nI sz))) I L R (fun i => by rw [ne, ne, ne, ne, ne]) rfl
  unfold fm_60 fg_60_0
  refine ev_b (ev_gI p1 rfl rfl) (ev_b (ev_gI p1 rfl rfl) (ev_i rfl (ev_cV (p34_90 (nI kd) (nI ln)) ?_)))
  refine ev_b (ev_gI q1 rfl rfl) (ev_b (a := if nI kd = 2 then 5 else 2) rfl (ev_b (a := Value.ref 91) rfl (ev_b (a := nI 120) rfl ?_)))
  rw [show nI sz * (if nI kd = 2 then (5 : Int32) else 2) = nI (sz * wdN kd) by rw [ew, nI_mul]]
  refine ev_f (nI_nlt (a := 120) hs (by omega)) (ev_b (ev_gI q1 rfl rfl) (ev_b qp_90_3 (ev_b (ev_gR r1 rfl rfl rfl) (ev_b (a := Value.ref 91) rfl (ev_b (a := nI sz) rfl (ev_b (a := if nI kd = 2 then 5 else 2) rfl ?_))))))
  rw [show nI sz * (if nI kd = 2 then (5 : Int32) else 2) = nI (sz * wdN kd) by rw [ew, nI_mul]]
  refine ev_b (ev_cpy (f := f) (g := I 91) (n0 := m) (n1 := 120) (sp := 0) (dp := 0) (n := sz * wdN kd) r2 rfl (by omega) (by omega) (by omega) (by omega) rfl) rfl
set_option maxRecDepth 100000 in
set_option maxHeartbeats 4000000 in
theorem p34_92 {V : Nat → Nat → Value} {I : Nat → Nat → Int32} {L : Nat → Nat → Int64} {R : Nat → Nat → Option Nat} {tl : am_H} (k l : Int32) : fm_34 (.ref 92) k l (fx V I L R ++ tl) = some (.inl (none, fx (vup (vup (vup (vup V 92 1 (.int k)) 92 2 (.int l)) 92 3 (.int 0)) 92 4 (.int (if k = 2 then 5 else 2))) I L R ++ tl)) := by
  unfold fm_34 fg_34_0
  refine ev_b (a := fx (vup V 92 1 (.int k)) I L R ++ tl) (ev_p rfl rfl rfl rfl) ?_
  refine ev_b (a := fx (vup (vup V 92 1 (.int k)) 92 2 (.int l)) I L R ++ tl) (ev_p rfl rfl rfl rfl) ?_
  refine ev_b (a := fx (vup (vup (vup V 92 1 (.int k)) 92 2 (.int l)) 92 3 (.int 0)) I L R ++ tl) (ev_p rfl rfl rfl rfl) ?_
  by_cases c : k = 2
  · rw [if_pos c]
    refine ev_f (fun e => e c) ?_
    unfold fg_34_26
    exact ev_b (ev_p rfl rfl rfl rfl) rfl
  · rw [if_neg c]
    refine ev_t c ?_
    unfold fg_34_26
    exact ev_b (ev_p rfl rfl rfl rfl) rfl
set_option maxRecDepth 100000 in
set_option maxHeartbeats 4000000 in
theorem p41_92 {V : Nat → Nat → Value} {I : Nat → Nat → Int32} {L : Nat → Nat → Int64} {R : Nat → Nat → Option Nat} {tl : am_H} {N s : Nat} (hN : 1 ≤ N) (h3 : V 92 3 = .int (nI s)) (h4 : V 92 4 = .int 2) (hs : 2 * s + 2 ≤ 120) (a b : Int32) : fm_41 N (.ref 92) a b (fx V I L R ++ tl) = some (.inl (some (.int 1), fx (vup V 92 3 (.int (nI (s + 1)))) (iup I 93 (upd (upd (I 93) (2 * s) a) (2 * s + 1) b)) L R ++ tl)) := by
  obtain ⟨N, rfl⟩ : ∃ k, N = k + 1 := ⟨N - 1, by omega⟩
  have g3 : ∀ {I : Nat → Nat → Int32}, am_vI (am_pG 771 (.ref 92) (fx V I L R ++ tl)) = some (nI s) := fun {I} => by show am_vI (some (V 92 3)) = _; rw [h3]; rfl
  have g4 : ∀ {I : Nat → Nat → Int32}, am_vI (am_pG 772 (.ref 92) (fx V I L R ++ tl)) = some 2 := fun {I} => by show am_vI (some (V 92 4)) = _; rw [h4]; rfl
  unfold fm_41 fg_41_0
  refine ev_b g3 ?_
  refine ev_b g4 ?_
  refine ev_b g4 ?_
  refine ev_b (a := .ref 93) rfl ?_
  refine ev_b (a := nI 120) rfl ?_
  rw [show nI s * 2 = nI (2 * s) by rw [Nat.mul_comm, nI_mul]; rfl]
  refine ev_t (by rw [show (2 : Int32) = nI 2 from rfl, nI_add]; exact nI_le hs (by omega)) ?_
  rw [fg_41_29]
  refine ev_b g4 ?_
  refine ev_t (by decide) ?_
  refine ev_b (a := .ref 93) rfl ?_
  refine ev_b (ev_s (f := I 93) (n := 120) (h1 := fx V (iup I 93 (upd (I 93) (2 * s) a)) L R ++ tl) rfl (am_inb_n (by omega) (by omega)) rfl (by rw [nI_clamp (by omega)]; rfl)) ?_
  refine ev_b (a := .ref 93) rfl ?_
  rw [nI_1]
  refine ev_b (ev_s (f := upd (I 93) (2 * s) a) (n := 120) (h1 := fx V (iup I 93 (upd (upd (I 93) (2 * s) a) (2 * s + 1) b)) L R ++ tl) rfl (am_inb_n (by omega) (by omega)) rfl (by rw [nI_clamp (by omega)]; rfl)) ?_
  refine ev_b g3 ?_
  rw [nI_1]
  exact ev_b (ev_p rfl rfl rfl rfl) rfl
set_option maxRecDepth 100000 in
set_option maxHeartbeats 1600000 in
/-- take(): items of a program, onto the spare one -/
theorem p170_92 {V : Nat → Nat → Value} {I : Nat → Nat → Int32} {L : Nat → Nat → Int64} {R : Nat → Nat → Option Nat} {tl : am_H} {A it m i j cnt wd sz : Nat} {kd ln x1 x2 x3 x4 x5 : Int32} {x6 : Int64} {f : Nat → Int32} (p1 : (fx V I L R ++ tl)[A]? = some (.inr (3, [.ref it, .int kd, .int ln, .int (nI sz), .int (nI wd), .int x1, .int x2, .int x3, .int x4, .int x5, .long x6]))) (p2 : (fx V I L R ++ tl)[it]? = some (.inl (0, m, .inl f))) (h3 : V 92 3 = .int (nI cnt)) (h4 : V 92 4 = .int (nI wd)) (hij : i ≤ j) (hj : j ≤ sz) (hsz : sz ≤ 60) (hw : wd ≤ 5) (hm : sz * wd ≤ m) (hm2 : m ≤ 1000) (hc : (cnt + (j - i)) * wd ≤ 120) (hcn : cnt ≤ 120) : fm_170 (.ref 92) (.ref A) (nI i) (nI j) (fx V I L R ++ tl) = some (.inl (some (.int 1), fx (vup V 92 3 (.int (nI (cnt + (j - i))))) (iup I 93 (va_cpy f (I 93) (i * wd) (cnt * wd) ((j - i) * wd))) L R ++ tl)) := by
  have hq : (fx V I L R ++ tl)[92]? = some (.inr (3, [.ref 93, V 92 1, V 92 2, V 92 3, V 92 4, V 92 5, V 92 6, V 92 7, V 92 8, V 92 9, V 92 10])) := rfl
  have g3 : am_vI (am_pG 771 (.ref 92) (fx V I L R ++ tl)) = some (nI cnt) := ev_gI hq rfl (by show some (V 92 3) = _; rw [h3])
  have g4 : am_vI (am_pG 772 (.ref 92) (fx V I L R ++ tl)) = some (nI wd) := ev_gI hq rfl (by show some (V 92 4) = _; rw [h4])
  have a1 : i * wd + (j - i) * wd = j * wd := by rw [← Nat.add_mul, show i + (j - i) = j by omega]
  have a2 : cnt * wd + (j - i) * wd = (cnt + (j - i)) * wd := (Nat.add_mul ..).symm
  have a3 : j * wd ≤ sz * wd := Nat.mul_le_mul_right _ hj
  unfold fm_170 fg_170_0
  refine ev_b (ev_gI p1 rfl rfl) (ev_b g4 (ev_f (fun e => e rfl) (ev_f (nI_pos (by omega)) ?_)))
  rw [nI_sub hij]
  refine ev_f (nI_pos (by omega)) (ev_b (ev_gI p1 rfl rfl) (ev_f (nI_nlt hj (by omega)) (ev_b g3 (ev_b g4 (ev_b (a := Value.ref 93) rfl (ev_b (a := nI 120) rfl ?_))))))
  rw [nI_add, ← nI_mul]
  refine ev_t (nI_le (b := 120) hc (by omega)) (ev_b (ev_gR p1 rfl rfl rfl) (ev_b g4 (ev_b (a := Value.ref 93) rfl (ev_b g3 (ev_b g4 (ev_b g4 ?_))))))
  rw [← nI_mul, ← nI_mul, ← nI_mul]
  refine ev_b (ev_cpy (f := f) (g := I 93) (n0 := m) (n1 := 120) (sp := i * wd) (dp := cnt * wd) (n := (j - i) * wd) (h1 := fx V (iup I 93 (va_cpy f (I 93) (i * wd) (cnt * wd) ((j - i) * wd))) L R ++ tl) p2 rfl (by omega) (by omega) (by omega) (by omega) rfl) ?_
  refine ev_b (a := nI cnt) (ev_gI (fs := [.ref 93, V 92 1, V 92 2, V 92 3, V 92 4, V 92 5, V 92 6, V 92 7, V 92 8, V 92 9, V 92 10]) (c := 3) rfl rfl (by show some (V 92 3) = _; rw [h3])) ?_
  rw [nI_add]
  exact ev_b qp_92_3 rfl
theorem prF_92 {V : Nat → Nat → Value} {I : Nat → Nat → Int32} {L : Nat → Nat → Int64} {R : Nat → Nat → Option Nat} {tl : am_H} {kd ln sz : Nat} (w : wt V) (h1 : V 92 1 = .int (nI kd)) (h2 : V 92 2 = .int (nI ln)) (h3 : V 92 3 = .int (nI sz)) (h4 : V 92 4 = .int (nI (wdN kd))) : prA V I tl 92 93 kd ln sz 120 (I 93) := by
  intro W J L R hw hj
  obtain ⟨x5, e5⟩ := w.1 92 5 (by decide)
  obtain ⟨x6, e6⟩ := w.1 92 6 (by decide)
  obtain ⟨x7, e7⟩ := w.1 92 7 (by decide)
  obtain ⟨x8, e8⟩ := w.1 92 8 (by decide)
  obtain ⟨x9, e9⟩ := w.1 92 9 (by decide)
  obtain ⟨x10, e10⟩ := w.2 92 10 (by decide)
  refine ⟨x5, x6, x7, x8, x9, x10, ?_, ?_⟩
  · show some (Sum.inr (3, [.ref 93, W 92 1, W 92 2, W 92 3, W 92 4, W 92 5, W 92 6, W 92 7, W 92 8, W 92 9, W 92 10])) = _
    rw [hw, hw, hw, hw, hw, hw, hw, hw, hw, hw, h1, h2, h3, h4, e5, e6, e7, e8, e9, e10]
  · show some (Sum.inl (0, 120, Sum.inl (J 93))) = _
    rw [hj]
set_option maxRecDepth 100000 in
set_option maxHeartbeats 4000000 in
theorem p60_92 {V : Nat → Nat → Value} {I : Nat → Nat → Int32} {L : Nat → Nat → Int64} {R : Nat → Nat → Option Nat} {tl : am_H} {A it kd ln sz m : Nat} {f : Nat → Int32} (hp : prA V I tl A it kd ln sz m f) (hA : A ≠ 92) (hk : kd ≤ 3) (hm : sz * wdN kd ≤ m) (hm2 : m ≤ 1000) (hs : sz * wdN kd ≤ 120) (hz : sz ≤ 120) : fm_60 (.ref 92) (.ref A) (fx V I L R ++ tl) = some (.inl (none, fx (vup (vup (vup (vup (vup V 92 1 (.int (nI kd))) 92 2 (.int (nI ln))) 92 3 (.int 0)) 92 4 (.int (if nI kd = 2 then 5 else 2))) 92 3 (.int (nI sz))) (iup I 93 (va_cpy f (I 93) 0 0 (sz * wdN kd))) L R ++ tl)) := by
  obtain ⟨x1, x2, x3, x4, x5, x6, p1, p2⟩ := hp V I L R (fun _ => rfl) rfl
  have ew : (if nI kd = 2 then (5 : Int32) else 2) = nI (wdN kd) := by
    unfold wdN
    by_cases c : kd = 2
    · rw [if_pos c, if_pos (show nI kd = 2 by rw [c]; rfl)]
      rfl
    · rw [if_neg c, if_neg (show ¬ nI kd = 2 from fun e => c ((nI_eq (b := 2) (by omega) (by omega)).mp e))]
      rfl
  have ne : ∀ {X : Value} {j : Nat} {W : Nat → Nat → Value} (i : Nat), vup W 92 j X A i = W A i := fun i => vup_o (fun e => hA e.1)
  obtain ⟨y1, y2, y3, y4, y5, y6, q1, q2⟩ := hp (vup (vup (vup (vup V 92 1 (.int (nI kd))) 92 2 (.int (nI ln))) 92 3 (.int 0)) 92 4 (.int (if nI kd = 2 then 5 else 2))) I L R (fun i => by rw [ne, ne, ne, ne]) rfl
  obtain ⟨z1, z2, z3, z4, z5, z6, r1, r2⟩ := hp (vup (vup (vup (vup (vup V 92 1 (.int (nI kd))) 92 2 (.int (nI ln))) 92 3 (.int 0)) 92 4 (.int (if nI kd = 2 then 5 else 2))) 92 3 (.int (nI sz))) I L R (fun i => by rw [ne, ne, ne, ne, ne]) rfl
  unfold fm_60 fg_60_0
  refine ev_b (ev_gI p1 rfl rfl) (ev_b (ev_gI p1 rfl rfl) (ev_i rfl (ev_cV (p34_92 (nI kd) (nI ln)) ?_)))
  refine ev_b (ev_gI q1 rfl rfl) (ev_b (a := if nI kd = 2 then 5 else 2) rfl (ev_b (a := Value.ref 93) rfl (ev_b (a := nI 120) rfl ?_)))
  rw [show nI sz * (if nI kd = 2 then (5 : Int32) else 2) = nI (sz * wdN kd) by rw [ew, nI_mul]]
  refine ev_f (nI_nlt (a := 120) hs (by omega)) (ev_b (ev_gI q1 rfl rfl) (ev_b qp_92_3 (ev_b (ev_gR r1 rfl rfl rfl) (ev_b (a := Value.ref 93) rfl (ev_b (a := nI sz) rfl (ev_b (a := if nI kd = 2 then 5 else 2) rfl ?_))))))
  rw [show nI sz * (if nI kd = 2 then (5 : Int32) else 2) = nI (sz * wdN kd) by rw [ew, nI_mul]]
  refine ev_b (ev_cpy (f := f) (g := I 93) (n0 := m) (n1 := 120) (sp := 0) (dp := 0) (n := sz * wdN kd) r2 rfl (by omega) (by omega) (by omega) (by omega) rfl) rfl
set_option maxRecDepth 100000 in
set_option maxHeartbeats 4000000 in
theorem p34_129 {V : Nat → Nat → Value} {I : Nat → Nat → Int32} {L : Nat → Nat → Int64} {R : Nat → Nat → Option Nat} {tl : am_H} (k l : Int32) : fm_34 (.ref 129) k l (fx V I L R ++ tl) = some (.inl (none, fx (vup (vup (vup (vup V 129 1 (.int k)) 129 2 (.int l)) 129 3 (.int 0)) 129 4 (.int (if k = 2 then 5 else 2))) I L R ++ tl)) := by
  unfold fm_34 fg_34_0
  refine ev_b (a := fx (vup V 129 1 (.int k)) I L R ++ tl) (ev_p rfl rfl rfl rfl) ?_
  refine ev_b (a := fx (vup (vup V 129 1 (.int k)) 129 2 (.int l)) I L R ++ tl) (ev_p rfl rfl rfl rfl) ?_
  refine ev_b (a := fx (vup (vup (vup V 129 1 (.int k)) 129 2 (.int l)) 129 3 (.int 0)) I L R ++ tl) (ev_p rfl rfl rfl rfl) ?_
  by_cases c : k = 2
  · rw [if_pos c]
    refine ev_f (fun e => e c) ?_
    unfold fg_34_26
    exact ev_b (ev_p rfl rfl rfl rfl) rfl
  · rw [if_neg c]
    refine ev_t c ?_
    unfold fg_34_26
    exact ev_b (ev_p rfl rfl rfl rfl) rfl
set_option maxRecDepth 100000 in
set_option maxHeartbeats 4000000 in
theorem p41_129 {V : Nat → Nat → Value} {I : Nat → Nat → Int32} {L : Nat → Nat → Int64} {R : Nat → Nat → Option Nat} {tl : am_H} {N s : Nat} (hN : 1 ≤ N) (h3 : V 129 3 = .int (nI s)) (h4 : V 129 4 = .int 2) (hs : 2 * s + 2 ≤ 120) (a b : Int32) : fm_41 N (.ref 129) a b (fx V I L R ++ tl) = some (.inl (some (.int 1), fx (vup V 129 3 (.int (nI (s + 1)))) (iup I 130 (upd (upd (I 130) (2 * s) a) (2 * s + 1) b)) L R ++ tl)) := by
  obtain ⟨N, rfl⟩ : ∃ k, N = k + 1 := ⟨N - 1, by omega⟩
  have g3 : ∀ {I : Nat → Nat → Int32}, am_vI (am_pG 771 (.ref 129) (fx V I L R ++ tl)) = some (nI s) := fun {I} => by show am_vI (some (V 129 3)) = _; rw [h3]; rfl
  have g4 : ∀ {I : Nat → Nat → Int32}, am_vI (am_pG 772 (.ref 129) (fx V I L R ++ tl)) = some 2 := fun {I} => by show am_vI (some (V 129 4)) = _; rw [h4]; rfl
  unfold fm_41 fg_41_0
  refine ev_b g3 ?_
  refine ev_b g4 ?_
  refine ev_b g4 ?_
  refine ev_b (a := .ref 130) rfl ?_
  refine ev_b (a := nI 120) rfl ?_
  rw [show nI s * 2 = nI (2 * s) by rw [Nat.mul_comm, nI_mul]; rfl]
  refine ev_t (by rw [show (2 : Int32) = nI 2 from rfl, nI_add]; exact nI_le hs (by omega)) ?_
  rw [fg_41_29]
  refine ev_b g4 ?_
  refine ev_t (by decide) ?_
  refine ev_b (a := .ref 130) rfl ?_
  refine ev_b (ev_s (f := I 130) (n := 120) (h1 := fx V (iup I 130 (upd (I 130) (2 * s) a)) L R ++ tl) rfl (am_inb_n (by omega) (by omega)) rfl (by rw [nI_clamp (by omega)]; rfl)) ?_
  refine ev_b (a := .ref 130) rfl ?_
  rw [nI_1]
  refine ev_b (ev_s (f := upd (I 130) (2 * s) a) (n := 120) (h1 := fx V (iup I 130 (upd (upd (I 130) (2 * s) a) (2 * s + 1) b)) L R ++ tl) rfl (am_inb_n (by omega) (by omega)) rfl (by rw [nI_clamp (by omega)]; rfl)) ?_
  refine ev_b g3 ?_
  rw [nI_1]
  exact ev_b (ev_p rfl rfl rfl rfl) rfl
set_option maxRecDepth 100000 in
set_option maxHeartbeats 1600000 in
/-- take(): items of a program, onto the spare one -/
theorem p170_129 {V : Nat → Nat → Value} {I : Nat → Nat → Int32} {L : Nat → Nat → Int64} {R : Nat → Nat → Option Nat} {tl : am_H} {A it m i j cnt wd sz : Nat} {kd ln x1 x2 x3 x4 x5 : Int32} {x6 : Int64} {f : Nat → Int32} (p1 : (fx V I L R ++ tl)[A]? = some (.inr (3, [.ref it, .int kd, .int ln, .int (nI sz), .int (nI wd), .int x1, .int x2, .int x3, .int x4, .int x5, .long x6]))) (p2 : (fx V I L R ++ tl)[it]? = some (.inl (0, m, .inl f))) (h3 : V 129 3 = .int (nI cnt)) (h4 : V 129 4 = .int (nI wd)) (hij : i ≤ j) (hj : j ≤ sz) (hsz : sz ≤ 60) (hw : wd ≤ 5) (hm : sz * wd ≤ m) (hm2 : m ≤ 1000) (hc : (cnt + (j - i)) * wd ≤ 120) (hcn : cnt ≤ 120) : fm_170 (.ref 129) (.ref A) (nI i) (nI j) (fx V I L R ++ tl) = some (.inl (some (.int 1), fx (vup V 129 3 (.int (nI (cnt + (j - i))))) (iup I 130 (va_cpy f (I 130) (i * wd) (cnt * wd) ((j - i) * wd))) L R ++ tl)) := by
  have hq : (fx V I L R ++ tl)[129]? = some (.inr (3, [.ref 130, V 129 1, V 129 2, V 129 3, V 129 4, V 129 5, V 129 6, V 129 7, V 129 8, V 129 9, V 129 10])) := rfl
  have g3 : am_vI (am_pG 771 (.ref 129) (fx V I L R ++ tl)) = some (nI cnt) := ev_gI hq rfl (by show some (V 129 3) = _; rw [h3])
  have g4 : am_vI (am_pG 772 (.ref 129) (fx V I L R ++ tl)) = some (nI wd) := ev_gI hq rfl (by show some (V 129 4) = _; rw [h4])
  have a1 : i * wd + (j - i) * wd = j * wd := by rw [← Nat.add_mul, show i + (j - i) = j by omega]
  have a2 : cnt * wd + (j - i) * wd = (cnt + (j - i)) * wd := (Nat.add_mul ..).symm
  have a3 : j * wd ≤ sz * wd := Nat.mul_le_mul_right _ hj
  unfold fm_170 fg_170_0
  refine ev_b (ev_gI p1 rfl rfl) (ev_b g4 (ev_f (fun e => e rfl) (ev_f (nI_pos (by omega)) ?_)))
  rw [nI_sub hij]
  refine ev_f (nI_pos (by omega)) (ev_b (ev_gI p1 rfl rfl) (ev_f (nI_nlt hj (by omega)) (ev_b g3 (ev_b g4 (ev_b (a := Value.ref 130) rfl (ev_b (a := nI 120) rfl ?_))))))
  rw [nI_add, ← nI_mul]
  refine ev_t (nI_le (b := 120) hc (by omega)) (ev_b (ev_gR p1 rfl rfl rfl) (ev_b g4 (ev_b (a := Value.ref 130) rfl (ev_b g3 (ev_b g4 (ev_b g4 ?_))))))
  rw [← nI_mul, ← nI_mul, ← nI_mul]
  refine ev_b (ev_cpy (f := f) (g := I 130) (n0 := m) (n1 := 120) (sp := i * wd) (dp := cnt * wd) (n := (j - i) * wd) (h1 := fx V (iup I 130 (va_cpy f (I 130) (i * wd) (cnt * wd) ((j - i) * wd))) L R ++ tl) p2 rfl (by omega) (by omega) (by omega) (by omega) rfl) ?_
  refine ev_b (a := nI cnt) (ev_gI (fs := [.ref 130, V 129 1, V 129 2, V 129 3, V 129 4, V 129 5, V 129 6, V 129 7, V 129 8, V 129 9, V 129 10]) (c := 3) rfl rfl (by show some (V 129 3) = _; rw [h3])) ?_
  rw [nI_add]
  exact ev_b qp_129_3 rfl
theorem prF_129 {V : Nat → Nat → Value} {I : Nat → Nat → Int32} {L : Nat → Nat → Int64} {R : Nat → Nat → Option Nat} {tl : am_H} {kd ln sz : Nat} (w : wt V) (h1 : V 129 1 = .int (nI kd)) (h2 : V 129 2 = .int (nI ln)) (h3 : V 129 3 = .int (nI sz)) (h4 : V 129 4 = .int (nI (wdN kd))) : prA V I tl 129 130 kd ln sz 120 (I 130) := by
  intro W J L R hw hj
  obtain ⟨x5, e5⟩ := w.1 129 5 (by decide)
  obtain ⟨x6, e6⟩ := w.1 129 6 (by decide)
  obtain ⟨x7, e7⟩ := w.1 129 7 (by decide)
  obtain ⟨x8, e8⟩ := w.1 129 8 (by decide)
  obtain ⟨x9, e9⟩ := w.1 129 9 (by decide)
  obtain ⟨x10, e10⟩ := w.2 129 10 (by decide)
  refine ⟨x5, x6, x7, x8, x9, x10, ?_, ?_⟩
  · show some (Sum.inr (3, [.ref 130, W 129 1, W 129 2, W 129 3, W 129 4, W 129 5, W 129 6, W 129 7, W 129 8, W 129 9, W 129 10])) = _
    rw [hw, hw, hw, hw, hw, hw, hw, hw, hw, hw, h1, h2, h3, h4, e5, e6, e7, e8, e9, e10]
  · show some (Sum.inl (0, 120, Sum.inl (J 130))) = _
    rw [hj]
set_option maxRecDepth 100000 in
set_option maxHeartbeats 4000000 in
theorem p60_129 {V : Nat → Nat → Value} {I : Nat → Nat → Int32} {L : Nat → Nat → Int64} {R : Nat → Nat → Option Nat} {tl : am_H} {A it kd ln sz m : Nat} {f : Nat → Int32} (hp : prA V I tl A it kd ln sz m f) (hA : A ≠ 129) (hk : kd ≤ 3) (hm : sz * wdN kd ≤ m) (hm2 : m ≤ 1000) (hs : sz * wdN kd ≤ 120) (hz : sz ≤ 120) : fm_60 (.ref 129) (.ref A) (fx V I L R ++ tl) = some (.inl (none, fx (vup (vup (vup (vup (vup V 129 1 (.int (nI kd))) 129 2 (.int (nI ln))) 129 3 (.int 0)) 129 4 (.int (if nI kd = 2 then 5 else 2))) 129 3 (.int (nI sz))) (iup I 130 (va_cpy f (I 130) 0 0 (sz * wdN kd))) L R ++ tl)) := by
  obtain ⟨x1, x2, x3, x4, x5, x6, p1, p2⟩ := hp V I L R (fun _ => rfl) rfl
  have ew : (if nI kd = 2 then (5 : Int32) else 2) = nI (wdN kd) := by
    unfold wdN
    by_cases c : kd = 2
    · rw [if_pos c, if_pos (show nI kd = 2 by rw [c]; rfl)]
      rfl
    · rw [if_neg c, if_neg (show ¬ nI kd = 2 from fun e => c ((nI_eq (b := 2) (by omega) (by omega)).mp e))]
      rfl
  have ne : ∀ {X : Value} {j : Nat} {W : Nat → Nat → Value} (i : Nat), vup W 129 j X A i = W A i := fun i => vup_o (fun e => hA e.1)
  obtain ⟨y1, y2, y3, y4, y5, y6, q1, q2⟩ := hp (vup (vup (vup (vup V 129 1 (.int (nI kd))) 129 2 (.int (nI ln))) 129 3 (.int 0)) 129 4 (.int (if nI kd = 2 then 5 else 2))) I L R (fun i => by rw [ne, ne, ne, ne]) rfl
  obtain ⟨z1, z2, z3, z4, z5, z6, r1, r2⟩ := hp (vup (vup (vup (vup (vup V 129 1 (.int (nI kd))) 129 2 (.int (nI ln))) 129 3 (.int 0)) 129 4 (.int (if nI kd = 2 then 5 else 2))) 129 3 (.int (nI sz))) I L R (fun i => by rw [ne, ne, ne, ne, ne]) rfl
  unfold fm_60 fg_60_0
  refine ev_b (ev_gI p1 rfl rfl) (ev_b (ev_gI p1 rfl rfl) (ev_i rfl (ev_cV (p34_129 (nI kd) (nI ln)) ?_)))
  refine ev_b (ev_gI q1 rfl rfl) (ev_b (a := if nI kd = 2 then 5 else 2) rfl (ev_b (a := Value.ref 130) rfl (ev_b (a := nI 120) rfl ?_)))
  rw [show nI sz * (if nI kd = 2 then (5 : Int32) else 2) = nI (sz * wdN kd) by rw [ew, nI_mul]]
  refine ev_f (nI_nlt (a := 120) hs (by omega)) (ev_b (ev_gI q1 rfl rfl) (ev_b qp_129_3 (ev_b (ev_gR r1 rfl rfl rfl) (ev_b (a := Value.ref 130) rfl (ev_b (a := nI sz) rfl (ev_b (a := if nI kd = 2 then 5 else 2) rfl ?_))))))
  rw [show nI sz * (if nI kd = 2 then (5 : Int32) else 2) = nI (sz * wdN kd) by rw [ew, nI_mul]]
  refine ev_b (ev_cpy (f := f) (g := I 130) (n0 := m) (n1 := 120) (sp := 0) (dp := 0) (n := sz * wdN kd) r2 rfl (by omega) (by omega) (by omega) (by omega) rfl) rfl
set_option maxRecDepth 100000 in
set_option maxHeartbeats 4000000 in
theorem p34_141 {V : Nat → Nat → Value} {I : Nat → Nat → Int32} {L : Nat → Nat → Int64} {R : Nat → Nat → Option Nat} {tl : am_H} (k l : Int32) : fm_34 (.ref 141) k l (fx V I L R ++ tl) = some (.inl (none, fx (vup (vup (vup (vup V 141 1 (.int k)) 141 2 (.int l)) 141 3 (.int 0)) 141 4 (.int (if k = 2 then 5 else 2))) I L R ++ tl)) := by
  unfold fm_34 fg_34_0
  refine ev_b (a := fx (vup V 141 1 (.int k)) I L R ++ tl) (ev_p rfl rfl rfl rfl) ?_
  refine ev_b (a := fx (vup (vup V 141 1 (.int k)) 141 2 (.int l)) I L R ++ tl) (ev_p rfl rfl rfl rfl) ?_
  refine ev_b (a := fx (vup (vup (vup V 141 1 (.int k)) 141 2 (.int l)) 141 3 (.int 0)) I L R ++ tl) (ev_p rfl rfl rfl rfl) ?_
  by_cases c : k = 2
  · rw [if_pos c]
    refine ev_f (fun e => e c) ?_
    unfold fg_34_26
    exact ev_b (ev_p rfl rfl rfl rfl) rfl
  · rw [if_neg c]
    refine ev_t c ?_
    unfold fg_34_26
    exact ev_b (ev_p rfl rfl rfl rfl) rfl
set_option maxRecDepth 100000 in
set_option maxHeartbeats 4000000 in
theorem p41_141 {V : Nat → Nat → Value} {I : Nat → Nat → Int32} {L : Nat → Nat → Int64} {R : Nat → Nat → Option Nat} {tl : am_H} {N s : Nat} (hN : 1 ≤ N) (h3 : V 141 3 = .int (nI s)) (h4 : V 141 4 = .int 2) (hs : 2 * s + 2 ≤ 120) (a b : Int32) : fm_41 N (.ref 141) a b (fx V I L R ++ tl) = some (.inl (some (.int 1), fx (vup V 141 3 (.int (nI (s + 1)))) (iup I 142 (upd (upd (I 142) (2 * s) a) (2 * s + 1) b)) L R ++ tl)) := by
  obtain ⟨N, rfl⟩ : ∃ k, N = k + 1 := ⟨N - 1, by omega⟩
  have g3 : ∀ {I : Nat → Nat → Int32}, am_vI (am_pG 771 (.ref 141) (fx V I L R ++ tl)) = some (nI s) := fun {I} => by show am_vI (some (V 141 3)) = _; rw [h3]; rfl
  have g4 : ∀ {I : Nat → Nat → Int32}, am_vI (am_pG 772 (.ref 141) (fx V I L R ++ tl)) = some 2 := fun {I} => by show am_vI (some (V 141 4)) = _; rw [h4]; rfl
  unfold fm_41 fg_41_0
  refine ev_b g3 ?_
  refine ev_b g4 ?_
  refine ev_b g4 ?_
  refine ev_b (a := .ref 142) rfl ?_
  refine ev_b (a := nI 120) rfl ?_
  rw [show nI s * 2 = nI (2 * s) by rw [Nat.mul_comm, nI_mul]; rfl]
  refine ev_t (by rw [show (2 : Int32) = nI 2 from rfl, nI_add]; exact nI_le hs (by omega)) ?_
  rw [fg_41_29]
  refine ev_b g4 ?_
  refine ev_t (by decide) ?_
  refine ev_b (a := .ref 142) rfl ?_
  refine ev_b (ev_s (f := I 142) (n := 120) (h1 := fx V (iup I 142 (upd (I 142) (2 * s) a)) L R ++ tl) rfl (am_inb_n (by omega) (by omega)) rfl (by rw [nI_clamp (by omega)]; rfl)) ?_
  refine ev_b (a := .ref 142) rfl ?_
  rw [nI_1]
  refine ev_b (ev_s (f := upd (I 142) (2 * s) a) (n := 120) (h1 := fx V (iup I 142 (upd (upd (I 142) (2 * s) a) (2 * s + 1) b)) L R ++ tl) rfl (am_inb_n (by omega) (by omega)) rfl (by rw [nI_clamp (by omega)]; rfl)) ?_
  refine ev_b g3 ?_
  rw [nI_1]
  exact ev_b (ev_p rfl rfl rfl rfl) rfl
set_option maxRecDepth 100000 in
set_option maxHeartbeats 1600000 in
/-- take(): items of a program, onto the spare one -/
theorem p170_141 {V : Nat → Nat → Value} {I : Nat → Nat → Int32} {L : Nat → Nat → Int64} {R : Nat → Nat → Option Nat} {tl : am_H} {A it m i j cnt wd sz : Nat} {kd ln x1 x2 x3 x4 x5 : Int32} {x6 : Int64} {f : Nat → Int32} (p1 : (fx V I L R ++ tl)[A]? = some (.inr (3, [.ref it, .int kd, .int ln, .int (nI sz), .int (nI wd), .int x1, .int x2, .int x3, .int x4, .int x5, .long x6]))) (p2 : (fx V I L R ++ tl)[it]? = some (.inl (0, m, .inl f))) (h3 : V 141 3 = .int (nI cnt)) (h4 : V 141 4 = .int (nI wd)) (hij : i ≤ j) (hj : j ≤ sz) (hsz : sz ≤ 60) (hw : wd ≤ 5) (hm : sz * wd ≤ m) (hm2 : m ≤ 1000) (hc : (cnt + (j - i)) * wd ≤ 120) (hcn : cnt ≤ 120) : fm_170 (.ref 141) (.ref A) (nI i) (nI j) (fx V I L R ++ tl) = some (.inl (some (.int 1), fx (vup V 141 3 (.int (nI (cnt + (j - i))))) (iup I 142 (va_cpy f (I 142) (i * wd) (cnt * wd) ((j - i) * wd))) L R ++ tl)) := by
  have hq : (fx V I L R ++ tl)[141]? = some (.inr (3, [.ref 142, V 141 1, V 141 2, V 141 3, V 141 4, V 141 5, V 141 6, V 141 7, V 141 8, V 141 9, V 141 10])) := rfl
  have g3 : am_vI (am_pG 771 (.ref 141) (fx V I L R ++ tl)) = some (nI cnt) := ev_gI hq rfl (by show some (V 141 3) = _; rw [h3])
  have g4 : am_vI (am_pG 772 (.ref 141) (fx V I L R ++ tl)) = some (nI wd) := ev_gI hq rfl (by show some (V 141 4) = _; rw [h4])
  have a1 : i * wd + (j - i) * wd = j * wd := by rw [← Nat.add_mul, show i + (j - i) = j by omega]
  have a2 : cnt * wd + (j - i) * wd = (cnt + (j - i)) * wd := (Nat.add_mul ..).symm
  have a3 : j * wd ≤ sz * wd := Nat.mul_le_mul_right _ hj
  unfold fm_170 fg_170_0
  refine ev_b (ev_gI p1 rfl rfl) (ev_b g4 (ev_f (fun e => e rfl) (ev_f (nI_pos (by omega)) ?_)))
  rw [nI_sub hij]
  refine ev_f (nI_pos (by omega)) (ev_b (ev_gI p1 rfl rfl) (ev_f (nI_nlt hj (by omega)) (ev_b g3 (ev_b g4 (ev_b (a := Value.ref 142) rfl (ev_b (a := nI 120) rfl ?_))))))
  rw [nI_add, ← nI_mul]
  refine ev_t (nI_le (b := 120) hc (by omega)) (ev_b (ev_gR p1 rfl rfl rfl) (ev_b g4 (ev_b (a := Value.ref 142) rfl (ev_b g3 (ev_b g4 (ev_b g4 ?_))))))
  rw [← nI_mul, ← nI_mul, ← nI_mul]
  refine ev_b (ev_cpy (f := f) (g := I 142) (n0 := m) (n1 := 120) (sp := i * wd) (dp := cnt * wd) (n := (j - i) * wd) (h1 := fx V (iup I 142 (va_cpy f (I 142) (i * wd) (cnt * wd) ((j - i) * wd))) L R ++ tl) p2 rfl (by omega) (by omega) (by omega) (by omega) rfl) ?_
  refine ev_b (a := nI cnt) (ev_gI (fs := [.ref 142, V 141 1, V 141 2, V 141 3, V 141 4, V 141 5, V 141 6, V 141 7, V 141 8, V 141 9, V 141 10]) (c := 3) rfl rfl (by show some (V 141 3) = _; rw [h3])) ?_
  rw [nI_add]
  exact ev_b qp_141_3 rfl
theorem prF_141 {V : Nat → Nat → Value} {I : Nat → Nat → Int32} {L : Nat → Nat → Int64} {R : Nat → Nat → Option Nat} {tl : am_H} {kd ln sz : Nat} (w : wt V) (h1 : V 141 1 = .int (nI kd)) (h2 : V 141 2 = .int (nI ln)) (h3 : V 141 3 = .int (nI sz)) (h4 : V 141 4 = .int (nI (wdN kd))) : prA V I tl 141 142 kd ln sz 120 (I 142) := by
  intro W J L R hw hj
  obtain ⟨x5, e5⟩ := w.1 141 5 (by decide)
  obtain ⟨x6, e6⟩ := w.1 141 6 (by decide)
  obtain ⟨x7, e7⟩ := w.1 141 7 (by decide)
  obtain ⟨x8, e8⟩ := w.1 141 8 (by decide)
  obtain ⟨x9, e9⟩ := w.1 141 9 (by decide)
  obtain ⟨x10, e10⟩ := w.2 141 10 (by decide)
  refine ⟨x5, x6, x7, x8, x9, x10, ?_, ?_⟩
  · show some (Sum.inr (3, [.ref 142, W 141 1, W 141 2, W 141 3, W 141 4, W 141 5, W 141 6, W 141 7, W 141 8, W 141 9, W 141 10])) = _
    rw [hw, hw, hw, hw, hw, hw, hw, hw, hw, hw, h1, h2, h3, h4, e5, e6, e7, e8, e9, e10]
  · show some (Sum.inl (0, 120, Sum.inl (J 142))) = _
    rw [hj]
set_option maxRecDepth 100000 in
set_option maxHeartbeats 4000000 in
theorem p60_141 {V : Nat → Nat → Value} {I : Nat → Nat → Int32} {L : Nat → Nat → Int64} {R : Nat → Nat → Option Nat} {tl : am_H} {A it kd ln sz m : Nat} {f : Nat → Int32} (hp : prA V I tl A it kd ln sz m f) (hA : A ≠ 141) (hk : kd ≤ 3) (hm : sz * wdN kd ≤ m) (hm2 : m ≤ 1000) (hs : sz * wdN kd ≤ 120) (hz : sz ≤ 120) : fm_60 (.ref 141) (.ref A) (fx V I L R ++ tl) = some (.inl (none, fx (vup (vup (vup (vup (vup V 141 1 (.int (nI kd))) 141 2 (.int (nI ln))) 141 3 (.int 0)) 141 4 (.int (if nI kd = 2 then 5 else 2))) 141 3 (.int (nI sz))) (iup I 142 (va_cpy f (I 142) 0 0 (sz * wdN kd))) L R ++ tl)) := by
  obtain ⟨x1, x2, x3, x4, x5, x6, p1, p2⟩ := hp V I L R (fun _ => rfl) rfl
  have ew : (if nI kd = 2 then (5 : Int32) else 2) = nI (wdN kd) := by
    unfold wdN
    by_cases c : kd = 2
    · rw [if_pos c, if_pos (show nI kd = 2 by rw [c]; rfl)]
      rfl
    · rw [if_neg c, if_neg (show ¬ nI kd = 2 from fun e => c ((nI_eq (b := 2) (by omega) (by omega)).mp e))]
      rfl
  have ne : ∀ {X : Value} {j : Nat} {W : Nat → Nat → Value} (i : Nat), vup W 141 j X A i = W A i := fun i => vup_o (fun e => hA e.1)
  obtain ⟨y1, y2, y3, y4, y5, y6, q1, q2⟩ := hp (vup (vup (vup (vup V 141 1 (.int (nI kd))) 141 2 (.int (nI ln))) 141 3 (.int 0)) 141 4 (.int (if nI kd = 2 then 5 else 2))) I L R (fun i => by rw [ne, ne, ne, ne]) rfl
  obtain ⟨z1, z2, z3, z4, z5, z6, r1, r2⟩ := hp (vup (vup (vup (vup (vup V 141 1 (.int (nI kd))) 141 2 (.int (nI ln))) 141 3 (.int 0)) 141 4 (.int (if nI kd = 2 then 5 else 2))) 141 3 (.int (nI sz))) I L R (fun i => by rw [ne, ne, ne, ne, ne]) rfl
  unfold fm_60 fg_60_0
  refine ev_b (ev_gI p1 rfl rfl) (ev_b (ev_gI p1 rfl rfl) (ev_i rfl (ev_cV (p34_141 (nI kd) (nI ln)) ?_)))
  refine ev_b (ev_gI q1 rfl rfl) (ev_b (a := if nI kd = 2 then 5 else 2) rfl (ev_b (a := Value.ref 142) rfl (ev_b (a := nI 120) rfl ?_)))
  rw [show nI sz * (if nI kd = 2 then (5 : Int32) else 2) = nI (sz * wdN kd) by rw [ew, nI_mul]]
  refine ev_f (nI_nlt (a := 120) hs (by omega)) (ev_b (ev_gI q1 rfl rfl) (ev_b qp_141_3 (ev_b (ev_gR r1 rfl rfl rfl) (ev_b (a := Value.ref 142) rfl (ev_b (a := nI sz) rfl (ev_b (a := if nI kd = 2 then 5 else 2) rfl ?_))))))
  rw [show nI sz * (if nI kd = 2 then (5 : Int32) else 2) = nI (sz * wdN kd) by rw [ew, nI_mul]]
  refine ev_b (ev_cpy (f := f) (g := I 142) (n0 := m) (n1 := 120) (sp := 0) (dp := 0) (n := sz * wdN kd) r2 rfl (by omega) (by omega) (by omega) (by omega) rfl) rfl
set_option maxRecDepth 100000 in
set_option maxHeartbeats 4000000 in
theorem p34_167 {V : Nat → Nat → Value} {I : Nat → Nat → Int32} {L : Nat → Nat → Int64} {R : Nat → Nat → Option Nat} {tl : am_H} (k l : Int32) : fm_34 (.ref 167) k l (fx V I L R ++ tl) = some (.inl (none, fx (vup (vup (vup (vup V 167 1 (.int k)) 167 2 (.int l)) 167 3 (.int 0)) 167 4 (.int (if k = 2 then 5 else 2))) I L R ++ tl)) := by
  unfold fm_34 fg_34_0
  refine ev_b (a := fx (vup V 167 1 (.int k)) I L R ++ tl) (ev_p rfl rfl rfl rfl) ?_
  refine ev_b (a := fx (vup (vup V 167 1 (.int k)) 167 2 (.int l)) I L R ++ tl) (ev_p rfl rfl rfl rfl) ?_
  refine ev_b (a := fx (vup (vup (vup V 167 1 (.int k)) 167 2 (.int l)) 167 3 (.int 0)) I L R ++ tl) (ev_p rfl rfl rfl rfl) ?_
  by_cases c : k = 2
  · rw [if_pos c]
    refine ev_f (fun e => e c) ?_
    unfold fg_34_26
    exact ev_b (ev_p rfl rfl rfl rfl) rfl
  · rw [if_neg c]
    refine ev_t c ?_
    unfold fg_34_26
    exact ev_b (ev_p rfl rfl rfl rfl) rfl
set_option maxRecDepth 100000 in
set_option maxHeartbeats 4000000 in
theorem p41_167 {V : Nat → Nat → Value} {I : Nat → Nat → Int32} {L : Nat → Nat → Int64} {R : Nat → Nat → Option Nat} {tl : am_H} {N s : Nat} (hN : 1 ≤ N) (h3 : V 167 3 = .int (nI s)) (h4 : V 167 4 = .int 2) (hs : 2 * s + 2 ≤ 120) (a b : Int32) : fm_41 N (.ref 167) a b (fx V I L R ++ tl) = some (.inl (some (.int 1), fx (vup V 167 3 (.int (nI (s + 1)))) (iup I 168 (upd (upd (I 168) (2 * s) a) (2 * s + 1) b)) L R ++ tl)) := by
  obtain ⟨N, rfl⟩ : ∃ k, N = k + 1 := ⟨N - 1, by omega⟩
  have g3 : ∀ {I : Nat → Nat → Int32}, am_vI (am_pG 771 (.ref 167) (fx V I L R ++ tl)) = some (nI s) := fun {I} => by show am_vI (some (V 167 3)) = _; rw [h3]; rfl
  have g4 : ∀ {I : Nat → Nat → Int32}, am_vI (am_pG 772 (.ref 167) (fx V I L R ++ tl)) = some 2 := fun {I} => by show am_vI (some (V 167 4)) = _; rw [h4]; rfl
  unfold fm_41 fg_41_0
  refine ev_b g3 ?_
  refine ev_b g4 ?_
  refine ev_b g4 ?_
  refine ev_b (a := .ref 168) rfl ?_
  refine ev_b (a := nI 120) rfl ?_
  rw [show nI s * 2 = nI (2 * s) by rw [Nat.mul_comm, nI_mul]; rfl]
  refine ev_t (by rw [show (2 : Int32) = nI 2 from rfl, nI_add]; exact nI_le hs (by omega)) ?_
  rw [fg_41_29]
  refine ev_b g4 ?_
  refine ev_t (by decide) ?_
  refine ev_b (a := .ref 168) rfl ?_
  refine ev_b (ev_s (f := I 168) (n := 120) (h1 := fx V (iup I 168 (upd (I 168) (2 * s) a)) L R ++ tl) rfl (am_inb_n (by omega) (by omega)) rfl (by rw [nI_clamp (by omega)]; rfl)) ?_
  refine ev_b (a := .ref 168) rfl ?_
  rw [nI_1]
  refine ev_b (ev_s (f := upd (I 168) (2 * s) a) (n := 120) (h1 := fx V (iup I 168 (upd (upd (I 168) (2 * s) a) (2 * s + 1) b)) L R ++ tl) rfl (am_inb_n (by omega) (by omega)) rfl (by rw [nI_clamp (by omega)]; rfl)) ?_
  refine ev_b g3 ?_
  rw [nI_1]
  exact ev_b (ev_p rfl rfl rfl rfl) rfl
set_option maxRecDepth 100000 in
set_option maxHeartbeats 1600000 in
/-- take(): items of a program, onto the spare one -/
theorem p170_167 {V : Nat → Nat → Value} {I : Nat → Nat → Int32} {L : Nat → Nat → Int64} {R : Nat → Nat → Option Nat} {tl : am_H} {A it m i j cnt wd sz : Nat} {kd ln x1 x2 x3 x4 x5 : Int32} {x6 : Int64} {f : Nat → Int32} (p1 : (fx V I L R ++ tl)[A]? = some (.inr (3, [.ref it, .int kd, .int ln, .int (nI sz), .int (nI wd), .int x1, .int x2, .int x3, .int x4, .int x5, .long x6]))) (p2 : (fx V I L R ++ tl)[it]? = some (.inl (0, m, .inl f))) (h3 : V 167 3 = .int (nI cnt)) (h4 : V 167 4 = .int (nI wd)) (hij : i ≤ j) (hj : j ≤ sz) (hsz : sz ≤ 60) (hw : wd ≤ 5) (hm : sz * wd ≤ m) (hm2 : m ≤ 1000) (hc : (cnt + (j - i)) * wd ≤ 120) (hcn : cnt ≤ 120) : fm_170 (.ref 167) (.ref A) (nI i) (nI j) (fx V I L R ++ tl) = some (.inl (some (.int 1), fx (vup V 167 3 (.int (nI (cnt + (j - i))))) (iup I 168 (va_cpy f (I 168) (i * wd) (cnt * wd) ((j - i) * wd))) L R ++ tl)) := by
  have hq : (fx V I L R ++ tl)[167]? = some (.inr (3, [.ref 168, V 167 1, V 167 2, V 167 3, V 167 4, V 167 5, V 167 6, V 167 7, V 167 8, V 167 9, V 167 10])) := rfl
  have g3 : am_vI (am_pG 771 (.ref 167) (fx V I L R ++ tl)) = some (nI cnt) := ev_gI hq rfl (by show some (V 167 3) = _; rw [h3])
  have g4 : am_vI (am_pG 772 (.ref 167) (fx V I L R ++ tl)) = some (nI wd) := ev_gI hq rfl (by show some (V 167 4) = _; rw [h4])
  have a1 : i * wd + (j - i) * wd = j * wd := by rw [← Nat.add_mul, show i + (j - i) = j by omega]
  have a2 : cnt * wd + (j - i) * wd = (cnt + (j - i)) * wd := (Nat.add_mul ..).symm
  have a3 : j * wd ≤ sz * wd := Nat.mul_le_mul_right _ hj
  unfold fm_170 fg_170_0
  refine ev_b (ev_gI p1 rfl rfl) (ev_b g4 (ev_f (fun e => e rfl) (ev_f (nI_pos (by omega)) ?_)))
  rw [nI_sub hij]
  refine ev_f (nI_pos (by omega)) (ev_b (ev_gI p1 rfl rfl) (ev_f (nI_nlt hj (by omega)) (ev_b g3 (ev_b g4 (ev_b (a := Value.ref 168) rfl (ev_b (a := nI 120) rfl ?_))))))
  rw [nI_add, ← nI_mul]
  refine ev_t (nI_le (b := 120) hc (by omega)) (ev_b (ev_gR p1 rfl rfl rfl) (ev_b g4 (ev_b (a := Value.ref 168) rfl (ev_b g3 (ev_b g4 (ev_b g4 ?_))))))
  rw [← nI_mul, ← nI_mul, ← nI_mul]
  refine ev_b (ev_cpy (f := f) (g := I 168) (n0 := m) (n1 := 120) (sp := i * wd) (dp := cnt * wd) (n := (j - i) * wd) (h1 := fx V (iup I 168 (va_cpy f (I 168) (i * wd) (cnt * wd) ((j - i) * wd))) L R ++ tl) p2 rfl (by omega) (by omega) (by omega) (by omega) rfl) ?_
  refine ev_b (a := nI cnt) (ev_gI (fs := [.ref 168, V 167 1, V 167 2, V 167 3, V 167 4, V 167 5, V 167 6, V 167 7, V 167 8, V 167 9, V 167 10]) (c := 3) rfl rfl (by show some (V 167 3) = _; rw [h3])) ?_
  rw [nI_add]
  exact ev_b qp_167_3 rfl
theorem prF_167 {V : Nat → Nat → Value} {I : Nat → Nat → Int32} {L : Nat → Nat → Int64} {R : Nat → Nat → Option Nat} {tl : am_H} {kd ln sz : Nat} (w : wt V) (h1 : V 167 1 = .int (nI kd)) (h2 : V 167 2 = .int (nI ln)) (h3 : V 167 3 = .int (nI sz)) (h4 : V 167 4 = .int (nI (wdN kd))) : prA V I tl 167 168 kd ln sz 120 (I 168) := by
  intro W J L R hw hj
  obtain ⟨x5, e5⟩ := w.1 167 5 (by decide)
  obtain ⟨x6, e6⟩ := w.1 167 6 (by decide)
  obtain ⟨x7, e7⟩ := w.1 167 7 (by decide)
  obtain ⟨x8, e8⟩ := w.1 167 8 (by decide)
  obtain ⟨x9, e9⟩ := w.1 167 9 (by decide)
  obtain ⟨x10, e10⟩ := w.2 167 10 (by decide)
  refine ⟨x5, x6, x7, x8, x9, x10, ?_, ?_⟩
  · show some (Sum.inr (3, [.ref 168, W 167 1, W 167 2, W 167 3, W 167 4, W 167 5, W 167 6, W 167 7, W 167 8, W 167 9, W 167 10])) = _
    rw [hw, hw, hw, hw, hw, hw, hw, hw, hw, hw, h1, h2, h3, h4, e5, e6, e7, e8, e9, e10]
  · show some (Sum.inl (0, 120, Sum.inl (J 168))) = _
    rw [hj]
set_option maxRecDepth 100000 in
set_option maxHeartbeats 4000000 in
theorem p60_167 {V : Nat → Nat → Value} {I : Nat → Nat → Int32} {L : Nat → Nat → Int64} {R : Nat → Nat → Option Nat} {tl : am_H} {A it kd ln sz m : Nat} {f : Nat → Int32} (hp : prA V I tl A it kd ln sz m f) (hA : A ≠ 167) (hk : kd ≤ 3) (hm : sz * wdN kd ≤ m) (hm2 : m ≤ 1000) (hs : sz * wdN kd ≤ 120) (hz : sz ≤ 120) : fm_60 (.ref 167) (.ref A) (fx V I L R ++ tl) = some (.inl (none, fx (vup (vup (vup (vup (vup V 167 1 (.int (nI kd))) 167 2 (.int (nI ln))) 167 3 (.int 0)) 167 4 (.int (if nI kd = 2 then 5 else 2))) 167 3 (.int (nI sz))) (iup I 168 (va_cpy f (I 168) 0 0 (sz * wdN kd))) L R ++ tl)) := by
  obtain ⟨x1, x2, x3, x4, x5, x6, p1, p2⟩ := hp V I L R (fun _ => rfl) rfl
  have ew : (if nI kd = 2 then (5 : Int32) else 2) = nI (wdN kd) := by
    unfold wdN
    by_cases c : kd = 2
    · rw [if_pos c, if_pos (show nI kd = 2 by rw [c]; rfl)]
      rfl
    · rw [if_neg c, if_neg (show ¬ nI kd = 2 from fun e => c ((nI_eq (b := 2) (by omega) (by omega)).mp e))]
      rfl
  have ne : ∀ {X : Value} {j : Nat} {W : Nat → Nat → Value} (i : Nat), vup W 167 j X A i = W A i := fun i => vup_o (fun e => hA e.1)
  obtain ⟨y1, y2, y3, y4, y5, y6, q1, q2⟩ := hp (vup (vup (vup (vup V 167 1 (.int (nI kd))) 167 2 (.int (nI ln))) 167 3 (.int 0)) 167 4 (.int (if nI kd = 2 then 5 else 2))) I L R (fun i => by rw [ne, ne, ne, ne]) rfl
  obtain ⟨z1, z2, z3, z4, z5, z6, r1, r2⟩ := hp (vup (vup (vup (vup (vup V 167 1 (.int (nI kd))) 167 2 (.int (nI ln))) 167 3 (.int 0)) 167 4 (.int (if nI kd = 2 then 5 else 2))) 167 3 (.int (nI sz))) I L R (fun i => by rw [ne, ne, ne, ne, ne]) rfl
  unfold fm_60 fg_60_0
  refine ev_b (ev_gI p1 rfl rfl) (ev_b (ev_gI p1 rfl rfl) (ev_i rfl (ev_cV (p34_167 (nI kd) (nI ln)) ?_)))
  refine ev_b (ev_gI q1 rfl rfl) (ev_b (a := if nI kd = 2 then 5 else 2) rfl (ev_b (a := Value.ref 168) rfl (ev_b (a := nI 120) rfl ?_)))
  rw [show nI sz * (if nI kd = 2 then (5 : Int32) else 2) = nI (sz * wdN kd) by rw [ew, nI_mul]]
  refine ev_f (nI_nlt (a := 120) hs (by omega)) (ev_b (ev_gI q1 rfl rfl) (ev_b qp_167_3 (ev_b (ev_gR r1 rfl rfl rfl) (ev_b (a := Value.ref 168) rfl (ev_b (a := nI sz) rfl (ev_b (a := if nI kd = 2 then 5 else 2) rfl ?_))))))
  rw [show nI sz * (if nI kd = 2 then (5 : Int32) else 2) = nI (sz * wdN kd) by rw [ew, nI_mul]]
  refine ev_b (ev_cpy (f := f) (g := I 168) (n0 := m) (n1 := 120) (sp := 0) (dp := 0) (n := sz * wdN kd) r2 rfl (by omega) (by omega) (by omega) (by omega) rfl) rfl
set_option maxRecDepth 100000 in
set_option maxHeartbeats 4000000 in
theorem p34_169 {V : Nat → Nat → Value} {I : Nat → Nat → Int32} {L : Nat → Nat → Int64} {R : Nat → Nat → Option Nat} {tl : am_H} (k l : Int32) : fm_34 (.ref 169) k l (fx V I L R ++ tl) = some (.inl (none, fx (vup (vup (vup (vup V 169 1 (.int k)) 169 2 (.int l)) 169 3 (.int 0)) 169 4 (.int (if k = 2 then 5 else 2))) I L R ++ tl)) := by
  unfold fm_34 fg_34_0
  refine ev_b (a := fx (vup V 169 1 (.int k)) I L R ++ tl) (ev_p rfl rfl rfl rfl) ?_
  refine ev_b (a := fx (vup (vup V 169 1 (.int k)) 169 2 (.int l)) I L R ++ tl) (ev_p rfl rfl rfl rfl) ?_
  refine ev_b (a := fx (vup (vup (vup V 169 1 (.int k)) 169 2 (.int l)) 169 3 (.int 0)) I L R ++ tl) (ev_p rfl rfl rfl rfl) ?_
  by_cases c : k = 2
  · rw [if_pos c]
    refine ev_f (fun e => e c) ?_
    unfold fg_34_26
    exact ev_b (ev_p rfl rfl rfl rfl) rfl
  · rw [if_neg c]
    refine ev_t c ?_
    unfold fg_34_26
    exact ev_b (ev_p rfl rfl rfl rfl) rfl
set_option maxRecDepth 100000 in
set_option maxHeartbeats 4000000 in
theorem p41_169 {V : Nat → Nat → Value} {I : Nat → Nat → Int32} {L : Nat → Nat → Int64} {R : Nat → Nat → Option Nat} {tl : am_H} {N s : Nat} (hN : 1 ≤ N) (h3 : V 169 3 = .int (nI s)) (h4 : V 169 4 = .int 2) (hs : 2 * s + 2 ≤ 120) (a b : Int32) : fm_41 N (.ref 169) a b (fx V I L R ++ tl) = some (.inl (some (.int 1), fx (vup V 169 3 (.int (nI (s + 1)))) (iup I 170 (upd (upd (I 170) (2 * s) a) (2 * s + 1) b)) L R ++ tl)) := by
  obtain ⟨N, rfl⟩ : ∃ k, N = k + 1 := ⟨N - 1, by omega⟩
  have g3 : ∀ {I : Nat → Nat → Int32}, am_vI (am_pG 771 (.ref 169) (fx V I L R ++ tl)) = some (nI s) := fun {I} => by show am_vI (some (V 169 3)) = _; rw [h3]; rfl
  have g4 : ∀ {I : Nat → Nat → Int32}, am_vI (am_pG 772 (.ref 169) (fx V I L R ++ tl)) = some 2 := fun {I} => by show am_vI (some (V 169 4)) = _; rw [h4]; rfl
  unfold fm_41 fg_41_0
  refine ev_b g3 ?_
  refine ev_b g4 ?_
  refine ev_b g4 ?_
  refine ev_b (a := .ref 170) rfl ?_
  refine ev_b (a := nI 120) rfl ?_
  rw [show nI s * 2 = nI (2 * s) by rw [Nat.mul_comm, nI_mul]; rfl]
  refine ev_t (by rw [show (2 : Int32) = nI 2 from rfl, nI_add]; exact nI_le hs (by omega)) ?_
  rw [fg_41_29]
  refine ev_b g4 ?_
  refine ev_t (by decide) ?_
  refine ev_b (a := .ref 170) rfl ?_
  refine ev_b (ev_s (f := I 170) (n := 120) (h1 := fx V (iup I 170 (upd (I 170) (2 * s) a)) L R ++ tl) rfl (am_inb_n (by omega) (by omega)) rfl (by rw [nI_clamp (by omega)]; rfl)) ?_
  refine ev_b (a := .ref 170) rfl ?_
  rw [nI_1]
  refine ev_b (ev_s (f := upd (I 170) (2 * s) a) (n := 120) (h1 := fx V (iup I 170 (upd (upd (I 170) (2 * s) a) (2 * s + 1) b)) L R ++ tl) rfl (am_inb_n (by omega) (by omega)) rfl (by rw [nI_clamp (by omega)]; rfl)) ?_
  refine ev_b g3 ?_
  rw [nI_1]
  exact ev_b (ev_p rfl rfl rfl rfl) rfl
set_option maxRecDepth 100000 in
set_option maxHeartbeats 1600000 in
/-- take(): items of a program, onto the spare one -/
theorem p170_169 {V : Nat → Nat → Value} {I : Nat → Nat → Int32} {L : Nat → Nat → Int64} {R : Nat → Nat → Option Nat} {tl : am_H} {A it m i j cnt wd sz : Nat} {kd ln x1 x2 x3 x4 x5 : Int32} {x6 : Int64} {f : Nat → Int32} (p1 : (fx V I L R ++ tl)[A]? = some (.inr (3, [.ref it, .int kd, .int ln, .int (nI sz), .int (nI wd), .int x1, .int x2, .int x3, .int x4, .int x5, .long x6]))) (p2 : (fx V I L R ++ tl)[it]? = some (.inl (0, m, .inl f))) (h3 : V 169 3 = .int (nI cnt)) (h4 : V 169 4 = .int (nI wd)) (hij : i ≤ j) (hj : j ≤ sz) (hsz : sz ≤ 60) (hw : wd ≤ 5) (hm : sz * wd ≤ m) (hm2 : m ≤ 1000) (hc : (cnt + (j - i)) * wd ≤ 120) (hcn : cnt ≤ 120) : fm_170 (.ref 169) (.ref A) (nI i) (nI j) (fx V I L R ++ tl) = some (.inl (some (.int 1), fx (vup V 169 3 (.int (nI (cnt + (j - i))))) (iup I 170 (va_cpy f (I 170) (i * wd) (cnt * wd) ((j - i) * wd))) L R ++ tl)) := by
  have hq : (fx V I L R ++ tl)[169]? = some (.inr (3, [.ref 170, V 169 1, V 169 2, V 169 3, V 169 4, V 169 5, V 169 6, V 169 7, V 169 8, V 169 9, V 169 10])) := rfl
  have g3 : am_vI (am_pG 771 (.ref 169) (fx V I L R ++ tl)) = some (nI cnt) := ev_gI hq rfl (by show some (V 169 3) = _; rw [h3])
  have g4 : am_vI (am_pG 772 (.ref 169) (fx V I L R ++ tl)) = some (nI wd) := ev_gI hq rfl (by show some (V 169 4) = _; rw [h4])
  have a1 : i * wd + (j - i) * wd = j * wd := by rw [← Nat.add_mul, show i + (j - i) = j by omega]
  have a2 : cnt * wd + (j - i) * wd = (cnt + (j - i)) * wd := (Nat.add_mul ..).symm
  have a3 : j * wd ≤ sz * wd := Nat.mul_le_mul_right _ hj
  unfold fm_170 fg_170_0
  refine ev_b (ev_gI p1 rfl rfl) (ev_b g4 (ev_f (fun e => e rfl) (ev_f (nI_pos (by omega)) ?_)))
  rw [nI_sub hij]
  refine ev_f (nI_pos (by omega)) (ev_b (ev_gI p1 rfl rfl) (ev_f (nI_nlt hj (by omega)) (ev_b g3 (ev_b g4 (ev_b (a := Value.ref 170) rfl (ev_b (a := nI 120) rfl ?_))))))
  rw [nI_add, ← nI_mul]
  refine ev_t (nI_le (b := 120) hc (by omega)) (ev_b (ev_gR p1 rfl rfl rfl) (ev_b g4 (ev_b (a := Value.ref 170) rfl (ev_b g3 (ev_b g4 (ev_b g4 ?_))))))
  rw [← nI_mul, ← nI_mul, ← nI_mul]
  refine ev_b (ev_cpy (f := f) (g := I 170) (n0 := m) (n1 := 120) (sp := i * wd) (dp := cnt * wd) (n := (j - i) * wd) (h1 := fx V (iup I 170 (va_cpy f (I 170) (i * wd) (cnt * wd) ((j - i) * wd))) L R ++ tl) p2 rfl (by omega) (by omega) (by omega) (by omega) rfl) ?_
  refine ev_b (a := nI cnt) (ev_gI (fs := [.ref 170, V 169 1, V 169 2, V 169 3, V 169 4, V 169 5, V 169 6, V 169 7, V 169 8, V 169 9, V 169 10]) (c := 3) rfl rfl (by show some (V 169 3) = _; rw [h3])) ?_
  rw [nI_add]
  exact ev_b qp_169_3 rfl
theorem prF_169 {V : Nat → Nat → Value} {I : Nat → Nat → Int32} {L : Nat → Nat → Int64} {R : Nat → Nat → Option Nat} {tl : am_H} {kd ln sz : Nat} (w : wt V) (h1 : V 169 1 = .int (nI kd)) (h2 : V 169 2 = .int (nI ln)) (h3 : V 169 3 = .int (nI sz)) (h4 : V 169 4 = .int (nI (wdN kd))) : prA V I tl 169 170 kd ln sz 120 (I 170) := by
  intro W J L R hw hj
  obtain ⟨x5, e5⟩ := w.1 169 5 (by decide)
  obtain ⟨x6, e6⟩ := w.1 169 6 (by decide)
  obtain ⟨x7, e7⟩ := w.1 169 7 (by decide)
  obtain ⟨x8, e8⟩ := w.1 169 8 (by decide)
  obtain ⟨x9, e9⟩ := w.1 169 9 (by decide)
  obtain ⟨x10, e10⟩ := w.2 169 10 (by decide)
  refine ⟨x5, x6, x7, x8, x9, x10, ?_, ?_⟩
  · show some (Sum.inr (3, [.ref 170, W 169 1, W 169 2, W 169 3, W 169 4, W 169 5, W 169 6, W 169 7, W 169 8, W 169 9, W 169 10])) = _
    rw [hw, hw, hw, hw, hw, hw, hw, hw, hw, hw, h1, h2, h3, h4, e5, e6, e7, e8, e9, e10]
  · show some (Sum.inl (0, 120, Sum.inl (J 170))) = _
    rw [hj]
set_option maxRecDepth 100000 in
set_option maxHeartbeats 4000000 in
theorem p60_169 {V : Nat → Nat → Value} {I : Nat → Nat → Int32} {L : Nat → Nat → Int64} {R : Nat → Nat → Option Nat} {tl : am_H} {A it kd ln sz m : Nat} {f : Nat → Int32} (hp : prA V I tl A it kd ln sz m f) (hA : A ≠ 169) (hk : kd ≤ 3) (hm : sz * wdN kd ≤ m) (hm2 : m ≤ 1000) (hs : sz * wdN kd ≤ 120) (hz : sz ≤ 120) : fm_60 (.ref 169) (.ref A) (fx V I L R ++ tl) = some (.inl (none, fx (vup (vup (vup (vup (vup V 169 1 (.int (nI kd))) 169 2 (.int (nI ln))) 169 3 (.int 0)) 169 4 (.int (if nI kd = 2 then 5 else 2))) 169 3 (.int (nI sz))) (iup I 170 (va_cpy f (I 170) 0 0 (sz * wdN kd))) L R ++ tl)) := by
  obtain ⟨x1, x2, x3, x4, x5, x6, p1, p2⟩ := hp V I L R (fun _ => rfl) rfl
  have ew : (if nI kd = 2 then (5 : Int32) else 2) = nI (wdN kd) := by
    unfold wdN
    by_cases c : kd = 2
    · rw [if_pos c, if_pos (show nI kd = 2 by rw [c]; rfl)]
      rfl
    · rw [if_neg c, if_neg (show ¬ nI kd = 2 from fun e => c ((nI_eq (b := 2) (by omega) (by omega)).mp e))]
      rfl
  have ne : ∀ {X : Value} {j : Nat} {W : Nat → Nat → Value} (i : Nat), vup W 169 j X A i = W A i := fun i => vup_o (fun e => hA e.1)
  obtain ⟨y1, y2, y3, y4, y5, y6, q1, q2⟩ := hp (vup (vup (vup (vup V 169 1 (.int (nI kd))) 169 2 (.int (nI ln))) 169 3 (.int 0)) 169 4 (.int (if nI kd = 2 then 5 else 2))) I L R (fun i => by rw [ne, ne, ne, ne]) rfl
  obtain ⟨z1, z2, z3, z4, z5, z6, r1, r2⟩ := hp (vup (vup (vup (vup (vup V 169 1 (.int (nI kd))) 169 2 (.int (nI ln))) 169 3 (.int 0)) 169 4 (.int (if nI kd = 2 then 5 else 2))) 169 3 (.int (nI sz))) I L R (fun i => by rw [ne, ne, ne, ne, ne]) rfl
  unfold fm_60 fg_60_0
  refine ev_b (ev_gI p1 rfl rfl) (ev_b (ev_gI p1 rfl rfl) (ev_i rfl (ev_cV (p34_169 (nI kd) (nI ln)) ?_)))
  refine ev_b (ev_gI q1 rfl rfl) (ev_b (a := if nI kd = 2 then 5 else 2) rfl (ev_b (a := Value.ref 170) rfl (ev_b (a := nI 120) rfl ?_)))
  rw [show nI sz * (if nI kd = 2 then (5 : Int32) else 2) = nI (sz * wdN kd) by rw [ew, nI_mul]]
  refine ev_f (nI_nlt (a := 120) hs (by omega)) (ev_b (ev_gI q1 rfl rfl) (ev_b qp_169_3 (ev_b (ev_gR r1 rfl rfl rfl) (ev_b (a := Value.ref 170) rfl (ev_b (a := nI sz) rfl (ev_b (a := if nI kd = 2 then 5 else 2) rfl ?_))))))
  rw [show nI sz * (if nI kd = 2 then (5 : Int32) else 2) = nI (sz * wdN kd) by rw [ew, nI_mul]]
  refine ev_b (ev_cpy (f := f) (g := I 170) (n0 := m) (n1 := 120) (sp := 0) (dp := 0) (n := sz * wdN kd) r2 rfl (by omega) (by omega) (by omega) (by omega) rfl) rfl
