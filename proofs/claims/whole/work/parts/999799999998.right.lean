/-! ===== search in the class: one tree at all seen cases ===== -/
theorem hd_264_97 {N : Nat} {rec_6 : Value → Int32 → Int32 → Int32 → Int32 → Int32 → Int32 → Int32 → am_H → Option am_O} {x0 : Value} {x1 : Int32} {x2 : Int32} {x3 : Int32} {x4 : Int32} {x5 : Int32} {x6 : Int32} {x7 : Int32} {h : am_H} {r_ : Option am_O} (k_ : (rec_6 x0 x1 x2 x3 x4 x5 x6 ((x7 + 1)) h) = r_) : fg_264_97 N rec_6 x0 x1 x2 x3 x4 x5 x6 x7 h = r_ := k_
theorem hd_264_83 {N : Nat} {rec_6 : Value → Int32 → Int32 → Int32 → Int32 → Int32 → Int32 → Int32 → am_H → Option am_O} {x0 : Value} {x1 : Int32} {x2 : Int32} {x3 : Int32} {x4 : Int32} {x5 : Int32} {x7 : Int32} {s0 : Int32} {h : am_H} {r_ : Option am_O} (k_ : (if ¬ s0 = 0 then (fg_264_97 N rec_6 x0 x1 x2 x3 x4 x5 s0 x7 h) else (if ¬ x5 = 0 then (fg_264_97 N rec_6 x0 x1 x2 x3 x4 x5 s0 x7 h) else some (.inl (some (.int 0), h)))) = r_) : fg_264_83 N rec_6 x0 x1 x2 x3 x4 x5 x7 s0 h = r_ := k_
theorem hd_264_82 {N : Nat} {rec_6 : Value → Int32 → Int32 → Int32 → Int32 → Int32 → Int32 → Int32 → am_H → Option am_O} {x0 : Value} {x1 : Int32} {x2 : Int32} {x3 : Int32} {x4 : Int32} {x5 : Int32} {x7 : Int32} {h : am_H} {r_ : Option am_O} (k_ : (fg_264_83 N rec_6 x0 x1 x2 x3 x4 x5 x7 0 h) = r_) : fg_264_82 N rec_6 x0 x1 x2 x3 x4 x5 x7 h = r_ := k_
theorem hd_264_51 {N : Nat} {rec_6 : Value → Int32 → Int32 → Int32 → Int32 → Int32 → Int32 → Int32 → am_H → Option am_O} {x0 : Value} {x1 : Int32} {x2 : Int32} {x3 : Int32} {x4 : Int32} {x5 : Int32} {x6 : Int32} {x7 : Int32} {x8 : Int64} {h : am_H} {r_ : Option am_O} (k_ : (if x6 = 0 then (fg_264_82 N rec_6 x0 x1 x2 x3 x4 x5 x7 h) else ((am_vR (am_pG 1031 x0 h)).bind fun v2 => ((am_vR (am_pG 1029 x0 h)).bind fun v4 => ((am_pA 0 v4 x7 h).bind fun v6 => (if am_pOk 2 v2 h then am_cI true (fm_112 v2 v6 3 h) (fun v9 h10 => (if ¬ (lg_cmp x8 (Int32.toInt64 v9)) = 0 then (fg_264_82 N rec_6 x0 x1 x2 x3 x4 x5 x7 h10) else (fg_264_83 N rec_6 x0 x1 x2 x3 x4 x5 x7 1 h10))) else none))))) = r_) : fg_264_51 N rec_6 x0 x1 x2 x3 x4 x5 x6 x7 x8 h = r_ := k_
theorem hd_264_6 {N : Nat} {K : Nat} {x0 : Value} {x1 : Int32} {x2 : Int32} {x3 : Int32} {x4 : Int32} {x5 : Int32} {x6 : Int32} {x7 : Int32} {h : am_H} {r_ : Option am_O} (k_ : ((am_vI (am_pG 1030 x0 h)).bind fun v1 => (if v1 ≤ x7 then (if am_rfit (some FieldType.boolean) x6 then some (.inl (some (.int x6), h)) else none) else (if am_pOk 4 x0 h then am_cL true (fm_265 x0 x1 x2 x3 x7 h) (fun v6 h7 => (if x5 = 0 then (fg_264_51 N (fg_264_6 N K) x0 x1 x2 x3 x4 x5 x6 x7 v6 h7) else (if 7070 ≤ x4 then (fg_264_51 N (fg_264_6 N K) x0 x1 x2 x3 x4 x5 x6 x7 v6 h7) else ((am_vR (am_pG 1028 x0 h7)).bind fun v11 => ((am_pAA v11 x7 h7).bind fun v13 => ((am_pSL v13 x4 v6 h7).bind fun h15 => (fg_264_51 N (fg_264_6 N K) x0 x1 x2 x3 x4 x5 x6 x7 v6 h15))))))) else none))) = r_) : fg_264_6 N (K + 1) x0 x1 x2 x3 x4 x5 x6 x7 h = r_ := by rw [fg_264_6]; exact k_
theorem hd_264_0 {N : Nat} {x0 : Value} {x1 : Int32} {x2 : Int32} {x3 : Int32} {x4 : Int32} {x5 : Int32} {h : am_H} {r_ : Option am_O} (k_ : (fg_264_6 N N x0 x1 x2 x3 x4 x5 1 0 h) = r_) : fg_264_0 N x0 x1 x2 x3 x4 x5 h = r_ := k_
theorem hm_264 {N : Nat} {y0 : Value} {y1 : Int32} {y2 : Int32} {y3 : Int32} {y4 : Int32} {y5 : Int32} {h : am_H} {r_ : Option am_O} (k_ : fg_264_0 N y0 y1 y2 y3 y4 y5 h = r_) : fm_264 N y0 y1 y2 y3 y4 y5 h = r_ := k_
theorem hd_265_212 {s0 : Int64} {h : am_H} {r_ : Option am_O} (k_ : some (.inl (some (.long s0), h)) = r_) : fg_265_212 s0 h = r_ := k_
theorem hd_265_179 {s0 : Int64} {h : am_H} {r_ : Option am_O} (k_ : some (.inl (some (.long s0), h)) = r_) : fg_265_179 s0 h = r_ := k_
theorem hd_265_157 {h : am_H} {r_ : Option am_O} (k_ : (fg_265_179 1099511627776 h) = r_) : fg_265_157 h = r_ := k_
theorem hd_265_135 {x0 : Value} {x1 : Int32} {x5 : Int32} {x6 : Int32} {x7 : Int64} {x9 : Int64} {h : am_H} {r_ : Option am_O} (k_ : (if ¬ x1 = 8 then (if ¬ x1 = 7 then ((am_vR (am_pG 1031 x0 h)).bind fun v3 => ((am_vR (am_pG 514 v3 h)).bind fun v5 => (if am_pOk 6 v5 h then am_cI true (fm_122 v5 x1 ((Int64.toInt32 x7)) ((Int64.toInt32 x9)) h) (fun v8 h9 => (fg_265_212 ((Int32.toInt64 v8)) h9)) else none))) else (fg_265_212 ((Int32.toInt64 (-(Int64.toInt32 x7)))) h)) else (if (lg_cmp x7 0) < 0 then (fg_265_157 h) else (if (lg_cmp x7 (Int32.toInt64 x6)) < 0 then ((am_vR (am_pG 1031 x0 h)).bind fun v13 => (if am_pOk 2 v13 h then am_cI true (fm_112 v13 x5 ((7 + (Int64.toInt32 x7))) h) (fun v16 h17 => (fg_265_179 ((Int32.toInt64 v16)) h17)) else none)) else (fg_265_157 h)))) = r_) : fg_265_135 x0 x1 x5 x6 x7 x9 h = r_ := k_
theorem hd_265_131 {h : am_H} {r_ : Option am_O} (k_ : some (.inl (some (.long 1099511627776), h)) = r_) : fg_265_131 h = r_ := k_
theorem hd_265_124 {x0 : Value} {x1 : Int32} {x5 : Int32} {x6 : Int32} {x7 : Int64} {x9 : Int64} {h : am_H} {r_ : Option am_O} (k_ : (if ¬ (lg_cmp x9 0) = 0 then (fg_265_135 x0 x1 x5 x6 x7 x9 h) else (fg_265_131 h)) = r_) : fg_265_124 x0 x1 x5 x6 x7 x9 h = r_ := k_
theorem hd_265_92 {x0 : Value} {x1 : Int32} {x5 : Int32} {x6 : Int32} {x7 : Int64} {s0 : Int64} {h : am_H} {r_ : Option am_O} (k_ : (if (lg_cmp x7 1099511627776) = 0 then (fg_265_131 h) else (if (lg_cmp s0 1099511627776) = 0 then (fg_265_131 h) else (if x1 = 13 then (fg_265_124 x0 x1 x5 x6 x7 s0 h) else (if ¬ x1 = 14 then (fg_265_135 x0 x1 x5 x6 x7 s0 h) else (fg_265_124 x0 x1 x5 x6 x7 s0 h))))) = r_) : fg_265_92 x0 x1 x5 x6 x7 s0 h = r_ := k_
theorem hd_265_61 {s0 : Int64} {h : am_H} {r_ : Option am_O} (k_ : some (.inl (some (.long s0), h)) = r_) : fg_265_61 s0 h = r_ := k_
theorem hd_265_0 {x0 : Value} {x1 : Int32} {x2 : Int32} {x3 : Int32} {x4 : Int32} {h : am_H} {r_ : Option am_O} (k_ : ((am_vR (am_pG 1029 x0 h)).bind fun v1 => ((am_pA 0 v1 x4 h).bind fun v3 => ((am_vR (am_pG 1031 x0 h)).bind fun v5 => (if am_pOk 2 v5 h then am_cI true (fm_112 v5 v3 6 h) (fun v8 h9 => (if 7 ≤ x1 then ((am_vR (am_pG 1028 x0 h9)).bind fun v12 => ((am_pAA v12 x4 h9).bind fun v14 => ((am_pAL v14 x2 h9).bind fun v16 => (if 10 ≤ x1 then ((am_vR (am_pG 1028 x0 h9)).bind fun v19 => ((am_pAA v19 x4 h9).bind fun v21 => ((am_pAL v21 x3 h9).bind fun v23 => (fg_265_92 x0 x1 v3 v8 v16 v23 h9)))) else (fg_265_92 x0 x1 v3 v8 v16 0 h9))))) else (if ¬ x1 = 0 then (if ¬ x1 = 4 then ((am_vR (am_pG 1031 x0 h9)).bind fun v27 => (if am_pOk 2 v27 h9 then am_cI true (fm_112 v27 v3 ((x1 - 1)) h9) (fun v30 h31 => (fg_265_61 ((Int32.toInt64 v30)) h31)) else none)) else (fg_265_61 ((Int32.toInt64 v8)) h9)) else (fg_265_61 ((Int32.toInt64 x2)) h9)))) else none)))) = r_) : fg_265_0 x0 x1 x2 x3 x4 h = r_ := k_
theorem hm_265 {y0 : Value} {y1 : Int32} {y2 : Int32} {y3 : Int32} {y4 : Int32} {h : am_H} {r_ : Option am_O} (k_ : fg_265_0 y0 y1 y2 y3 y4 h = r_) : fm_265 y0 y1 y2 y3 y4 h = r_ := k_

def encO : Option Int32 → Int64
  | none => 1099511627776
  | some w => w.toInt64
theorem e32 (w : Int32) : w.toInt64.toInt32 = w := Int32.toInt32_toInt64 w
theorem e64_inj {a b : Int32} (h : a.toInt64 = b.toInt64) : a = b := by
  have := congrArg Int64.toInt32 h
  rw [e32, e32] at this
  exact this
theorem e64_lt {a b : Int32} : a.toInt64 < b.toInt64 ↔ a < b := by
  constructor
  · intro h
    exact Int32.not_le.mp (fun q => absurd (w64le q) (Int64.not_le.mpr h))
  · exact w64lt
theorem e64_f {w : Int32} : ¬ w.toInt64 = 1099511627776 := fun h => by
  have h1 := congrArg Int64.toInt h
  rw [Int32.toInt_toInt64, show (1099511627776 : Int64).toInt = 1099511627776 by decide] at h1
  have h2 := Int32.toInt_lt w
  omega
theorem encO_n {o : Option Int32} : lg_cmp (encO o) 1099511627776 = 0 ↔ o = none := by
  rw [lg_cmp_eq]
  cases o with
  | none => exact ⟨fun _ => rfl, fun _ => rfl⟩
  | some w => exact ⟨fun h => absurd h e64_f, fun h => by cases h⟩
theorem encO_w {o : Option Int32} {w : Int32} : lg_cmp (encO o) w.toInt64 = 0 ↔ o = some w := by
  rw [lg_cmp_eq]
  cases o with
  | none => exact ⟨fun h => absurd h.symm e64_f, fun h => by cases h⟩
  | some v => exact ⟨fun h => by rw [e64_inj h], fun h => by rw [Option.some.inj h]; rfl⟩
/-- what is sought for: the cases that are seen, their facts, the tables -/
def tbl (R : Nat → Nat → Option Nat) (tl : am_H) (m : Nat) (a : Nat → Nat) (F : Nat → Nat → Int64) : Prop := ∀ k, k < m → R 87 k = some (269 + a k) ∧ tl[a k]? = some (.inl (1, 7070, .inr (.inl (F k))))
def tlq (a : Nat → Nat) (m : Nat) (tl tl' : am_H) : Prop := (∀ x, (∀ k, k < m → x ≠ a k) → tl'[x]? = tl[x]?) ∧ tl'.length = tl.length ∧ am_sz tl' = am_sz tl
theorem tlq_r {a : Nat → Nat} {m : Nat} {tl : am_H} : tlq a m tl tl := ⟨fun _ _ => rfl, rfl, rfl⟩
theorem tlq_t {a : Nat → Nat} {m : Nat} {t1 t2 t3 : am_H} (h : tlq a m t1 t2) (h' : tlq a m t2 t3) : tlq a m t1 t3 := ⟨fun x hx => (h'.1 x hx).trans (h.1 x hx), h'.2.1.trans h.2.1, h'.2.2.trans h.2.2⟩
def csS (V : Nat → Nat → Value) (I : Nat → Nat → Int32) (m : Nat) (cN : Nat → Nat) : Prop := V 76 6 = .int (nI m) ∧ V 76 7 = .ref 14 ∧ m ≤ 24 ∧ ∀ k, k < m → I 88 k = nI (cN k) ∧ cN k < 24 ∧ cOk I (cN k)
def vC (I : Nat → Nat → Int32) (j n p : Nat) : Option Int32 := vQ (I 197 j) (I 198 j) (I 199 j) (clN (I 203) j) (fun i => I 204 (8 * j + i)) n p
theorem g87 {V : Nat → Nat → Value} {I : Nat → Nat → Int32} {L : Nat → Nat → Int64} {R : Nat → Nat → Option Nat} {tl : am_H} {m k : Nat} {a : Nat → Nat} {F : Nat → Nat → Int64} (h : tbl R tl m a F) (hm : m ≤ 24) (hk : k < m) : am_pAA (.ref 87) (nI k) (fx V I L R ++ tl) = some (.ref (269 + a k)) := by
  rw [ev_A (f := R 87) (n := 24) (t := 6) rfl rfl (am_inb_n (by omega) (by omega)), nI_clamp (by omega), (h k hk).1]
  rfl
theorem t87 {V : Nat → Nat → Value} {I : Nat → Nat → Int32} {L : Nat → Nat → Int64} {R : Nat → Nat → Option Nat} {tl : am_H} {m k q : Nat} {a : Nat → Nat} {F : Nat → Nat → Int64} (h : tbl R tl m a F) (hk : k < m) (hq : q < 7070) : am_pAL (.ref (269 + a k)) (nI q) (fx V I L R ++ tl) = some (F k q) := by
  rw [ev_aL (f := F k) (n := 7070) (by rw [tl_at]; exact (h k hk).2) (am_inb_n hq (by omega)), nI_clamp (by omega)]
theorem s87 {V : Nat → Nat → Value} {I : Nat → Nat → Int32} {L : Nat → Nat → Int64} {R : Nat → Nat → Option Nat} {tl : am_H} {m k q : Nat} {a : Nat → Nat} {F : Nat → Nat → Int64} {x : Int64} (h : tbl R tl m a F) (hi : ∀ k k', k < m → k' < m → a k = a k' → k = k') (hk : k < m) (hq : q < 7070) : ∃ tl', am_pSL (.ref (269 + a k)) (nI q) x (fx V I L R ++ tl) = some (fx V I L R ++ tl') ∧ tbl R tl' m a (fun j => if j = k then vp_updL (F k) q x else F j) ∧ tlq a m tl tl' := by
  have hg := (h k hk).2
  have hl := (List.getElem?_eq_some_iff.mp hg).1
  refine ⟨tl.set (a k) (.inl (1, 7070, .inr (.inl (vp_updL (F k) q x)))), ?_, fun j hj => ⟨(h j hj).1, ?_⟩, fun y hy => ?_, List.length_set, am_sz_set hg rfl⟩
  · refine ev_sL (f := F k) (n := 7070) (by rw [tl_at]; exact hg) (am_inb_n hq (by omega)) ?_
    rw [List.set_append_right _ _ (by rw [fx_len]; omega), fx_len, Nat.add_sub_cancel_left, nI_clamp (by omega)]
  · show _ = some (Sum.inl (1, 7070, Sum.inr (Sum.inl (if j = k then vp_updL (F k) q x else F j))))
    by_cases c : j = k
    · rw [if_pos c, c, List.getElem?_set_self hl]
    · rw [if_neg c, List.getElem?_set_ne (fun e => c (hi j k hj hk e.symm))]
      exact (h j hj).2
  · rw [List.getElem?_set_ne (fun e => hy k hk e.symm)]
theorem c_122b {s : Nat} {a b : Int32} {h : am_H} (hs : 10 ≤ s ∧ s ≤ 14) {w : Int32} (ho : on2 s a b = some w) : fm_122 (.ref 16) (nI s) a b h = some (.inl (some (.int w), h)) := by
  unfold on2 at ho
  rcases (by omega : s = 10 ∨ s = 11 ∨ s = 12 ∨ s = 13 ∨ s = 14) with rfl | rfl | rfl | rfl | rfl
  · rw [if_neg (fun h => by rcases h.1 with h | h <;> exact absurd h (by decide))] at ho
    rw [← Option.some.inj ho]
    rfl
  · rw [if_neg (fun h => by rcases h.1 with h | h <;> exact absurd h (by decide))] at ho
    rw [← Option.some.inj ho]
    unfold fm_122 fg_122_0
    exact ev_f (by decide) (ev_t rfl rfl)
  · rw [if_neg (fun h => by rcases h.1 with h | h <;> exact absurd h (by decide))] at ho
    rw [← Option.some.inj ho]
    unfold fm_122 fg_122_0
    exact ev_f (by decide) (ev_f (by decide) (ev_t rfl rfl))
  · by_cases c : b = 0
    · rw [if_pos ⟨.inl rfl, c⟩] at ho
      cases ho
    · rw [if_neg (fun h => c h.2)] at ho
      have e : (twoV 13 a b (0, 0, 0, 0)).1 = a / b := by
        show (if b = 0 then ((0 : Int32), ((1, 0, 0, 0) : eSt)) else (a / b, (0, 0, 0, 0))).1 = _
        rw [if_neg c]
      rw [← Option.some.inj ho, e]
      unfold fm_122 fg_122_0 fg_122_78
      exact ev_f (by decide) (ev_f (by decide) (ev_f (by decide) (ev_f (by decide) (ev_f (by decide) (ev_t c (ev_f (fun u => u rfl) (ev_t c rfl)))))))
  · by_cases c : b = 0
    · rw [if_pos ⟨.inr rfl, c⟩] at ho
      cases ho
    · rw [if_neg (fun h => c h.2)] at ho
      have e : (twoV 14 a b (0, 0, 0, 0)).1 = a - a / b * b := by
        show (if b = 0 then ((0 : Int32), ((1, 0, 0, 0) : eSt)) else (a - a / b * b, (0, 0, 0, 0))).1 = _
        rw [if_neg c]
      rw [← Option.some.inj ho, e]
      unfold fm_122 fg_122_0 fg_122_78
      exact ev_f (by decide) (ev_f (by decide) (ev_f (by decide) (ev_f (by decide) (ev_f (by decide) (ev_t c (ev_t (by decide) (ev_t c rfl)))))))
set_option maxRecDepth 100000 in
set_option maxHeartbeats 4000000 in
theorem c_265a {V : Nat → Nat → Value} {I : Nat → Nat → Int32} {L : Nat → Nat → Int64} {R : Nat → Nat → Option Nat} {tl : am_H} {m k s : Nat} {cN : Nat → Nat} {xa xb : Int32} (hc : csS V I m cN) (hk : k < m) (hs : s < 5) : fm_265 (.ref 76) (nI s) xa xb (nI k) (fx V I L R ++ tl) = some (.inl (some (.long (encO (some (if s = 0 then xa else lfV (I 197 (cN k)) (I 198 (cN k)) (I 199 (cN k)) (clN (I 203) (cN k)) s 0 (0, 0, 0, 0))))), fx V I L R ++ tl)) := by
  obtain ⟨h6, h7, hm, hf⟩ := hc
  obtain ⟨i1, i2, k1, k2, k3, k4, k5, k6, ⟨l, l1, l2, l3⟩, k8⟩ := hf k hk
  have hl : clN (I 203) (cN k) = l := clN_at l2 (by omega)
  have g88 : am_pA 0 (.ref 88) (nI k) (fx V I L R ++ tl) = some (nI (cN k)) := (qa_88 (by omega)).trans (congrArg some i1)
  have f6 := c_112 (V := V) (I := I) (L := L) (R := R) (tl := tl) (k := cN k) (w := 6) i2 (by omega)
  rw [l3] at f6
  apply hm_265
  apply hd_265_0
  refine ev_b (rdR rfl) (ev_b g88 (ev_b (a := Value.ref 14) (rVR qv_76_7 h7) (ev_i rfl (ev_cI f6 (ev_f (nI_ge (b := 7) (by omega) (by omega)) ?_)))))
  rcases (by omega : s = 0 ∨ s = 4 ∨ s = 1 ∨ s = 2 ∨ s = 3) with rfl | rfl | rfl | rfl | rfl
  · exact ev_f (fun u => u rfl) (hd_265_61 rfl)
  · refine ev_t (by decide) (ev_f (fun u => u rfl) (hd_265_61 ?_))
    rw [hl]
    rfl
  · have f := c_112 (V := V) (I := I) (L := L) (R := R) (tl := tl) (k := cN k) (w := 0) i2 (by omega)
    rw [Nat.add_zero, k1] at f
    exact ev_t (by decide) (ev_t (by decide) (ev_b (a := Value.ref 14) (rVR qv_76_7 h7) (ev_i rfl (ev_cI f (hd_265_61 rfl)))))
  · have f := c_112 (V := V) (I := I) (L := L) (R := R) (tl := tl) (k := cN k) (w := 1) i2 (by omega)
    rw [k2] at f
    exact ev_t (by decide) (ev_t (by decide) (ev_b (a := Value.ref 14) (rVR qv_76_7 h7) (ev_i rfl (ev_cI f (hd_265_61 rfl)))))
  · have f := c_112 (V := V) (I := I) (L := L) (R := R) (tl := tl) (k := cN k) (w := 2) i2 (by omega)
    rw [k3] at f
    exact ev_t (by decide) (ev_t (by decide) (ev_b (a := Value.ref 14) (rVR qv_76_7 h7) (ev_i rfl (ev_cI f (hd_265_61 rfl)))))
set_option maxRecDepth 100000 in
set_option maxHeartbeats 4000000 in
theorem c_265b {V : Nat → Nat → Value} {I : Nat → Nat → Int32} {L : Nat → Nat → Int64} {R : Nat → Nat → Option Nat} {tl : am_H} {m k s qa qb : Nat} {cN a : Nat → Nat} {F : Nat → Nat → Int64} {o1 o2 : Option Int32} (hc : csS V I m cN) (hk : k < m) (ht : tbl R tl m a F) (hqa : qa < 7070) (ha : F k qa = encO o1) (hs : s = 7 ∨ s = 8 ∨ ((10 ≤ s ∧ s ≤ 14) ∧ qb < 7070 ∧ F k qb = encO o2)) : fm_265 (.ref 76) (nI s) (nI qa) (nI qb) (nI k) (fx V I L R ++ tl) = some (.inl (some (.long (encO (if s < 10 then o1.bind (on1 (clN (I 203) (cN k)) (fun i => I 204 (8 * cN k + i)) s) else o1.bind (fun u => o2.bind (on2 s u))))), fx V I L R ++ tl)) := by
  obtain ⟨h6, h7, hm, hf⟩ := hc
  obtain ⟨i1, i2, k1, k2, k3, k4, k5, k6, ⟨l, l1, l2, l3⟩, k8⟩ := hf k hk
  have hl : clN (I 203) (cN k) = l := clN_at l2 (by omega)
  have g88 : am_pA 0 (.ref 88) (nI k) (fx V I L R ++ tl) = some (nI (cN k)) := (qa_88 (by omega)).trans (congrArg some i1)
  have f6 := c_112 (V := V) (I := I) (L := L) (R := R) (tl := tl) (k := cN k) (w := 6) i2 (by omega)
  rw [l3] at f6
  have ga := t87 (V := V) (I := I) (L := L) ht hk hqa
  rw [ha] at ga
  rw [hl]
  apply hm_265
  apply hd_265_0
  refine ev_b (rdR rfl) (ev_b g88 (ev_b (a := Value.ref 14) (rVR qv_76_7 h7) (ev_i rfl (ev_cI f6 (ev_t (nI_le (a := 7) (by omega) (by omega)) (ev_b (rdR rfl) (ev_b (g87 ht hm hk) (ev_b ga ?_))))))))
  rcases hs with rfl | rfl | ⟨hs, hqb, hb⟩
  · rw [if_pos (show (7 : Nat) < 10 by decide)]
    refine ev_f (by decide) ?_
    apply hd_265_92
    cases o1 with
    | none => exact ev_t (encO_n.mpr rfl) (hd_265_131 rfl)
    | some u =>
      refine ev_f (fun q => by have := encO_n.mp q; cases this) (ev_f (by decide) (ev_f (by decide) (ev_t (by decide) ?_)))
      apply hd_265_135
      refine ev_t (by decide) (ev_f (fun q => q rfl) (hd_265_212 ?_))
      rw [show (encO (some u)).toInt32 = u from e32 u]
      rfl
  · rw [if_pos (show (8 : Nat) < 10 by decide)]
    refine ev_f (by decide) ?_
    apply hd_265_92
    cases o1 with
    | none => exact ev_t (encO_n.mpr rfl) (hd_265_131 rfl)
    | some u =>
      refine ev_f (fun q => by have := encO_n.mp q; cases this) (ev_f (by decide) (ev_f (by decide) (ev_t (by decide) ?_)))
      apply hd_265_135
      have e : (some u).bind (on1 l (fun i => I 204 (8 * cN k + i)) 8) = if u < 0 ∨ nI l ≤ u then none else some (I 204 (8 * cN k + u.toNatClampNeg)) := rfl
      rw [e]
      refine ev_f (fun q => q rfl) ?_
      have z1 : lg_cmp (encO (some u)) 0 < 0 ↔ u < 0 := by
        rw [lg_cmp_lt]
        exact e64_lt (b := 0)
      have z2 : lg_cmp (encO (some u)) (nI l).toInt64 < 0 ↔ u < nI l := by
        rw [lg_cmp_lt]
        exact e64_lt
      by_cases c1 : u < 0
      · rw [if_pos (show u < 0 ∨ nI l ≤ u from .inl c1)]
        exact ev_t (z1.mpr c1) (hd_265_157 (hd_265_179 rfl))
      · by_cases c2 : nI l ≤ u
        · rw [if_pos (show u < 0 ∨ nI l ≤ u from .inr c2)]
          exact ev_f (fun q => c1 (z1.mp q)) (ev_f (fun q => absurd (z2.mp q) (Int32.not_lt.mpr c2)) (hd_265_157 (hd_265_179 rfl)))
        · rw [if_neg (show ¬ (u < 0 ∨ nI l ≤ u) from fun q => q.elim c1 c2)]
          obtain ⟨b, hb, rfl⟩ : ∃ b, b < l ∧ u = nI b := by
            rcases dich u (n := l) (by omega) with q | q
            · exact absurd q (fun q => q.elim c1 c2)
            · exact q
          rw [nI_clamp (by omega)]
          have f := c_112 (V := V) (I := I) (L := L) (R := R) (tl := tl) (k := cN k) (w := 7 + b) i2 (by omega)
          rw [k8 b (by omega)] at f
          refine ev_f (fun q => c1 (z1.mp q)) (ev_t (z2.mpr (Int32.not_le.mp c2)) (ev_b (a := Value.ref 14) (rVR qv_76_7 h7) (ev_i rfl ?_)))
          rw [show (encO (some (nI b))).toInt32 = nI b from e32 _, show (7 : Int32) + nI b = nI (7 + b) from nI_add 7 b]
          exact ev_cI f (hd_265_179 rfl)
  · have gb := t87 (V := V) (I := I) (L := L) ht hk hqb
    rw [hb] at gb
    rw [if_neg (show ¬ s < 10 by omega)]
    refine ev_t (nI_le (a := 10) (by omega) (by omega)) (ev_b (rdR rfl) (ev_b (g87 ht hm hk) (ev_b gb ?_)))
    apply hd_265_92
    cases o1 with
    | none => exact ev_t (encO_n.mpr rfl) (hd_265_131 rfl)
    | some u =>
      refine ev_f (fun q => by have := encO_n.mp q; cases this) ?_
      cases o2 with
      | none => exact ev_t (encO_n.mpr rfl) (hd_265_131 rfl)
      | some w =>
        refine ev_f (fun q => by have := encO_n.mp q; cases this) ?_
        have e : (some u).bind (fun u => (some w).bind (on2 s u)) = on2 s u w := rfl
        rw [e]
        have fin : on2 s u w ≠ none → fg_265_135 (.ref 76) (nI s) (nI (cN k)) (nI l) (encO (some u)) (encO (some w)) (fx V I L R ++ tl) = some (.inl (some (.long (encO (on2 s u w))), fx V I L R ++ tl)) := fun hn => by
          cases ho : on2 s u w with
          | none => exact absurd ho hn
          | some g =>
            apply hd_265_135
            refine ev_t (fun q => by have := (nI_eq (b := 8) (by omega) (by omega)).mp q; omega) (ev_t (fun q => by have := (nI_eq (b := 7) (by omega) (by omega)).mp q; omega) (ev_b (a := Value.ref 14) (rVR qv_76_7 h7) (ev_b (rdR rfl) (ev_i rfl ?_))))
            rw [show (encO (some u)).toInt32 = u from e32 u, show (encO (some w)).toInt32 = w from e32 w]
            exact ev_cI (c_122b hs ho) (hd_265_212 rfl)
        have zw : (lg_cmp (encO (some w)) 0 = 0) ↔ w = 0 := by
          rw [lg_cmp_eq]
          exact ⟨fun h => e64_inj (b := 0) h, fun h => by rw [h]; rfl⟩
        have div : (s = 13 ∨ s = 14) → fg_265_124 (.ref 76) (nI s) (nI (cN k)) (nI l) (encO (some u)) (encO (some w)) (fx V I L R ++ tl) = some (.inl (some (.long (encO (on2 s u w))), fx V I L R ++ tl)) := fun h => by
          apply hd_265_124
          by_cases c : w = 0
          · refine ev_f (fun q => q (zw.mpr c)) (hd_265_131 ?_)
            rw [show on2 s u w = none from if_pos ⟨h, c⟩]
            rfl
          · refine ev_t (fun q => c (zw.mp q)) (fin ?_)
            rw [show on2 s u w = some _ from if_neg (fun q => c q.2)]
            exact fun q => by cases q
        by_cases c3 : s = 13
        · exact ev_t (by rw [c3]; rfl) (div (.inl c3))
        · refine ev_f (fun q => c3 ((nI_eq (b := 13) (by omega) (by omega)).mp q)) ?_
          by_cases c4 : s = 14
          · exact ev_f (fun q => q (by rw [c4]; rfl)) (div (.inr c4))
          · refine ev_t (fun q => c4 ((nI_eq (b := 14) (by omega) (by omega)).mp q)) (fin ?_)
            rw [show on2 s u w = some _ from if_neg (fun q => q.1.elim c3 c4)]
            exact fun q => by cases q
/-- right at all seen cases from k on -/
def rb (o : Nat → Option Int32) (w : Nat → Int32) : Nat → Nat → Bool
  | 0, _ => true
  | t + 1, k => decide (o k = some (w k)) && rb o w t (k + 1)
theorem bI_0 {b : Bool} : bI b = 0 ↔ b = false := by cases b <;> decide
set_option maxRecDepth 100000 in
set_option maxHeartbeats 4000000 in
theorem c_264l {V : Nat → Nat → Value} {I : Nat → Nat → Int32} {L : Nat → Nat → Int64} {R : Nat → Nat → Option Nat} {N m s out : Nat} {cN a : Nat → Nat} {xa xb : Int32} {kp : Bool} {o : Nat → Option Int32} {Q : (Nat → Int64) → Nat → Prop} (hc : csS V I m cN) (hi : ∀ k k', k < m → k' < m → a k = a k' → k = k') (ho : kp = true → out < 7070) (hout : out < 200000) (h265 : ∀ (tl : am_H) (F : Nat → Nat → Int64) (k : Nat), k < m → tbl R tl m a F → Q (F k) k → fm_265 (.ref 76) (nI s) xa xb (nI k) (fx V I L R ++ tl) = some (.inl (some (.long (encO (o k))), fx V I L R ++ tl))) : ∀ (t k K : Nat) (tl : am_H) (F : Nat → Nat → Int64) (al : Bool), k + t = m → t < K → tbl R tl m a F → (∀ j, k ≤ j → j < m → Q (F j) j) → ∃ tl' F', fg_264_6 N K (.ref 76) (nI s) xa xb (nI out) (bI kp) (bI al) (nI k) (fx V I L R ++ tl) = some (.inl (some (.int (bI (al && rb o (fun k => I 200 (cN k)) t k))), fx V I L R ++ tl')) ∧ tbl R tl' m a F' ∧ tlq a m tl tl' ∧ (kp = true → ∀ j, j < m → F' j = if k ≤ j then vp_updL (F j) out (encO (o j)) else F j) ∧ (kp = false → F' = F) := by
  intro t
  induction t with
  | zero =>
    intro k K tl F al hk hK ht hQ
    obtain ⟨K, rfl⟩ : ∃ k, K = k + 1 := ⟨K - 1, by omega⟩
    refine ⟨tl, F, ?_, ht, tlq_r, fun _ j hj => by rw [if_neg (by omega)], fun _ => rfl⟩
    apply hd_264_6
    rw [show rb o (fun k => I 200 (cN k)) 0 k = true from rfl, Bool.and_true]
    exact ev_b (rdI hc.1) (ev_t (nI_le (by omega) (by have := hc.2.2.1; omega)) (ev_i (bI_fit al) rfl))
  | succ t ih =>
    intro k K tl F al hk hK ht hQ
    obtain ⟨K, rfl⟩ : ∃ k, K = k + 1 := ⟨K - 1, by omega⟩
    have hkm : k < m := by omega
    have m24 := hc.2.2.1
    obtain ⟨i1, i2, i3⟩ := hc.2.2.2 k hkm
    have g88 : ∀ tl, am_pA 0 (.ref 88) (nI k) (fx V I L R ++ tl) = some (nI (cN k)) := fun tl => (qa_88 (by omega)).trans (congrArg some i1)
    have f3 : ∀ tl, fm_112 (.ref 14) (nI (cN k)) 3 (fx V I L R ++ tl) = some (.inl (some (.int (I 200 (cN k))), fx V I L R ++ tl)) := fun tl => by
      have := c_112 (V := V) (I := I) (L := L) (R := R) (tl := tl) (k := cN k) (w := 3) i2 (by omega)
      rw [i3.2.2.2.1] at this
      exact this
    obtain ⟨d, ed⟩ : ∃ d, d = decide (o k = some (I 200 (cN k))) := ⟨_, rfl⟩
    -- behind the outcome
    have e51 : ∀ (rc : Value → Int32 → Int32 → Int32 → Int32 → Int32 → Int32 → Int32 → am_H → Option am_O) (tl : am_H), fg_264_51 N rc (.ref 76) (nI s) xa xb (nI out) (bI kp) (bI al) (nI k) (encO (o k)) (fx V I L R ++ tl) = if kp = false ∧ (al && d) = false then some (.inl (some (.int 0), fx V I L R ++ tl)) else rc (.ref 76) (nI s) xa xb (nI out) (bI kp) (bI (al && d)) (nI (k + 1)) (fx V I L R ++ tl) := fun rc tl => by
      have e83 : ∀ b : Bool, fg_264_83 N rc (.ref 76) (nI s) xa xb (nI out) (bI kp) (nI k) (bI b) (fx V I L R ++ tl) = if kp = false ∧ b = false then some (.inl (some (.int 0), fx V I L R ++ tl)) else rc (.ref 76) (nI s) xa xb (nI out) (bI kp) (bI b) (nI (k + 1)) (fx V I L R ++ tl) := fun b => by
        apply hd_264_83
        cases b with
        | true =>
          rw [if_neg (show ¬ (kp = false ∧ true = false) from fun q => by cases q.2)]
          refine ev_t (by decide) (hd_264_97 ?_)
          rw [nI_1]
        | false =>
          refine ev_f (fun q => q rfl) ?_
          cases kp with
          | true =>
            rw [if_neg (show ¬ (true = false ∧ false = false) from fun q => by cases q.1)]
            refine ev_t (by decide) (hd_264_97 ?_)
            rw [nI_1]
          | false =>
            rw [if_pos (show false = false ∧ false = false from ⟨rfl, rfl⟩)]
            exact ev_f (fun q => q rfl) rfl
      apply hd_264_51
      cases al with
      | false => exact ev_t rfl (hd_264_82 (e83 false))
      | true =>
        rw [Bool.true_and]
        refine ev_f (by decide) (ev_b (a := Value.ref 14) (rVR qv_76_7 hc.2.1) (ev_b (rdR rfl) (ev_b (g88 tl) (ev_i rfl (ev_cI (f3 tl) ?_)))))
        by_cases c : o k = some (I 200 (cN k))
        · rw [show d = true by rw [ed]; exact decide_eq_true c]
          exact ev_f (fun q => q (encO_w.mpr c)) (e83 true)
        · rw [show d = false by rw [ed]; exact decide_eq_false c]
          exact ev_t (fun q => c (encO_w.mp q)) (hd_264_82 (e83 false))
    have e0 := h265 tl F k hkm ht (hQ k (Nat.le_refl k) hkm)
    have erb : (al && rb o (fun k => I 200 (cN k)) (t + 1) k) = ((al && d) && rb o (fun k => I 200 (cN k)) t (k + 1)) := by
      show (al && (decide (o k = some (I 200 (cN k))) && rb o (fun k => I 200 (cN k)) t (k + 1))) = _
      rw [← ed, Bool.and_assoc]
    cases kp with
    | true =>
      obtain ⟨tl1, e1, t1, q1⟩ := s87 (V := V) (I := I) (L := L) (x := encO (o k)) ht hi hkm (ho rfl)
      obtain ⟨tl', F', e2, t2, q2, x2, -⟩ := ih (k + 1) K tl1 _ (al && d) (by omega) (by omega) t1 (fun j h1 h2 => by
        rw [show (if j = k then vp_updL (F k) out (encO (o k)) else F j) = F j from if_neg (by omega)]
        exact hQ j (by omega) h2)
      refine ⟨tl', F', ?_, t2, tlq_t q1 q2, fun _ j hj => ?_, fun h => by cases h⟩
      · rw [erb, ← e2]
        apply hd_264_6
        refine ev_b (rdI hc.1) (ev_f (nI_ge hkm (by omega)) (ev_i rfl (ev_cL e0 (ev_f (by decide) (ev_f (nI_ge (b := 7070) (ho rfl) (by omega)) (ev_b (rdR rfl) (ev_b (g87 ht m24 hkm) (ev_b e1 ?_))))))))
        rw [e51, if_neg (fun q => by cases q.1)]
      · rw [x2 rfl j hj]
        by_cases c : j = k
        · rw [if_neg (by omega), if_pos c, c, if_pos (Nat.le_refl k)]
        · rw [if_neg c]
          by_cases c2 : k ≤ j
          · rw [if_pos (by omega), if_pos c2]
          · rw [if_neg (by omega), if_neg c2]
    | false =>
      by_cases c : (al && d) = false
      · refine ⟨tl, F, ?_, ht, tlq_r, fun h => (by cases h), fun _ => rfl⟩
        rw [erb, c]
        apply hd_264_6
        refine ev_b (rdI hc.1) (ev_f (nI_ge hkm (by omega)) (ev_i rfl (ev_cL e0 (ev_t rfl ?_))))
        rw [e51, if_pos ⟨rfl, c⟩]
        rfl
      · obtain ⟨tl', F', e2, t2, q2, -, x3⟩ := ih (k + 1) K tl F (al && d) (by omega) (by omega) ht (fun j h1 h2 => hQ j (by omega) h2)
        refine ⟨tl', F', ?_, t2, q2, fun h => (by cases h), x3⟩
        rw [erb, ← e2]
        apply hd_264_6
        refine ev_b (rdI hc.1) (ev_f (nI_ge hkm (by omega)) (ev_i rfl (ev_cL e0 (ev_t rfl ?_))))
        rw [e51, if_neg (fun q => c q.2)]
