/-! ===== the reference's desks as lists ===== -/
theorem hd_443_2 {N : Nat} {K : Nat} {x0 : Value} {x2 : Int32} {x3 : Int32} {h : am_H} {r_ : Option am_O} (k_ : (if x2 ≤ x3 then some (.inl (none, h)) else ((am_vR (am_pG 3093 x0 h)).bind fun v2 => ((am_pA 0 v2 x3 h).bind fun v4 => ((am_vR (am_pG 3094 x0 h)).bind fun v6 => ((am_pA 0 v6 x3 h).bind fun v8 => (if am_pOk 12 x0 h then am_cV true (fm_335 x0 v4 v8 h) (fun h12 => (fg_443_2 N K x0 x2 ((x3 + 1)) h12)) else none)))))) = r_) : fg_443_2 N (K + 1) x0 x2 x3 h = r_ := by rw [fg_443_2]; exact k_
theorem hd_443_0 {N : Nat} {x0 : Value} {x1 : Int32} {x2 : Int32} {h : am_H} {r_ : Option am_O} (k_ : (fg_443_2 N N x0 x2 x1 h) = r_) : fg_443_0 N x0 x1 x2 h = r_ := k_
theorem hm_443 {N : Nat} {y0 : Value} {y1 : Int32} {y2 : Int32} {h : am_H} {r_ : Option am_O} (k_ : fg_443_0 N y0 y1 y2 h = r_) : fm_443 N y0 y1 y2 h = r_ := k_
theorem hd_442_0 {N : Nat} {x0 : Value} {h : am_H} {r_ : Option am_O} (k_ : ((am_vI (am_pG 3092 x0 h)).bind fun v1 => ((am_pP 3085 x0 (.int v1) h).bind fun h3 => ((am_pP 3086 x0 (.int 0) h3).bind fun h5 => ((am_vI (am_pG 3091 x0 h5)).bind fun v7 => ((am_pP 3087 x0 (.int v7) h5).bind fun h9 => ((am_vI (am_pG 3090 x0 h9)).bind fun v11 => (if am_pOk 12 x0 h9 then am_cV true (fm_443 N x0 0 v11 h9) (fun h15 => some (.inl (none, h15))) else none))))))) = r_) : fg_442_0 N x0 h = r_ := k_
theorem hm_442 {N : Nat} {y0 : Value} {h : am_H} {r_ : Option am_O} (k_ : fg_442_0 N y0 h = r_) : fm_442 N y0 h = r_ := k_
theorem hd_540_0 {N : Nat} {x0 : Value} {x1 : Int32} {x2 : Int32} {h : am_H} {r_ : Option am_O} (k_ : (if am_pOk 12 x0 h then am_cV true (fm_451 x0 h) (fun h3 => (if am_pOk 12 x0 h3 then am_cV true (fm_443 N x0 0 x1 h3) (fun h7 => (if am_pOk 12 x0 h7 then am_cV true (fm_335 x0 0 x2 h7) (fun h11 => ((am_vR (am_pG 3098 x0 h11)).bind fun v13 => ((am_pA 0 v13 x1 h11).bind fun v15 => ((am_vI (am_pG 3090 x0 h11)).bind fun v17 => (if am_pOk 12 x0 h11 then am_cV true (fm_443 N x0 ((x1 + v15)) v17 h11) (fun h21 => some (.inl (some (.int 1), h21))) else none))))) else none)) else none)) else none) = r_) : fg_540_0 N x0 x1 x2 h = r_ := k_
theorem hm_540 {N : Nat} {y0 : Value} {y1 : Int32} {y2 : Int32} {h : am_H} {r_ : Option am_O} (k_ : fg_540_0 N y0 y1 y2 h = r_) : fm_540 N y0 y1 y2 h = r_ := k_
theorem hd_543_0 {N : Nat} {x0 : Value} {x1 : Int32} {x2 : Int32} {h : am_H} {r_ : Option am_O} (k_ : (if am_pOk 12 x0 h then am_cV true (fm_451 x0 h) (fun h3 => (if am_pOk 12 x0 h3 then am_cV true (fm_443 N x0 0 x1 h3) (fun h7 => ((am_vR (am_pG 3098 x0 h7)).bind fun v9 => ((am_pA 0 v9 x2 h7).bind fun v11 => (if am_pOk 12 x0 h7 then am_cV true (fm_443 N x0 x2 ((x2 + v11)) h7) (fun h15 => ((am_vR (am_pG 3098 x0 h15)).bind fun v17 => ((am_pA 0 v17 x1 h15).bind fun v19 => ((am_vI (am_pG 3090 x0 h15)).bind fun v21 => (if am_pOk 12 x0 h15 then am_cV true (fm_443 N x0 ((x1 + v19)) v21 h15) (fun h25 => some (.inl (some (.int 1), h25))) else none))))) else none)))) else none)) else none) = r_) : fg_543_0 N x0 x1 x2 h = r_ := k_
theorem hm_543 {N : Nat} {y0 : Value} {y1 : Int32} {y2 : Int32} {h : am_H} {r_ : Option am_O} (k_ : fg_543_0 N y0 y1 y2 h = r_) : fm_543 N y0 y1 y2 h = r_ := k_
theorem hd_393_7 {N : Nat} {K : Nat} {x0 : Value} {x2 : Int32} {x3 : Int32} {x4 : Int32} {h : am_H} {r_ : Option am_O} (k_ : (if x2 ≤ x4 then some (.inl (some (.int x3), h)) else ((am_vR (am_pG 3098 x0 h)).bind fun v2 => ((am_pA 0 v2 x3 h).bind fun v4 => (fg_393_7 N K x0 x2 ((x3 + v4)) ((x4 + 1)) h)))) = r_) : fg_393_7 N (K + 1) x0 x2 x3 x4 h = r_ := by rw [fg_393_7]; exact k_
theorem hd_393_0 {N : Nat} {x0 : Value} {x1 : Int32} {x2 : Int32} {h : am_H} {r_ : Option am_O} (k_ : (fg_393_7 N N x0 x2 ((x1 + 1)) 0 h) = r_) : fg_393_0 N x0 x1 x2 h = r_ := k_
theorem hm_393 {N : Nat} {y0 : Value} {y1 : Int32} {y2 : Int32} {h : am_H} {r_ : Option am_O} (k_ : fg_393_0 N y0 y1 y2 h = r_) : fm_393 N y0 y1 y2 h = r_ := k_
theorem hd_542_24 {s0 : Int32} {h : am_H} {r_ : Option am_O} (k_ : (if am_rfit (some FieldType.boolean) s0 then some (.inl (some (.int s0), h)) else none) = r_) : fg_542_24 s0 h = r_ := k_
theorem hd_542_23 {h : am_H} {r_ : Option am_O} (k_ : (fg_542_24 0 h) = r_) : fg_542_23 h = r_ := k_
theorem hd_542_0 {x0 : Value} {x1 : Int32} {x2 : Int32} {h : am_H} {r_ : Option am_O} (k_ : ((am_vR (am_pG 3093 x0 h)).bind fun v1 => ((am_pA 0 v1 x1 h).bind fun v3 => (if ¬ v3 = 0 then (fg_542_23 h) else ((am_vR (am_pG 3094 x0 h)).bind fun v6 => ((am_pA 0 v6 x1 h).bind fun v8 => (if ¬ v8 = x2 then (fg_542_23 h) else (fg_542_24 1 h))))))) = r_) : fg_542_0 x0 x1 x2 h = r_ := k_
theorem hm_542 {y0 : Value} {y1 : Int32} {y2 : Int32} {h : am_H} {r_ : Option am_O} (k_ : fg_542_0 y0 y1 y2 h = r_) : fm_542 y0 y1 y2 h = r_ := k_
theorem hd_547_69 {N : Nat} {rec_4 : Value → Int32 → Int32 → Int32 → am_H → Option am_O} {x0 : Value} {x1 : Int32} {x3 : Int32} {s0 : Int32} {h : am_H} {r_ : Option am_O} (k_ : (rec_4 x0 x1 s0 ((x3 + 1)) h) = r_) : fg_547_69 N rec_4 x0 x1 x3 s0 h = r_ := k_
theorem hd_547_68 {N : Nat} {rec_4 : Value → Int32 → Int32 → Int32 → am_H → Option am_O} {x0 : Value} {x1 : Int32} {x3 : Int32} {h : am_H} {r_ : Option am_O} (k_ : (fg_547_69 N rec_4 x0 x1 x3 0 h) = r_) : fg_547_68 N rec_4 x0 x1 x3 h = r_ := k_
theorem hd_547_4 {N : Nat} {K : Nat} {x0 : Value} {x1 : Int32} {x2 : Int32} {x3 : Int32} {h : am_H} {r_ : Option am_O} (k_ : ((am_vR (am_pG 3098 x0 h)).bind fun v1 => ((am_pA 0 v1 x1 h).bind fun v3 => (if (x1 + v3) ≤ x3 then (if am_rfit (some FieldType.boolean) x2 then some (.inl (some (.int x2), h)) else none) else (if x2 = 0 then (fg_547_68 N (fg_547_4 N K) x0 x1 x3 h) else ((am_vR (am_pG 3093 x0 h)).bind fun v8 => ((am_pA 0 v8 x3 h).bind fun v10 => (if v10 = 13 then (fg_547_68 N (fg_547_4 N K) x0 x1 x3 h) else ((am_vR (am_pG 3093 x0 h)).bind fun v13 => ((am_pA 0 v13 x3 h).bind fun v15 => (if v15 = 14 then (fg_547_68 N (fg_547_4 N K) x0 x1 x3 h) else ((am_vR (am_pG 3093 x0 h)).bind fun v18 => ((am_pA 0 v18 x3 h).bind fun v20 => (if v20 = 8 then (fg_547_68 N (fg_547_4 N K) x0 x1 x3 h) else ((am_vR (am_pG 3093 x0 h)).bind fun v23 => ((am_pA 0 v23 x3 h).bind fun v25 => (if v25 = 19 then (fg_547_68 N (fg_547_4 N K) x0 x1 x3 h) else (fg_547_69 N (fg_547_4 N K) x0 x1 x3 1 h))))))))))))))))) = r_) : fg_547_4 N (K + 1) x0 x1 x2 x3 h = r_ := by rw [fg_547_4]; exact k_
theorem hd_547_0 {N : Nat} {x0 : Value} {x1 : Int32} {h : am_H} {r_ : Option am_O} (k_ : (fg_547_4 N N x0 x1 1 x1 h) = r_) : fg_547_0 N x0 x1 h = r_ := k_
theorem hm_547 {N : Nat} {y0 : Value} {y1 : Int32} {h : am_H} {r_ : Option am_O} (k_ : fg_547_0 N y0 y1 h = r_) : fm_547 N y0 y1 h = r_ := k_
theorem hd_548_93 {N : Nat} {x3 : Int32} {h : am_H} {r_ : Option am_O} (k_ : (if am_rfit (some FieldType.boolean) x3 then some (.inl (some (.int x3), h)) else none) = r_) : fg_548_93 N x3 h = r_ := k_
theorem hd_548_86 {N : Nat} {rec_24 : Value → Int32 → Int32 → Int32 → Int32 → am_H → Option am_O} {x0 : Value} {x1 : Int32} {x2 : Int32} {x4 : Int32} {s0 : Int32} {h : am_H} {r_ : Option am_O} (k_ : (rec_24 x0 x1 x2 s0 ((x4 + 1)) h) = r_) : fg_548_86 N rec_24 x0 x1 x2 x4 s0 h = r_ := k_
theorem hd_548_85 {N : Nat} {rec_24 : Value → Int32 → Int32 → Int32 → Int32 → am_H → Option am_O} {x0 : Value} {x1 : Int32} {x2 : Int32} {x4 : Int32} {h : am_H} {r_ : Option am_O} (k_ : (fg_548_86 N rec_24 x0 x1 x2 x4 0 h) = r_) : fg_548_85 N rec_24 x0 x1 x2 x4 h = r_ := k_
theorem hd_548_24 {N : Nat} {K : Nat} {x0 : Value} {x1 : Int32} {x2 : Int32} {x3 : Int32} {x4 : Int32} {h : am_H} {r_ : Option am_O} (k_ : ((am_vR (am_pG 3098 x0 h)).bind fun v1 => ((am_pA 0 v1 x1 h).bind fun v3 => (if v3 ≤ x4 then (fg_548_93 N x3 h) else (if x3 = 0 then (fg_548_93 N x3 h) else ((am_vR (am_pG 3093 x0 h)).bind fun v7 => ((am_pA 0 v7 (x1 + x4) h).bind fun v9 => ((am_vR (am_pG 3093 x0 h)).bind fun v11 => ((am_pA 0 v11 (x2 + x4) h).bind fun v13 => (if ¬ v9 = v13 then (fg_548_85 N (fg_548_24 N K) x0 x1 x2 x4 h) else ((am_vR (am_pG 3094 x0 h)).bind fun v16 => ((am_pA 0 v16 (x1 + x4) h).bind fun v18 => ((am_vR (am_pG 3094 x0 h)).bind fun v20 => ((am_pA 0 v20 (x2 + x4) h).bind fun v22 => (if ¬ v18 = v22 then (fg_548_85 N (fg_548_24 N K) x0 x1 x2 x4 h) else (fg_548_86 N (fg_548_24 N K) x0 x1 x2 x4 1 h))))))))))))))) = r_) : fg_548_24 N (K + 1) x0 x1 x2 x3 x4 h = r_ := by rw [fg_548_24]; exact k_
theorem hd_548_20 {N : Nat} {x0 : Value} {x1 : Int32} {x2 : Int32} {s0 : Int32} {h : am_H} {r_ : Option am_O} (k_ : (fg_548_24 N N x0 x1 x2 s0 0 h) = r_) : fg_548_20 N x0 x1 x2 s0 h = r_ := k_
theorem hd_548_0 {N : Nat} {x0 : Value} {x1 : Int32} {x2 : Int32} {h : am_H} {r_ : Option am_O} (k_ : ((am_vR (am_pG 3098 x0 h)).bind fun v1 => ((am_pA 0 v1 x1 h).bind fun v3 => ((am_vR (am_pG 3098 x0 h)).bind fun v5 => ((am_pA 0 v5 x2 h).bind fun v7 => (if ¬ v3 = v7 then (fg_548_20 N x0 x1 x2 0 h) else (fg_548_20 N x0 x1 x2 1 h)))))) = r_) : fg_548_0 N x0 x1 x2 h = r_ := k_
theorem hm_548 {N : Nat} {y0 : Value} {y1 : Int32} {y2 : Int32} {h : am_H} {r_ : Option am_O} (k_ : fg_548_0 N y0 y1 y2 h = r_) : fm_548 N y0 y1 y2 h = r_ := k_
theorem hd_495_75 {N : Nat} {h : am_H} {r_ : Option am_O} (k_ : some (.inl (none, h)) = r_) : fg_495_75 N h = r_ := k_
theorem hd_495_26 {N : Nat} {K : Nat} {x0 : Value} {x1 : Int32} {h : am_H} {r_ : Option am_O} (k_ : ((am_vI (am_pG 3086 x0 h)).bind fun v1 => (if v1 ≤ x1 then ((am_vI (am_pG 3092 x0 h)).bind fun v4 => (if ¬ v4 = 0 then (fg_495_75 N h) else (if am_pOk 12 x0 h then am_cV true (fm_392 N x0 h) (fun h9 => (fg_495_75 N h9)) else none))) else ((am_vR (am_pG 3093 x0 h)).bind fun v11 => ((am_vR (am_pG 3088 x0 h)).bind fun v13 => ((am_pA 0 v13 x1 h).bind fun v15 => ((am_pS 0 v11 x1 v15 h).bind fun h17 => ((am_vR (am_pG 3094 x0 h17)).bind fun v19 => ((am_vR (am_pG 3089 x0 h17)).bind fun v21 => ((am_pA 0 v21 x1 h17).bind fun v23 => ((am_pS 0 v19 x1 v23 h17).bind fun h25 => (fg_495_26 N K x0 ((x1 + 1)) h25))))))))))) = r_) : fg_495_26 N (K + 1) x0 x1 h = r_ := by rw [fg_495_26]; exact k_
theorem hd_495_0 {N : Nat} {x0 : Value} {h : am_H} {r_ : Option am_O} (k_ : ((am_vI (am_pG 3085 x0 h)).bind fun v1 => ((am_pP 3092 x0 (.int v1) h).bind fun h3 => ((am_vI (am_pG 3086 x0 h3)).bind fun v5 => ((am_pP 3090 x0 (.int v5) h3).bind fun h7 => ((am_vI (am_pG 3087 x0 h7)).bind fun v9 => ((am_pP 3091 x0 (.int v9) h7).bind fun h11 => (fg_495_26 N N x0 0 h11))))))) = r_) : fg_495_0 N x0 h = r_ := k_
theorem hm_495 {N : Nat} {y0 : Value} {h : am_H} {r_ : Option am_O} (k_ : fg_495_0 N y0 h = r_) : fm_495 N y0 h = r_ := k_
theorem hd_451_0 {x0 : Value} {h : am_H} {r_ : Option am_O} (k_ : ((am_vI (am_pG 3092 x0 h)).bind fun v1 => ((am_pP 3085 x0 (.int v1) h).bind fun h3 => ((am_vI (am_pG 3091 x0 h3)).bind fun v5 => ((am_pP 3087 x0 (.int v5) h3).bind fun h7 => ((am_pP 3086 x0 (.int 0) h7).bind fun h9 => some (.inl (none, h9))))))) = r_) : fg_451_0 x0 h = r_ := k_
theorem hm_451 {y0 : Value} {h : am_H} {r_ : Option am_O} (k_ : fg_451_0 y0 h = r_) : fm_451 y0 h = r_ := k_


def lay2 (s v : Nat → Int32) (Q : xI) : Prop := ∀ k x, Q[k]? = some x → s k = x.1 ∧ v k = x.2
def tI (P : xT) : xI := P.map (fun x => (nI x.1, x.2))
def sg (P : xI) (i j : Nat) : xI := (P.drop i).take (j - i)
def dkL (V : Nat → Nat → Value) (I : Nat → Nat → Int32) (Q : xI) : Prop := V 174 14 = .int (nI Q.length) ∧ lay2 (I 186) (I 187) Q
def dsA (V : Nat → Nat → Value) (I : Nat → Nat → Int32) (Q : xI) : Prop := V 174 18 = .int (nI Q.length) ∧ lay2 (I 188) (I 189) Q
/-- only what is on the desk has changed -/
def frDk (V W : Nat → Nat → Value) (I J : Nat → Nat → Int32) : Prop := (∀ a j, ¬ (a = 174 ∧ j = 14) → W a j = V a j) ∧ (∀ y, y ≠ 186 → y ≠ 187 → J y = I y) ∧ (wt V → wt W)
def frEd (V W : Nat → Nat → Value) (I J : Nat → Nat → Int32) : Prop := (∀ a j, ¬ (a = 174 ∧ (j = 13 ∨ j = 14 ∨ j = 15)) → W a j = V a j) ∧ (∀ y, y ≠ 186 → y ≠ 187 → J y = I y) ∧ (wt V → wt W)
theorem frDk_r {V : Nat → Nat → Value} {I : Nat → Nat → Int32} : frDk V V I I := ⟨fun _ _ _ => rfl, fun _ _ _ => rfl, id⟩
theorem frDk_t {V W X : Nat → Nat → Value} {I J K : Nat → Nat → Int32} (h1 : frDk V W I J) (h2 : frDk W X J K) : frDk V X I K := ⟨fun a j h => (h2.1 a j h).trans (h1.1 a j h), fun y p q => (h2.2.1 y p q).trans (h1.2.1 y p q), fun w => h2.2.2 (h1.2.2 w)⟩
theorem frEd_t {V W X : Nat → Nat → Value} {I J K : Nat → Nat → Int32} (h1 : frEd V W I J) (h2 : frEd W X J K) : frEd V X I K := ⟨fun a j h => (h2.1 a j h).trans (h1.1 a j h), fun y p q => (h2.2.1 y p q).trans (h1.2.1 y p q), fun w => h2.2.2 (h1.2.2 w)⟩
theorem frEd_d {V W : Nat → Nat → Value} {I J : Nat → Nat → Int32} (h : frDk V W I J) : frEd V W I J := ⟨fun a j n => h.1 a j (fun e => n ⟨e.1, .inr (.inl e.2)⟩), h.2.1, h.2.2⟩
theorem frEd_r {V : Nat → Nat → Value} {I : Nat → Nat → Int32} : frEd V V I I := ⟨fun _ _ _ => rfl, fun _ _ _ => rfl, id⟩
theorem lay2_nil {s v : Nat → Int32} : lay2 s v [] := fun k x h => absurd h (by simp)
theorem lay2_app {s v : Nat → Int32} {Q : xI} {x y : Int32} (h : lay2 s v Q) : lay2 (upd s Q.length x) (upd v Q.length y) (Q ++ [(x, y)]) := by
  intro k z hz
  by_cases c : k < Q.length
  · rw [List.getElem?_append_left c] at hz
    rw [upd_ne (by omega), upd_ne (by omega)]
    exact h k z hz
  · rw [List.getElem?_append_right (by omega)] at hz
    by_cases d : k = Q.length
    · subst d
      rw [Nat.sub_self, List.getElem?_cons_zero] at hz
      have e := Option.some.inj hz
      subst e
      rw [upd_eq, upd_eq]
      exact ⟨rfl, rfl⟩
    · rw [show k - Q.length = (k - Q.length - 1) + 1 by omega, List.getElem?_cons_succ] at hz
      exact absurd hz (by simp)
theorem tI_len {P : xT} : (tI P).length = P.length := List.length_map ..
theorem tI_app {P Q : xT} : tI (P ++ Q) = tI P ++ tI Q := List.map_append ..
theorem tI_seg {P : xT} {i j : Nat} : tI (seg P i j) = sg (tI P) i j := by
  unfold tI seg sg
  rw [List.map_take, List.map_drop]
theorem tI_at {P : xT} {k : Nat} (hk : k < P.length) : (tI P)[k]? = some (nI (xS P k), xV P k) := by
  unfold tI
  rw [List.getElem?_map, xS_at hk]
  rfl
theorem sg_len {P : xI} {i j : Nat} (hj : j ≤ P.length) : (sg P i j).length = j - i := by
  unfold sg
  rw [List.length_take, List.length_drop]
  omega
theorem sg_s {P : xI} {i j : Nat} (hi : i < j) (hj : j ≤ P.length) : sg P i j = P[i]'(by omega) :: sg P (i + 1) j := by
  unfold sg
  rw [List.drop_eq_getElem_cons (by omega), show j - i = (j - (i + 1)) + 1 by omega, List.take_succ_cons]
theorem dsA_f {V W : Nat → Nat → Value} {I J : Nat → Nat → Int32} {P : xI} (h : frEd V W I J) (d : dsA V I P) : dsA W J P := by
  refine ⟨(h.1 174 18 (by decide)).trans d.1, ?_⟩
  rw [h.2.1 188 (by decide) (by decide), h.2.1 189 (by decide) (by decide)]
  exact d.2
set_option maxRecDepth 100000 in
set_option maxHeartbeats 4000000 in
theorem s335 {V : Nat → Nat → Value} {I : Nat → Nat → Int32} {L : Nat → Nat → Int64} {R : Nat → Nat → Option Nat} {tl : am_H} {Q : xI} (x y : Int32) (h : dkL V I Q) (hq : Q.length < 400) : ∃ W J, fm_335 (.ref 174) x y (fx V I L R ++ tl) = some (.inl (none, fx W J L R ++ tl)) ∧ dkL W J (Q ++ [(x, y)]) ∧ frDk V W I J := by
  refine ⟨_, _, x_335 h.1 hq x y, ⟨by rw [List.length_append]; rfl, lay2_app h.2⟩, fun a j n => vup_o n, fun z p q => by rw [iup_na q, iup_na p], fun w => wt_i w (by decide)⟩
set_option maxRecDepth 100000 in
set_option maxHeartbeats 4000000 in
theorem s443l {L : Nat → Nat → Int64} {R : Nat → Nat → Option Nat} {tl : am_H} {N j : Nat} {P : xI} (hj : j ≤ P.length) (hP : P.length ≤ 400) : ∀ (m k K : Nat) (V : Nat → Nat → Value) (I : Nat → Nat → Int32) (Q : xI), k + m = j → m < K → dsA V I P → dkL V I Q → Q.length + m ≤ 400 → ∃ W J, fg_443_2 N K (.ref 174) (nI j) (nI k) (fx V I L R ++ tl) = some (.inl (none, fx W J L R ++ tl)) ∧ dkL W J (Q ++ sg P k j) ∧ frDk V W I J := by
  intro m
  induction m with
  | zero =>
    intro k K V I Q hm hK hA hd hq
    obtain ⟨K, rfl⟩ : ∃ k, K = k + 1 := ⟨K - 1, by omega⟩
    refine ⟨V, I, ?_, ?_, frDk_r⟩
    · apply hd_443_2
      exact ev_t (nI_le (by omega) (by omega)) rfl
    · have e : sg P k j = [] := by unfold sg; rw [show j - k = 0 by omega, List.take_zero]
      rw [e, List.append_nil]
      exact hd
  | succ m ih =>
    intro k K V I Q hm hK hA hd hq
    obtain ⟨K, rfl⟩ : ∃ k, K = k + 1 := ⟨K - 1, by omega⟩
    have hk : k < P.length := by omega
    obtain ⟨a1, a2⟩ := hA.2 k _ (List.getElem?_eq_getElem hk)
    obtain ⟨W, J, e, q, f⟩ := s335 (L := L) (R := R) (tl := tl) (P[k]).1 (P[k]).2 hd (by omega)
    obtain ⟨W2, J2, e2, q2, f2⟩ := ih (k + 1) K W J (Q ++ [P[k]]) (by omega) (by omega) (dsA_f (frEd_d f) hA) q (by rw [List.length_append]; show Q.length + 1 + m ≤ 400; omega)
    refine ⟨W2, J2, ?_, ?_, frDk_t f f2⟩
    · apply hd_443_2
      rw [nI_1]
      exact ev_f (nI_ge (by omega) (by omega)) (ev_b (rdR rfl) (ev_b ((qa_188 (by omega)).trans (congrArg some a1)) (ev_b (rdR rfl) (ev_b ((qa_189 (by omega)).trans (congrArg some a2)) (ev_i rfl (ev_cV e e2))))))
    · rw [List.append_assoc, List.singleton_append] at q2
      rw [sg_s (by omega) hj]
      exact q2
theorem s443 {V : Nat → Nat → Value} {I : Nat → Nat → Int32} {L : Nat → Nat → Int64} {R : Nat → Nat → Option Nat} {tl : am_H} {N i j : Nat} {P Q : xI} (x y : Int32) (hx : x = nI i) (hy : y = nI j) (hN : 400 < N) (hij : i ≤ j) (hj : j ≤ P.length) (hP : P.length ≤ 400) (hA : dsA V I P) (hd : dkL V I Q) (hq : Q.length + (j - i) ≤ 400) : ∃ W J, fm_443 N (.ref 174) x y (fx V I L R ++ tl) = some (.inl (none, fx W J L R ++ tl)) ∧ dkL W J (Q ++ sg P i j) ∧ frDk V W I J := by
  subst hx
  subst hy
  obtain ⟨W, J, e, r⟩ := s443l (L := L) (R := R) (tl := tl) (N := N) hj hP (j - i) i N V I Q (by omega) (by omega) hA hd hq
  exact ⟨W, J, e, r⟩
theorem s451 {V : Nat → Nat → Value} {I : Nat → Nat → Int32} {L : Nat → Nat → Int64} {R : Nat → Nat → Option Nat} {tl : am_H} {kd nt : Int32} (h20 : V 174 20 = .int kd) (h19 : V 174 19 = .int nt) : ∃ W, fm_451 (.ref 174) (fx V I L R ++ tl) = some (.inl (none, fx W I L R ++ tl)) ∧ dkL W I [] ∧ W 174 13 = .int kd ∧ W 174 15 = .int nt ∧ frEd V W I I := by
  refine ⟨_, r_451g h20 h19, ⟨rfl, lay2_nil⟩, rfl, rfl, fun a j n => ?_, fun _ _ _ => rfl, fun w => wt_i (wt_i (wt_i w (by decide)) (by decide)) (by decide)⟩
  rw [vup_o (fun e => n ⟨e.1, .inr (.inl e.2)⟩), vup_o (fun e => n ⟨e.1, .inr (.inr e.2)⟩), vup_o (fun e => n ⟨e.1, .inl e.2⟩)]
theorem s442 {V : Nat → Nat → Value} {I : Nat → Nat → Int32} {L : Nat → Nat → Int64} {R : Nat → Nat → Option Nat} {tl : am_H} {N : Nat} {kd nt : Int32} {P : xI} (hN : 400 < N) (h20 : V 174 20 = .int kd) (h19 : V 174 19 = .int nt) (hA : dsA V I P) (hP : P.length ≤ 400) : ∃ W J, fm_442 N (.ref 174) (fx V I L R ++ tl) = some (.inl (none, fx W J L R ++ tl)) ∧ dkL W J P ∧ W 174 13 = .int kd ∧ W 174 15 = .int nt ∧ frEd V W I J := by
  have f0 : frEd V (vup (vup (vup V 174 13 (.int kd)) 174 14 (.int 0)) 174 15 (.int nt)) I I := ⟨fun a j n => by rw [vup_o (fun e => n ⟨e.1, .inr (.inr e.2)⟩), vup_o (fun e => n ⟨e.1, .inr (.inl e.2)⟩), vup_o (fun e => n ⟨e.1, .inl e.2⟩)], fun _ _ _ => rfl, fun w => wt_i (wt_i (wt_i w (by decide)) (by decide)) (by decide)⟩
  have hA2 := dsA_f f0 hA
  obtain ⟨W, J, e, q, f⟩ := s443 (L := L) (R := R) (tl := tl) (N := N) (i := 0) (j := P.length) (Q := []) 0 (nI P.length) rfl rfl hN (by omega) (by omega) hP hA2 ⟨rfl, lay2_nil⟩ (by show 0 + _ ≤ 400; omega)
  have h18 := hA2.1
  refine ⟨W, J, ?_, ?_, (f.1 174 13 (by decide)).trans rfl, (f.1 174 15 (by decide)).trans rfl, frEd_t f0 (frEd_d f)⟩
  · apply hm_442
    apply hd_442_0
    exact ev_b (rdI h20) (ev_b qp_174_13 (ev_b qp_174_14 (ev_b (rdI (V := vup (vup V 174 13 (.int kd)) 174 14 (.int 0)) h19) (ev_b qp_174_15 (ev_b (rdI h18) (ev_i rfl (ev_cV e rfl)))))))
  · rw [List.nil_append] at q
    have e2 : sg P 0 P.length = P := by unfold sg; rw [List.drop_zero, Nat.sub_zero, List.take_length]
    rw [e2] at q
    exact q
/-- the second desk holds a tree -/
def rA (V : Nat → Nat → Value) (I : Nat → Nat → Int32) (nt : Int32) (P : xT) : Prop := V 174 20 = .int 0 ∧ V 174 19 = .int nt ∧ dsA V I (tI P) ∧ (∀ k, k < P.length → I 192 k = nI (xE P k - k)) ∧ P.length ≤ 60
theorem rA_f {V W : Nat → Nat → Value} {I J : Nat → Nat → Int32} {nt : Int32} {P : xT} (h : frEd V W I J) (d : rA V I nt P) : rA W J nt P := by
  obtain ⟨d1, d2, d3, d4, d5⟩ := d
  refine ⟨(h.1 174 20 (by decide)).trans d1, (h.1 174 19 (by decide)).trans d2, dsA_f h d3, ?_, d5⟩
  rw [h.2.1 192 (by decide) (by decide)]
  exact d4
theorem rA_s {V : Nat → Nat → Value} {I : Nat → Nat → Int32} {L : Nat → Nat → Int64} {R : Nat → Nat → Option Nat} {tl : am_H} {nt : Int32} {P : xT} (h : rA V I nt P) {k : Nat} (hk : k < P.length) : am_pA 0 (.ref 188) (nI k) (fx V I L R ++ tl) = some (nI (xS P k)) := (qa_188 (by have := h.2.2.2.2; omega)).trans (congrArg some (h.2.2.1.2 k _ (tI_at hk)).1)
theorem rA_v {V : Nat → Nat → Value} {I : Nat → Nat → Int32} {L : Nat → Nat → Int64} {R : Nat → Nat → Option Nat} {tl : am_H} {nt : Int32} {P : xT} (h : rA V I nt P) {k : Nat} (hk : k < P.length) : am_pA 0 (.ref 189) (nI k) (fx V I L R ++ tl) = some (xV P k) := (qa_189 (by have := h.2.2.2.2; omega)).trans (congrArg some (h.2.2.1.2 k _ (tI_at hk)).2)
theorem rA_e {V : Nat → Nat → Value} {I : Nat → Nat → Int32} {L : Nat → Nat → Int64} {R : Nat → Nat → Option Nat} {tl : am_H} {nt : Int32} {P : xT} (h : rA V I nt P) {k : Nat} (hk : k < P.length) : am_pA 0 (.ref 192) (nI k) (fx V I L R ++ tl) = some (nI (xE P k - k)) := (qa_192 (by have := h.2.2.2.2; omega)).trans (congrArg some (h.2.2.2.1 k hk))
theorem rA_18 {V : Nat → Nat → Value} {I : Nat → Nat → Int32} {nt : Int32} {P : xT} (h : rA V I nt P) : V 174 18 = .int (nI P.length) := by
  have := h.2.2.1.1
  rw [tI_len] at this
  exact this
/-- the desk holds a tree -/
def dkT (W : Nat → Nat → Value) (J : Nat → Nat → Int32) (nt : Int32) (Q : xT) : Prop := W 174 13 = .int 0 ∧ W 174 15 = .int nt ∧ dkL W J (tI Q)
theorem dk_rp {P m : xT} {k : Nat} (hk : k ≤ P.length) : ([] ++ sg (tI P) 0 k ++ tI m) ++ sg (tI P) (xE P k) P.length = tI (rp P k m) := by
  unfold rp
  have e : sg (tI P) (xE P k) P.length = tI (seg P (xE P k) P.length) := tI_seg.symm
  have e0 : sg (tI P) 0 k = tI (P.take k) := (tI_seg (P := P) (i := 0) (j := k)).symm
  rw [List.nil_append, tI_app, tI_app, List.append_assoc, e, e0, seg_all]
theorem nI_ad (a b : Nat) (c : Nat) (h : a + b = c) : nI a + nI b = nI c := by rw [nI_add, h]
set_option maxRecDepth 100000 in
set_option maxHeartbeats 4000000 in
theorem s540 {V : Nat → Nat → Value} {I : Nat → Nat → Int32} {L : Nat → Nat → Int64} {R : Nat → Nat → Option Nat} {tl : am_H} {N k : Nat} {nt v : Int32} {P : xT} (hN : 400 < N) (hA : rA V I nt P) (hk : k < P.length) : ∃ W J, fm_540 N (.ref 174) (nI k) v (fx V I L R ++ tl) = some (.inl (some (.int 1), fx W J L R ++ tl)) ∧ dkT W J nt (rp P k [(0, v)]) ∧ frEd V W I J := by
  have l60 := hA.2.2.2.2
  have xl := xE_le (P := P) (k := k) (by omega)
  have xg := xE_gt hk
  obtain ⟨W1, e1, q1, k1, n1, f1⟩ := s451 (I := I) (L := L) (R := R) (tl := tl) hA.1 hA.2.1
  have A1 := rA_f f1 hA
  obtain ⟨W2, J2, e2, q2, f2⟩ := s443 (L := L) (R := R) (tl := tl) (i := 0) (j := k) 0 (nI k) rfl rfl hN (by omega) (by rw [tI_len]; omega) (by rw [tI_len]; omega) A1.2.2.1 q1 (by show 0 + _ ≤ 400; omega)
  have l2 : ([] ++ sg (tI P) 0 k).length = k := by rw [List.nil_append, sg_len (by rw [tI_len]; omega)]; omega
  obtain ⟨W3, J3, e3, q3, f3⟩ := s335 (L := L) (R := R) (tl := tl) 0 v q2 (by rw [l2]; omega)
  have f03 := frEd_t f1 (frEd_d (frDk_t f2 f3))
  have A3 := rA_f f03 hA
  have l3 : ([] ++ sg (tI P) 0 k ++ [(0, v)]).length = k + 1 := by rw [List.length_append, l2]; rfl
  obtain ⟨W4, J4, e4, q4, f4⟩ := s443 (L := L) (R := R) (tl := tl) (i := xE P k) (j := P.length) (nI k + nI (xE P k - k)) (nI P.length) (nI_ad _ _ _ (by omega)) rfl hN (by omega) (by rw [tI_len]; omega) (by rw [tI_len]; omega) A3.2.2.1 q3 (by rw [l3]; omega)
  have d := frDk_t (frDk_t f2 f3) f4
  refine ⟨W4, J4, ?_, ⟨(d.1 174 13 (by decide)).trans k1, (d.1 174 15 (by decide)).trans n1, ?_⟩, frEd_t f03 (frEd_d f4)⟩
  · apply hm_540
    apply hd_540_0
    exact ev_i rfl (ev_cV e1 (ev_i rfl (ev_cV e2 (ev_i rfl (ev_cV e3 (ev_b (rdR rfl) (ev_b (rA_e A3 hk) (ev_b (rdI (rA_18 A3)) (ev_i rfl (ev_cV e4 rfl))))))))))
  · rw [show ([(0, v)] : xI) = tI [(0, v)] from rfl, dk_rp (by omega)] at q4
    exact q4
set_option maxRecDepth 100000 in
set_option maxHeartbeats 4000000 in
theorem s543 {V : Nat → Nat → Value} {I : Nat → Nat → Int32} {L : Nat → Nat → Int64} {R : Nat → Nat → Option Nat} {tl : am_H} {N k q : Nat} {nt : Int32} {P : xT} (hN : 400 < N) (hA : rA V I nt P) (hk : k < P.length) (hq : des P k q) : ∃ W J, fm_543 N (.ref 174) (nI k) (nI q) (fx V I L R ++ tl) = some (.inl (some (.int 1), fx W J L R ++ tl)) ∧ dkT W J nt (rp P k (seg P q (xE P q))) ∧ frEd V W I J := by
  have l60 := hA.2.2.2.2
  have xl := xE_le (P := P) (k := k) (by omega)
  have xg := xE_gt hk
  obtain ⟨d1, d2, d3, -⟩ := hq
  have gq := xE_gt d1
  obtain ⟨W1, e1, q1, k1, n1, f1⟩ := s451 (I := I) (L := L) (R := R) (tl := tl) hA.1 hA.2.1
  have A1 := rA_f f1 hA
  obtain ⟨W2, J2, e2, q2, f2⟩ := s443 (L := L) (R := R) (tl := tl) (i := 0) (j := k) 0 (nI k) rfl rfl hN (by omega) (by rw [tI_len]; omega) (by rw [tI_len]; omega) A1.2.2.1 q1 (by show 0 + _ ≤ 400; omega)
  have A2 := rA_f (frEd_t f1 (frEd_d f2)) hA
  have l2 : ([] ++ sg (tI P) 0 k).length = k := by rw [List.nil_append, sg_len (by rw [tI_len]; omega)]; omega
  obtain ⟨W3, J3, e3, q3, f3⟩ := s443 (L := L) (R := R) (tl := tl) (i := q) (j := xE P q) (nI q) (nI q + nI (xE P q - q)) rfl (nI_ad _ _ _ (by omega)) hN (by omega) (by rw [tI_len]; omega) (by rw [tI_len]; omega) A2.2.2.1 q2 (by rw [l2]; omega)
  have f03 := frEd_t f1 (frEd_d (frDk_t f2 f3))
  have A3 := rA_f f03 hA
  have l3 : ([] ++ sg (tI P) 0 k ++ sg (tI P) q (xE P q)).length = k + (xE P q - q) := by rw [List.length_append, l2, sg_len (by rw [tI_len]; omega)]
  obtain ⟨W4, J4, e4, q4, f4⟩ := s443 (L := L) (R := R) (tl := tl) (i := xE P k) (j := P.length) (nI k + nI (xE P k - k)) (nI P.length) (nI_ad _ _ _ (by omega)) rfl hN (by omega) (by rw [tI_len]; omega) (by rw [tI_len]; omega) A3.2.2.1 q3 (by rw [l3]; omega)
  have d := frDk_t (frDk_t f2 f3) f4
  refine ⟨W4, J4, ?_, ⟨(d.1 174 13 (by decide)).trans k1, (d.1 174 15 (by decide)).trans n1, ?_⟩, frEd_t f03 (frEd_d f4)⟩
  · apply hm_543
    apply hd_543_0
    exact ev_i rfl (ev_cV e1 (ev_i rfl (ev_cV e2 (ev_b (rdR rfl) (ev_b (rA_e A2 d1) (ev_i rfl (ev_cV e3 (ev_b (rdR rfl) (ev_b (rA_e A3 hk) (ev_b (rdI (rA_18 A3)) (ev_i rfl (ev_cV e4 rfl))))))))))))
  · rw [show sg (tI P) q (xE P q) = tI (seg P q (xE P q)) from tI_seg.symm, dk_rp (by omega)] at q4
    exact q4
set_option maxRecDepth 100000 in
set_option maxHeartbeats 4000000 in
theorem s393_1 {V : Nat → Nat → Value} {I : Nat → Nat → Int32} {L : Nat → Nat → Int64} {R : Nat → Nat → Option Nat} {tl : am_H} {N k : Nat} {nt : Int32} {P : xT} (hN : 400 < N) (hA : rA V I nt P) (hk : k + 1 < P.length) : fm_393 N (.ref 174) (nI k) 1 (fx V I L R ++ tl) = some (.inl (some (.int (nI (xE P (k + 1)))), fx V I L R ++ tl)) := by
  obtain ⟨N, rfl⟩ : ∃ m, N = m + 3 := ⟨N - 3, by omega⟩
  have xg := xE_gt hk
  apply hm_393
  apply hd_393_0
  rw [nI_1]
  apply hd_393_7
  refine ev_f (by decide) (ev_b (rdR rfl) (ev_b (rA_e hA hk) ?_))
  rw [nI_ad _ _ (xE P (k + 1)) (by omega)]
  apply hd_393_7
  exact ev_t (by decide) rfl
set_option maxRecDepth 100000 in
set_option maxHeartbeats 4000000 in
theorem s393_2 {V : Nat → Nat → Value} {I : Nat → Nat → Int32} {L : Nat → Nat → Int64} {R : Nat → Nat → Option Nat} {tl : am_H} {N k : Nat} {nt : Int32} {P : xT} (hN : 400 < N) (hA : rA V I nt P) (hk : k + 1 < P.length) (hk2 : xE P (k + 1) < P.length) : fm_393 N (.ref 174) (nI k) 2 (fx V I L R ++ tl) = some (.inl (some (.int (nI (xE P (xE P (k + 1))))), fx V I L R ++ tl)) := by
  obtain ⟨N, rfl⟩ : ∃ m, N = m + 3 := ⟨N - 3, by omega⟩
  have xg := xE_gt hk
  have xh := xE_gt hk2
  apply hm_393
  apply hd_393_0
  rw [nI_1]
  apply hd_393_7
  refine ev_f (by decide) (ev_b (rdR rfl) (ev_b (rA_e hA hk) ?_))
  rw [nI_ad _ _ (xE P (k + 1)) (by omega)]
  apply hd_393_7
  refine ev_f (by decide) (ev_b (rdR rfl) (ev_b (rA_e hA hk2) ?_))
  rw [nI_ad _ _ (xE P (xE P (k + 1))) (by omega)]
  apply hd_393_7
  exact ev_t (by decide) rfl
theorem bI_z {b : Bool} (h : b = false) : bI b = 0 := by rw [h]; rfl
theorem bI_nz {b : Bool} (h : b = true) : ¬ bI b = 0 := by rw [h]; decide
theorem bI_nn {b : Bool} (h : b = false) : ¬ ¬ bI b = 0 := fun e => e (bI_z h)
set_option maxRecDepth 100000 in
set_option maxHeartbeats 4000000 in
theorem s542 {V : Nat → Nat → Value} {I : Nat → Nat → Int32} {L : Nat → Nat → Int64} {R : Nat → Nat → Option Nat} {tl : am_H} {k : Nat} {nt v : Int32} {P : xT} (ho : okP P) (hA : rA V I nt P) (hk : k < P.length) : fm_542 (.ref 174) (nI k) v (fx V I L R ++ tl) = some (.inl (some (.int (bI (iB P k v))), fx V I L R ++ tl)) := by
  have s20 := (nd_at ho hk).1
  have q : nI (xS P k) = 0 ↔ xS P k = 0 := nI_eq (b := 0) (by omega) (by omega)
  apply hm_542
  apply hd_542_0
  refine ev_b (rdR rfl) (ev_b (rA_s hA hk) ?_)
  by_cases d : xS P k = 0
  · refine ev_f (fun e => e (q.mpr d)) (ev_b (rdR rfl) (ev_b (rA_v hA hk) ?_))
    by_cases e : xV P k = v
    · rw [show iB P k v = true from decide_eq_true ⟨hk, d, e⟩]
      exact ev_f (fun e2 => e2 e) rfl
    · rw [show iB P k v = false from decide_eq_false (fun e2 => e e2.2.2)]
      exact ev_t e rfl
  · rw [show iB P k v = false from decide_eq_false (fun e => d e.2.1)]
    exact ev_t (fun e => d (q.mp e)) rfl
set_option maxRecDepth 100000 in
set_option maxHeartbeats 4000000 in
theorem s547l {V : Nat → Nat → Value} {I : Nat → Nat → Int32} {L : Nat → Nat → Int64} {R : Nat → Nat → Option Nat} {tl : am_H} {N k : Nat} {nt : Int32} {P : xT} (ho : okP P) (hA : rA V I nt P) (hk : k < P.length) : ∀ (m i K : Nat) (b : Bool), i + m = xE P k → k ≤ i → m < K → fg_547_4 N K (.ref 174) (nI k) (bI b) (nI i) (fx V I L R ++ tl) = some (.inl (some (.int (bI (b && sfR P m i))), fx V I L R ++ tl)) := by
  have l60 := hA.2.2.2.2
  have xl := xE_le (P := P) (k := k) (by omega)
  have xg := xE_gt hk
  intro m
  induction m with
  | zero =>
    intro i K b hi hk2 hK
    obtain ⟨K, rfl⟩ : ∃ k, K = k + 1 := ⟨K - 1, by omega⟩
    apply hd_547_4
    refine ev_b (rdR rfl) (ev_b (rA_e hA hk) ?_)
    rw [nI_ad _ _ (xE P k) (by omega), sfR, Bool.and_true]
    exact ev_t (nI_le (by omega) (by omega)) (ev_i (bI_fit _) rfl)
  | succ m ih =>
    intro i K b hi hk2 hK
    obtain ⟨K, rfl⟩ : ∃ k, K = k + 1 := ⟨K - 1, by omega⟩
    have hil : i < P.length := by omega
    have s20 := (nd_at ho hil).1
    have q : ∀ n, n ≤ 30 → (nI (xS P i) = nI n ↔ xS P i = n) := fun n hn => nI_eq (by omega) (by omega)
    have ri := rA_s (L := L) (R := R) (tl := tl) hA hil
    have z : ∀ x : Bool, bI (false && x) = bI false := fun _ => rfl
    have ih0 := ih (i + 1) K false (by omega) (by omega) (by omega)
    rw [Bool.false_and] at ih0
    apply hd_547_4
    refine ev_b (rdR rfl) (ev_b (rA_e hA hk) ?_)
    rw [nI_ad _ _ (xE P k) (by omega), sfR]
    refine ev_f (nI_ge (by omega) (by omega)) ?_
    have no : fg_547_68 N (fg_547_4 N K) (.ref 174) (nI k) (nI i) (fx V I L R ++ tl) = some (.inl (some (.int (bI false)), fx V I L R ++ tl)) := by
      apply hd_547_68
      apply hd_547_69
      rw [nI_1]
      exact ih0
    cases b with
    | false => exact ev_t rfl no
    | true =>
    rw [Bool.true_and]
    refine ev_f (by decide) (ev_b (rdR rfl) (ev_b ri ?_))
    by_cases c1 : xS P i = 13
    · rw [if_pos (show xS P i = 13 ∨ xS P i = 14 ∨ xS P i = 8 ∨ xS P i = 19 from .inl c1)]
      exact ev_t ((q 13 (by omega)).mpr c1) no
    refine ev_f (fun e => c1 ((q 13 (by omega)).mp e)) (ev_b (rdR rfl) (ev_b ri ?_))
    by_cases c2 : xS P i = 14
    · rw [if_pos (show xS P i = 13 ∨ xS P i = 14 ∨ xS P i = 8 ∨ xS P i = 19 from .inr (.inl c2))]
      exact ev_t ((q 14 (by omega)).mpr c2) no
    refine ev_f (fun e => c2 ((q 14 (by omega)).mp e)) (ev_b (rdR rfl) (ev_b ri ?_))
    by_cases c3 : xS P i = 8
    · rw [if_pos (show xS P i = 13 ∨ xS P i = 14 ∨ xS P i = 8 ∨ xS P i = 19 from .inr (.inr (.inl c3)))]
      exact ev_t ((q 8 (by omega)).mpr c3) no
    refine ev_f (fun e => c3 ((q 8 (by omega)).mp e)) (ev_b (rdR rfl) (ev_b ri ?_))
    by_cases c4 : xS P i = 19
    · rw [if_pos (show xS P i = 13 ∨ xS P i = 14 ∨ xS P i = 8 ∨ xS P i = 19 from .inr (.inr (.inr c4)))]
      exact ev_t ((q 19 (by omega)).mpr c4) no
    rw [if_neg (show ¬ (xS P i = 13 ∨ xS P i = 14 ∨ xS P i = 8 ∨ xS P i = 19) by omega)]
    refine ev_f (fun e => c4 ((q 19 (by omega)).mp e)) ?_
    apply hd_547_69
    rw [nI_1]
    have h := ih (i + 1) K true (by omega) (by omega) (by omega)
    rw [Bool.true_and] at h
    exact h
theorem s547 {V : Nat → Nat → Value} {I : Nat → Nat → Int32} {L : Nat → Nat → Int64} {R : Nat → Nat → Option Nat} {tl : am_H} {N k : Nat} {nt : Int32} {P : xT} (hN : 400 < N) (ho : okP P) (hA : rA V I nt P) (hk : k < P.length) : fm_547 N (.ref 174) (nI k) (fx V I L R ++ tl) = some (.inl (some (.int (bI (sfB P k))), fx V I L R ++ tl)) := by
  have l60 := hA.2.2.2.2
  have xl := xE_le (P := P) (k := k) (by omega)
  have xg := xE_gt hk
  have h := s547l (L := L) (R := R) (tl := tl) (N := N) ho hA hk (xE P k - k) k N true (by omega) (by omega) (by omega)
  rw [Bool.true_and] at h
  exact h
set_option maxRecDepth 100000 in
set_option maxHeartbeats 4000000 in
theorem s548l {V : Nat → Nat → Value} {I : Nat → Nat → Int32} {L : Nat → Nat → Int64} {R : Nat → Nat → Option Nat} {tl : am_H} {N a b : Nat} {nt : Int32} {P : xT} (ho : okP P) (hA : rA V I nt P) (ha : a < P.length) (hb : b + (xE P a - a) ≤ P.length) : ∀ (m i K : Nat), i + m = xE P a - a → m < K → fg_548_24 N K (.ref 174) (nI a) (nI b) 1 (nI i) (fx V I L R ++ tl) = some (.inl (some (.int (bI (lkR P a b m i))), fx V I L R ++ tl)) := by
  have l60 := hA.2.2.2.2
  have xl := xE_le (P := P) (k := a) (by omega)
  have xg := xE_gt ha
  intro m
  induction m with
  | zero =>
    intro i K hi hK
    obtain ⟨K, rfl⟩ : ∃ k, K = k + 1 := ⟨K - 1, by omega⟩
    apply hd_548_24
    exact ev_b (rdR rfl) (ev_b (rA_e hA ha) (ev_t (nI_le (by omega) (by omega)) rfl))
  | succ m ih =>
    intro i K hi hK
    obtain ⟨K, rfl⟩ : ∃ k, K = k + 1 := ⟨K - 1, by omega⟩
    have ra := rA_s (L := L) (R := R) (tl := tl) hA (show a + i < P.length by omega)
    have rb := rA_s (L := L) (R := R) (tl := tl) hA (show b + i < P.length by omega)
    have va := rA_v (L := L) (R := R) (tl := tl) hA (show a + i < P.length by omega)
    have vb := rA_v (L := L) (R := R) (tl := tl) hA (show b + i < P.length by omega)
    have q : nI (xS P (a + i)) = nI (xS P (b + i)) ↔ xS P (a + i) = xS P (b + i) := nI_eq (by have := (nd_at ho (show a + i < P.length by omega)).1; omega) (by have := (nd_at ho (show b + i < P.length by omega)).1; omega)
    apply hd_548_24
    rw [nI_add, nI_add, lkR]
    refine ev_b (rdR rfl) (ev_b (rA_e hA ha) (ev_f (nI_ge (by omega) (by omega)) (ev_f (by decide) (ev_b (rdR rfl) (ev_b ra (ev_b (rdR rfl) (ev_b rb ?_)))))))
    have no : ∀ o, m + 1 ≠ 0 → fg_548_24 N K (.ref 174) (nI a) (nI b) 0 (nI (i + 1)) (fx V I L R ++ tl) = o → fg_548_85 N (fg_548_24 N K) (.ref 174) (nI a) (nI b) (nI i) (fx V I L R ++ tl) = o := fun o _ h => by
      apply hd_548_85
      apply hd_548_86
      rw [nI_1]
      exact h
    have z : fg_548_24 N K (.ref 174) (nI a) (nI b) 0 (nI (i + 1)) (fx V I L R ++ tl) = some (.inl (some (.int 0), fx V I L R ++ tl)) := by
      obtain ⟨K, rfl⟩ : ∃ k, K = k + 1 := ⟨K - 1, by omega⟩
      apply hd_548_24
      refine ev_b (rdR rfl) (ev_b (rA_e hA ha) ?_)
      by_cases c : xE P a - a ≤ i + 1
      · exact ev_t (nI_le c (by omega)) rfl
      · exact ev_f (nI_ge (by omega) (by omega)) (ev_t rfl rfl)
    by_cases d1 : xS P (a + i) = xS P (b + i)
    · refine ev_f (fun e => e (q.mpr d1)) (ev_b (rdR rfl) (ev_b va (ev_b (rdR rfl) (ev_b vb ?_))))
      by_cases d2 : xV P (a + i) = xV P (b + i)
      · rw [if_pos (show xS P (a + i) = xS P (b + i) ∧ xV P (a + i) = xV P (b + i) from ⟨d1, d2⟩)]
        refine ev_f (fun e => e d2) ?_
        apply hd_548_86
        rw [nI_1]
        exact ih (i + 1) K (by omega) (by omega)
      · rw [if_neg (show ¬ (xS P (a + i) = xS P (b + i) ∧ xV P (a + i) = xV P (b + i)) from fun e => d2 e.2)]
        exact ev_t d2 (no _ (by omega) z)
    · rw [if_neg (show ¬ (xS P (a + i) = xS P (b + i) ∧ xV P (a + i) = xV P (b + i)) from fun e => d1 e.1)]
      exact ev_t (fun e => d1 (q.mp e)) (no _ (by omega) z)
theorem s548 {V : Nat → Nat → Value} {I : Nat → Nat → Int32} {L : Nat → Nat → Int64} {R : Nat → Nat → Option Nat} {tl : am_H} {N a b : Nat} {nt : Int32} {P : xT} (hN : 400 < N) (ho : okP P) (hA : rA V I nt P) (ha : a < P.length) (hb : b < P.length) : fm_548 N (.ref 174) (nI a) (nI b) (fx V I L R ++ tl) = some (.inl (some (.int (bI (lkB P a b))), fx V I L R ++ tl)) := by
  have l60 := hA.2.2.2.2
  have xl := xE_le (P := P) (k := a) (by omega)
  have xg := xE_gt ha
  have yl := xE_le (P := P) (k := b) (by omega)
  have yg := xE_gt hb
  have q : nI (xE P a - a) = nI (xE P b - b) ↔ xE P a - a = xE P b - b := nI_eq (by omega) (by omega)
  apply hm_548
  apply hd_548_0
  refine ev_b (rdR rfl) (ev_b (rA_e hA ha) (ev_b (rdR rfl) (ev_b (rA_e hA hb) ?_)))
  unfold lkB
  by_cases d : xE P a - a = xE P b - b
  · rw [if_pos d]
    refine ev_f (fun e => e (q.mpr d)) ?_
    apply hd_548_20
    exact s548l ho hA ha (by omega) (xE P a - a) 0 N (by omega) (by omega)
  · rw [if_neg d]
    refine ev_t (fun e => d (q.mp e)) ?_
    apply hd_548_20
    obtain ⟨N, rfl⟩ : ∃ k, N = k + 1 := ⟨N - 1, by omega⟩
    apply hd_548_24
    exact ev_b (rdR rfl) (ev_b (rA_e hA ha) (ev_f (nI_ge (b := xE P a - a) (a := 0) (by omega) (by omega)) (ev_t rfl rfl)))
