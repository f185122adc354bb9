/-! ===== the code of a tree: the reference places it ===== -/
def pF (A B : Nat → Prop) (I J : Nat → Nat → Int32) : Prop := (∀ z, z ≠ 186 → z ≠ 187 → z ≠ 219 → J z = I z) ∧ (∀ i, ¬ A i → J 186 i = I 186 i ∧ J 187 i = I 187 i) ∧ (∀ i, ¬ B i → J 219 i = I 219 i)
theorem pF_r {A B : Nat → Prop} {I : Nat → Nat → Int32} : pF A B I I := ⟨fun _ _ _ _ => rfl, fun _ _ => ⟨rfl, rfl⟩, fun _ _ => rfl⟩
theorem pF_t {A B : Nat → Prop} {I J K : Nat → Nat → Int32} (h : pF A B I J) (g : pF A B J K) : pF A B I K := ⟨fun z a b c => (g.1 z a b c).trans (h.1 z a b c), fun i a => ⟨(g.2.1 i a).1.trans (h.2.1 i a).1, (g.2.1 i a).2.trans (h.2.1 i a).2⟩, fun i a => (g.2.2 i a).trans (h.2.2 i a)⟩
theorem pF_w {A B A' B' : Nat → Prop} {I J : Nat → Nat → Int32} (h : pF A B I J) (a : ∀ i, A i → A' i) (b : ∀ i, B i → B' i) : pF A' B' I J := ⟨h.1, fun i n => h.2.1 i (fun e => n (a i e)), fun i n => h.2.2 i (fun e => n (b i e))⟩
def cel (J : Nat → Nat → Int32) (i : Nat) (x y : Int32) : Prop := J 186 i = x ∧ J 187 i = y
def atL (J : Nat → Nat → Int32) (s : Nat) (Q : xT) : Prop := ∀ i x, Q[i]? = some x → cel J (s + i) (nI x.1) x.2
theorem pF_c {A B : Nat → Prop} {I J : Nat → Nat → Int32} {i : Nat} {x y : Int32} (h : pF A B I J) (n : ¬ A i) (c : cel I i x y) : cel J i x y := ⟨(h.2.1 i n).1.trans c.1, (h.2.1 i n).2.trans c.2⟩
theorem pF_l {A B : Nat → Prop} {I J : Nat → Nat → Int32} {s : Nat} {Q : xT} (h : pF A B I J) (n : ∀ i, i < Q.length → ¬ A (s + i)) (c : atL I s Q) : atL J s Q := fun i x e => pF_c h (n i (List.getElem?_eq_some_iff.mp e).1) (c i x e)
theorem atL_nil {J : Nat → Nat → Int32} {s : Nat} : atL J s [] := fun i x h => absurd h (by simp)
theorem atL_1 {J : Nat → Nat → Int32} {s a : Nat} {b : Int32} (h : cel J s (nI a) b) : atL J s [(a, b)] := fun i x e => by
  cases i with
  | zero => rw [List.getElem?_cons_zero] at e; rw [← Option.some.inj e]; exact h
  | succ i => rw [List.getElem?_cons_succ] at e; exact absurd e (by simp)
theorem atL_app {J : Nat → Nat → Int32} {s t : Nat} {A B : xT} (h : atL J s A) (ht : t = s + A.length) (g : atL J t B) : atL J s (A ++ B) := fun i x e => by
  by_cases c : i < A.length
  · rw [List.getElem?_append_left c] at e; exact h i x e
  · rw [List.getElem?_append_right (by omega)] at e
    have := g _ x e
    rw [ht, show s + A.length + (i - A.length) = s + i by omega] at this
    exact this
theorem atL_2 {J : Nat → Nat → Int32} {s a a' : Nat} {b b' : Int32} (h : cel J s (nI a) b) (h2 : cel J (s + 1) (nI a') b') : atL J s [(a, b), (a', b')] := atL_app (A := [(a, b)]) (atL_1 h) rfl (atL_1 h2)
theorem atL_3 {J : Nat → Nat → Int32} {s a a' a'' : Nat} {b b' b'' : Int32} (h : cel J s (nI a) b) (h2 : cel J (s + 1) (nI a') b') (h3 : cel J (s + 2) (nI a'') b'') : atL J s [(a, b), (a', b'), (a'', b'')] := atL_app (A := [(a, b)]) (atL_1 h) rfl (atL_2 h2 h3)
def wr (I J : Nat → Nat → Int32) (i : Nat) (x y : Int32) : Prop := (∀ n, n ≠ i → J 186 n = I 186 n ∧ J 187 n = I 187 n) ∧ cel J i x y ∧ J 219 = I 219
def wst (I J : Nat → Nat → Int32) (j : Nat) (v : Int32) : Prop := (∀ n, n ≠ j → J 219 n = I 219 n) ∧ J 219 j = v ∧ J 186 = I 186 ∧ J 187 = I 187
theorem wr_c {I J : Nat → Nat → Int32} {i n : Nat} {x y a b : Int32} (h : wr I J i x y) (hn : n ≠ i) (c : cel I n a b) : cel J n a b := ⟨(h.1 n hn).1.trans c.1, (h.1 n hn).2.trans c.2⟩
theorem wst_c {I J : Nat → Nat → Int32} {i n : Nat} {v a b : Int32} (h : wst I J i v) (c : cel I n a b) : cel J n a b := by
  unfold cel
  rw [h.2.2.1, h.2.2.2]
  exact c
theorem wr_s {I J : Nat → Nat → Int32} {i n : Nat} {x y v : Int32} (h : wr I J i x y) (c : I 219 n = v) : J 219 n = v := by rw [h.2.2]; exact c
theorem wst_s {I J : Nat → Nat → Int32} {i n : Nat} {x v : Int32} (h : wst I J i x) (hn : n ≠ i) (c : I 219 n = v) : J 219 n = v := (h.1 n hn).trans c
set_option maxRecDepth 100000 in
set_option maxHeartbeats 4000000 in
theorem s498 {V : Nat → Nat → Value} {I : Nat → Nat → Int32} {L : Nat → Nat → Int64} {R : Nat → Nat → Option Nat} {tl : am_H} {A B : Nat → Prop} (i : Nat) (p x y : Int32) (hp : p = nI i) (hi : i < 400) (hA : A i) : ∃ J, fm_498 (.ref 174) p x y (fx V I L R ++ tl) = some (.inl (none, fx V J L R ++ tl)) ∧ wr I J i x y ∧ pF A B I J := by
  subst hp
  refine ⟨iup (iup I 186 (upd (I 186) i x)) 187 (upd (I 187) i y), ?_, ⟨fun n hn => ⟨?_, ?_⟩, ⟨?_, ?_⟩, ?_⟩, ⟨fun z a b c => ?_, fun n hn => ⟨?_, ?_⟩, fun n hn => ?_⟩⟩
  · apply hm_498
    apply hd_498_0
    exact ev_b (rdR rfl) (ev_b (qs_186 hi) (ev_b (rdR rfl) (ev_b (qs_187 hi) rfl)))
  · exact upd_ne hn
  · exact upd_ne hn
  · exact upd_eq
  · exact upd_eq
  · rfl
  · rw [iup_na b, iup_na a]
  · exact upd_ne (fun e => hn (e ▸ hA))
  · exact upd_ne (fun e => hn (e ▸ hA))
  · rfl
theorem s219 {V : Nat → Nat → Value} {I : Nat → Nat → Int32} {L : Nat → Nat → Int64} {R : Nat → Nat → Option Nat} {tl : am_H} {A B : Nat → Prop} (j : Nat) (p v : Int32) (hp : p = nI j) (hj : j < 61) (hB : B j) : ∃ J, am_pS 0 (.ref 219) p v (fx V I L R ++ tl) = some (fx V J L R ++ tl) ∧ wst I J j v ∧ pF A B I J := by
  subst hp
  refine ⟨_, qs_219 hj, ⟨fun n hn => upd_ne hn, upd_eq, rfl, rfl⟩, ⟨fun z a b c => iup_na c, fun n hn => ⟨rfl, rfl⟩, fun n hn => upd_ne (fun e => hn (e ▸ hB))⟩⟩
/-- the tree, and how long each node's code is -/
def rB (V : Nat → Nat → Value) (I : Nat → Nat → Int32) (nt : Int32) (P : xT) : Prop := rA V I nt P ∧ ∀ j, j < P.length → I 253 j = nI (cO2 P j).length
theorem rB_f {V : Nat → Nat → Value} {I J : Nat → Nat → Int32} {nt : Int32} {P : xT} {A B : Nat → Prop} (f : pF A B I J) (h : rB V I nt P) : rB V J nt P := by
  obtain ⟨⟨d1, d2, d3, d4, d5⟩, h2⟩ := h
  refine ⟨⟨d1, d2, ⟨d3.1, ?_⟩, ?_, d5⟩, ?_⟩
  · rw [f.1 188 (by decide) (by decide) (by decide), f.1 189 (by decide) (by decide) (by decide)]; exact d3.2
  · rw [f.1 192 (by decide) (by decide) (by decide)]; exact d4
  · rw [f.1 253 (by decide) (by decide) (by decide)]; exact h2
theorem rB_l {V : Nat → Nat → Value} {I : Nat → Nat → Int32} {L : Nat → Nat → Int64} {R : Nat → Nat → Option Nat} {tl : am_H} {nt : Int32} {P : xT} (h : rB V I nt P) {j : Nat} (hj : j < P.length) (p : Int32) (hp : p = nI j) : am_pA 0 (.ref 253) p (fx V I L R ++ tl) = some (nI (cO2 P j).length) := by
  subst hp
  exact (qa_253 (by have := h.1.2.2.2.2; omega)).trans (congrArg some (h.2 j hj))
def bA (P : xT) (k : Nat) : xT := if xS P k = 9 then [(0, 0), (13, 0)] else if xS P k < 10 then [(xS P k - 2, 0)] else if xS P k = 17 then [(18, nI ((cO2 P (xE P (k + 1))).length + 1))] else if xS P k = 18 then [(18, 2), (0, 1), (17, nI (cO2 P (xE P (k + 1))).length)] else if xS P k = 20 then [(18, nI ((cO2 P (xE P (k + 1))).length + 1))] else []
def bB (P : xT) (k : Nat) : xT := if xS P k = 17 then [(17, 1), (0, 0)] else if xS P k = 18 then [] else if xS P k = 20 then [(17, nI (cO2 P (xE P (xE P (k + 1)))).length)] else [(xS P k - 3, 0)]
theorem cO_bb {P : xT} (ho : okP P) {k : Nat} (hk : k < P.length) (hg : gdT P k) (h7 : 7 ≤ xS P k) : cO2 P k = cO2 P (k + 1) ++ (bA P k ++ (if 10 ≤ xS P k then cO2 P (xE P (k + 1)) ++ (bB P k ++ (if xS P k = 20 then cO2 P (xE P (xE P (k + 1))) else [])) else [])) := by
  have g1 := gd_1 hk hg
  rw [cO_unf ho hk g1.2.2, if_neg (by omega)]
  unfold bA bB
  by_cases c2 : xS P k = 9
  · rw [if_pos c2, if_pos c2, if_neg (by omega), List.append_nil]
  rw [if_neg c2, if_neg c2]
  by_cases c3 : xS P k < 10
  · rw [if_pos c3, if_neg (by omega), if_pos c3, if_neg (by omega), List.append_nil]
  rw [if_neg c3, if_neg c3, if_pos (show 10 ≤ xS P k by omega)]
  by_cases c5 : xS P k = 17
  · rw [if_pos c5, if_pos c5, if_pos c5, if_neg (by omega), List.append_nil]
  rw [if_neg c5, if_neg c5, if_neg c5]
  by_cases c6 : xS P k = 18
  · rw [if_pos c6, if_pos c6, if_pos c6, if_neg (by omega), List.append_nil, List.append_nil]
  rw [if_neg c6, if_neg c6, if_neg c6]
  by_cases c7 : xS P k = 20
  · rw [if_pos c7, if_pos c7, if_pos c7, if_pos c7]
  rw [if_neg c7, if_neg c7, if_neg c7, if_neg c7, List.nil_append, List.append_nil]
theorem x4_e {s n : Nat} (h : 1 ≤ n) : (nI s + nI n) - 1 = nI (s + n - 1) := by
  rw [nI_add]
  exact nI_sub (b := 1) (by omega)
theorem x4_f {s n : Nat} (h : 2 ≤ n) : (nI s + nI n) - 1 - 1 = nI (s + n - 2) := by
  rw [x4_e (by omega)]
  exact nI_sub (b := 1) (by omega)
def plO (V : Nat → Nat → Value) (I : Nat → Nat → Int32) (L : Nat → Nat → Int64) (R : Nat → Nat → Option Nat) (tl : am_H) (N k s : Nat) (P : xT) : Prop := ∃ J, fm_497 N (.ref 174) (nI k) (nI s) (fx V I L R ++ tl) = some (.inl (none, fx V J L R ++ tl)) ∧ pF (fun i => s ≤ i ∧ i < s + (cO2 P k).length) (fun i => k < i ∧ i < xE P k) I J ∧ (xS P k < 5 → atL J s [(xS P k, xV P k)]) ∧ (7 ≤ xS P k → J 219 (k + 1) = nI s ∧ atL J (s + (cO2 P (k + 1)).length) (bA P k)) ∧ (10 ≤ xS P k → J 219 (xE P (k + 1)) = nI (s + (cO2 P (k + 1)).length + (bA P k).length) ∧ atL J (s + (cO2 P (k + 1)).length + (bA P k).length + (cO2 P (xE P (k + 1))).length) (bB P k)) ∧ (xS P k = 20 → J 219 (xE P (xE P (k + 1))) = nI (s + (cO2 P (k + 1)).length + (bA P k).length + (cO2 P (xE P (k + 1))).length + (bB P k).length))
set_option maxRecDepth 100000 in
set_option maxHeartbeats 4000000 in
theorem p497_0 {V : Nat → Nat → Value} {I : Nat → Nat → Int32} {L : Nat → Nat → Int64} {R : Nat → Nat → Option Nat} {tl : am_H} {N k s : Nat} {nt : Int32} {P : xT} (hN : 400 < N) (ho : okP P) (hB : rB V I nt P) (hg : gdT P k) (hk : k < P.length) (hs : s + (cO2 P k).length ≤ 60) (hx : xS P k < 5) : plO V I L R tl N k s P := by
  have l60 := hB.1.2.2.2.2
  obtain ⟨n1, n2, n3, n4, n5, n6, n7, n8, n9⟩ := nd_at ho hk
  have ln := cO_len ho hk hg
  have r0 := rA_s (L := L) (R := R) (tl := tl) hB.1 hk
  have r1 := rB_l (L := L) (R := R) (tl := tl) hB hk (nI k) rfl
  have r2 := rA_v (L := L) (R := R) (tl := tl) hB.1 hk
  have l1 : (cO2 P k).length = 1 := by
    rw [ln, if_neg (by omega), if_neg (by omega), if_neg (by omega)]
    unfold ownL
    rw [if_pos (by omega)]
  obtain ⟨J, e, w, f⟩ := s498 (V := V) (I := I) (L := L) (R := R) (tl := tl) (A := fun i => s ≤ i ∧ i < s + (cO2 P k).length) (B := fun i => k < i ∧ i < xE P k) s (nI s) (nI (xS P k)) (xV P k) rfl (by omega) ⟨by omega, by omega⟩
  refine ⟨J, ?_, f, fun _ => atL_1 w.2.1, fun h => absurd h (by omega), fun h => absurd h (by omega), fun h => absurd h (by omega)⟩
  (repeat (first | ((with_reducible apply ev_i); first | (with_reducible assumption) | (with_reducible exact qk_174) | exact bI_fit _ | exact rfl) | ((with_reducible apply ev_vR); first | (with_reducible assumption) | (with_reducible exact rdR qr_174_16) | (with_reducible exact rdR qr_174_17) | ((with_reducible apply rVR qv_174_18); (first | (with_reducible assumption) | exact rfl)) | (with_reducible exact rdR qr_174_21) | (with_reducible exact rdR qr_174_22) | (with_reducible exact rdR qr_174_71) | (with_reducible exact rdR qr_174_122)) | ((with_reducible apply ev_pA); first | (with_reducible assumption)) | ((with_reducible apply ev_pS); first | (with_reducible assumption)) | ((with_reducible apply ev_cI); first | (with_reducible assumption)) | ((with_reducible apply ev_cV); first | (with_reducible assumption)) | ((with_reducible apply ev_t); (first | (with_reducible assumption) | decide | (simp (disch := omega) only [i_5, i_9, i_17, i_18, i_20, nI_add, nI_eq, nI_leI, nI_ltI, Classical.not_not] <;> (first | (with_reducible assumption) | omega)))) | ((with_reducible apply ev_f); (first | (with_reducible assumption) | decide | (simp (disch := omega) only [i_5, i_9, i_17, i_18, i_20, nI_add, nI_eq, nI_leI, nI_ltI, Classical.not_not] <;> (first | (with_reducible assumption) | omega)))) | (with_reducible apply hm_497) | (with_reducible apply hd_497_0) | (with_reducible apply hd_497_74) | (with_reducible apply hd_497_97) | (with_reducible apply hd_497_132) | (with_reducible apply hd_497_193) | (with_reducible apply hd_497_254) | (with_reducible apply hd_497_348)))
  all_goals exact rfl
set_option maxRecDepth 100000 in
set_option maxHeartbeats 4000000 in
theorem p497_7 {V : Nat → Nat → Value} {I : Nat → Nat → Int32} {L : Nat → Nat → Int64} {R : Nat → Nat → Option Nat} {tl : am_H} {N k s : Nat} {nt : Int32} {P : xT} (hN : 400 < N) (ho : okP P) (hB : rB V I nt P) (hg : gdT P k) (hk : k < P.length) (hs : s + (cO2 P k).length ≤ 60) (hx : xS P k = 7 ∨ xS P k = 8) : plO V I L R tl N k s P := by
  have l60 := hB.1.2.2.2.2
  obtain ⟨n1, n2, n3, n4, n5, n6, n7, n8, n9⟩ := nd_at ho hk
  have ln := cO_len ho hk hg
  have r0 := rA_s (L := L) (R := R) (tl := tl) hB.1 hk
  have r1 := rB_l (L := L) (R := R) (tl := tl) hB hk (nI k) rfl
  have q1 := n4 (by omega)
  have xg1 := xE_gt q1.1
  have w5 : ¬ xS P k < 5 := by omega
  have g7 : 7 ≤ xS P k := by omega
  rw [if_pos g7] at ln
  obtain ⟨J1, e1, w1, f1⟩ := s219 (V := V) (I := I) (L := L) (R := R) (tl := tl) (A := fun i => s ≤ i ∧ i < s + (cO2 P k).length) (B := fun i => k < i ∧ i < xE P k) (k + 1) (nI k + 1) (nI s) (nI_1 k) (by omega) ⟨by omega, by omega⟩
  have B1 := rB_f f1 hB
  have r3 := rB_l (L := L) (R := R) (tl := tl) B1 q1.1 (nI k + 1) (nI_1 k)
  have x8 := n8 (by omega) (by omega)
  have ow : ownL (xS P k) = 1 := by unfold ownL; rw [if_pos (by omega)]
  rw [if_neg (by omega), if_neg (by omega), ow] at ln
  obtain ⟨J2, e2, w2, f2⟩ := s498 (V := V) (I := J1) (L := L) (R := R) (tl := tl) (A := fun i => s ≤ i ∧ i < s + (cO2 P k).length) (B := fun i => k < i ∧ i < xE P k) (s + (cO2 P (k + 1)).length) ((nI s + nI (cO2 P k).length) - 1) (nI (xS P k) - 2) (0) (by rw [x4_e (by omega), ln]; congr 1) (by omega) ⟨by omega, by omega⟩
  have B2 := rB_f f2 B1
  have bAe : bA P k = [(xS P k - 2, 0)] := by unfold bA; rw [if_neg (by omega), if_pos (by omega)]
  refine ⟨J2, ?_, pF_t (f1) f2, fun h => absurd h w5, fun _ => ⟨wr_s w2 w1.2.1, ?_⟩, fun h => absurd h (by omega), fun h => absurd h (by omega)⟩
  rotate_left
  · rw [bAe]
    have := w2.2.1
    rw [show nI (xS P k) - 2 = nI (xS P k - 2) from nI_sub (b := 2) (by omega)] at this
    exact atL_1 this
  (repeat (first | ((with_reducible apply ev_i); first | (with_reducible assumption) | (with_reducible exact qk_174) | exact bI_fit _ | exact rfl) | ((with_reducible apply ev_vR); first | (with_reducible assumption) | (with_reducible exact rdR qr_174_16) | (with_reducible exact rdR qr_174_17) | ((with_reducible apply rVR qv_174_18); (first | (with_reducible assumption) | exact rfl)) | (with_reducible exact rdR qr_174_21) | (with_reducible exact rdR qr_174_22) | (with_reducible exact rdR qr_174_71) | (with_reducible exact rdR qr_174_122)) | ((with_reducible apply ev_pA); first | (with_reducible assumption)) | ((with_reducible apply ev_pS); first | (with_reducible assumption)) | ((with_reducible apply ev_cI); first | (with_reducible assumption)) | ((with_reducible apply ev_cV); first | (with_reducible assumption)) | ((with_reducible apply ev_t); (first | (with_reducible assumption) | decide | (simp (disch := omega) only [i_5, i_9, i_17, i_18, i_20, nI_add, nI_eq, nI_leI, nI_ltI, Classical.not_not] <;> (first | (with_reducible assumption) | omega)))) | ((with_reducible apply ev_f); (first | (with_reducible assumption) | decide | (simp (disch := omega) only [i_5, i_9, i_17, i_18, i_20, nI_add, nI_eq, nI_leI, nI_ltI, Classical.not_not] <;> (first | (with_reducible assumption) | omega)))) | (with_reducible apply hm_497) | (with_reducible apply hd_497_0) | (with_reducible apply hd_497_74) | (with_reducible apply hd_497_97) | (with_reducible apply hd_497_132) | (with_reducible apply hd_497_193) | (with_reducible apply hd_497_254) | (with_reducible apply hd_497_348)))
  all_goals exact rfl
set_option maxRecDepth 100000 in
set_option maxHeartbeats 4000000 in
theorem p497_9 {V : Nat → Nat → Value} {I : Nat → Nat → Int32} {L : Nat → Nat → Int64} {R : Nat → Nat → Option Nat} {tl : am_H} {N k s : Nat} {nt : Int32} {P : xT} (hN : 400 < N) (ho : okP P) (hB : rB V I nt P) (hg : gdT P k) (hk : k < P.length) (hs : s + (cO2 P k).length ≤ 60) (hx : xS P k = 9) : plO V I L R tl N k s P := by
  have l60 := hB.1.2.2.2.2
  obtain ⟨n1, n2, n3, n4, n5, n6, n7, n8, n9⟩ := nd_at ho hk
  have ln := cO_len ho hk hg
  have r0 := rA_s (L := L) (R := R) (tl := tl) hB.1 hk
  have r1 := rB_l (L := L) (R := R) (tl := tl) hB hk (nI k) rfl
  have q1 := n4 (by omega)
  have xg1 := xE_gt q1.1
  have w5 : ¬ xS P k < 5 := by omega
  have g7 : 7 ≤ xS P k := by omega
  rw [if_pos g7] at ln
  obtain ⟨J1, e1, w1, f1⟩ := s219 (V := V) (I := I) (L := L) (R := R) (tl := tl) (A := fun i => s ≤ i ∧ i < s + (cO2 P k).length) (B := fun i => k < i ∧ i < xE P k) (k + 1) (nI k + 1) (nI s) (nI_1 k) (by omega) ⟨by omega, by omega⟩
  have B1 := rB_f f1 hB
  have r3 := rB_l (L := L) (R := R) (tl := tl) B1 q1.1 (nI k + 1) (nI_1 k)
  have x8 := n8 (by omega) (by omega)
  have ow : ownL (xS P k) = 2 := by rw [hx]; rfl
  rw [if_neg (by omega), if_neg (by omega), ow] at ln
  obtain ⟨J2, e2, w2, f2⟩ := s498 (V := V) (I := J1) (L := L) (R := R) (tl := tl) (A := fun i => s ≤ i ∧ i < s + (cO2 P k).length) (B := fun i => k < i ∧ i < xE P k) (s + (cO2 P (k + 1)).length) (nI s + nI (cO2 P (k + 1)).length) (0) (0) (nI_add ..) (by omega) ⟨by omega, by omega⟩
  have B2 := rB_f f2 B1
  obtain ⟨J3, e3, w3, f3⟩ := s498 (V := V) (I := J2) (L := L) (R := R) (tl := tl) (A := fun i => s ≤ i ∧ i < s + (cO2 P k).length) (B := fun i => k < i ∧ i < xE P k) (s + (cO2 P (k + 1)).length + 1) ((nI s + nI (cO2 P k).length) - 1) (13) (0) (by rw [x4_e (by omega), ln]; congr 1) (by omega) ⟨by omega, by omega⟩
  have B3 := rB_f f3 B2
  have bAe : bA P k = [(0, 0), (13, 0)] := by unfold bA; rw [if_pos hx]
  refine ⟨J3, ?_, pF_t (pF_t (f1) f2) f3, fun h => absurd h w5, fun _ => ⟨wr_s w3 (wr_s w2 w1.2.1), ?_⟩, fun h => absurd h (by omega), fun h => absurd h (by omega)⟩
  rotate_left
  · rw [bAe]
    exact atL_2 (wr_c w3 (by omega) w2.2.1) w3.2.1
  (repeat (first | ((with_reducible apply ev_i); first | (with_reducible assumption) | (with_reducible exact qk_174) | exact bI_fit _ | exact rfl) | ((with_reducible apply ev_vR); first | (with_reducible assumption) | (with_reducible exact rdR qr_174_16) | (with_reducible exact rdR qr_174_17) | ((with_reducible apply rVR qv_174_18); (first | (with_reducible assumption) | exact rfl)) | (with_reducible exact rdR qr_174_21) | (with_reducible exact rdR qr_174_22) | (with_reducible exact rdR qr_174_71) | (with_reducible exact rdR qr_174_122)) | ((with_reducible apply ev_pA); first | (with_reducible assumption)) | ((with_reducible apply ev_pS); first | (with_reducible assumption)) | ((with_reducible apply ev_cI); first | (with_reducible assumption)) | ((with_reducible apply ev_cV); first | (with_reducible assumption)) | ((with_reducible apply ev_t); (first | (with_reducible assumption) | decide | (simp (disch := omega) only [i_5, i_9, i_17, i_18, i_20, nI_add, nI_eq, nI_leI, nI_ltI, Classical.not_not] <;> (first | (with_reducible assumption) | omega)))) | ((with_reducible apply ev_f); (first | (with_reducible assumption) | decide | (simp (disch := omega) only [i_5, i_9, i_17, i_18, i_20, nI_add, nI_eq, nI_leI, nI_ltI, Classical.not_not] <;> (first | (with_reducible assumption) | omega)))) | (with_reducible apply hm_497) | (with_reducible apply hd_497_0) | (with_reducible apply hd_497_74) | (with_reducible apply hd_497_97) | (with_reducible apply hd_497_132) | (with_reducible apply hd_497_193) | (with_reducible apply hd_497_254) | (with_reducible apply hd_497_348)))
  all_goals exact rfl
set_option maxRecDepth 100000 in
set_option maxHeartbeats 4000000 in
theorem p497_10 {V : Nat → Nat → Value} {I : Nat → Nat → Int32} {L : Nat → Nat → Int64} {R : Nat → Nat → Option Nat} {tl : am_H} {N k s : Nat} {nt : Int32} {P : xT} (hN : 400 < N) (ho : okP P) (hB : rB V I nt P) (hg : gdT P k) (hk : k < P.length) (hs : s + (cO2 P k).length ≤ 60) (hx : 10 ≤ xS P k ∧ xS P k < 17) : plO V I L R tl N k s P := by
  have l60 := hB.1.2.2.2.2
  obtain ⟨n1, n2, n3, n4, n5, n6, n7, n8, n9⟩ := nd_at ho hk
  have ln := cO_len ho hk hg
  have r0 := rA_s (L := L) (R := R) (tl := tl) hB.1 hk
  have r1 := rB_l (L := L) (R := R) (tl := tl) hB hk (nI k) rfl
  have q1 := n4 (by omega)
  have xg1 := xE_gt q1.1
  have w5 : ¬ xS P k < 5 := by omega
  have g7 : 7 ≤ xS P k := by omega
  rw [if_pos g7] at ln
  obtain ⟨J1, e1, w1, f1⟩ := s219 (V := V) (I := I) (L := L) (R := R) (tl := tl) (A := fun i => s ≤ i ∧ i < s + (cO2 P k).length) (B := fun i => k < i ∧ i < xE P k) (k + 1) (nI k + 1) (nI s) (nI_1 k) (by omega) ⟨by omega, by omega⟩
  have B1 := rB_f f1 hB
  have r3 := rB_l (L := L) (R := R) (tl := tl) B1 q1.1 (nI k + 1) (nI_1 k)
  have q2 := n5 (by omega)
  have xg2 := xE_gt q2.1
  rw [if_pos (show 10 ≤ xS P k by omega)] at ln
  have x9 := n9 (by omega) (by omega)
  have ow : ownL (xS P k) = 1 := by unfold ownL; rw [if_neg (by omega), if_neg (by omega), if_pos (by omega)]
  rw [if_neg (by omega), ow] at ln
  have d1 := s393_1 (L := L) (R := R) (tl := tl) hN B1.1 q1.1
  obtain ⟨J2, e2, w2, f2⟩ := s219 (V := V) (I := J1) (L := L) (R := R) (tl := tl) (A := fun i => s ≤ i ∧ i < s + (cO2 P k).length) (B := fun i => k < i ∧ i < xE P k) (xE P (k + 1)) (nI (xE P (k + 1))) (nI s + nI (cO2 P (k + 1)).length) (rfl) (by omega) ⟨by omega, by omega⟩
  have B2 := rB_f f2 B1
  obtain ⟨J3, e3, w3, f3⟩ := s498 (V := V) (I := J2) (L := L) (R := R) (tl := tl) (A := fun i => s ≤ i ∧ i < s + (cO2 P k).length) (B := fun i => k < i ∧ i < xE P k) (s + (cO2 P (k + 1)).length + (cO2 P (xE P (k + 1))).length) ((nI s + nI (cO2 P k).length) - 1) (nI (xS P k) - 3) (0) (by rw [x4_e (by omega), ln]; congr 1; omega) (by omega) ⟨by omega, by omega⟩
  have B3 := rB_f f3 B2
  have bAe : bA P k = [] := by unfold bA; rw [if_neg (by omega), if_neg (by omega), if_neg (by omega), if_neg (by omega), if_neg (by omega)]
  have bBe : bB P k = [(xS P k - 3, 0)] := by unfold bB; rw [if_neg (by omega), if_neg (by omega), if_neg (by omega)]
  refine ⟨J3, ?_, pF_t (pF_t (f1) f2) f3, fun h => absurd h w5, fun _ => ⟨wr_s w3 (wst_s w2 (by omega) w1.2.1), by rw [bAe]; exact atL_nil⟩, fun _ => ⟨?_, ?_⟩, fun h => absurd h (by omega)⟩
  rotate_left
  · rw [bAe, wr_s w3 w2.2.1, nI_add]; rfl
  · rw [bBe, bAe]
    have := w3.2.1
    rw [show nI (xS P k) - 3 = nI (xS P k - 3) from nI_sub (b := 3) (by omega)] at this
    exact atL_1 this
  (repeat (first | ((with_reducible apply ev_i); first | (with_reducible assumption) | (with_reducible exact qk_174) | exact bI_fit _ | exact rfl) | ((with_reducible apply ev_vR); first | (with_reducible assumption) | (with_reducible exact rdR qr_174_16) | (with_reducible exact rdR qr_174_17) | ((with_reducible apply rVR qv_174_18); (first | (with_reducible assumption) | exact rfl)) | (with_reducible exact rdR qr_174_21) | (with_reducible exact rdR qr_174_22) | (with_reducible exact rdR qr_174_71) | (with_reducible exact rdR qr_174_122)) | ((with_reducible apply ev_pA); first | (with_reducible assumption)) | ((with_reducible apply ev_pS); first | (with_reducible assumption)) | ((with_reducible apply ev_cI); first | (with_reducible assumption)) | ((with_reducible apply ev_cV); first | (with_reducible assumption)) | ((with_reducible apply ev_t); (first | (with_reducible assumption) | decide | (simp (disch := omega) only [i_5, i_9, i_17, i_18, i_20, nI_add, nI_eq, nI_leI, nI_ltI, Classical.not_not] <;> (first | (with_reducible assumption) | omega)))) | ((with_reducible apply ev_f); (first | (with_reducible assumption) | decide | (simp (disch := omega) only [i_5, i_9, i_17, i_18, i_20, nI_add, nI_eq, nI_leI, nI_ltI, Classical.not_not] <;> (first | (with_reducible assumption) | omega)))) | (with_reducible apply hm_497) | (with_reducible apply hd_497_0) | (with_reducible apply hd_497_74) | (with_reducible apply hd_497_97) | (with_reducible apply hd_497_132) | (with_reducible apply hd_497_193) | (with_reducible apply hd_497_254) | (with_reducible apply hd_497_348)))
  all_goals exact rfl
set_option maxRecDepth 100000 in
set_option maxHeartbeats 4000000 in
theorem p497_17 {V : Nat → Nat → Value} {I : Nat → Nat → Int32} {L : Nat → Nat → Int64} {R : Nat → Nat → Option Nat} {tl : am_H} {N k s : Nat} {nt : Int32} {P : xT} (hN : 400 < N) (ho : okP P) (hB : rB V I nt P) (hg : gdT P k) (hk : k < P.length) (hs : s + (cO2 P k).length ≤ 60) (hx : xS P k = 17) : plO V I L R tl N k s P := by
  have l60 := hB.1.2.2.2.2
  obtain ⟨n1, n2, n3, n4, n5, n6, n7, n8, n9⟩ := nd_at ho hk
  have ln := cO_len ho hk hg
  have r0 := rA_s (L := L) (R := R) (tl := tl) hB.1 hk
  have r1 := rB_l (L := L) (R := R) (tl := tl) hB hk (nI k) rfl
  have q1 := n4 (by omega)
  have xg1 := xE_gt q1.1
  have w5 : ¬ xS P k < 5 := by omega
  have g7 : 7 ≤ xS P k := by omega
  rw [if_pos g7] at ln
  obtain ⟨J1, e1, w1, f1⟩ := s219 (V := V) (I := I) (L := L) (R := R) (tl := tl) (A := fun i => s ≤ i ∧ i < s + (cO2 P k).length) (B := fun i => k < i ∧ i < xE P k) (k + 1) (nI k + 1) (nI s) (nI_1 k) (by omega) ⟨by omega, by omega⟩
  have B1 := rB_f f1 hB
  have r3 := rB_l (L := L) (R := R) (tl := tl) B1 q1.1 (nI k + 1) (nI_1 k)
  have q2 := n5 (by omega)
  have xg2 := xE_gt q2.1
  rw [if_pos (show 10 ≤ xS P k by omega)] at ln
  have x9 := n9 (by omega) (by omega)
  have ow : ownL (xS P k) = 3 := by rw [hx]; rfl
  rw [if_neg (by omega), ow] at ln
  have d1 := s393_1 (L := L) (R := R) (tl := tl) hN B1.1 q1.1
  have r4 := rB_l (L := L) (R := R) (tl := tl) B1 q2.1 (nI (xE P (k + 1))) rfl
  obtain ⟨J2, e2, w2, f2⟩ := s498 (V := V) (I := J1) (L := L) (R := R) (tl := tl) (A := fun i => s ≤ i ∧ i < s + (cO2 P k).length) (B := fun i => k < i ∧ i < xE P k) (s + (cO2 P (k + 1)).length) (nI s + nI (cO2 P (k + 1)).length) (18) (nI (cO2 P (xE P (k + 1))).length + 1) (nI_add ..) (by omega) ⟨by omega, by omega⟩
  have B2 := rB_f f2 B1
  obtain ⟨J3, e3, w3, f3⟩ := s219 (V := V) (I := J2) (L := L) (R := R) (tl := tl) (A := fun i => s ≤ i ∧ i < s + (cO2 P k).length) (B := fun i => k < i ∧ i < xE P k) (xE P (k + 1)) (nI (xE P (k + 1))) (nI s + nI (cO2 P (k + 1)).length + 1) (rfl) (by omega) ⟨by omega, by omega⟩
  have B3 := rB_f f3 B2
  obtain ⟨J4, e4, w4, f4⟩ := s498 (V := V) (I := J3) (L := L) (R := R) (tl := tl) (A := fun i => s ≤ i ∧ i < s + (cO2 P k).length) (B := fun i => k < i ∧ i < xE P k) (s + (cO2 P (k + 1)).length + 1 + (cO2 P (xE P (k + 1))).length) ((nI s + nI (cO2 P k).length) - 1 - 1) (17) (1) (by rw [x4_f (by omega), ln]; congr 1; omega) (by omega) ⟨by omega, by omega⟩
  have B4 := rB_f f4 B3
  obtain ⟨J5, e5, w5', f5⟩ := s498 (V := V) (I := J4) (L := L) (R := R) (tl := tl) (A := fun i => s ≤ i ∧ i < s + (cO2 P k).length) (B := fun i => k < i ∧ i < xE P k) (s + (cO2 P (k + 1)).length + 1 + (cO2 P (xE P (k + 1))).length + 1) ((nI s + nI (cO2 P k).length) - 1) (0) (0) (by rw [x4_e (by omega), ln]; congr 1; omega) (by omega) ⟨by omega, by omega⟩
  have B5 := rB_f f5 B4
  have bAe : bA P k = [(18, nI ((cO2 P (xE P (k + 1))).length + 1))] := by unfold bA; rw [if_neg (by omega), if_neg (by omega), if_pos hx]
  have bBe : bB P k = [(17, 1), (0, 0)] := by unfold bB; rw [if_pos hx]
  refine ⟨J5, ?_, pF_t (pF_t (pF_t (pF_t (f1) f2) f3) f4) f5, fun h => absurd h w5, fun _ => ⟨wr_s w5' (wr_s w4 (wst_s w3 (by omega) (wr_s w2 w1.2.1))), ?_⟩, fun _ => ⟨?_, ?_⟩, fun h => absurd h (by omega)⟩
  rotate_left
  · rw [bAe, ← nI_1]
    exact atL_1 (wr_c w5' (by omega) (wr_c w4 (by omega) (wst_c w3 w2.2.1)))
  · rw [bAe, wr_s w5' (wr_s w4 w3.2.1), nI_add, nI_1]; rfl
  · rw [bBe, bAe]
    show atL J5 (s + (cO2 P (k + 1)).length + 1 + (cO2 P (xE P (k + 1))).length) _
    exact atL_2 (wr_c w5' (by omega) w4.2.1) w5'.2.1
  (repeat (first | ((with_reducible apply ev_i); first | (with_reducible assumption) | (with_reducible exact qk_174) | exact bI_fit _ | exact rfl) | ((with_reducible apply ev_vR); first | (with_reducible assumption) | (with_reducible exact rdR qr_174_16) | (with_reducible exact rdR qr_174_17) | ((with_reducible apply rVR qv_174_18); (first | (with_reducible assumption) | exact rfl)) | (with_reducible exact rdR qr_174_21) | (with_reducible exact rdR qr_174_22) | (with_reducible exact rdR qr_174_71) | (with_reducible exact rdR qr_174_122)) | ((with_reducible apply ev_pA); first | (with_reducible assumption)) | ((with_reducible apply ev_pS); first | (with_reducible assumption)) | ((with_reducible apply ev_cI); first | (with_reducible assumption)) | ((with_reducible apply ev_cV); first | (with_reducible assumption)) | ((with_reducible apply ev_t); (first | (with_reducible assumption) | decide | (simp (disch := omega) only [i_5, i_9, i_17, i_18, i_20, nI_add, nI_eq, nI_leI, nI_ltI, Classical.not_not] <;> (first | (with_reducible assumption) | omega)))) | ((with_reducible apply ev_f); (first | (with_reducible assumption) | decide | (simp (disch := omega) only [i_5, i_9, i_17, i_18, i_20, nI_add, nI_eq, nI_leI, nI_ltI, Classical.not_not] <;> (first | (with_reducible assumption) | omega)))) | (with_reducible apply hm_497) | (with_reducible apply hd_497_0) | (with_reducible apply hd_497_74) | (with_reducible apply hd_497_97) | (with_reducible apply hd_497_132) | (with_reducible apply hd_497_193) | (with_reducible apply hd_497_254) | (with_reducible apply hd_497_348)))
  all_goals exact rfl
set_option maxRecDepth 100000 in
set_option maxHeartbeats 4000000 in
theorem p497_18 {V : Nat → Nat → Value} {I : Nat → Nat → Int32} {L : Nat → Nat → Int64} {R : Nat → Nat → Option Nat} {tl : am_H} {N k s : Nat} {nt : Int32} {P : xT} (hN : 400 < N) (ho : okP P) (hB : rB V I nt P) (hg : gdT P k) (hk : k < P.length) (hs : s + (cO2 P k).length ≤ 60) (hx : xS P k = 18) : plO V I L R tl N k s P := by
  have l60 := hB.1.2.2.2.2
  obtain ⟨n1, n2, n3, n4, n5, n6, n7, n8, n9⟩ := nd_at ho hk
  have ln := cO_len ho hk hg
  have r0 := rA_s (L := L) (R := R) (tl := tl) hB.1 hk
  have r1 := rB_l (L := L) (R := R) (tl := tl) hB hk (nI k) rfl
  have q1 := n4 (by omega)
  have xg1 := xE_gt q1.1
  have w5 : ¬ xS P k < 5 := by omega
  have g7 : 7 ≤ xS P k := by omega
  rw [if_pos g7] at ln
  obtain ⟨J1, e1, w1, f1⟩ := s219 (V := V) (I := I) (L := L) (R := R) (tl := tl) (A := fun i => s ≤ i ∧ i < s + (cO2 P k).length) (B := fun i => k < i ∧ i < xE P k) (k + 1) (nI k + 1) (nI s) (nI_1 k) (by omega) ⟨by omega, by omega⟩
  have B1 := rB_f f1 hB
  have r3 := rB_l (L := L) (R := R) (tl := tl) B1 q1.1 (nI k + 1) (nI_1 k)
  have q2 := n5 (by omega)
  have xg2 := xE_gt q2.1
  rw [if_pos (show 10 ≤ xS P k by omega)] at ln
  have x9 := n9 (by omega) (by omega)
  have ow : ownL (xS P k) = 3 := by rw [hx]; rfl
  rw [if_neg (by omega), ow] at ln
  have d1 := s393_1 (L := L) (R := R) (tl := tl) hN B1.1 q1.1
  obtain ⟨J2, e2, w2, f2⟩ := s498 (V := V) (I := J1) (L := L) (R := R) (tl := tl) (A := fun i => s ≤ i ∧ i < s + (cO2 P k).length) (B := fun i => k < i ∧ i < xE P k) (s + (cO2 P (k + 1)).length) (nI s + nI (cO2 P (k + 1)).length) (18) (2) (nI_add ..) (by omega) ⟨by omega, by omega⟩
  have B2 := rB_f f2 B1
  obtain ⟨J3, e3, w3, f3⟩ := s498 (V := V) (I := J2) (L := L) (R := R) (tl := tl) (A := fun i => s ≤ i ∧ i < s + (cO2 P k).length) (B := fun i => k < i ∧ i < xE P k) (s + (cO2 P (k + 1)).length + 1) (nI s + nI (cO2 P (k + 1)).length + 1) (0) (1) (by rw [nI_add, nI_1]) (by omega) ⟨by omega, by omega⟩
  have B3 := rB_f f3 B2
  have r4 := rB_l (L := L) (R := R) (tl := tl) B3 q2.1 (nI (xE P (k + 1))) rfl
  obtain ⟨J4, e4, w4, f4⟩ := s498 (V := V) (I := J3) (L := L) (R := R) (tl := tl) (A := fun i => s ≤ i ∧ i < s + (cO2 P k).length) (B := fun i => k < i ∧ i < xE P k) (s + (cO2 P (k + 1)).length + 2) (nI s + nI (cO2 P (k + 1)).length + 2) (17) (nI (cO2 P (xE P (k + 1))).length) (by rw [nI_add, nI_p2]) (by omega) ⟨by omega, by omega⟩
  have B4 := rB_f f4 B3
  obtain ⟨J5, e5, w5', f5⟩ := s219 (V := V) (I := J4) (L := L) (R := R) (tl := tl) (A := fun i => s ≤ i ∧ i < s + (cO2 P k).length) (B := fun i => k < i ∧ i < xE P k) (xE P (k + 1)) (nI (xE P (k + 1))) (nI s + nI (cO2 P (k + 1)).length + 3) (rfl) (by omega) ⟨by omega, by omega⟩
  have B5 := rB_f f5 B4
  have bAe : bA P k = [(18, 2), (0, 1), (17, nI (cO2 P (xE P (k + 1))).length)] := by unfold bA; rw [if_neg (by omega), if_neg (by omega), if_neg (by omega), if_pos hx]
  have bBe : bB P k = [] := by unfold bB; rw [if_neg (by omega), if_pos hx]
  refine ⟨J5, ?_, pF_t (pF_t (pF_t (pF_t (f1) f2) f3) f4) f5, fun h => absurd h w5, fun _ => ⟨wst_s w5' (by omega) (wr_s w4 (wr_s w3 (wr_s w2 w1.2.1))), ?_⟩, fun _ => ⟨?_, ?_⟩, fun h => absurd h (by omega)⟩
  rotate_left
  · rw [bAe]
    exact atL_3 (wst_c w5' (wr_c w4 (by omega) (wr_c w3 (by omega) w2.2.1))) (wst_c w5' (wr_c w4 (by omega) w3.2.1)) (wst_c w5' w4.2.1)
  · rw [bAe, w5'.2.1, nI_add, nI_p3]; rfl
  · rw [bBe]; exact atL_nil
  (repeat (first | ((with_reducible apply ev_i); first | (with_reducible assumption) | (with_reducible exact qk_174) | exact bI_fit _ | exact rfl) | ((with_reducible apply ev_vR); first | (with_reducible assumption) | (with_reducible exact rdR qr_174_16) | (with_reducible exact rdR qr_174_17) | ((with_reducible apply rVR qv_174_18); (first | (with_reducible assumption) | exact rfl)) | (with_reducible exact rdR qr_174_21) | (with_reducible exact rdR qr_174_22) | (with_reducible exact rdR qr_174_71) | (with_reducible exact rdR qr_174_122)) | ((with_reducible apply ev_pA); first | (with_reducible assumption)) | ((with_reducible apply ev_pS); first | (with_reducible assumption)) | ((with_reducible apply ev_cI); first | (with_reducible assumption)) | ((with_reducible apply ev_cV); first | (with_reducible assumption)) | ((with_reducible apply ev_t); (first | (with_reducible assumption) | decide | (simp (disch := omega) only [i_5, i_9, i_17, i_18, i_20, nI_add, nI_eq, nI_leI, nI_ltI, Classical.not_not] <;> (first | (with_reducible assumption) | omega)))) | ((with_reducible apply ev_f); (first | (with_reducible assumption) | decide | (simp (disch := omega) only [i_5, i_9, i_17, i_18, i_20, nI_add, nI_eq, nI_leI, nI_ltI, Classical.not_not] <;> (first | (with_reducible assumption) | omega)))) | (with_reducible apply hm_497) | (with_reducible apply hd_497_0) | (with_reducible apply hd_497_74) | (with_reducible apply hd_497_97) | (with_reducible apply hd_497_132) | (with_reducible apply hd_497_193) | (with_reducible apply hd_497_254) | (with_reducible apply hd_497_348)))
  all_goals exact rfl
set_option maxRecDepth 100000 in
set_option maxHeartbeats 4000000 in
theorem p497_20 {V : Nat → Nat → Value} {I : Nat → Nat → Int32} {L : Nat → Nat → Int64} {R : Nat → Nat → Option Nat} {tl : am_H} {N k s : Nat} {nt : Int32} {P : xT} (hN : 400 < N) (ho : okP P) (hB : rB V I nt P) (hg : gdT P k) (hk : k < P.length) (hs : s + (cO2 P k).length ≤ 60) (hx : xS P k = 20) : plO V I L R tl N k s P := by
  have l60 := hB.1.2.2.2.2
  obtain ⟨n1, n2, n3, n4, n5, n6, n7, n8, n9⟩ := nd_at ho hk
  have ln := cO_len ho hk hg
  have r0 := rA_s (L := L) (R := R) (tl := tl) hB.1 hk
  have r1 := rB_l (L := L) (R := R) (tl := tl) hB hk (nI k) rfl
  have q1 := n4 (by omega)
  have xg1 := xE_gt q1.1
  have w5 : ¬ xS P k < 5 := by omega
  have g7 : 7 ≤ xS P k := by omega
  rw [if_pos g7] at ln
  obtain ⟨J1, e1, w1, f1⟩ := s219 (V := V) (I := I) (L := L) (R := R) (tl := tl) (A := fun i => s ≤ i ∧ i < s + (cO2 P k).length) (B := fun i => k < i ∧ i < xE P k) (k + 1) (nI k + 1) (nI s) (nI_1 k) (by omega) ⟨by omega, by omega⟩
  have B1 := rB_f f1 hB
  have r3 := rB_l (L := L) (R := R) (tl := tl) B1 q1.1 (nI k + 1) (nI_1 k)
  have q2 := n5 (by omega)
  have xg2 := xE_gt q2.1
  rw [if_pos (show 10 ≤ xS P k by omega)] at ln
  have q3 := n6 hx
  have xg3 := xE_gt q3.1
  have x9 := q3.2.1
  have ow : ownL (xS P k) = 2 := by rw [hx]; rfl
  rw [if_pos hx, ow] at ln
  have d1 := s393_1 (L := L) (R := R) (tl := tl) hN B1.1 q1.1
  have d2 := s393_2 (L := L) (R := R) (tl := tl) hN B1.1 q1.1 q2.1
  have r4 := rB_l (L := L) (R := R) (tl := tl) B1 q2.1 (nI (xE P (k + 1))) rfl
  obtain ⟨J2, e2, w2, f2⟩ := s498 (V := V) (I := J1) (L := L) (R := R) (tl := tl) (A := fun i => s ≤ i ∧ i < s + (cO2 P k).length) (B := fun i => k < i ∧ i < xE P k) (s + (cO2 P (k + 1)).length) (nI s + nI (cO2 P (k + 1)).length) (18) (nI (cO2 P (xE P (k + 1))).length + 1) (nI_add ..) (by omega) ⟨by omega, by omega⟩
  have B2 := rB_f f2 B1
  obtain ⟨J3, e3, w3, f3⟩ := s219 (V := V) (I := J2) (L := L) (R := R) (tl := tl) (A := fun i => s ≤ i ∧ i < s + (cO2 P k).length) (B := fun i => k < i ∧ i < xE P k) (xE P (k + 1)) (nI (xE P (k + 1))) (nI s + nI (cO2 P (k + 1)).length + 1) (rfl) (by omega) ⟨by omega, by omega⟩
  have B3 := rB_f f3 B2
  have r5 := rB_l (L := L) (R := R) (tl := tl) B3 q2.1 (nI (xE P (k + 1))) rfl
  have r6 := rB_l (L := L) (R := R) (tl := tl) B3 q3.1 (nI (xE P (xE P (k + 1)))) rfl
  obtain ⟨J4, e4, w4, f4⟩ := s498 (V := V) (I := J3) (L := L) (R := R) (tl := tl) (A := fun i => s ≤ i ∧ i < s + (cO2 P k).length) (B := fun i => k < i ∧ i < xE P k) (s + (cO2 P (k + 1)).length + 1 + (cO2 P (xE P (k + 1))).length) (nI s + nI (cO2 P (k + 1)).length + 1 + nI (cO2 P (xE P (k + 1))).length) (17) (nI (cO2 P (xE P (xE P (k + 1)))).length) (by rw [nI_add, nI_1, nI_add]) (by omega) ⟨by omega, by omega⟩
  have B4 := rB_f f4 B3
  have r7 := rB_l (L := L) (R := R) (tl := tl) B4 q2.1 (nI (xE P (k + 1))) rfl
  obtain ⟨J5, e5, w5', f5⟩ := s219 (V := V) (I := J4) (L := L) (R := R) (tl := tl) (A := fun i => s ≤ i ∧ i < s + (cO2 P k).length) (B := fun i => k < i ∧ i < xE P k) (xE P (xE P (k + 1))) (nI (xE P (xE P (k + 1)))) (nI s + nI (cO2 P (k + 1)).length + 2 + nI (cO2 P (xE P (k + 1))).length) (rfl) (by omega) ⟨by omega, by omega⟩
  have B5 := rB_f f5 B4
  have bAe : bA P k = [(18, nI ((cO2 P (xE P (k + 1))).length + 1))] := by unfold bA; rw [if_neg (by omega), if_neg (by omega), if_neg (by omega), if_neg (by omega), if_pos hx]
  have bBe : bB P k = [(17, nI (cO2 P (xE P (xE P (k + 1)))).length)] := by unfold bB; rw [if_neg (by omega), if_neg (by omega), if_pos hx]
  refine ⟨J5, ?_, pF_t (pF_t (pF_t (pF_t (f1) f2) f3) f4) f5, fun h => absurd h w5, fun _ => ⟨wst_s w5' (by omega) (wr_s w4 (wst_s w3 (by omega) (wr_s w2 w1.2.1))), ?_⟩, fun _ => ⟨?_, ?_⟩, fun _ => ?_⟩
  rotate_left
  · rw [bAe, ← nI_1]
    exact atL_1 (wst_c w5' (wr_c w4 (by omega) (wst_c w3 w2.2.1)))
  · rw [bAe, wst_s w5' (by omega) (wr_s w4 w3.2.1), nI_add, nI_1]; rfl
  · rw [bBe, bAe]
    exact atL_1 (wst_c w5' w4.2.1)
  · rw [bBe, bAe, w5'.2.1, nI_add, nI_p2, nI_add]
    congr 1
    show _ = _ + 1 + _ + 1
    omega
  (repeat (first | ((with_reducible apply ev_i); first | (with_reducible assumption) | (with_reducible exact qk_174) | exact bI_fit _ | exact rfl) | ((with_reducible apply ev_vR); first | (with_reducible assumption) | (with_reducible exact rdR qr_174_16) | (with_reducible exact rdR qr_174_17) | ((with_reducible apply rVR qv_174_18); (first | (with_reducible assumption) | exact rfl)) | (with_reducible exact rdR qr_174_21) | (with_reducible exact rdR qr_174_22) | (with_reducible exact rdR qr_174_71) | (with_reducible exact rdR qr_174_122)) | ((with_reducible apply ev_pA); first | (with_reducible assumption)) | ((with_reducible apply ev_pS); first | (with_reducible assumption)) | ((with_reducible apply ev_cI); first | (with_reducible assumption)) | ((with_reducible apply ev_cV); first | (with_reducible assumption)) | ((with_reducible apply ev_t); (first | (with_reducible assumption) | decide | (simp (disch := omega) only [i_5, i_9, i_17, i_18, i_20, nI_add, nI_eq, nI_leI, nI_ltI, Classical.not_not] <;> (first | (with_reducible assumption) | omega)))) | ((with_reducible apply ev_f); (first | (with_reducible assumption) | decide | (simp (disch := omega) only [i_5, i_9, i_17, i_18, i_20, nI_add, nI_eq, nI_leI, nI_ltI, Classical.not_not] <;> (first | (with_reducible assumption) | omega)))) | (with_reducible apply hm_497) | (with_reducible apply hd_497_0) | (with_reducible apply hd_497_74) | (with_reducible apply hd_497_97) | (with_reducible apply hd_497_132) | (with_reducible apply hd_497_193) | (with_reducible apply hd_497_254) | (with_reducible apply hd_497_348)))
  all_goals exact rfl
theorem p497 {V : Nat → Nat → Value} {I : Nat → Nat → Int32} {L : Nat → Nat → Int64} {R : Nat → Nat → Option Nat} {tl : am_H} {N k s : Nat} {nt : Int32} {P : xT} (hN : 400 < N) (ho : okP P) (hB : rB V I nt P) (hg : gdT P k) (hk : k < P.length) (hs : s + (cO2 P k).length ≤ 60) : plO V I L R tl N k s P := by
  have g1 := gd_1 hk hg
  have n1 := (nd_at ho hk).1
  rcases (by omega : xS P k < 5 ∨ (xS P k = 7 ∨ xS P k = 8) ∨ xS P k = 9 ∨ (10 ≤ xS P k ∧ xS P k < 17) ∨ xS P k = 17 ∨ xS P k = 18 ∨ xS P k = 20) with c | c | c | c | c | c | c
  · exact p497_0 hN ho hB hg hk hs c
  · exact p497_7 hN ho hB hg hk hs c
  · exact p497_9 hN ho hB hg hk hs c
  · exact p497_10 hN ho hB hg hk hs c
  · exact p497_17 hN ho hB hg hk hs c
  · exact p497_18 hN ho hB hg hk hs c
  · exact p497_20 hN ho hB hg hk hs c
