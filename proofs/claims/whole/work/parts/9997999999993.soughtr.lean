/-! ===== search in the reference ===== -/
theorem hd_533_57 {N : Nat} {rec_50 : Value → Int32 → Int32 → am_H → Option am_O} {K : Nat} {x0 : Value} {x1 : Int32} {x2 : Int32} {x3 : Int64} {h : am_H} {r_ : Option am_O} (k_ : (if am_pOk 12 x0 h then am_cL true (fm_383 x0 2 0 x2 h) (fun v2 h3 => (if 0 ≤ (lg_cmp x3 v2) then (rec_50 x0 x1 ((x2 + 1)) h3) else ((am_pP 3085 x0 (.int 0) h3).bind fun h6 => ((am_pP 3086 x0 (.int 0) h6).bind fun h8 => (if am_pOk 12 x0 h8 then am_cV true (fm_386 N x0 2 0 x2 x3 h8) (fun h12 => (if am_pOk 12 x0 h12 then am_cI true (fm_534 N x0 h12) (fun v15 h16 => (if v15 = 0 then (fg_533_57 N rec_50 K x0 x1 x2 ((x3 + 1)) h16) else (if am_pOk 12 x0 h16 then am_cI true (fm_356 N x0 1 ((-1)) ((-1)) ((-1)) ((-1)) 0 h16) (fun v20 h21 => some (.inl (some (.int v20), h21))) else none))) else none)) else none))))) else none) = r_) : fg_533_57 N rec_50 (K + 1) x0 x1 x2 x3 h = r_ := by rw [fg_533_57]; exact k_
theorem hd_533_50 {N : Nat} {K : Nat} {x0 : Value} {x1 : Int32} {x2 : Int32} {h : am_H} {r_ : Option am_O} (k_ : (if x1 < x2 then some (.inl (some (.int (-1)), h)) else (fg_533_57 N (fg_533_50 N K) N x0 x1 x2 0 h)) = r_) : fg_533_50 N (K + 1) x0 x1 x2 h = r_ := by rw [fg_533_50]; exact k_
theorem hd_533_32 {N : Nat} {x0 : Value} {x1 : Int32} {s0 : Value} {s1 : Int32} {h : am_H} {r_ : Option am_O} (k_ : ((am_pP 3072 s0 (.int s1) h).bind fun h1 => ((am_vI (am_pG 3072 x0 h1)).bind fun v3 => (if v3 ≤ 0 then (if am_pOk 12 x0 h1 then am_cV true (fm_377 N x0 h1) (fun h8 => (fg_533_50 N N x0 x1 1 h8)) else none) else some (.inl (some (.int 0), h1))))) = r_) : fg_533_32 N x0 x1 s0 s1 h = r_ := k_
theorem hd_533_0 {N : Nat} {x0 : Value} {x1 : Int32} {h : am_H} {r_ : Option am_O} (k_ : am_cI false (fm_327 ((Int32.toInt64 x1)) 1 5 h) (fun v1 h2 => (if ¬ v1 = 0 then ((am_vI (am_pG 3073 x0 h2)).bind fun v5 => (if ¬ v5 = 600 then (fg_533_32 N x0 x1 x0 0 h2) else (fg_533_32 N x0 x1 x0 2 h2))) else (fg_533_32 N x0 x1 x0 1 h2))) = r_) : fg_533_0 N x0 x1 h = r_ := k_
theorem hm_533 {N : Nat} {y0 : Value} {y1 : Int32} {h : am_H} {r_ : Option am_O} (k_ : fg_533_0 N y0 y1 h = r_) : fm_533 N y0 y1 h = r_ := k_
theorem hd_534_47 {N : Nat} {x1 : Int32} {h : am_H} {r_ : Option am_O} (k_ : (if am_rfit (some FieldType.boolean) x1 then some (.inl (some (.int x1), h)) else none) = r_) : fg_534_47 N x1 h = r_ := k_
theorem hd_534_40 {N : Nat} {rec_4 : Value → Int32 → Int32 → am_H → Option am_O} {x0 : Value} {x2 : Int32} {s0 : Int32} {h : am_H} {r_ : Option am_O} (k_ : (rec_4 x0 s0 ((x2 + 1)) h) = r_) : fg_534_40 N rec_4 x0 x2 s0 h = r_ := k_
theorem hd_534_35 {N : Nat} {rec_4 : Value → Int32 → Int32 → am_H → Option am_O} {x0 : Value} {x2 : Int32} {h : am_H} {r_ : Option am_O} (k_ : (fg_534_40 N rec_4 x0 x2 1 h) = r_) : fg_534_35 N rec_4 x0 x2 h = r_ := k_
theorem hd_534_4 {N : Nat} {K : Nat} {x0 : Value} {x1 : Int32} {x2 : Int32} {h : am_H} {r_ : Option am_O} (k_ : ((am_vI (am_pG 3103 x0 h)).bind fun v1 => (if v1 ≤ x2 then (fg_534_47 N x1 h) else (if x1 = 0 then (fg_534_47 N x1 h) else ((am_vR (am_pG 3109 x0 h)).bind fun v5 => ((am_pA 2 v5 x2 h).bind fun v7 => (if ¬ v7 = 0 then (fg_534_35 N (fg_534_4 N K) x0 x2 h) else (if am_pOk 12 x0 h then am_cL true (fm_425 N x0 x2 h) (fun v11 h12 => (if ¬ (lg_cmp v11 0) = 0 then (fg_534_40 N (fg_534_4 N K) x0 x2 0 h12) else (fg_534_35 N (fg_534_4 N K) x0 x2 h12))) else none))))))) = r_) : fg_534_4 N (K + 1) x0 x1 x2 h = r_ := by rw [fg_534_4]; exact k_
theorem hd_534_0 {N : Nat} {x0 : Value} {h : am_H} {r_ : Option am_O} (k_ : (fg_534_4 N N x0 1 0 h) = r_) : fg_534_0 N x0 h = r_ := k_
theorem hm_534 {N : Nat} {y0 : Value} {h : am_H} {r_ : Option am_O} (k_ : fg_534_0 N y0 h = r_) : fm_534 N y0 h = r_ := k_

theorem un4_gd {n p : Nat} (n1 : 1 ≤ n) (n5 : n ≤ 5) (hp : p < uT 4 n) : okP (unX 4 n p) ∧ (unX 4 n p).length = n ∧ gdP 0 0 (tI (unX 4 n p)) := by
  have esl : sl (unX 4 n p) = (un 4 n p).map (fun x => (x.1, 0)) := by
    unfold sl unX
    rw [List.map_map]
    rfl
  have o := okF_map _ _ (un4_0 n1 n5 hp)
  rw [← esl] at o
  have ln : (unX 4 n p).length = n := by unfold unX; rw [List.length_map]; exact (un4_F n1 n5 hp).2.1
  have hx : ∀ x, x ∈ unX 4 n p → x.1 ≤ 20 ∧ (x.1 = 0 → two x.2) ∧ (x.1 ≠ 0 → x.2 = 0) := fun x hx => by
    obtain ⟨q, q1, rfl⟩ := List.mem_map.mp hx
    obtain ⟨z1, z2, z3⟩ := un4_s n p n1 n5 hp q q1
    have := smpS_20 z1
    refine ⟨by show q.1 ≤ 20; omega, fun e => .inl ⟨q.2, by have := z2 e; omega, rfl⟩, fun e => ?_⟩
    show nI q.2 = 0
    rw [z3 e]
    rfl
  have ho : okP (unX 4 n p) := ⟨o, fun x h => (hx x h).2⟩
  have eu : uTx (tI (unX 4 n p)) = unX 4 n p := uTx_tI (fun x h => (hx x h).1)
  exact ⟨ho, ln, by omega, by rw [tI_len, ln]; omega, fun _ => ⟨rfl, by rw [eu]; exact ho, by rw [eu]⟩, fun e => absurd e (by decide), fun e => absurd e (by decide), fun e => absurd e (by decide)⟩
theorem un4_at {n p k : Nat} {q : Nat × Nat} (h : (un 4 n p)[k]? = some q) : srt (tI (unX 4 n p)) k = nI q.1 ∧ vlu (tI (unX 4 n p)) k = nI q.2 := by
  have e : (tI (unX 4 n p))[k]? = some (nI q.1, nI q.2) := by
    unfold tI unX
    rw [List.getElem?_map, List.getElem?_map, h]
    rfl
  exact lay2_x _ k _ e
theorem lsT_uz {n p : Nat} (n1 : 1 ≤ n) (n5 : n ≤ 5) (hp : p < uT 4 n) : lsT n (srt (tI (unX 4 n p))) = uz n p := by
  have l := (un4_F n1 n5 hp).2.1
  apply List.ext_getElem?
  intro k
  unfold lsT uz
  rw [List.getElem?_map, List.getElem?_map]
  by_cases c : k < n
  · have h : (un 4 n p)[k]? = some ((un 4 n p)[k]'(by omega)) := List.getElem?_eq_getElem _
    have hm := un4_s n p n1 n5 hp _ (List.mem_of_getElem? h)
    have := smpS_20 hm.1
    rw [List.getElem?_range c, h]
    show some ((srt (tI (unX 4 n p)) k).toNatClampNeg, 0) = some (((un 4 n p)[k]'(by omega)).1, 0)
    rw [(un4_at h).1, nI_clamp (by omega)]
  · rw [List.getElem?_eq_none (by rw [List.length_range]; omega), List.getElem?_eq_none (by omega)]
    rfl
theorem gN_z0 {a b : Int32} : gN a b = 0 ↔ a = b := by
  unfold gN
  constructor
  · intro h
    have : a.toInt = b.toInt := by omega
    exact Int32.toInt_inj.mp this
  · intro h
    rw [h]
    omega
/-- a tree's fault at a case -/
theorem er4 {I : Nat → Nat → Int32} {n p j lm : Nat} (n1 : 1 ≤ n) (n5 : n ≤ 5) (hp : p < uT 4 n) (hc : cOk I j) (hlo : 10 ≤ lm) : ∃ o, cO 0 0 n (srt (tI (unX 4 n p))) (vlu (tI (unX 4 n p))) lm I j o ∧ (erN o (I 200 j) = 0 ↔ vC I j n p = some (I 200 j)) := by
  obtain ⟨-, -, -, -, -, -, ⟨l, l1, l2, -⟩, -⟩ := hc
  obtain ⟨E, eE⟩ : ∃ E, E = eT (I 197 j) (I 198 j) (I 199 j) l (fun i => I 204 (8 * j + i)) lm (uz n p) (vlu (tI (unX 4 n p))) := ⟨_, rfl⟩
  have hl : clN (I 203) j = l := clN_at l2 (by omega)
  refine ⟨cut E.1 E.2.1 E.2.2.1, ⟨l, l1, l2, fun _ => by rw [eE, lsT_uz n1 n5 hp], fun e => absurd e (by decide), fun e => absurd e (by decide), fun e => absurd e (by decide)⟩, ?_⟩
  obtain ⟨i1, i2⟩ := ev4 (x := I 197 j) (y := I 198 j) (z := I 199 j) (len := l) (row := fun i => I 204 (8 * j + i)) (lm := lm) (l0 := uz n p) (v := vlu (tI (unX 4 n p))) n p n1 n5 hp 0 12 0 0 0 [] (by rw [List.drop_zero, List.append_nil]) (fun k q hq => by rw [Nat.zero_add]; exact (un4_at hq).2) (by omega) (by omega)
  unfold vC
  rw [hl]
  unfold eT at eE
  unfold erN cut
  dsimp only
  cases c : vQ (I 197 j) (I 198 j) (I 199 j) l (fun i => I 204 (8 * j + i)) n p with
  | none =>
    have h := i2 c
    rw [← eE] at h
    rw [if_neg h]
    exact ⟨fun q => absurd q (by decide), fun q => by cases q⟩
  | some w =>
    have h := i1 w c
    rw [← eE] at h
    rw [h]
    dsimp only
    rw [if_pos rfl, if_pos rfl, gN_z0]
    exact ⟨fun q => by rw [q], fun q => Option.some.inj q⟩
/-- what search leaves of the reference -/
def frSj (V W : Nat → Nat → Value) (I J : Nat → Nat → Int32) (L M : Nat → Nat → Int64) : Prop := (∀ a j, ¬ (a = 174 ∧ ((13 ≤ j ∧ j ≤ 15) ∨ (48 ≤ j ∧ j ≤ 54) ∨ j = 58 ∨ j = 59 ∨ j = 65 ∨ j = 66 ∨ j = 88)) → W a j = V a j) ∧ (∀ y, ¬ ((186 ≤ y ∧ y ≤ 187) ∨ y = 194 ∨ (212 ≤ y ∧ y ≤ 217) ∨ (227 ≤ y ∧ y ≤ 229)) → J y = I y) ∧ (∀ y, y ≠ 230 → M y = L y) ∧ (wt V → wt W)
theorem frSj_t {U V W : Nat → Nat → Value} {G I J : Nat → Nat → Int32} {K L M : Nat → Nat → Int64} (f : frSj U V G I K L) (g : frSj V W I J L M) : frSj U W G J K M := ⟨fun a j h => (g.1 a j h).trans (f.1 a j h), fun y h => (g.2.1 y h).trans (f.2.1 y h), fun y h => (g.2.2.1 y h).trans (f.2.2.1 y h), fun h => g.2.2.2 (f.2.2.2 h)⟩
theorem frSj_r {V : Nat → Nat → Value} {I : Nat → Nat → Int32} {L : Nat → Nat → Int64} : frSj V V I I L L := ⟨fun _ _ _ => rfl, fun _ _ => rfl, fun _ _ => rfl, id⟩
theorem scR_m {j : Nat} (h : ¬ ((13 ≤ j ∧ j ≤ 15) ∨ (48 ≤ j ∧ j ≤ 54) ∨ j = 58 ∨ j = 59 ∨ j = 65 ∨ j = 66 ∨ j = 88)) : ¬ j ∈ scR := fun u => by
  have key : ∀ j, j ∈ scR → ((13 ≤ j ∧ j ≤ 15) ∨ (48 ≤ j ∧ j ≤ 54) ∨ j = 58 ∨ j = 59 ∨ j = 65 ∨ j = 66 ∨ j = 88) := by decide
  exact h (key j u)
theorem siR_m {y : Nat} (h : ¬ ((186 ≤ y ∧ y ≤ 187) ∨ y = 194 ∨ (212 ≤ y ∧ y ≤ 217) ∨ (227 ≤ y ∧ y ≤ 229))) : ¬ y ∈ siR := fun u => by
  have key : ∀ y, y ∈ siR → ((186 ≤ y ∧ y ≤ 187) ∨ y = 194 ∨ (212 ≤ y ∧ y ≤ 217) ∨ (227 ≤ y ∧ y ≤ 229)) := by decide
  exact h (key y u)
theorem frSj_Q {V W : Nat → Nat → Value} {I J : Nat → Nat → Int32} {L : Nat → Nat → Int64} (f : frQ V W I J) : frSj V W I J L L := ⟨fun a j h => f.1 a j (fun e => scR_m (fun q => h ⟨e, q⟩)), fun y h => f.2.1 y (siR_m h), fun _ _ => rfl, f.2.2⟩
theorem frSj_13 {V : Nat → Nat → Value} {I : Nat → Nat → Int32} {L : Nat → Nat → Int64} {j : Nat} {x : Int32} (h : j = 13 ∨ j = 14) : frSj V (vup V 174 j (.int x)) I I L L := ⟨fun a k q => vup_o (by omega), fun _ _ => rfl, fun _ _ => rfl, fun w => wt_i w (by rcases h with rfl | rfl <;> decide)⟩
set_option maxRecDepth 100000 in
set_option maxHeartbeats 4000000 in
theorem r_grow4 {V : Nat → Nat → Value} {I : Nat → Nat → Int32} {L : Nat → Nat → Int64} {R : Nat → Nat → Option Nat} {tl : am_H} {N n r : Nat} (hN : 40 < N) (m4 : L 224 = tC) (m5 : L 225 = tS) (h80 : V 174 80 = .int 1) (h14 : V 174 14 = .int (nI 0)) (hw : wt V) (n1 : 1 ≤ n) (n5 : n ≤ 5) (hr : r < uT 4 n) : ∃ W J M, fm_386 N (.ref 174) 2 0 (nI n) (lN r) (fx V I L R ++ tl) = some (.inl (none, fx W J M R ++ tl)) ∧ dkL W J (tI (unX 4 n r)) ∧ frSj V W I J L M ∧ W 174 13 = V 174 13 := by
  obtain ⟨x88, hx88⟩ := hw.1 174 88 (by decide)
  obtain ⟨k0, rfl⟩ := nI_all x88
  have hgs := gS_of (V := V) (I := I) (L := L) (R := R) (tl := tl) (s := 0) (k := k0) h14 hx88
  obtain ⟨c', d', e', p', g⟩ := g_386 (V := V) (I := I) (L := L) (R := R) (tl := tl) m4 m5 h80 (N := N) (w := 2) (t := 0) (n := n) (P := r) (s0 := 0) (k0 := k0) (a := I 186) (b := I 187) (c := I 227) (d := I 228) (e := I 229) (p := L 230) (by omega) (by omega) (by omega) n1 (by omega) hr (by omega)
  rw [Nat.zero_add] at g
  obtain ⟨V7, hV7⟩ : ∃ V7, V7 = vup (vup V 174 14 (.int (nI n))) 174 88 (.int (nI 0)) := ⟨_, rfl⟩
  obtain ⟨J7, hJ7⟩ : ∃ J7, J7 = iup (iup (iup (iup (iup I 186 (wA (I 186) 0 (un 4 n r))) 187 (wB (I 187) 0 (un 4 n r))) 227 c') 228 d') 229 e' := ⟨_, rfl⟩
  obtain ⟨M7, hM7⟩ : ∃ M7, M7 = lup L 230 p' := ⟨_, rfl⟩
  have hg7 : gS V I L R tl n 0 (wA (I 186) 0 (un 4 n r)) (wB (I 187) 0 (un 4 n r)) c' d' e' p' = fx V7 J7 M7 R ++ tl := by
    rw [hV7, hJ7, hM7]
    rfl
  have g' : fm_386 N (.ref 174) 2 0 (nI n) (lN r) (fx V I L R ++ tl) = some (.inl (none, fx V7 J7 M7 R ++ tl)) := by
    rw [← hg7, hgs]
    exact g
  have v7 : ∀ a j, ¬ (a = 174 ∧ (j = 14 ∨ j = 88)) → V7 a j = V a j := fun a j h => by rw [hV7, vup_o (fun q => h ⟨q.1, by omega⟩), vup_o (fun q => h ⟨q.1, by omega⟩)]
  refine ⟨V7, J7, M7, g', ⟨?_, ?_⟩, ⟨fun a j h => v7 a j (by omega), fun y h => by rw [hJ7, iup_na (by omega), iup_na (by omega), iup_na (by omega), iup_na (by omega), iup_na (by omega)], fun y h => by rw [hM7, lup_na h], fun w => by rw [hV7]; exact wt_i (wt_i w (by decide)) (by decide)⟩, v7 174 13 (by omega)⟩
  · rw [tI_len, (un4_gd n1 n5 hr).2.1, hV7]
    exact (vup_nj (by decide)).trans vup_eq
  · have l := lay_un (s := I 186) (v := I 187) (Q := []) (c := 4) (n := n) (r := r) (fun k x h => absurd h (by simp))
    rw [hJ7]
    exact l
/-- right from case k on -/
def rJ (I : Nat → Nat → Int32) (n p : Nat) : Nat → Nat → Bool
  | 0, _ => true
  | t + 1, k => (decide (¬ I 202 k = 0) || decide (vC I k n p = some (I 200 k))) && rJ I n p t (k + 1)
theorem rJ_all {I : Nat → Nat → Int32} {n p : Nat} : ∀ (t k : Nat), rJ I n p t k = true ↔ ∀ j, k ≤ j → j < k + t → I 202 j = 0 → vC I j n p = some (I 200 j) := by
  intro t
  induction t with
  | zero => intro k; exact ⟨fun _ j h1 h2 => absurd h2 (by omega), fun _ => rfl⟩
  | succ t ih =>
    intro k
    show ((decide (¬ I 202 k = 0) || decide (vC I k n p = some (I 200 k))) && rJ I n p t (k + 1)) = true ↔ _
    rw [Bool.and_eq_true, Bool.or_eq_true, decide_eq_true_iff, decide_eq_true_iff, ih]
    constructor
    · intro h j h1 h2 h3
      by_cases c : j = k
      · rw [c] at h3 ⊢
        exact h.1.resolve_left (fun q => q h3)
      · exact h.2 j (by omega) (by omega) h3
    · intro h
      refine ⟨?_, fun j h1 h2 => h j (by omega) (by omega)⟩
      by_cases c : I 202 k = 0
      · exact .inr (h k (Nat.le_refl k) (by omega) c)
      · exact .inl c
theorem rJ_A {I : Nat → Nat → Int32} {m0 n p : Nat} : rJ I n p m0 0 = true ↔ rtA I m0 n p := by
  rw [rJ_all]
  exact ⟨fun h j hj => h j (Nat.zero_le j) (by omega), fun h j _ hj => h j (by omega)⟩
/-- the desk holds the tree -/
def dskS (I0 : Nat → Nat → Int32) (m0 lm n p : Nat) (V : Nat → Nat → Value) (I : Nat → Nat → Int32) : Prop := wt V ∧ V 174 13 = .int 0 ∧ dkL V I (tI (unX 4 n p)) ∧ I 206 0 = nI lm ∧ V 174 31 = .int (nI m0) ∧ ∀ y, 197 ≤ y → y ≤ 204 → I y = I0 y
set_option maxRecDepth 100000 in
set_option maxHeartbeats 4000000 in
theorem r_534l {L : Nat → Nat → Int64} {R : Nat → Nat → Option Nat} {tl : am_H} {I0 : Nat → Nat → Int32} {N m0 lm n p : Nat} (hN : 5000 < N) (n1 : 1 ≤ n) (n5 : n ≤ 5) (hp : p < uT 4 n) (h24 : m0 ≤ 24) (hlo : 10 ≤ lm) (hhi : lm ≤ 2000) (hc : ∀ k, k < m0 → cOk I0 k) : ∀ (t k K : Nat) (V : Nat → Nat → Value) (I : Nat → Nat → Int32) (al : Bool), k + t = m0 → t < K → dskS I0 m0 lm n p V I → ∃ W J, fg_534_4 N K (.ref 174) (bI al) (nI k) (fx V I L R ++ tl) = some (.inl (some (.int (bI (al && rJ I0 n p t k))), fx W J L R ++ tl)) ∧ frSj V W I J L L ∧ W 174 13 = V 174 13 ∧ dkL W J (tI (unX 4 n p)) := by
  obtain ⟨-, lnn, gT⟩ := un4_gd n1 n5 hp
  have ln : (tI (unX 4 n p)).length = n := by rw [tI_len, lnn]
  intro t
  induction t with
  | zero =>
    intro k K V I al hk hK hd
    obtain ⟨K, rfl⟩ : ∃ k, K = k + 1 := ⟨K - 1, by omega⟩
    refine ⟨V, I, ?_, frSj_r, rfl, hd.2.2.1⟩
    apply hd_534_4
    rw [show rJ I0 n p 0 k = true from rfl, Bool.and_true]
    exact ev_b (rdI hd.2.2.2.2.1) (ev_t (nI_le (by omega) (by omega)) (hd_534_47 (ev_i (bI_fit al) rfl)))
  | succ t ih =>
    intro k K V I al hk hK hd
    obtain ⟨K, rfl⟩ : ∃ k, K = k + 1 := ⟨K - 1, by omega⟩
    obtain ⟨d1, d2, d3, d4, d5, d6⟩ := hd
    have hkm : k < m0 := by omega
    cases al with
    | false =>
      refine ⟨V, I, ?_, frSj_r, rfl, d3⟩
      apply hd_534_4
      exact ev_b (rdI d5) (ev_f (nI_ge hkm (by omega)) (ev_t rfl (hd_534_47 (ev_i rfl rfl))))
    | true =>
      rw [Bool.true_and]
      have g2 : am_pA 2 (.ref 202) (nI k) (fx V I L R ++ tl) = some (I0 202 k) := (qa_202 (by omega)).trans (by rw [d6 202 (by omega) (by omega)])
      by_cases c : I0 202 k = 0
      · obtain ⟨o, ho, hz⟩ := er4 (I := I0) (n := n) (p := p) (lm := lm) n1 n5 hp (hc k hkm) hlo
        have hoI : cO 0 0 n (srt (tI (unX 4 n p))) (vlu (tI (unX 4 n p))) lm I k o := by
          unfold cO at ho ⊢
          rw [d6 203 (by omega) (by omega), d6 197 (by omega) (by omega), d6 198 (by omega) (by omega), d6 199 (by omega) (by omega), d6 204 (by omega) (by omega)]
          exact ho
        have hld : ldR V I 0 0 n (srt (tI (unX 4 n p))) (vlu (tI (unX 4 n p))) lm := by
          refine ⟨d2, by rw [d3.1, ln], fun e => absurd e (by decide), fun j hj => ?_, ?_, d4, hlo, hhi⟩
          · have hj' : j < (tI (unX 4 n p)).length := by omega
            have h1 := d3.2 j _ (List.getElem?_eq_getElem hj')
            have h2 := lay2_x (tI (unX 4 n p)) j _ (List.getElem?_eq_getElem hj')
            exact ⟨h1.1.trans h2.1.symm, h1.2.trans h2.2.symm⟩
          · have := gd_snd gT (lay2_x (tI (unX 4 n p)))
            rw [ln] at this
            exact this
        obtain ⟨W1, J1, e1, f1⟩ := r_425 (V := V) (I := I) (L := L) (R := R) (tl := tl) (N := N) (k := k) hN d1 hld (by omega) hoI
        rw [d6 200 (by omega) (by omega)] at e1
        have fJ := frSj_Q (L := L) f1
        have hd1 : dskS I0 m0 lm n p W1 J1 := by
          refine ⟨f1.2.2 d1, (f1.1 174 13 (fun _ => by decide)).trans d2, ⟨(f1.1 174 14 (fun _ => by decide)).trans d3.1, ?_⟩, ?_, (f1.1 174 31 (fun _ => by decide)).trans d5, fun y h1 h2 => ?_⟩
          · rw [f1.2.1 186 (by decide), f1.2.1 187 (by decide)]
            exact d3.2
          · rw [f1.2.1 206 (by decide)]
            exact d4
          · rw [f1.2.1 y (siR_m (by omega))]
            exact d6 y h1 h2
        have eb := erN_le o (I0 200 k)
        obtain ⟨b, eb'⟩ : ∃ b : Bool, b = decide (vC I0 k n p = some (I0 200 k)) := ⟨_, rfl⟩
        obtain ⟨W, J, e2, f2, w13, dk2⟩ := ih (k + 1) K W1 J1 b (by omega) (by omega) hd1
        have er : rJ I0 n p (t + 1) k = (b && rJ I0 n p t (k + 1)) := by
          show ((decide (¬ I0 202 k = 0) || decide (vC I0 k n p = some (I0 200 k))) && rJ I0 n p t (k + 1)) = _
          rw [decide_eq_false (fun q => q c), Bool.false_or, eb']
        refine ⟨W, J, ?_, frSj_t fJ f2, w13.trans (f1.1 174 13 (fun _ => by decide)), dk2⟩
        rw [er, ← e2]
        apply hd_534_4
        refine ev_b (rdI d5) (ev_f (nI_ge hkm (by omega)) (ev_f (by decide) (ev_b (rdR rfl) (ev_b g2 (ev_f (fun q => q c) (ev_i rfl (ev_cL e1 ?_)))))))
        by_cases z : erN o (I0 200 k) = 0
        · rw [show b = true by rw [eb']; exact decide_eq_true (hz.mp z)]
          refine ev_f (fun q => q ((lN_cz (by omega)).mpr z)) (hd_534_35 (hd_534_40 ?_))
          rw [nI_1]
          rfl
        · rw [show b = false by rw [eb']; exact decide_eq_false (fun q => z (hz.mpr q))]
          refine ev_t (fun q => z ((lN_cz (by omega)).mp q)) (hd_534_40 ?_)
          rw [nI_1]
          rfl
      · obtain ⟨W, J, e2, f2, w13, dk2⟩ := ih (k + 1) K V I true (by omega) (by omega) ⟨d1, d2, d3, d4, d5, d6⟩
        have er : rJ I0 n p (t + 1) k = (true && rJ I0 n p t (k + 1)) := by
          show ((decide (¬ I0 202 k = 0) || decide (vC I0 k n p = some (I0 200 k))) && rJ I0 n p t (k + 1)) = _
          rw [decide_eq_true c, Bool.true_or]
        refine ⟨W, J, ?_, f2, w13, dk2⟩
        rw [er, ← e2]
        apply hd_534_4
        refine ev_b (rdI d5) (ev_f (nI_ge hkm (by omega)) (ev_f (by decide) (ev_b (rdR rfl) (ev_b g2 (ev_t c (hd_534_35 (hd_534_40 ?_)))))))
        rw [nI_1]
        rfl
/-- the reference between two trees -/
def rfS (I0 : Nat → Nat → Int32) (m0 lm : Nat) (V : Nat → Nat → Value) (I : Nat → Nat → Int32) (L : Nat → Nat → Int64) : Prop := wt V ∧ V 174 80 = .int 1 ∧ L 224 = tC ∧ L 225 = tS ∧ I 206 0 = nI lm ∧ V 174 31 = .int (nI m0) ∧ ∀ y, 197 ≤ y → y ≤ 204 → I y = I0 y
theorem rfS_J {I0 : Nat → Nat → Int32} {m0 lm : Nat} {V W : Nat → Nat → Value} {I J : Nat → Nat → Int32} {L M : Nat → Nat → Int64} (h : rfS I0 m0 lm V I L) (f : frSj V W I J L M) : rfS I0 m0 lm W J M := by
  obtain ⟨h1, h2, h3, h4, h5, h6, h7⟩ := h
  exact ⟨f.2.2.2 h1, (f.1 174 80 (by omega)).trans h2, (f.2.2.1 224 (by decide)).trans h3, (f.2.2.1 225 (by decide)).trans h4, by rw [f.2.1 206 (by omega)]; exact h5, (f.1 174 31 (by omega)).trans h6, fun y a b => (f.2.1 y (by omega)).trans (h7 y a b)⟩
def bR (N : Nat) (h : am_H) : Option am_O := am_cI true (fm_356 N (.ref 174) 1 ((-1)) ((-1)) ((-1)) ((-1)) 0 h) (fun v20 h21 => some (.inl (some (.int v20), h21)))
set_option maxRecDepth 100000 in
set_option maxHeartbeats 4000000 in
theorem r_533p {R : Nat → Nat → Option Nat} {tl : am_H} {I0 : Nat → Nat → Int32} {N m0 lm n : Nat} {x1 : Int32} {rc : Value → Int32 → Int32 → am_H → Option am_O} (hN : 200000 < N) (n1 : 1 ≤ n) (n5 : n ≤ 5) (h24 : m0 ≤ 24) (hlo : 10 ≤ lm) (hhi : lm ≤ 2000) (hc : ∀ k, k < m0 → cOk I0 k) : ∀ (t q K : Nat) (V : Nat → Nat → Value) (I : Nat → Nat → Int32) (L : Nat → Nat → Int64), q + t = uT 4 n → t < K → rfS I0 m0 lm V I L → (∃ W J M q1, q ≤ q1 ∧ q1 < uT 4 n ∧ rtA I0 m0 n q1 ∧ (∀ r, q ≤ r → r < q1 → ¬ rtA I0 m0 n r) ∧ fg_533_57 N rc K (.ref 174) x1 (nI n) (lN q) (fx V I L R ++ tl) = bR N (fx W J M R ++ tl) ∧ dkL W J (tI (unX 4 n q1)) ∧ W 174 13 = .int 0 ∧ frSj V W I J L M) ∨ (∃ W J M, fg_533_57 N rc K (.ref 174) x1 (nI n) (lN q) (fx V I L R ++ tl) = rc (.ref 174) x1 (nI (n + 1)) (fx W J M R ++ tl) ∧ (∀ r, q ≤ r → r < uT 4 n → ¬ rtA I0 m0 n r) ∧ frSj V W I J L M) := by
  have ub := uT4_b n (by omega)
  have e83 : ∀ (V : Nat → Nat → Value) (I : Nat → Nat → Int32) (L : Nat → Nat → Int64), L 224 = tC → fm_383 (.ref 174) 2 0 (nI n) (fx V I L R ++ tl) = some (.inl (some (.long (lN (uT 4 n))), fx V I L R ++ tl)) := fun V I L h => x_383 (w := 2) (t := 0) h (by omega) (by omega) (by omega)
  intro t
  induction t with
  | zero =>
    intro q K V I L hq hK hS
    obtain ⟨K, rfl⟩ : ∃ k, K = k + 1 := ⟨K - 1, by omega⟩
    refine .inr ⟨V, I, L, ?_, fun r h1 h2 => absurd h2 (by omega), frSj_r⟩
    apply hd_533_57
    refine ev_i rfl (ev_cL (e83 V I L hS.2.2.1) (ev_t ((cmpL2 (by omega) (by omega)).2.mpr (by omega)) ?_))
    rw [nI_1]
  | succ t ih =>
    intro q K V I L hq hK hS
    obtain ⟨K, rfl⟩ : ∃ k, K = k + 1 := ⟨K - 1, by omega⟩
    have hS0 := hS
    obtain ⟨h1, h2, h3, h4, h5, h6, h7⟩ := hS
    obtain ⟨V1, eV1⟩ : ∃ X, X = vup (vup V 174 13 (.int 0)) 174 14 (.int 0) := ⟨_, rfl⟩
    have f1 : frSj V V1 I I L L := by rw [eV1]; exact frSj_t (frSj_13 (.inl rfl)) (frSj_13 (.inr rfl))
    have hS1 := rfS_J hS0 f1
    obtain ⟨W2, J2, M2, e2, d2, f2, w13⟩ := r_grow4 (V := V1) (I := I) (L := L) (R := R) (tl := tl) (N := N) (n := n) (r := q) (by omega) h3 h4 hS1.2.1 (by rw [eV1]; exact vup_eq) hS1.1 n1 n5 (by omega)
    have hS2 := rfS_J hS1 f2
    have v13 : V1 174 13 = .int 0 := by rw [eV1, vup_o (by decide)]; exact vup_eq
    obtain ⟨W3, J3, e3, f3, w13', d3⟩ := r_534l (L := M2) (R := R) (tl := tl) (I0 := I0) (N := N) (m0 := m0) (lm := lm) (n := n) (p := q) (by omega) n1 n5 (by omega) h24 hlo hhi hc m0 0 N W2 J2 true (by omega) (by omega) ⟨hS2.1, w13.trans v13, d2, hS2.2.2.2.2.1, hS2.2.2.2.2.2.1, hS2.2.2.2.2.2.2⟩
    rw [Bool.true_and] at e3
    have hS3 := rfS_J hS2 f3
    have f123 := frSj_t f1 (frSj_t f2 f3)
    have pre : fg_533_57 N rc (K + 1) (.ref 174) x1 (nI n) (lN q) (fx V I L R ++ tl) = if bI (rJ I0 n q m0 0) = 0 then fg_533_57 N rc K (.ref 174) x1 (nI n) (lN (q + 1)) (fx W3 J3 M2 R ++ tl) else bR N (fx W3 J3 M2 R ++ tl) := by
      apply hd_533_57
      refine ev_i rfl (ev_cL (e83 V I L h3) (ev_f (fun u => by have := (cmpL2 (by omega) (by omega)).2.mp u; omega) (ev_b qp_174_13 (ev_b (a := fx V1 I L R ++ tl) (by rw [eV1]; exact qp_174_14) (ev_i rfl (ev_cV e2 (ev_i rfl (ev_cI (show fm_534 N (.ref 174) (fx W2 J2 M2 R ++ tl) = _ from hm_534 (hd_534_0 e3)) ?_))))))))
      rw [show lN q + 1 = lN (q + 1) from lN_add q 1]
      by_cases c : bI (rJ I0 n q m0 0) = 0
      · rw [if_pos c, if_pos c]
      · rw [if_neg c, if_neg c]
        exact ev_i rfl rfl
    rw [pre]
    cases hr : rJ I0 n q m0 0 with
    | true =>
      rw [if_neg (by decide)]
      exact .inl ⟨W3, J3, M2, q, Nat.le_refl q, by omega, rJ_A.mp hr, fun r a b => absurd b (by omega), rfl, d3, w13'.trans (w13.trans v13), f123⟩
    | false =>
      have nq : ¬ rtA I0 m0 n q := fun h => by
        rw [rJ_A.mpr h] at hr
        cases hr
      rw [if_pos (by decide)]
      rcases ih (q + 1) K W3 J3 M2 (by omega) (by omega) hS3 with ⟨W, J, M, q1, a1, a2, a3, a4, a5, a6, a7, a8⟩ | ⟨W, J, M, a1, a2, a3⟩
      · refine .inl ⟨W, J, M, q1, by omega, a2, a3, fun r b1 b2 => ?_, a5, a6, a7, frSj_t f123 a8⟩
        by_cases c : r = q
        · rw [c]; exact nq
        · exact a4 r (by omega) b2
      · refine .inr ⟨W, J, M, a1, fun r b1 b2 => ?_, frSj_t f123 a3⟩
        by_cases c : r = q
        · rw [c]; exact nq
        · exact a2 r (by omega) b2
set_option maxRecDepth 100000 in
set_option maxHeartbeats 4000000 in
theorem r_533s {R : Nat → Nat → Option Nat} {tl : am_H} {I0 : Nat → Nat → Int32} {N m0 lm most : Nat} (hN : 200000 < N) (m5 : most ≤ 5) (h24 : m0 ≤ 24) (hlo : 10 ≤ lm) (hhi : lm ≤ 2000) (hc : ∀ k, k < m0 → cOk I0 k) : ∀ (t n K : Nat) (V : Nat → Nat → Value) (I : Nat → Nat → Int32) (L : Nat → Nat → Int64), n + t = most + 1 → 1 ≤ n → t < K → rfS I0 m0 lm V I L → (∀ n', 1 ≤ n' → n' < n → ∀ q, q < uT 4 n' → ¬ rtA I0 m0 n' q) → (∃ W J M sz p, fstT I0 m0 most sz p ∧ fg_533_50 N K (.ref 174) (nI most) (nI n) (fx V I L R ++ tl) = bR N (fx W J M R ++ tl) ∧ dkL W J (tI (unX 4 sz p)) ∧ W 174 13 = .int 0 ∧ frSj V W I J L M) ∨ (∃ W J M, nonT I0 m0 most ∧ fg_533_50 N K (.ref 174) (nI most) (nI n) (fx V I L R ++ tl) = some (.inl (some (.int (-1)), fx W J M R ++ tl)) ∧ frSj V W I J L M) := by
  intro t
  induction t with
  | zero =>
    intro n K V I L hn n1 hK hS hs
    obtain ⟨K, rfl⟩ : ∃ k, K = k + 1 := ⟨K - 1, by omega⟩
    refine .inr ⟨V, I, L, fun n' a b => hs n' a (by omega), ?_, frSj_r⟩
    apply hd_533_50
    exact ev_t (nI_lt (by omega) (by omega)) rfl
  | succ t ih =>
    intro n K V I L hn n1 hK hS hs
    obtain ⟨K, rfl⟩ : ∃ k, K = k + 1 := ⟨K - 1, by omega⟩
    have ub := uT4_b n (by omega)
    have e0 : fg_533_50 N (K + 1) (.ref 174) (nI most) (nI n) (fx V I L R ++ tl) = fg_533_57 N (fg_533_50 N K) N (.ref 174) (nI most) (nI n) (lN 0) (fx V I L R ++ tl) := by
      apply hd_533_50
      exact ev_f (nI_nlt (by omega) (by omega)) rfl
    rw [e0]
    rcases r_533p (R := R) (tl := tl) (I0 := I0) (N := N) (m0 := m0) (lm := lm) (n := n) (x1 := nI most) (rc := fg_533_50 N K) hN n1 (by omega) h24 hlo hhi hc (uT 4 n) 0 N V I L (by omega) (by omega) hS with ⟨W, J, M, q1, a1, a2, a3, a4, a5, a6, a7, a8⟩ | ⟨W, J, M, a1, a2, a3⟩
    · exact .inl ⟨W, J, M, n, q1, ⟨n1, by omega, a2, a3, fun r hr => a4 r (Nat.zero_le r) hr, hs⟩, a5, a6, a7, a8⟩
    · rw [a1]
      rcases ih (n + 1) K W J M (by omega) (by omega) (by omega) (rfS_J hS a3) (fun n' h1 h2 q hq => by
        by_cases c : n' = n
        · rw [c] at hq ⊢
          exact a2 q (Nat.zero_le q) hq
        · exact hs n' h1 (by omega) q hq) with ⟨W2, J2, M2, sz, p, b1, b2, b3, b4, b5⟩ | ⟨W2, J2, M2, b1, b2, b3⟩
      · exact .inl ⟨W2, J2, M2, sz, p, b1, b2, b3, b4, frSj_t a3 b5⟩
      · exact .inr ⟨W2, J2, M2, b1, b2, frSj_t a3 b3⟩
/-- the first is one -/
theorem fst_u {I : Nat → Nat → Int32} {m0 most sz p sz' p' : Nat} (h : fstT I m0 most sz p) (h' : fstT I m0 most sz' p') : sz = sz' ∧ p = p' := by
  obtain ⟨a1, a2, a3, a4, a5, a6⟩ := h
  obtain ⟨b1, b2, b3, b4, b5, b6⟩ := h'
  have e : sz = sz' := by
    rcases Nat.lt_trichotomy sz sz' with q | q | q
    · exact absurd a4 (b6 sz a1 q p a3)
    · exact q
    · exact absurd b4 (a6 sz' b1 q p' b3)
  subst e
  refine ⟨rfl, ?_⟩
  rcases Nat.lt_trichotomy p p' with q | q | q
  · exact absurd a4 (b5 p q)
  · exact q
  · exact absurd b4 (a5 p' q)
theorem fst_n {I : Nat → Nat → Int32} {m0 most sz p : Nat} (h : fstT I m0 most sz p) (h' : nonT I m0 most) : False := h' sz h.1 h.2.1 p h.2.2.1 h.2.2.2.1
