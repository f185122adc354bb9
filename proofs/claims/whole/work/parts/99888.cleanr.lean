/-! ===== clean(b): the reference, and both ===== -/
theorem xc_e : ∀ x, x < 256 → ∀ i, i < 8 → ∀ j, j < 8 → i < j → (decide (xch x i j = x) = !(decide (bt x j < bt x i))) := by decide +kernel
theorem iup_q {I : Nat → Nat → Int32} {a b : Nat} {f g f' g' : Nat → Int32} (h : a ≠ b) : iup (iup (iup (iup I a f) b g) a f') b g' = iup (iup I a f') b g' := by
  funext y
  by_cases c : y = b
  · rw [c, iup_eq, iup_eq]
  · rw [iup_na c, iup_na c]
    by_cases d : y = a
    · rw [d, iup_eq, iup_eq]
    · rw [iup_na d, iup_na c, iup_na d, iup_na d]
theorem vup_id {V : Nat → Nat → Value} {a j : Nat} {w : Value} (h : V a j = w) : vup V a j w = V := by
  funext b k
  by_cases c : b = a ∧ k = j
  · rw [c.1, c.2, vup_eq, h]
  · rw [vup_o c]
theorem keep_v {V : Nat → Nat → Value} {I : Nat → Nat → Int32} {a j : Nat} {x : Int32} (h : ¬ j ∈ vRel a) (h2 : ¬ j ∈ fL a) : keep V (vup V a j (.int x)) I I := ⟨fun b k hk => vup_o (fun e => h (by rw [← e.1, ← e.2]; exact hk)), fun _ _ => rfl, fun w => wt_i w h2⟩
theorem keep_dk {V : Nat → Nat → Value} {I : Nat → Nat → Int32} {kd ln sz b : Nat} : keep V (dkV V kd ln sz) I (dkI I b sz) := keep_t (keep_v (a := 174) (j := 13) (by decide) (by decide)) (keep_t (keep_v (a := 174) (j := 14) (by decide) (by decide)) (keep_t (keep_v (a := 174) (j := 15) (by decide) (by decide)) (keep_t (keep_i (by decide)) (keep_i (by decide)))))
theorem keep_dk2 {V : Nat → Nat → Value} {I : Nat → Nat → Int32} {kd ln sz b : Nat} : keep V (dk2V V kd ln sz) I (dk2I I b sz) := keep_t (keep_v (a := 174) (j := 20) (by decide) (by decide)) (keep_t (keep_v (a := 174) (j := 18) (by decide) (by decide)) (keep_t (keep_v (a := 174) (j := 19) (by decide) (by decide)) (keep_t (keep_i (by decide)) (keep_i (by decide)))))
set_option maxRecDepth 100000 in
set_option maxHeartbeats 1600000 in
theorem r_418x {V : Nat → Nat → Value} {I : Nat → Nat → Int32} {L : Nat → Nat → Int64} {R : Nat → Nat → Option Nat} {tl : am_H} {k i j : Nat} (hk : k < 400) (hi : I 186 k = nI i) (hv : I 187 k = nI j) (hij : i < j) (hj : j < 400) : fm_418 (.ref 174) (nI k) (fx V I L R ++ tl) = some (.inl (some (.int (if I 194 j < I 194 i then 1 else 0)), fx V (iup I 194 (nx (I 194) i j)) L R ++ tl)) := by
  have gi : ∀ g : Nat → Int32, am_pA 0 (.ref 186) (nI k) (fx V (iup I 194 g) L R ++ tl) = some (nI i) := fun g => (qa_186 (I := iup I 194 g) hk).trans (by rw [iup_na (by omega), hi])
  have gv : ∀ g : Nat → Int32, am_pA 0 (.ref 187) (nI k) (fx V (iup I 194 g) L R ++ tl) = some (nI j) := fun g => (qa_187 (I := iup I 194 g) hk).trans (by rw [iup_na (by omega), hv])
  have gi0 : am_pA 0 (.ref 186) (nI k) (fx V I L R ++ tl) = some (nI i) := (qa_186 hk).trans (by rw [hi])
  have gv0 : am_pA 0 (.ref 187) (nI k) (fx V I L R ++ tl) = some (nI j) := (qa_187 hk).trans (by rw [hv])
  unfold nx
  by_cases c : I 194 j < I 194 i
  · rw [if_pos c, if_pos c]
    unfold fm_418 fg_418_0
    refine ev_b (a := Value.ref 194) rfl (ev_b (a := Value.ref 186) rfl (ev_b gi0 (ev_b (qa_194 (by omega)) (ev_b (a := Value.ref 194) rfl (ev_b (a := Value.ref 187) rfl (ev_b gv0 (ev_b (qa_194 hj) (ev_t c ?_))))))))
    refine ev_b (a := Value.ref 194) rfl (ev_b (a := Value.ref 186) rfl (ev_b gi0 (ev_b (qs_194 (by omega)) (ev_b (a := Value.ref 194) rfl (ev_b (a := Value.ref 187) rfl (ev_b (gv _) (ev_b (qs_194 hj) ?_)))))))
    rw [iup_iup]
    rfl
  · rw [if_neg c, if_neg c, iup_self]
    unfold fm_418 fg_418_0
    exact ev_b (a := Value.ref 194) rfl (ev_b (a := Value.ref 186) rfl (ev_b gi0 (ev_b (qa_194 (by omega)) (ev_b (a := Value.ref 194) rfl (ev_b (a := Value.ref 187) rfl (ev_b gv0 (ev_b (qa_194 hj) (ev_f c rfl))))))))
set_option maxRecDepth 100000 in
set_option maxHeartbeats 1600000 in
theorem r_585b {V : Nat → Nat → Value} {I : Nat → Nat → Int32} {L : Nat → Nat → Int64} {R : Nat → Nat → Option Nat} {tl : am_H} {N ln x b : Nat} {G : Nat → Int32} {rc : Value → Int32 → Int32 → am_H → Option am_O} (h15 : V 174 15 = .int (nI ln)) (hl : ln ≤ 8) (hx : x < 256) : ∀ (m q K : Nat) (g : Nat → Int32), q + m = ln → m < K → ∃ g', (∀ y, y < ln → q ≤ y → g' y = nI (bt x y)) ∧ (∀ y, y < q → g' y = g y) ∧ fg_585_89 N rc K (.ref 174) (nI b) (nI x) (nI q) (fx V (iup (iup I 266 G) 194 g) L R ++ tl) = fg_585_116 N rc N (.ref 174) (nI b) (nI x) 0 (fx V (iup (iup I 266 G) 194 g') L R ++ tl) := by
  intro m
  induction m with
  | zero =>
    intro q K g hq hK
    obtain ⟨K, rfl⟩ : ∃ k, K = k + 1 := ⟨K - 1, by omega⟩
    refine ⟨g, fun y h1 h2 => by omega, fun _ _ => rfl, ?_⟩
    rw [fg_585_89]
    exact ev_b (rdI h15) (ev_t (nI_le (by omega) (by omega)) rfl)
  | succ m ih =>
    intro q K g hq hK
    obtain ⟨K, rfl⟩ : ∃ k, K = k + 1 := ⟨K - 1, by omega⟩
    obtain ⟨g', h1, h2, h3⟩ := ih (q + 1) K (upd g q (nI (bt x q))) (by omega) (by omega)
    refine ⟨g', fun y y1 y2 => ?_, fun y y1 => ?_, ?_⟩
    · by_cases c : y = q
      · rw [h2 y (by omega), c, upd_eq]
      · exact h1 y y1 (by omega)
    · rw [h2 y (by omega), upd_ne (by omega)]
    · rw [fg_585_89]
      refine ev_b (rdI h15) (ev_f (nI_ge (by omega) (by omega)) (ev_b (a := Value.ref 194) rfl ?_))
      rw [bt_r x hx q (by omega), nI_1]
      exact ev_b (a := fx V (iup (iup I 266 G) 194 (upd g q (nI (bt x q)))) L R ++ tl) ((qs_194 (by omega)).trans (by rw [iup_eq, iup_iup])) h3
set_option maxRecDepth 100000 in
set_option maxHeartbeats 1600000 in
theorem r_585r {V : Nat → Nat → Value} {I : Nat → Nat → Int32} {L : Nat → Nat → Int64} {R : Nat → Nat → Option Nat} {tl : am_H} {N ln sz b row : Nat} {s v : Nat → Nat} {rc : Value → Int32 → Int32 → am_H → Option am_O} (ho : ntO ln sz s v) (h14 : V 174 14 = .int (nI sz)) (hd : ∀ k, k < sz → I 186 k = nI (s k) ∧ I 187 k = nI (v k)) : ∀ (m c K x : Nat) (g G : Nat → Int32) (A : Nat → Bool), c + m = sz → m < K → x < 2 ^ ln → (∀ y, y < ln → g y = nI (bt x y)) → (∀ y, y < sz → G y = nI (A y).toNat) → ∃ g' G', (∀ y, y < sz → G' y = nI (acR s v m c x A y).toNat) ∧ fg_585_116 N rc K (.ref 174) (nI b) (nI row) (nI c) (fx V (iup (iup I 266 G) 194 g) L R ++ tl) = rc (.ref 174) (nI b) (nI (row + 1)) (fx V (iup (iup I 266 G') 194 g') L R ++ tl) := by
  have h40 := ho.2.2.1
  have o3 := ho.2.1
  intro m
  induction m with
  | zero =>
    intro c K x g G A hc hK hx hg hG
    obtain ⟨K, rfl⟩ : ∃ k, K = k + 1 := ⟨K - 1, by omega⟩
    refine ⟨g, G, hG, ?_⟩
    rw [fg_585_116]
    dsimp only
    rw [nI_1]
    exact ev_b (rdI h14) (ev_t (nI_le (by omega) (by omega)) rfl)
  | succ m ih =>
    intro c K x g G A hc hK hx hg hG
    obtain ⟨K, rfl⟩ : ∃ k, K = k + 1 := ⟨K - 1, by omega⟩
    obtain ⟨o1, o2⟩ := ho.2.2.2 c (by omega)
    have x8 := p8 o3 hx
    have xl := xc_lt ln (by omega) x hx _ (by omega) _ o2 o1
    have e := r_418x (V := V) (I := iup (iup I 266 G) 194 g) (L := L) (R := R) (tl := tl) (k := c) (by omega) (hd c (by omega)).1 (hd c (by omega)).2 o1 (by omega)
    rw [iup_eq, iup_iup, hg _ o2, hg _ (by omega : s c < ln)] at e
    have b1 := bt_lt x (s c)
    have b2 := bt_lt x (v c)
    have xe := xc_e x x8 (s c) (by omega) (v c) (by omega) o1
    by_cases k : bt x (v c) < bt x (s c)
    · rw [decide_eq_true k] at xe
      have ne : ¬ xch x (s c) (v c) = x := of_decide_eq_false xe
      rw [if_pos (nI_lt k (by omega))] at e
      obtain ⟨g', G', h1, h2⟩ := ih (c + 1) K _ _ (upd G c 1) (if xch x (s c) (v c) = x then A else adB A c) (by omega) (by omega) xl (nx_b o3 hx o1 o2 hg) (fun y hy => by
        rw [if_neg ne]
        unfold adB
        by_cases e2 : y = c
        · rw [e2, upd_eq, if_pos rfl]; rfl
        · rw [upd_ne e2, if_neg e2]; exact hG y hy)
      refine ⟨g', G', h1, ?_⟩
      rw [fg_585_116]
      refine ev_b (rdI h14) (ev_f (nI_ge (by omega) (by omega)) (ev_i rfl (ev_cI e (ev_f (by decide) (ev_b (a := Value.ref 266) rfl ?_)))))
      refine ev_b (a := fx V (iup (iup I 266 (upd G c 1)) 194 (nx g (s c) (v c))) L R ++ tl) (ev_s (f := G) (n := 40) rfl (am_inb_n (by omega) (by omega)) rfl (by rw [nI_clamp (by omega)]; rfl)) ?_
      unfold fg_585_139
      rw [nI_1]
      exact h2
    · rw [decide_eq_false k] at xe
      have eq : xch x (s c) (v c) = x := of_decide_eq_true xe
      rw [if_neg (nI_nlt (by omega) (by omega))] at e
      obtain ⟨g', G', h1, h2⟩ := ih (c + 1) K _ _ G (if xch x (s c) (v c) = x then A else adB A c) (by omega) (by omega) xl (nx_b o3 hx o1 o2 hg) (fun y hy => by rw [if_pos eq]; exact hG y hy)
      refine ⟨g', G', h1, ?_⟩
      rw [fg_585_116]
      refine ev_b (rdI h14) (ev_f (nI_ge (by omega) (by omega)) (ev_i rfl (ev_cI e (ev_t rfl ?_))))
      unfold fg_585_139
      rw [nI_1]
      exact h2
set_option maxRecDepth 100000 in
set_option maxHeartbeats 1600000 in
theorem r_585o {V : Nat → Nat → Value} {I : Nat → Nat → Int32} {L : Nat → Nat → Int64} {R : Nat → Nat → Option Nat} {tl : am_H} {N ln sz b : Nat} {s v : Nat → Nat} (hN : 5000 < N) (ho : ntO ln sz s v) (h14 : V 174 14 = .int (nI sz)) (h15 : V 174 15 = .int (nI ln)) (hd : ∀ k, k < sz → I 186 k = nI (s k) ∧ I 187 k = nI (v k)) : ∀ (m x K : Nat) (g G : Nat → Int32) (A : Nat → Bool), x + m = 2 ^ ln → m < K → (∀ y, y < sz → G y = nI (A y).toNat) → ∃ g' G' K', (∀ y, y < sz → G' y = nI (acA s v sz m x A y).toNat) ∧ fg_585_77 N K (.ref 174) (nI b) (nI x) (fx V (iup (iup I 266 G) 194 g) L R ++ tl) = fg_585_77 N (K' + 1) (.ref 174) (nI b) (nI (2 ^ ln)) (fx V (iup (iup I 266 G') 194 g') L R ++ tl) := by
  have h40 := ho.2.2.1
  have o3 := ho.2.1
  have l8 := p8l o3
  intro m
  induction m with
  | zero =>
    intro x K g G A hx hK hG
    obtain ⟨K, rfl⟩ : ∃ k, K = k + 1 := ⟨K - 1, by omega⟩
    exact ⟨g, G, K, hG, by rw [show x = 2 ^ ln by omega]⟩
  | succ m ih =>
    intro x K g G A hx hK hG
    obtain ⟨K, rfl⟩ : ∃ k, K = k + 1 := ⟨K - 1, by omega⟩
    obtain ⟨g1, a1, -, a3⟩ := r_585b (V := V) (I := I) (L := L) (R := R) (tl := tl) (N := N) (x := x) (b := b) (G := G) (rc := fg_585_77 N K) h15 o3 (by omega) ln 0 N g (by omega) (by omega)
    obtain ⟨g2, G2, b1, b2⟩ := r_585r (V := V) (I := I) (L := L) (R := R) (tl := tl) (N := N) (b := b) (row := x) (rc := fg_585_77 N K) ho h14 hd sz 0 N x g1 G A (by omega) (by omega) (by omega) (fun y hy => a1 y hy (by omega)) hG
    obtain ⟨g3, G3, K', c1, c2⟩ := ih (x + 1) K g2 G2 _ (by omega) (by omega) b1
    refine ⟨g3, G3, K', c1, ?_⟩
    rw [← c2]
    refine Eq.trans ?_ (a3.trans b2)
    rw [fg_585_77]
    refine ev_b (rdI h15) ?_
    rw [sh_n ln (by omega)]
    exact ev_f (nI_ge (by omega) (by omega)) rfl
set_option maxRecDepth 100000 in
set_option maxHeartbeats 1600000 in
theorem r_585z {V : Nat → Nat → Value} {I : Nat → Nat → Int32} {L : Nat → Nat → Int64} {R : Nat → Nat → Option Nat} {tl : am_H} {N sz b : Nat} (h14 : V 174 14 = .int (nI sz)) (hs : sz ≤ 40) : ∀ (m k K : Nat) (g : Nat → Int32), k + m = sz → m < K → ∃ G, (∀ y, y < sz → k ≤ y → G y = 0) ∧ (∀ y, y < k → G y = g y) ∧ fg_585_54 N K (.ref 174) (nI b) (nI k) (fx V (iup I 266 g) L R ++ tl) = fg_585_77 N N (.ref 174) (nI b) 0 (fx V (iup I 266 G) L R ++ tl) := by
  intro m
  induction m with
  | zero =>
    intro k K g hk hK
    obtain ⟨K, rfl⟩ : ∃ k, K = k + 1 := ⟨K - 1, by omega⟩
    refine ⟨g, fun y h1 h2 => by omega, fun _ _ => rfl, ?_⟩
    rw [fg_585_54]
    exact ev_b (rdI h14) (ev_t (nI_le (by omega) (by omega)) rfl)
  | succ m ih =>
    intro k K g hk hK
    obtain ⟨K, rfl⟩ : ∃ k, K = k + 1 := ⟨K - 1, by omega⟩
    obtain ⟨G, h1, h2, h3⟩ := ih (k + 1) K (upd g k 0) (by omega) (by omega)
    refine ⟨G, fun y y1 y2 => ?_, fun y y1 => ?_, ?_⟩
    · by_cases c : y = k
      · rw [h2 y (by omega), c, upd_eq]
      · exact h1 y y1 (by omega)
    · rw [h2 y (by omega), upd_ne (by omega)]
    · rw [fg_585_54]
      refine ev_b (rdI h14) (ev_f (nI_ge (by omega) (by omega)) (ev_b (a := Value.ref 266) rfl (ev_b (a := fx V (iup I 266 (upd g k 0)) L R ++ tl) ((qs_266 (by omega) rfl).trans (by rw [iup_eq, iup_iup])) ?_)))
      rw [nI_1]
      exact h3
set_option maxRecDepth 100000 in
set_option maxHeartbeats 1600000 in
theorem r_451g {V : Nat → Nat → Value} {I : Nat → Nat → Int32} {L : Nat → Nat → Int64} {R : Nat → Nat → Option Nat} {tl : am_H} {kd nt : Int32} (h20 : V 174 20 = .int kd) (h19 : V 174 19 = .int nt) : fm_451 (.ref 174) (fx V I L R ++ tl) = some (.inl (none, fx (vup (vup (vup V 174 13 (.int kd)) 174 15 (.int nt)) 174 14 (.int 0)) I L R ++ tl)) := by
  unfold fm_451 fg_451_0
  exact ev_b (rdI h20) (ev_b qp_174_13 (ev_b (a := nt) (by show am_vI (some (vup V 174 13 _ 174 19)) = _; rw [vup_v (by omega), h19]; rfl) (ev_b qp_174_15 (ev_b qp_174_14 rfl))))
def clG (q : Nat × (Nat → Nat) × (Nat → Nat)) (a b : Nat → Int32) : Prop := ∀ k, k < q.1 → a k = nI (q.2.1 k) ∧ b k = nI (q.2.2 k)
theorem clG_s {A : Nat → Bool} {s v : Nat → Nat} {c : Nat} {a b : Nat → Int32} (e : A c = true) (h : clG (clK A s v c) a b) : clG (clK A s v (c + 1)) (upd a (clK A s v c).1 (nI (s c))) (upd b (clK A s v c).1 (nI (v c))) := by
  intro k hk
  rw [clK, if_pos e] at hk ⊢
  have hk : k < (clK A s v c).1 + 1 := hk
  show upd a (clK A s v c).1 (nI (s c)) k = nI (if k = (clK A s v c).1 then s c else (clK A s v c).2.1 k) ∧ upd b (clK A s v c).1 (nI (v c)) k = nI (if k = (clK A s v c).1 then v c else (clK A s v c).2.2 k)
  by_cases e2 : k = (clK A s v c).1
  · rw [if_pos e2, if_pos e2, e2, upd_eq, upd_eq]
    exact ⟨rfl, rfl⟩
  · rw [if_neg e2, if_neg e2, upd_ne e2, upd_ne e2]
    exact h k (by omega)
set_option maxRecDepth 100000 in
set_option maxHeartbeats 1600000 in
theorem r_585k {V : Nat → Nat → Value} {I : Nat → Nat → Int32} {L : Nat → Nat → Int64} {R : Nat → Nat → Option Nat} {tl : am_H} {N sz b : Nat} {s v : Nat → Nat} {A : Nat → Bool} {o : Nat → (Nat → Int32) → (Nat → Int32) → Option am_O} (h18 : V 174 18 = .int (nI sz)) (hs : sz ≤ 40) (hd : ∀ k, k < sz → I 188 k = nI (s k) ∧ I 189 k = nI (v k)) (hA : ∀ y, y < sz → I 266 y = nI (A y).toNat) (hO : ∀ x y, clG (clK A s v sz) x y → (if am_pOk 12 (.ref 174) (fx (vup V 174 14 (.int (nI (clK A s v sz).1))) (iup (iup I 186 x) 187 y) L R ++ tl) then am_cI true (fm_356 N (.ref 174) 7 (nI b) ((-1)) ((-1)) ((-1)) 0 (fx (vup V 174 14 (.int (nI (clK A s v sz).1))) (iup (iup I 186 x) 187 y) L R ++ tl)) (fun v5 h6 => some (.inl (some (.int v5), h6))) else none) = o (clK A s v sz).1 x y) : ∀ (m c K : Nat) (x y : Nat → Int32), c + m = sz → m < K → clG (clK A s v c) x y → ∃ x' y', clG (clK A s v sz) x' y' ∧ fg_585_162 N K (.ref 174) (nI b) (nI c) (fx (vup V 174 14 (.int (nI (clK A s v c).1))) (iup (iup I 186 x) 187 y) L R ++ tl) = o (clK A s v sz).1 x' y' := by
  intro m
  induction m with
  | zero =>
    intro c K x y hc hK hg
    obtain ⟨K, rfl⟩ : ∃ k, K = k + 1 := ⟨K - 1, by omega⟩
    obtain rfl : c = sz := by omega
    refine ⟨x, y, hg, ?_⟩
    rw [fg_585_162]
    exact ev_b (a := nI c) (by show am_vI (some (vup V 174 14 _ 174 18)) = _; rw [vup_v (by omega), h18]; rfl) (ev_t (nI_le (by omega) (by omega)) (hO x y hg))
  | succ m ih =>
    intro c K x y hc hK hg
    obtain ⟨K, rfl⟩ : ∃ k, K = k + 1 := ⟨K - 1, by omega⟩
    have cl := clK_le A s v c
    have rA : am_pA 2 (.ref 266) (nI c) (fx (vup V 174 14 (.int (nI (clK A s v c).1))) (iup (iup I 186 x) 187 y) L R ++ tl) = some (nI (A c).toNat) := (qa_266 (by omega)).trans (congrArg some (hA c (by omega)))
    have r18 : am_vI (am_pG 3090 (.ref 174) (fx (vup V 174 14 (.int (nI (clK A s v c).1))) (iup (iup I 186 x) 187 y) L R ++ tl)) = some (nI sz) := by show am_vI (some (vup V 174 14 _ 174 18)) = _; rw [vup_v (by omega), h18]; rfl
    by_cases e : A c = true
    · have k1 : (clK A s v (c + 1)).1 = (clK A s v c).1 + 1 := by rw [clK, if_pos e]
      obtain ⟨x', y', h1, h2⟩ := ih (c + 1) K _ _ (by omega) (by omega) (clG_s e hg)
      rw [k1] at h2
      have t := x_335 (V := vup V 174 14 (.int (nI (clK A s v c).1))) (I := iup (iup I 186 x) 187 y) (L := L) (R := R) (tl := tl) (s := (clK A s v c).1) vup_eq (by omega) (nI (s c)) (nI (v c))
      rw [iup_eq, show iup (iup I 186 x) 187 y 186 = x from (iup_na (by decide)).trans iup_eq, iup_q (by decide), vup_2] at t
      refine ⟨x', y', h1, ?_⟩
      rw [fg_585_162]
      refine ev_b r18 (ev_f (nI_ge (by omega) (by omega)) (ev_b (a := Value.ref 266) rfl (ev_b rA (ev_f (by rw [e]; decide) ?_))))
      refine ev_b (a := Value.ref 188) rfl (ev_b (a := nI (s c)) ((qa_188 (by omega)).trans (congrArg some (hd c (by omega)).1)) (ev_b (a := Value.ref 189) rfl (ev_b (a := nI (v c)) ((qa_189 (by omega)).trans (congrArg some (hd c (by omega)).2)) (ev_i rfl (ev_cV t ?_)))))
      unfold fg_585_195
      rw [nI_1]
      exact h2
    · have k1 : clK A s v (c + 1) = clK A s v c := by rw [clK, if_neg e]
      have ef : A c = false := by cases h : A c with
        | true => exact absurd h e
        | false => rfl
      obtain ⟨x', y', h1, h2⟩ := ih (c + 1) K x y (by omega) (by omega) (by rw [k1]; exact hg)
      rw [k1] at h2
      refine ⟨x', y', h1, ?_⟩
      rw [fg_585_162]
      refine ev_b r18 (ev_f (nI_ge (by omega) (by omega)) (ev_b (a := Value.ref 266) rfl (ev_b rA (ev_t (by rw [ef]; rfl) ?_))))
      unfold fg_585_195
      rw [nI_1]
      exact h2
theorem ped_7 {n b : Nat} (hb : b < n) (hn : n ≤ 600) : ped n 7 (nI b) (-1) (-1) (-1) := ⟨7, by decide, rfl, .inr ⟨b, hb, rfl⟩, .inl rfl, fun _ => nI_nm1 (by omega), fun h => absurd h (by decide), fun h => absurd h (by decide), .inl rfl⟩
