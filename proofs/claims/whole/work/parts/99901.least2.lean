/-! ===== least(b): the class's new machine ===== -/
set_option maxRecDepth 100000 in
set_option maxHeartbeats 1600000 in
theorem d_41x {V : Nat → Nat → Value} {I : Nat → Nat → Int32} {L : Nat → Nat → Int64} {R : Nat → Nat → Option Nat} {tl : am_H} {N s : Nat} (hN : 4 ≤ N) (h3 : V 167 3 = .int (nI s)) (h4 : V 167 4 = .int 5) (hs : 5 * s + 5 ≤ 120) (a b : Int32) : fm_41 N (.ref 167) a b (fx V I L R ++ tl) = some (.inl (some (.int 1), fx (vup V 167 3 (.int (nI (s + 1)))) (iup I 168 (upd (upd (upd (upd (upd (I 168) (5 * s + 2) 0) (5 * s + 3) 0) (5 * s + 4) 0) (5 * s) a) (5 * s + 1) b)) L R ++ tl)) := by
  obtain ⟨N, rfl⟩ : ∃ k, N = k + 4 := ⟨N - 4, by omega⟩
  have g3 : ∀ {I : Nat → Nat → Int32}, am_vI (am_pG 771 (.ref 167) (fx V I L R ++ tl)) = some (nI s) := fun {I} => by show am_vI (some (V 167 3)) = _; rw [h3]; rfl
  have g4 : ∀ {I : Nat → Nat → Int32}, am_vI (am_pG 772 (.ref 167) (fx V I L R ++ tl)) = some 5 := fun {I} => by show am_vI (some (V 167 4)) = _; rw [h4]; rfl
  unfold fm_41 fg_41_0
  refine ev_b g3 ?_
  refine ev_b g4 ?_
  refine ev_b g4 ?_
  refine ev_b (a := .ref 168) rfl ?_
  refine ev_b (a := nI 120) rfl ?_
  rw [show nI s * 5 = nI (5 * s) by rw [Nat.mul_comm, nI_mul]; rfl]
  refine ev_t (by rw [show (5 : Int32) = nI 5 from rfl, nI_add]; exact nI_le hs (by omega)) ?_
  rw [fg_41_29]
  refine ev_b g4 ?_
  refine ev_f (by decide) ?_
  refine ev_b (a := .ref 168) rfl ?_
  rw [show nI (5 * s) + 2 = nI (5 * s + 2) from nI_add (5 * s) 2]
  refine ev_b (ev_s (f := I 168) (n := 120) (h1 := fx V (iup I 168 (upd (I 168) (5 * s + 2) 0)) L R ++ tl) rfl (am_inb_n (by omega) (by omega)) rfl (by rw [nI_clamp (by omega)]; rfl)) ?_
  rw [fg_41_29]
  refine ev_b g4 ?_
  refine ev_f (by decide) ?_
  refine ev_b (a := .ref 168) rfl ?_
  rw [show nI (5 * s) + (2 + 1) = nI (5 * s + 3) from nI_add (5 * s) 3]
  refine ev_b (ev_s (f := upd (I 168) (5 * s + 2) 0) (n := 120) (h1 := fx V (iup I 168 (upd (upd (I 168) (5 * s + 2) 0) (5 * s + 3) 0)) L R ++ tl) rfl (am_inb_n (by omega) (by omega)) rfl (by rw [nI_clamp (by omega)]; rfl)) ?_
  rw [fg_41_29]
  refine ev_b g4 ?_
  refine ev_f (by decide) ?_
  refine ev_b (a := .ref 168) rfl ?_
  rw [show nI (5 * s) + (2 + 1 + 1) = nI (5 * s + 4) from nI_add (5 * s) 4]
  refine ev_b (ev_s (f := upd (upd (I 168) (5 * s + 2) 0) (5 * s + 3) 0) (n := 120) (h1 := fx V (iup I 168 (upd (upd (upd (I 168) (5 * s + 2) 0) (5 * s + 3) 0) (5 * s + 4) 0)) L R ++ tl) rfl (am_inb_n (by omega) (by omega)) rfl (by rw [nI_clamp (by omega)]; rfl)) ?_
  rw [fg_41_29]
  refine ev_b g4 ?_
  refine ev_t (by decide) ?_
  refine ev_b (a := .ref 168) rfl ?_
  refine ev_b (ev_s (f := upd (upd (upd (I 168) (5 * s + 2) 0) (5 * s + 3) 0) (5 * s + 4) 0) (n := 120) (h1 := fx V (iup I 168 (upd (upd (upd (upd (I 168) (5 * s + 2) 0) (5 * s + 3) 0) (5 * s + 4) 0) (5 * s) a)) L R ++ tl) rfl (am_inb_n (by omega) (by omega)) rfl (by rw [nI_clamp (by omega)]; rfl)) ?_
  refine ev_b (a := .ref 168) rfl ?_
  rw [nI_1]
  refine ev_b (ev_s (f := upd (upd (upd (upd (I 168) (5 * s + 2) 0) (5 * s + 3) 0) (5 * s + 4) 0) (5 * s) a) (n := 120) (h1 := fx V (iup I 168 (upd (upd (upd (upd (upd (I 168) (5 * s + 2) 0) (5 * s + 3) 0) (5 * s + 4) 0) (5 * s) a) (5 * s + 1) b)) L R ++ tl) rfl (am_inb_n (by omega) (by omega)) rfl (by rw [nI_clamp (by omega)]; rfl)) ?_
  refine ev_b g3 ?_
  rw [nI_1]
  exact ev_b (ev_p rfl rfl rfl rfl) rfl
abbrev bS : Type := Nat × (Nat → Int32) × (Nat → Nat)
/-- a state gets its name, if it has none -/
def bst (st : bS) (to : Nat) : bS := if st.2.1 to = -1 then (st.1 + 1, upd st.2.1 to (nI st.1), fun i => if i = st.1 then to else st.2.2 i) else st
def tgt (val : Nat → Int32) (nxt : Nat → Nat → Nat) (st : bS) (k c : Nat) : Nat := clR val nxt 6 (nxt (st.2.2 k) c)
def rw4 (val : Nat → Int32) (nxt : Nat → Nat → Nat) (k : Nat) (st : bS) : Nat → bS
  | 0 => st
  | c + 1 => bst (rw4 val nxt k st c) (tgt val nxt (rw4 val nxt k st c) k c)
def edg (val : Nat → Int32) (nxt : Nat → Nat → Nat) (k : Nat) (st : bS) (c : Nat) : Nat := clN (rw4 val nxt k st (c + 1)).2.1 (tgt val nxt (rw4 val nxt k st c) k c)
def bsK (val : Nat → Int32) (nxt : Nat → Nat → Nat) : Nat → bS
  | 0 => (1, upd (fun _ => -1) 0 0, fun _ => 0)
  | k + 1 => rw4 val nxt k (bsK val nxt k) 4
def stp (val : Nat → Int32) (nxt : Nat → Nat → Nat) : Nat → Nat → Nat
  | 0, k => k
  | m + 1, k => if (bsK val nxt k).1 ≤ k then k else stp val nxt m (k + 1)
def ncN (g : Nat → Int32) (x : Nat) : Nat := if g x = -1 then 0 else 1
def bInv (sz : Nat) (st : bS) : Prop := 1 ≤ st.1 ∧ (∀ i, i < st.1 → st.2.2 i < sz) ∧ (∀ x, x < sz → st.2.1 x = -1 ∨ ∃ i, i < st.1 ∧ st.2.1 x = nI i) ∧ suN (ncN st.2.1) sz = st.1
theorem nc_1 (g : Nat → Int32) (x : Nat) : ncN g x ≤ 1 := by unfold ncN; split <;> omega
theorem nc_up {g : Nat → Int32} {to e : Nat} (h : g to = -1) (he : e < 1000) : ∀ n, suN (ncN (upd g to (nI e))) n = suN (ncN g) n + (if to < n then 1 else 0) := by
  intro n
  induction n with
  | zero => rfl
  | succ n ih =>
    show suN (ncN (upd g to (nI e))) n + ncN (upd g to (nI e)) n = suN (ncN g) n + ncN g n + _
    rw [ih]
    unfold ncN
    by_cases c : n = to
    · rw [c, upd_eq, if_neg (nI_nm1 (by omega)), if_pos h, if_neg (Nat.lt_irrefl _), if_pos (by omega)]
    · rw [upd_ne c]
      by_cases d : to < n
      · rw [if_pos d, if_pos (show to < n + 1 by omega)]; omega
      · rw [if_neg d, if_neg (show ¬ to < n + 1 by omega)]; rfl
theorem b_le {sz : Nat} {st : bS} (h : bInv sz st) : st.1 ≤ sz := by rw [← h.2.2.2]; exact su_le (nc_1 _) sz
theorem bst_ok {sz to : Nat} {st : bS} (hs : sz ≤ 6) (h : bInv sz st) (ht : to < sz) : bInv sz (bst st to) ∧ (∀ i, i < st.1 → (bst st to).2.2 i = st.2.2 i) ∧ st.1 ≤ (bst st to).1 ∧ (∃ e, e < (bst st to).1 ∧ (bst st to).2.1 to = nI e) ∧ (st.2.1 to = -1 → st.1 < sz) := by
  have l0 := b_le h
  unfold bst
  by_cases c : st.2.1 to = -1
  · rw [if_pos c]
    have su := nc_up (e := st.1) c (by omega) sz
    rw [h.2.2.2, if_pos ht] at su
    have l1 := su_le (nc_1 (upd st.2.1 to (nI st.1))) sz
    refine ⟨⟨by show 1 ≤ st.1 + 1; omega, fun i hi => ?_, fun x hx => ?_, su⟩, fun i hi => ?_, by show st.1 ≤ st.1 + 1; omega, ⟨st.1, by show st.1 < st.1 + 1; omega, upd_eq⟩, fun _ => by omega⟩
    · show (if i = st.1 then to else st.2.2 i) < sz
      have hi : i < st.1 + 1 := hi
      by_cases e : i = st.1
      · rw [if_pos e]; exact ht
      · rw [if_neg e]; exact h.2.1 i (by omega)
    · show upd st.2.1 to (nI st.1) x = -1 ∨ ∃ i, i < st.1 + 1 ∧ upd st.2.1 to (nI st.1) x = nI i
      by_cases e : x = to
      · rw [e, upd_eq]; exact .inr ⟨st.1, by omega, rfl⟩
      · rw [upd_ne e]
        rcases h.2.2.1 x hx with h1 | ⟨i, h1, h2⟩
        · exact .inl h1
        · exact .inr ⟨i, by omega, h2⟩
    · show (if i = st.1 then to else st.2.2 i) = st.2.2 i
      rw [if_neg (by omega)]
  · rw [if_neg c]
    refine ⟨h, fun _ _ => rfl, Nat.le_refl _, ?_, fun e => absurd e c⟩
    rcases h.2.2.1 to ht with h1 | ⟨i, h1, h2⟩
    · exact absurd h1 c
    · exact ⟨i, h1, h2⟩
theorem tgt_lt {val : Nat → Int32} {nxt : Nat → Nat → Nat} {sz k c : Nat} {st : bS} (ho : mcO sz nxt) (h : bInv sz st) (hk : k < st.1) (hc : c < 4) : tgt val nxt st k c < sz := by
  have a := ho.2.2 _ c (h.2.1 k hk) hc
  have b := clR_le (val := val) (nxt := nxt) (r := 6) (x := nxt (st.2.2 k) c)
  unfold tgt
  omega
theorem rw4_ok {val : Nat → Int32} {nxt : Nat → Nat → Nat} {sz k : Nat} {st : bS} (ho : mcO sz nxt) (h : bInv sz st) (hk : k < st.1) : ∀ c, c ≤ 4 → bInv sz (rw4 val nxt k st c) ∧ (∀ i, i < st.1 → (rw4 val nxt k st c).2.2 i = st.2.2 i) ∧ st.1 ≤ (rw4 val nxt k st c).1 := by
  intro c
  induction c with
  | zero => intro _; exact ⟨h, fun _ _ => rfl, Nat.le_refl _⟩
  | succ c ih =>
    intro hc
    obtain ⟨a1, a2, a3⟩ := ih (by omega)
    obtain ⟨b1, b2, b3, -⟩ := bst_ok ho.2.1 a1 (tgt_lt (val := val) ho a1 (show k < (rw4 val nxt k st c).1 by omega) (show c < 4 by omega))
    exact ⟨b1, fun i hi => (b2 i (by omega)).trans (a2 i hi), Nat.le_trans a3 b3⟩
theorem edg_ok {val : Nat → Int32} {nxt : Nat → Nat → Nat} {sz k c : Nat} {st : bS} (ho : mcO sz nxt) (h : bInv sz st) (hk : k < st.1) (hc : c < 4) : edg val nxt k st c < (rw4 val nxt k st (c + 1)).1 ∧ (rw4 val nxt k st (c + 1)).2.1 (tgt val nxt (rw4 val nxt k st c) k c) = nI (edg val nxt k st c) := by
  obtain ⟨a1, a2, a3⟩ := rw4_ok (val := val) ho h hk c (by omega)
  obtain ⟨b1, -, -, ⟨e, e1, e2⟩, -⟩ := bst_ok ho.2.1 a1 (tgt_lt (val := val) ho a1 (show k < (rw4 val nxt k st c).1 by omega) hc)
  have l := b_le b1
  have s6 := ho.2.1
  have : edg val nxt k st c = e := by
    unfold edg clN
    show ((bst (rw4 val nxt k st c) (tgt val nxt (rw4 val nxt k st c) k c)).2.1 _).toNatClampNeg = e
    rw [e2, nI_clamp (by omega)]
  rw [this]
  exact ⟨e1, e2⟩
theorem bsK_ok {val : Nat → Int32} {nxt : Nat → Nat → Nat} {sz : Nat} (ho : mcO sz nxt) : ∀ k, (∀ j, j < k → j < (bsK val nxt j).1) → bInv sz (bsK val nxt k) := by
  intro k
  induction k with
  | zero =>
    intro _
    refine ⟨Nat.le_refl _, fun i hi => ?_, fun x hx => ?_, ?_⟩
    · show 0 < sz
      have := ho.1; omega
    · show upd (fun _ => -1) 0 0 x = -1 ∨ ∃ i, i < 1 ∧ upd (fun _ => -1) 0 0 x = nI i
      by_cases e : x = 0
      · rw [e, upd_eq]; exact .inr ⟨0, by omega, rfl⟩
      · rw [upd_ne e]; exact .inl rfl
    · have z : ∀ n, suN (ncN (fun _ => -1)) n = 0 := by
        intro n
        induction n with
        | zero => rfl
        | succ n ih =>
          show suN (ncN (fun _ => -1)) n + ncN (fun _ => -1) n = 0
          rw [ih]
          rfl
      have := nc_up (g := fun _ => -1) (to := 0) (e := 0) rfl (by omega) sz
      rw [z, if_pos (show 0 < sz by have := ho.1; omega)] at this
      exact this
  | succ k ih =>
    intro h
    exact (rw4_ok (val := val) ho (ih (fun j hj => h j (by omega))) (h k (by omega)) 4 (Nat.le_refl _)).1
/-- names and queue, as an array holds them -/
def bAr (sz : Nat) (st : bS) (g q : Nat → Int32) : Prop := (∀ x, x < sz → g x = st.2.1 x) ∧ ∀ i, i < st.1 → q i = nI (st.2.2 i)
theorem bAr_s {sz to : Nat} {st : bS} {g q : Nat → Int32} (h : bAr sz st g q) (c : st.2.1 to = -1) : bAr sz (bst st to) (upd g to (nI st.1)) (upd q st.1 (nI to)) := by
  unfold bst
  rw [if_pos c]
  refine ⟨fun x hx => ?_, fun i hi => ?_⟩
  · show upd g to (nI st.1) x = upd st.2.1 to (nI st.1) x
    by_cases e : x = to
    · rw [e, upd_eq, upd_eq]
    · rw [upd_ne e, upd_ne e]; exact h.1 x hx
  · show upd q st.1 (nI to) i = nI (if i = st.1 then to else st.2.2 i)
    have hi : i < st.1 + 1 := hi
    by_cases e : i = st.1
    · rw [e, upd_eq, if_pos rfl]
    · rw [upd_ne e, if_neg e]; exact h.2 i (by omega)
theorem bAr_k {sz to : Nat} {st : bS} {g q : Nat → Int32} (h : bAr sz st g q) (c : ¬ st.2.1 to = -1) : bAr sz (bst st to) g q := by
  unfold bst
  rw [if_neg c]
  exact h
set_option maxRecDepth 100000 in
set_option maxHeartbeats 1600000 in
theorem c_310e {V : Nat → Nat → Value} {I : Nat → Nat → Int32} {L : Nat → Nat → Int64} {R : Nat → Nat → Option Nat} {tl : am_H} {N a it ln sz k : Nat} {f val : Nat → Int32} {nxt : Nat → Nat → Nat} {st : bS} {rc : Value → Value → Value → Int32 → Int32 → am_H → Option am_O} (hN : 5000 < N) (ho : mcO sz nxt) (hp : mcC V I tl a it ln sz f val nxt) (hi : bInv sz st) (hk : k < st.1) (h3 : V 167 3 = .int (nI (k + 1))) (h4 : V 167 4 = .int 5) (hu : ∀ i j, i < sz → j < sz → I 143 (6 * i + j) = nI (!(eqv val nxt 6 i j)).toNat) : ∀ (m c K : Nat) (g q F : Nat → Int32), c + m = 4 → m < K → bAr sz (rw4 val nxt k st c) g q → (∀ d, d < c → F (5 * k + (1 + d)) = nI (edg val nxt k st d)) → ∃ g' q' F', bAr sz (rw4 val nxt k st 4) g' q' ∧ (∀ d, d < 4 → F' (5 * k + (1 + d)) = nI (edg val nxt k st d)) ∧ (∀ j, j < 5 * k + 1 → F' j = F j) ∧ fg_310_72 N rc K (.ref 131) (.ref (269 + a)) (.ref 167) (nI (rw4 val nxt k st c).1) (nI k) (nI c) (fx V (iup (iup (iup I 144 g) 145 q) 168 F) L R ++ tl) = rc (.ref 131) (.ref (269 + a)) (.ref 167) (nI (rw4 val nxt k st 4).1) (nI (k + 1)) (fx V (iup (iup (iup I 144 g') 145 q') 168 F') L R ++ tl) := by
  have s6 := ho.2.1
  intro m
  induction m with
  | zero =>
    intro c K g q F hc hK hA hF
    obtain ⟨K, rfl⟩ : ∃ k, K = k + 1 := ⟨K - 1, by omega⟩
    obtain rfl : c = 4 := by omega
    refine ⟨g, q, F, hA, hF, fun _ _ => rfl, ?_⟩
    rw [fg_310_72]
    dsimp only
    rw [nI_1]
    exact ev_t (by decide) rfl
  | succ m ih =>
    intro c K g q F hc hK hA hF
    obtain ⟨K, rfl⟩ : ∃ k, K = k + 1 := ⟨K - 1, by omega⟩
    have c4 : c < 4 := by omega
    obtain ⟨a1, a2, a3⟩ := rw4_ok (val := val) ho hi hk c (by omega)
    have kl : k < (rw4 val nxt k st c).1 := by omega
    have tl' := tgt_lt (val := val) ho a1 kl c4
    have qk : (rw4 val nxt k st c).2.2 k < sz := a1.2.1 k kl
    have nl := ho.2.2 _ c qk c4
    have l0 := b_le a1
    obtain ⟨b1, -, -, -, b5⟩ := bst_ok s6 a1 tl'
    have l1 := b_le b1
    obtain ⟨e1, e2⟩ := edg_ok (val := val) ho hi hk c4
    have hp2 : mcC V (iup (iup (iup I 144 g) 145 q) 168 F) tl a it ln sz f val nxt := ⟨fun W J L' R' h1 h2 => hp.1 W J L' R' h1 (h2.trans ((iup_na (by omega)).trans ((iup_na (by omega)).trans (iup_na (by omega))))), hp.2⟩
    obtain ⟨⟨x1, x2, x3, x4, x5, x6, p1⟩, hG, -⟩ := mc_get ho hp2 V (iup (iup (iup I 144 g) 145 q) 168 F) L R (fun _ => rfl) rfl
    have sin := c_312 (V := V) (I := iup (iup (iup I 144 g) 145 q) 168 F) (L := L) (R := R) (tl := tl) (N := N) hN ho hp2 nl (fun i j h1 h2 => by rw [iup_na (by decide), iup_na (by decide), iup_na (by decide)]; exact hu i j h1 h2)
    obtain ⟨to, hto⟩ : ∃ to, to = tgt val nxt (rw4 val nxt k st c) k c := ⟨_, rfl⟩
    have sin' : fm_312 N (.ref 131) (.ref (269 + a)) (nI (nxt ((rw4 val nxt k st c).2.2 k) c)) (fx V (iup (iup (iup I 144 g) 145 q) 168 F) L R ++ tl) = some (.inl (some (.int (nI to)), fx V (iup (iup (iup I 144 g) 145 q) 168 F) L R ++ tl)) := by rw [hto]; exact sin
    rw [← hto] at tl' e2 b1 b5 l1
    have rq : am_pA 0 (.ref 145) (nI k) (fx V (iup (iup (iup I 144 g) 145 q) 168 F) L R ++ tl) = some (nI ((rw4 val nxt k st c).2.2 k)) := (qa_145 (by omega)).trans (congrArg some (hA.2 k kl))
    have rg : am_pA 0 (.ref 144) (nI to) (fx V (iup (iup (iup I 144 g) 145 q) 168 F) L R ++ tl) = some ((rw4 val nxt k st c).2.1 to) := (qa_144 (by omega)).trans (congrArg some (hA.1 to tl'))
    have es : rw4 val nxt k st (c + 1) = bst (rw4 val nxt k st c) to := by rw [rw4, hto]
    -- the edge is laid
    have fin : ∀ (g1 q1 : Nat → Int32), bAr sz (bst (rw4 val nxt k st c) to) g1 q1 → ∃ g' q' F', bAr sz (rw4 val nxt k st 4) g' q' ∧ (∀ d, d < 4 → F' (5 * k + (1 + d)) = nI (edg val nxt k st d)) ∧ (∀ j, j < 5 * k + 1 → F' j = F j) ∧ fg_310_135 N rc (fg_310_72 N rc K) (.ref 131) (.ref (269 + a)) (.ref 167) (nI (bst (rw4 val nxt k st c) to).1) (nI k) (nI c) (nI to) (fx V (iup (iup (iup I 144 g1) 145 q1) 168 F) L R ++ tl) = rc (.ref 131) (.ref (269 + a)) (.ref 167) (nI (rw4 val nxt k st 4).1) (nI (k + 1)) (fx V (iup (iup (iup I 144 g') 145 q') 168 F') L R ++ tl) := fun g1 q1 hA1 => by
      obtain ⟨g', q', F', h1, h2, h5, h6⟩ := ih (c + 1) K g1 q1 (upd F (5 * k + (1 + c)) (nI (edg val nxt k st c))) (by omega) (by omega) (by rw [es]; exact hA1) (fun d hd => by
        by_cases e : d = c
        · rw [e, upd_eq]
        · rw [upd_ne (by omega)]; exact hF d (by omega))
      rw [es] at h6
      refine ⟨g', q', F', h1, h2, fun j hj => by rw [h5 j hj, upd_ne (by omega)], ?_⟩
      have d := d_51 (V := V) (I := iup (iup (iup I 144 g1) 145 q1) 168 F) (L := L) (R := R) (tl := tl) (s := k + 1) (i := k) (j := 1 + c) h3 h4 (by omega) (by omega) (by omega) (nI (edg val nxt k st c))
      rw [iup_eq, iup_iup] at d
      unfold fg_310_135
      rw [show (1 : Int32) + nI c = nI (1 + c) from nI_add 1 c, nI_1]
      exact ev_b (a := Value.ref 144) rfl (ev_b (a := nI (edg val nxt k st c)) ((qa_144 (by omega)).trans (congrArg some ((hA1.1 to tl').trans (by rw [← es]; exact e2)))) (ev_i rfl (ev_cV d h6)))
    by_cases cn : (rw4 val nxt k st c).2.1 to = -1
    · have ls := b5 cn
      obtain ⟨g', q', F', h1, h2, h5, h6⟩ := fin _ _ (bAr_s hA cn)
      refine ⟨g', q', F', h1, h2, h5, ?_⟩
      have eb : (bst (rw4 val nxt k st c) to).1 = (rw4 val nxt k st c).1 + 1 := by unfold bst; rw [if_pos cn]
      rw [eb] at h6
      rw [cn] at rg
      rw [fg_310_72]
      dsimp only
      rw [show (1 : Int32) + nI c = nI (1 + c) from nI_add 1 c]
      refine ev_f (nI_ge (b := 4) c4 (by decide)) (ev_b (a := Value.ref 145) rfl (ev_b rq (ev_i (ev_ok p1) (ev_cI ((hG _ qk).2 c c4) (ev_i rfl (ev_cI sin' (ev_b (a := Value.ref 144) rfl (ev_b rg (ev_f (by decide) (ev_f (nI_ge (b := 6) (by omega) (by decide)) (ev_b (a := Value.ref 144) rfl ?_)))))))))))
      refine ev_b (a := fx V (iup (iup (iup I 144 (upd g to (nI (rw4 val nxt k st c).1))) 145 q) 168 F) L R ++ tl) (ev_s (f := g) (n := 6) rfl (am_inb_n (by omega) (by omega)) rfl (by rw [nI_clamp (by omega)]; rfl)) (ev_b (a := Value.ref 145) rfl ?_)
      refine ev_b (a := fx V (iup (iup (iup I 144 (upd g to (nI (rw4 val nxt k st c).1))) 145 (upd q (rw4 val nxt k st c).1 (nI to))) 168 F) L R ++ tl) (ev_s (f := q) (n := 36) rfl (am_inb_n (by omega) (by omega)) rfl (by rw [nI_clamp (by omega)]; rfl)) ?_
      rw [nI_1]
      exact h6
    · obtain ⟨g', q', F', h1, h2, h5, h6⟩ := fin _ _ (bAr_k hA cn)
      refine ⟨g', q', F', h1, h2, h5, ?_⟩
      have eb : (bst (rw4 val nxt k st c) to).1 = (rw4 val nxt k st c).1 := by unfold bst; rw [if_neg cn]
      rw [eb] at h6
      obtain ⟨i, i1, i2⟩ := (a1.2.2.1 to tl').resolve_left cn
      rw [i2] at rg
      rw [fg_310_72]
      dsimp only
      rw [show (1 : Int32) + nI c = nI (1 + c) from nI_add 1 c]
      exact ev_f (nI_ge (b := 4) c4 (by decide)) (ev_b (a := Value.ref 145) rfl (ev_b rq (ev_i (ev_ok p1) (ev_cI ((hG _ qk).2 c c4) (ev_i rfl (ev_cI sin' (ev_b (a := Value.ref 144) rfl (ev_b rg (ev_t (nI_le (a := 0) (by omega) (by omega)) h6)))))))))
/-- the items of the first k states -/
def mcF (val : Nat → Int32) (nxt : Nat → Nat → Nat) (k : Nat) (F : Nat → Int32) : Prop := ∀ i, i < k → F (5 * i) = val ((bsK val nxt i).2.2 i) ∧ ∀ c, c < 4 → F (5 * i + (1 + c)) = nI (edg val nxt i (bsK val nxt i) c)
set_option maxRecDepth 100000 in
set_option maxHeartbeats 1600000 in
theorem c_310l {V : Nat → Nat → Value} {I : Nat → Nat → Int32} {L : Nat → Nat → Int64} {R : Nat → Nat → Option Nat} {tl : am_H} {N a it ln sz : Nat} {f val : Nat → Int32} {nxt : Nat → Nat → Nat} (hN : 5000 < N) (ho : mcO sz nxt) (hp : mcC V I tl a it ln sz f val nxt) (h4 : V 167 4 = .int 5) (hu : ∀ i j, i < sz → j < sz → I 143 (6 * i + j) = nI (!(eqv val nxt 6 i j)).toNat) : ∀ (m k K : Nat) (g q F : Nat → Int32), k + m = 6 → m < K → (∀ j, j < k → j < (bsK val nxt j).1) → bAr sz (bsK val nxt k) g q → mcF val nxt k F → ∃ g' q' F', mcF val nxt (stp val nxt m k) F' ∧ (∀ j, j < stp val nxt m k → j < (bsK val nxt j).1) ∧ (bsK val nxt (stp val nxt m k)).1 ≤ stp val nxt m k ∧ fg_310_38 N K (.ref 131) (.ref (269 + a)) (.ref 167) (nI (bsK val nxt k).1) (nI k) (fx (vup V 167 3 (.int (nI k))) (iup (iup (iup I 144 g) 145 q) 168 F) L R ++ tl) = some (.inl (none, fx (vup V 167 3 (.int (nI (stp val nxt m k)))) (iup (iup (iup I 144 g') 145 q') 168 F') L R ++ tl)) := by
  have s6 := ho.2.1
  intro m
  induction m with
  | zero =>
    intro k K g q F hk hK hj hA hF
    obtain ⟨K, rfl⟩ : ∃ k, K = k + 1 := ⟨K - 1, by omega⟩
    have bi := bsK_ok (val := val) ho k hj
    have bl := b_le bi
    refine ⟨g, q, F, hF, hj, by show (bsK val nxt k).1 ≤ k; omega, ?_⟩
    rw [fg_310_38]
    exact ev_t (nI_le (by omega) (by omega)) rfl
  | succ m ih =>
    intro k K g q F hk hK hj hA hF
    obtain ⟨K, rfl⟩ : ∃ k, K = k + 1 := ⟨K - 1, by omega⟩
    have bi := bsK_ok (val := val) ho k hj
    have bl := b_le bi
    by_cases c : (bsK val nxt k).1 ≤ k
    · have e : stp val nxt (m + 1) k = k := by rw [stp, if_pos c]
      rw [e]
      refine ⟨g, q, F, hF, hj, c, ?_⟩
      rw [fg_310_38]
      exact ev_t (nI_le c (by omega)) rfl
    · have e : stp val nxt (m + 1) k = stp val nxt m (k + 1) := by rw [stp, if_neg c]
      rw [e]
      have kl : k < (bsK val nxt k).1 := by omega
      have qk := bi.2.1 k kl
      have hp2 : mcC (vup V 167 3 (.int (nI k))) (iup (iup (iup I 144 g) 145 q) 168 F) tl a it ln sz f val nxt := ⟨fun W J L' R' h1 h2 => hp.1 W J L' R' (fun j => (h1 j).trans (vup_na (by omega))) (h2.trans ((iup_na (by omega)).trans ((iup_na (by omega)).trans (iup_na (by omega))))), hp.2⟩
      obtain ⟨⟨x1, x2, x3, x4, x5, x6, p1⟩, hG, -⟩ := mc_get ho hp2 (vup V 167 3 (.int (nI k))) (iup (iup (iup I 144 g) 145 q) 168 F) L R (fun _ => rfl) rfl
      have ap := d_41x (V := vup V 167 3 (.int (nI k))) (I := iup (iup (iup I 144 g) 145 q) 168 F) (L := L) (R := R) (tl := tl) (N := N) (s := k) (by omega) vup_eq ((vup_nj (by decide)).trans h4) (by omega) (val ((bsK val nxt k).2.2 k)) 0
      rw [iup_eq, iup_iup, vup_2] at ap
      obtain ⟨F1, hF1⟩ : ∃ F1, F1 = upd (upd (upd (upd (upd F (5 * k + 2) 0) (5 * k + 3) 0) (5 * k + 4) 0) (5 * k) (val ((bsK val nxt k).2.2 k))) (5 * k + 1) 0 := ⟨_, rfl⟩
      rw [← hF1] at ap
      have f1k : F1 (5 * k) = val ((bsK val nxt k).2.2 k) := by rw [hF1, upd_ne (by omega), upd_eq]
      have f1l : ∀ j, j < 5 * k → F1 j = F j := fun j hj => by rw [hF1, upd_ne (by omega), upd_ne (by omega), upd_ne (by omega), upd_ne (by omega), upd_ne (by omega)]
      obtain ⟨g2, q2, F2, a1, a2, a3, a4⟩ := c_310e (V := vup V 167 3 (.int (nI (k + 1)))) (I := I) (L := L) (R := R) (tl := tl) (N := N) (k := k) (st := bsK val nxt k) (rc := fg_310_38 N K) hN ho ⟨fun W J L' R' h1 h2 => hp.1 W J L' R' (fun j => (h1 j).trans (vup_na (by omega))) h2, hp.2⟩ bi kl vup_eq ((vup_nj (by decide)).trans h4) hu 4 0 N g q F1 (by omega) (by omega) hA (fun d hd => by omega)
      obtain ⟨g', q', F', b1, b2, b3, b4⟩ := ih (k + 1) K g2 q2 F2 (by omega) (by omega) (fun j hj2 => by
        by_cases e : j = k
        · rw [e]; exact kl
        · exact hj j (by omega)) a1 (fun i hi => by
        by_cases e : i = k
        · rw [e]
          exact ⟨(a3 _ (by omega)).trans f1k, fun c hc => a2 c hc⟩
        · refine ⟨by rw [a3 _ (by omega), f1l _ (by omega)]; exact (hF i (by omega)).1, fun c hc => by rw [a3 _ (by omega), f1l _ (by omega)]; exact (hF i (by omega)).2 c hc⟩)
      refine ⟨g', q', F', b1, b2, b3, ?_⟩
      rw [fg_310_38]
      exact ev_f (nI_ge kl (by omega)) (ev_f (nI_ge (b := 6) (by omega) (by decide)) (ev_b (a := Value.ref 145) rfl (ev_b (a := nI ((bsK val nxt k).2.2 k)) ((qa_145 (by omega)).trans (congrArg some (hA.2 k kl))) (ev_i (ev_ok p1) (ev_cI (hG _ qk).1 (ev_i rfl (ev_cI ap (a4.trans b4))))))))
