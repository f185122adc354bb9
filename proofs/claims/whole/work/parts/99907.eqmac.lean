/-! ===== equal(a, b): two machines, the class ===== -/
/-- where a letter leads a pair -/
def mto (n1 n2 : Nat → Nat → Nat) (x c : Nat) : Nat := 6 * n1 (x / 6) c + n2 (x % 6) c
def mst (n1 n2 : Nat → Nat → Nat) (k c : Nat) (st : bS) : bS := if mto n1 n2 (st.2.2 k) c = 0 ∨ ¬ st.2.1 (mto n1 n2 (st.2.2 k) c) = -1 then st else (st.1 + 1, upd st.2.1 (mto n1 n2 (st.2.2 k) c) (nI (4 * st.2.2 k + c)), fun i => if i = st.1 then mto n1 n2 (st.2.2 k) c else st.2.2 i)
def mrw (n1 n2 : Nat → Nat → Nat) (k : Nat) (st : bS) : Nat → bS
  | 0 => st
  | c + 1 => mst n1 n2 k c (mrw n1 n2 k st c)
def mbs (n1 n2 : Nat → Nat → Nat) : Nat → bS
  | 0 => (1, fun _ => -1, fun _ => 0)
  | k + 1 => mrw n1 n2 k (mbs n1 n2 k) 4
/-- the first pair that parts, by its place in the queue -/
def mgo (n1 n2 : Nat → Nat → Nat) (v1 v2 : Nat → Int32) : Nat → Nat → Option Nat
  | 0, _ => none
  | m + 1, k => if (mbs n1 n2 k).1 ≤ k then none else if v1 ((mbs n1 n2 k).2.2 k / 6) = v2 ((mbs n1 n2 k).2.2 k % 6) then mgo n1 n2 v1 v2 m (k + 1) else some k
def scN (g : Nat → Int32) (x : Nat) : Nat := if x = 0 ∨ ¬ g x = -1 then 1 else 0
theorem sc_1 (g : Nat → Int32) (x : Nat) : scN g x ≤ 1 := by unfold scN; split <;> omega
def qInv (z1 z2 : Nat) (st : bS) : Prop := 1 ≤ st.1 ∧ (∀ i, i < st.1 → st.2.2 i / 6 < z1 ∧ st.2.2 i % 6 < z2 ∧ st.2.2 i < 36) ∧ st.2.2 0 = 0 ∧ (∀ j, 1 ≤ j → j < st.1 → st.2.2 j ≠ 0 ∧ ∃ i c, i < j ∧ c < 4 ∧ st.2.1 (st.2.2 j) = nI (4 * st.2.2 i + c)) ∧ (∀ x, x < 36 → st.2.1 x = -1 ∨ ∃ e, e < 144 ∧ st.2.1 x = nI e) ∧ suN (scN st.2.1) 36 = st.1
theorem sc_up {g : Nat → Int32} {to e : Nat} (h0 : to ≠ 0) (h : g to = -1) (he : e < 1000) : ∀ n, suN (scN (upd g to (nI e))) n = suN (scN g) n + (if to < n then 1 else 0) := by
  intro n
  induction n with
  | zero => rfl
  | succ n ih =>
    show suN (scN (upd g to (nI e))) n + scN (upd g to (nI e)) n = suN (scN g) n + scN g n + _
    rw [ih]
    have hA : scN (upd g to (nI e)) to = 1 := by
      unfold scN
      rw [upd_eq, if_pos (.inr (nI_nm1 (by omega)))]
    have hB : scN g to = 0 := by
      unfold scN
      rw [if_neg (fun e => e.elim h0 (fun e => e h))]
    by_cases c : n = to
    · rw [c, hA, hB, if_neg (Nat.lt_irrefl to), if_pos (Nat.lt_succ_self to)]
    · have hC : scN (upd g to (nI e)) n = scN g n := by
        unfold scN
        rw [upd_ne c]
      rw [hC]
      by_cases d : to < n
      · rw [if_pos d, if_pos (show to < n + 1 by omega)]; omega
      · rw [if_neg d, if_neg (show ¬ to < n + 1 by omega)]; rfl
theorem q_le {z1 z2 : Nat} {st : bS} (h : qInv z1 z2 st) : st.1 ≤ 36 := by rw [← h.2.2.2.2.2]; exact su_le (sc_1 _) 36
theorem mto_lt {z1 z2 x c : Nat} {n1 n2 : Nat → Nat → Nat} (h1 : mcO z1 n1) (h2 : mcO z2 n2) (a : x / 6 < z1) (b : x % 6 < z2) (hc : c < 4) : mto n1 n2 x c < 36 ∧ mto n1 n2 x c / 6 = n1 (x / 6) c ∧ mto n1 n2 x c % 6 = n2 (x % 6) c := by
  have a1 := h1.2.2 _ c a hc
  have b1 := h2.2.2 _ c b hc
  have s1 := h1.2.1
  have s2 := h2.2.1
  unfold mto
  omega
theorem mst_ok {z1 z2 k c : Nat} {n1 n2 : Nat → Nat → Nat} {st : bS} (o1 : mcO z1 n1) (o2 : mcO z2 n2) (h : qInv z1 z2 st) (hk : k < st.1) (hc : c < 4) : qInv z1 z2 (mst n1 n2 k c st) ∧ (∀ i, i < st.1 → (mst n1 n2 k c st).2.2 i = st.2.2 i) ∧ st.1 ≤ (mst n1 n2 k c st).1 ∧ (¬ (mto n1 n2 (st.2.2 k) c = 0 ∨ ¬ st.2.1 (mto n1 n2 (st.2.2 k) c) = -1) → st.1 < 36) := by
  obtain ⟨q1, q2, q3⟩ := h.2.1 k hk
  obtain ⟨t1, t2, t3⟩ := mto_lt o1 o2 q1 q2 hc
  have a1 := o1.2.2 _ c q1 hc
  have b1 := o2.2.2 _ c q2 hc
  unfold mst
  by_cases d : mto n1 n2 (st.2.2 k) c = 0 ∨ ¬ st.2.1 (mto n1 n2 (st.2.2 k) c) = -1
  · rw [if_pos d]
    exact ⟨h, fun _ _ => rfl, Nat.le_refl _, fun e => absurd d e⟩
  · rw [if_neg d]
    have d0 : mto n1 n2 (st.2.2 k) c ≠ 0 := fun e => d (.inl e)
    have d1 : st.2.1 (mto n1 n2 (st.2.2 k) c) = -1 := Classical.byContradiction (fun e => d (.inr e))
    obtain ⟨to, hto⟩ : ∃ to, to = mto n1 n2 (st.2.2 k) c := ⟨_, rfl⟩
    rw [← hto] at d0 d1 t1 t2 t3 ⊢
    have su := sc_up (e := 4 * st.2.2 k + c) d0 d1 (by omega) 36
    rw [h.2.2.2.2.2, if_pos t1] at su
    have l1 := su_le (sc_1 (upd st.2.1 to (nI (4 * st.2.2 k + c)))) 36
    have nq : ∀ j, 1 ≤ j → j < st.1 → st.2.2 j ≠ to := fun j j1 j2 e => by
      obtain ⟨-, i, c', i1, c1, e3⟩ := h.2.2.2.1 j j1 j2
      have := h.2.1 i (by omega)
      rw [e, d1] at e3
      exact nI_nm1 (by omega) e3.symm
    refine ⟨⟨by show 1 ≤ st.1 + 1; omega, fun i hi => ?_, ?_, fun j j1 j2 => ?_, fun x hx => ?_, su⟩, fun i hi => ?_, by show st.1 ≤ st.1 + 1; omega, fun _ => by omega⟩
    · show (if i = st.1 then to else st.2.2 i) / 6 < z1 ∧ (if i = st.1 then to else st.2.2 i) % 6 < z2 ∧ (if i = st.1 then to else st.2.2 i) < 36
      have hi : i < st.1 + 1 := hi
      by_cases e : i = st.1
      · rw [if_pos e]; exact ⟨by omega, by omega, t1⟩
      · rw [if_neg e]; exact h.2.1 i (by omega)
    · show (if 0 = st.1 then to else st.2.2 0) = 0
      rw [if_neg (by have := h.1; omega)]
      exact h.2.2.1
    · show (if j = st.1 then to else st.2.2 j) ≠ 0 ∧ ∃ i c', i < j ∧ c' < 4 ∧ upd st.2.1 to (nI (4 * st.2.2 k + c)) (if j = st.1 then to else st.2.2 j) = nI (4 * (if i = st.1 then to else st.2.2 i) + c')
      have j2 : j < st.1 + 1 := j2
      by_cases e : j = st.1
      · rw [if_pos e]
        refine ⟨d0, k, c, by omega, hc, ?_⟩
        rw [upd_eq, if_neg (by omega)]
      · rw [if_neg e]
        obtain ⟨e1, i, c', e2, e3, e4⟩ := h.2.2.2.1 j j1 (by omega)
        refine ⟨e1, i, c', e2, e3, ?_⟩
        rw [upd_ne (nq j j1 (by omega)), if_neg (by omega)]
        exact e4
    · show upd st.2.1 to (nI (4 * st.2.2 k + c)) x = -1 ∨ ∃ e, e < 144 ∧ upd st.2.1 to (nI (4 * st.2.2 k + c)) x = nI e
      by_cases e : x = to
      · rw [e, upd_eq]; exact .inr ⟨_, by omega, rfl⟩
      · rw [upd_ne e]; exact h.2.2.2.2.1 x hx
    · show (if i = st.1 then to else st.2.2 i) = st.2.2 i
      rw [if_neg (by omega)]
theorem mrw_ok {z1 z2 k : Nat} {n1 n2 : Nat → Nat → Nat} {st : bS} (o1 : mcO z1 n1) (o2 : mcO z2 n2) (h : qInv z1 z2 st) (hk : k < st.1) : ∀ c, c ≤ 4 → qInv z1 z2 (mrw n1 n2 k st c) ∧ (∀ i, i < st.1 → (mrw n1 n2 k st c).2.2 i = st.2.2 i) ∧ st.1 ≤ (mrw n1 n2 k st c).1 := by
  intro c
  induction c with
  | zero => intro _; exact ⟨h, fun _ _ => rfl, Nat.le_refl _⟩
  | succ c ih =>
    intro hc
    obtain ⟨a1, a2, a3⟩ := ih (by omega)
    obtain ⟨b1, b2, b3, -⟩ := mst_ok o1 o2 a1 (show k < (mrw n1 n2 k st c).1 by omega) (show c < 4 by omega)
    exact ⟨b1, fun i hi => (b2 i (by omega)).trans (a2 i hi), Nat.le_trans a3 b3⟩
theorem mbs_ok {z1 z2 : Nat} {n1 n2 : Nat → Nat → Nat} (o1 : mcO z1 n1) (o2 : mcO z2 n2) : ∀ k, (∀ j, j < k → j < (mbs n1 n2 j).1) → qInv z1 z2 (mbs n1 n2 k) := by
  intro k
  induction k with
  | zero =>
    intro _
    refine ⟨Nat.le_refl _, fun i hi => ?_, rfl, fun j j1 j2 => ?_, fun x _ => .inl rfl, by show suN (scN (fun _ => -1)) 36 = 1; decide⟩
    · show 0 / 6 < z1 ∧ 0 % 6 < z2 ∧ 0 < 36
      have := o1.1
      have := o2.1
      omega
    · have j2 : j < 1 := j2
      omega
  | succ k ih =>
    intro h
    exact (mrw_ok o1 o2 (ih (fun j hj => h j (by omega))) (h k (by omega)) 4 (Nat.le_refl _)).1
/-- the queue and where each came from, as arrays hold them -/
def qAr (st : bS) (g q : Nat → Int32) : Prop := (∀ x, x < 36 → g x = st.2.1 x) ∧ ∀ i, i < st.1 → q i = nI (st.2.2 i)
set_option maxRecDepth 100000 in
set_option maxHeartbeats 1600000 in
theorem c_288e {V : Nat → Nat → Value} {I : Nat → Nat → Int32} {L : Nat → Nat → Int64} {R : Nat → Nat → Option Nat} {tl : am_H} {N a it ln z1 a' it' ln' z2 k : Nat} {f f' v1 v2 : Nat → Int32} {n1 n2 : Nat → Nat → Nat} {st : bS} {X : Value} {rc : Value → Value → Value → Value → Int32 → Int32 → am_H → Option am_O} (o1 : mcO z1 n1) (o2 : mcO z2 n2) (hp : mcC V I tl a it ln z1 f v1 n1) (hp' : mcC V I tl a' it' ln' z2 f' v2 n2) (hi : qInv z1 z2 st) (hk : k < st.1) : ∀ (m c K : Nat) (g q : Nat → Int32), c + m = 4 → m < K → qAr (mrw n1 n2 k st c) g q → ∃ g' q', qAr (mrw n1 n2 k st 4) g' q' ∧ fg_288_96 N rc K (.ref 131) (.ref (269 + a)) (.ref (269 + a')) X (nI (mrw n1 n2 k st c).1) (nI k) (nI (st.2.2 k / 6)) (nI (st.2.2 k % 6)) (nI c) (fx V (iup (iup I 145 q) 146 g) L R ++ tl) = rc (.ref 131) (.ref (269 + a)) (.ref (269 + a')) X (nI (mrw n1 n2 k st 4).1) (nI (k + 1)) (fx V (iup (iup I 145 q') 146 g') L R ++ tl) := by
  have s1 := o1.2.1
  have s2 := o2.2.1
  obtain ⟨k1, k2, k3⟩ := hi.2.1 k hk
  intro m
  induction m with
  | zero =>
    intro c K g q hc hK hA
    obtain ⟨K, rfl⟩ : ∃ k, K = k + 1 := ⟨K - 1, by omega⟩
    obtain rfl : c = 4 := by omega
    refine ⟨g, q, hA, ?_⟩
    rw [fg_288_96]
    dsimp only
    rw [nI_1]
    exact ev_t (by decide) rfl
  | succ m ih =>
    intro c K g q hc hK hA
    obtain ⟨K, rfl⟩ : ∃ k, K = k + 1 := ⟨K - 1, by omega⟩
    have c4 : c < 4 := by omega
    obtain ⟨a1, a2, a3⟩ := mrw_ok o1 o2 hi hk c (by omega)
    have kl : k < (mrw n1 n2 k st c).1 := by omega
    have qk := a2 k hk
    obtain ⟨b1, -, -, b4⟩ := mst_ok o1 o2 a1 kl c4
    have l0 := q_le a1
    have l1 := q_le b1
    rw [qk] at b4
    obtain ⟨t1, t2, t3⟩ := mto_lt o1 o2 k1 k2 c4
    obtain ⟨to, hto⟩ : ∃ to, to = mto n1 n2 (st.2.2 k) c := ⟨_, rfl⟩
    have es : mrw n1 n2 k st (c + 1) = mst n1 n2 k c (mrw n1 n2 k st c) := rfl
    have e6 : (6 : Int32) * nI (n1 (st.2.2 k / 6) c) + nI (n2 (st.2.2 k % 6) c) = nI to := by rw [hto]; exact nI_add' _ 6 _
    have hpp : mcC V (iup (iup I 145 q) 146 g) tl a it ln z1 f v1 n1 := ⟨fun W J L' R' h1 h2 => hp.1 W J L' R' h1 (h2.trans ((iup_na (by omega)).trans (iup_na (by omega)))), hp.2⟩
    have hpp' : mcC V (iup (iup I 145 q) 146 g) tl a' it' ln' z2 f' v2 n2 := ⟨fun W J L' R' h1 h2 => hp'.1 W J L' R' h1 (h2.trans ((iup_na (by omega)).trans (iup_na (by omega)))), hp'.2⟩
    obtain ⟨⟨x1, x2, x3, x4, x5, x6, p1⟩, hG, -⟩ := mc_get o1 hpp V (iup (iup I 145 q) 146 g) L R (fun _ => rfl) rfl
    obtain ⟨⟨y1, y2, y3, y4, y5, y6, p2⟩, hG', -⟩ := mc_get o2 hpp' V (iup (iup I 145 q) 146 g) L R (fun _ => rfl) rfl
    rw [← hto] at b4 t1
    have rg : am_pA 0 (.ref 146) (nI to) (fx V (iup (iup I 145 q) 146 g) L R ++ tl) = some ((mrw n1 n2 k st c).2.1 to) := (qa_146 t1).trans (congrArg some (hA.1 to t1))
    have rq : am_pA 0 (.ref 145) (nI k) (fx V (iup (iup I 145 q) 146 g) L R ++ tl) = some (nI (st.2.2 k)) := (qa_145 (by omega)).trans (congrArg some ((hA.2 k kl).trans (by rw [qk])))
    by_cases d : to = 0 ∨ ¬ (mrw n1 n2 k st c).2.1 to = -1
    · have em : mst n1 n2 k c (mrw n1 n2 k st c) = mrw n1 n2 k st c := by unfold mst; rw [qk, ← hto, if_pos d]
      obtain ⟨g', q', h1, h2⟩ := ih (c + 1) K g q (by omega) (by omega) (by rw [es, em]; exact hA)
      rw [es, em] at h2
      refine ⟨g', q', h1, ?_⟩
      have nx' : fg_288_184 N rc (fg_288_96 N rc K) (.ref 131) (.ref (269 + a)) (.ref (269 + a')) X (nI (mrw n1 n2 k st c).1) (nI k) (nI (st.2.2 k / 6)) (nI (st.2.2 k % 6)) (nI c) (fx V (iup (iup I 145 q) 146 g) L R ++ tl) = rc (.ref 131) (.ref (269 + a)) (.ref (269 + a')) X (nI (mrw n1 n2 k st 4).1) (nI (k + 1)) (fx V (iup (iup I 145 q') 146 g') L R ++ tl) := by
        unfold fg_288_184
        rw [nI_1]
        exact h2
      rw [fg_288_96]
      dsimp only
      rw [show (1 : Int32) + nI c = nI (1 + c) from nI_add 1 c]
      refine ev_f (nI_ge (b := 4) c4 (by decide)) (ev_i (ev_ok p1) (ev_cI ((hG _ k1).2 c c4) (ev_i (ev_ok p2) (ev_cI ((hG' _ k2).2 c c4) ?_))))
      rw [e6]
      by_cases d0 : to = 0
      · exact ev_t (by rw [d0]; rfl) nx'
      · obtain ⟨e, e1, e2⟩ := (a1.2.2.2.2.1 to t1).resolve_left (d.resolve_left d0)
        rw [e2] at rg
        exact ev_f (fun e => d0 ((nI_eq (b := 0) (by omega) (by omega)).mp e)) (ev_b (a := Value.ref 146) rfl (ev_b rg (ev_t (nI_le (a := 0) (by omega) (by omega)) nx')))
    · have d0 : ¬ to = 0 := fun e => d (.inl e)
      have d1 : (mrw n1 n2 k st c).2.1 to = -1 := Classical.byContradiction (fun e => d (.inr e))
      have lt := b4 d
      have em : mst n1 n2 k c (mrw n1 n2 k st c) = ((mrw n1 n2 k st c).1 + 1, upd (mrw n1 n2 k st c).2.1 to (nI (4 * st.2.2 k + c)), fun i => if i = (mrw n1 n2 k st c).1 then to else (mrw n1 n2 k st c).2.2 i) := by unfold mst; rw [qk, ← hto, if_neg d]
      obtain ⟨g', q', h1, h2⟩ := ih (c + 1) K (upd g to (nI (4 * st.2.2 k + c))) (upd q (mrw n1 n2 k st c).1 (nI to)) (by omega) (by omega) (by
        rw [es, em]
        refine ⟨fun x hx => ?_, fun i hi => ?_⟩
        · show upd g to _ x = upd (mrw n1 n2 k st c).2.1 to _ x
          by_cases e : x = to
          · rw [e, upd_eq, upd_eq]
          · rw [upd_ne e, upd_ne e]; exact hA.1 x hx
        · show upd q _ _ i = nI (if i = (mrw n1 n2 k st c).1 then to else (mrw n1 n2 k st c).2.2 i)
          have hi : i < (mrw n1 n2 k st c).1 + 1 := hi
          by_cases e : i = (mrw n1 n2 k st c).1
          · rw [e, upd_eq, if_pos rfl]
          · rw [upd_ne e, if_neg e]; exact hA.2 i (by omega))
      have e1 : (mrw n1 n2 k st (c + 1)).1 = (mrw n1 n2 k st c).1 + 1 := by rw [es, em]
      rw [e1] at h2
      refine ⟨g', q', h1, ?_⟩
      rw [d1] at rg
      rw [fg_288_96]
      dsimp only
      rw [show (1 : Int32) + nI c = nI (1 + c) from nI_add 1 c]
      refine ev_f (nI_ge (b := 4) c4 (by decide)) (ev_i (ev_ok p1) (ev_cI ((hG _ k1).2 c c4) (ev_i (ev_ok p2) (ev_cI ((hG' _ k2).2 c c4) ?_))))
      rw [e6]
      refine ev_f (fun e => d0 ((nI_eq (b := 0) (by omega) (by omega)).mp e)) (ev_b (a := Value.ref 146) rfl (ev_b rg (ev_f (by decide) (ev_b (a := Value.ref 145) rfl (ev_b (a := nI 36) rfl (ev_f (nI_ge lt (by decide)) (ev_b (a := Value.ref 146) rfl (ev_b (a := Value.ref 145) rfl (ev_b rq ?_)))))))))
      rw [show (4 : Int32) * nI (st.2.2 k) + nI c = nI (4 * st.2.2 k + c) from nI_add' _ 4 _]
      refine ev_b (a := fx V (iup (iup I 145 q) 146 (upd g to (nI (4 * st.2.2 k + c)))) L R ++ tl) ((qs_146 t1).trans (by rw [iup_eq, iup_iup])) (ev_b (a := Value.ref 145) rfl ?_)
      refine ev_b (a := fx V (iup (iup I 145 (upd q (mrw n1 n2 k st c).1 (nI to))) 146 (upd g to (nI (4 * st.2.2 k + c)))) L R ++ tl) (ev_s (f := q) (n := 36) rfl (am_inb_n lt (by omega)) rfl (by rw [nI_clamp (by omega)]; rfl)) ?_
      unfold fg_288_184
      rw [nI_1, nI_1]
      exact h2
