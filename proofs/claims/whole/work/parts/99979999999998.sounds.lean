/-! ===== read: what is read is sound ===== -/
def itC (x : Nat × Int32) : Prop := x.1 ≤ 18 ∧ (x.1 = 0 → two x.2) ∧ (x.1 ≠ 0 → x.1 < 17 → x.2 = 0) ∧ (17 ≤ x.1 → ∃ d, d < 100 ∧ x.2 = nI d)
theorem sMt_r {α β : Type} {r : Nat ⊕ (Nat × α)} {g : Nat → α → Nat ⊕ β} {b : β} (h : sMt r g = .inr b) : ∃ a, r = .inr a ∧ g a.1 a.2 = .inr b := by
  cases r with
  | inl e => cases h
  | inr a => exact ⟨a, rfl, h⟩
theorem inT_ok {T : Nat → Nat} {p : Nat} {a : Nat × (Nat × Int32)} (hT : ∀ p, T p < 256) (h : inT T p = .inr a) : itC a.2 := by
  unfold inT at h
  by_cases c : isB T p = true
  · rw [if_pos c] at h
    obtain ⟨b, e1, e2⟩ := sMt_r h
    have := csT_two e1
    rw [← Sum.inr.inj e2]
    exact ⟨by show (0 : Nat) ≤ 18; omega, fun _ => this, fun z => absurd rfl z, fun z => absurd z (by show ¬ 17 ≤ 0; omega)⟩
  · rw [if_neg c] at h
    obtain ⟨b1, b17⟩ := csg_b (T p) (hT p)
    by_cases d : csg (T p) ≤ 16
    · rw [if_pos d] at h
      rw [← Sum.inr.inj h]
      exact ⟨by show csg (T p) ≤ 18; omega, fun z => absurd z (by show ¬ csg (T p) = 0; omega), fun _ _ => rfl, fun z => absurd z (by show ¬ 17 ≤ csg (T p); omega)⟩
    · rw [if_neg d] at h
      by_cases j : T p = 106 ∨ T p = 98
      · rw [if_pos j] at h
        obtain ⟨b, e1, e2⟩ := sMt_r h
        have hb := dgS_b e1
        rw [← Sum.inr.inj e2]
        obtain ⟨s, es⟩ : ∃ s : Nat, s = if T p = 106 then 17 else 18 := ⟨_, rfl⟩
        have hs : s = 17 ∨ s = 18 := by
          by_cases z : T p = 106
          · rw [if_pos z] at es; exact .inl es
          · rw [if_neg z] at es; exact .inr es
        rw [← es]
        exact ⟨by show s ≤ 18; omega, fun z => absurd z (by show ¬ s = 0; omega), fun _ z => absurd z (by show ¬ s < 17; omega), fun _ => ⟨b.2, hb, rfl⟩⟩
      · rw [if_neg j] at h
        cases h
theorem mem_ap {α : Type} {P : α → Prop} {Q : List α} {x : α} (h : ∀ y, y ∈ Q → P y) (hx : P x) : ∀ y, y ∈ Q ++ [x] → P y := fun y hy => (List.mem_append.mp hy).elim (h y) (fun z => by rw [List.mem_singleton.mp z]; exact hx)
theorem cdSq_ok {T : Nat → Nat} {m : Nat} (hT : ∀ p, T p < 256) : ∀ (f p : Nat) (Q : xT) (B : List Nat) (a : xT × List Nat), (∀ x, x ∈ Q → itC x) → Q.length + f ≤ 60 → B.length = Q.length → cdSq T m f p Q B = .inr a → (∀ x, x ∈ a.1 → itC x) ∧ 1 ≤ a.1.length ∧ a.1.length ≤ 60 ∧ a.2.length = a.1.length := by
  intro f
  induction f with
  | zero => intro p Q B a _ _ _ h; cases h
  | succ f ih =>
    intro p Q B a hQ hf hB h
    rw [cdSq] at h
    obtain ⟨b, e1, e2⟩ := sMt_r h
    have hx := mem_ap hQ (inT_ok hT e1)
    have l2 : (Q ++ [b.2]).length = Q.length + 1 := by rw [List.length_append]; rfl
    have lb : (B ++ [p]).length = (Q ++ [b.2]).length := by rw [l2, List.length_append, hB]; rfl
    by_cases c : b.1 < m
    · rw [if_pos c] at e2
      by_cases d : T b.1 = 32
      · rw [if_pos d] at e2
        exact ih (b.1 + 1) _ _ a hx (by omega) lb e2
      · rw [if_neg d] at e2
        cases e2
    · rw [if_neg c] at e2
      rw [← Sum.inr.inj e2]
      exact ⟨hx, by show 1 ≤ (Q ++ [b.2]).length; omega, by show (Q ++ [b.2]).length ≤ 60; omega, lb⟩
def codeP (T : Nat → Nat) (m : Nat) : Nat ⊕ xT := match cdSq T m 60 0 [] [] with
  | .inl e => .inl e
  | .inr a => match cdX (tI a.1) a.1.length 0 g00 with
    | .inl k => .inl (a.2.getD k 0)
    | .inr _ => .inr a.1
theorem tI_ex {Q : xT} {k : Nat} (hk : k < Q.length) : ∃ x, x ∈ Q ∧ srt (tI Q) k = nI x.1 ∧ vlu (tI Q) k = x.2 := by
  have h : Q[k]? = some Q[k] := List.getElem?_eq_getElem hk
  have e : (tI Q)[k]? = some (nI Q[k].1, Q[k].2) := by
    unfold tI
    rw [List.getElem?_map, h]
    rfl
  exact ⟨Q[k], List.getElem_mem hk, lay2_x _ k _ e⟩
theorem code_okI {Q : xT} (h : ∀ x, x ∈ Q → itC x) : okI (tI Q) := by
  intro k hk
  rw [tI_len] at hk
  obtain ⟨x, hx, e1, e2⟩ := tI_ex hk
  obtain ⟨x1, x2, x3, x4⟩ := h x hx
  rw [e1, e2, sN_nI (by omega)]
  refine ⟨rfl, x1, fun z => ?_⟩
  obtain ⟨d, d1, d2⟩ := x4 z
  rw [d2, sN_nI (by omega)]
  exact ⟨rfl, by omega⟩
theorem code_gd {Q : xT} {g : Nat → Option Nat} (h : ∀ x, x ∈ Q → itC x) (l1 : 1 ≤ Q.length) (l60 : Q.length ≤ 60) (hg : cdX (tI Q) Q.length 0 g00 = .inr g) : gdP 1 0 (tI Q) := by
  refine ⟨by omega, by rw [tI_len]; exact l60, fun e => absurd e (by decide), fun _ => ⟨rfl, by rw [tI_len]; exact l1, code_okI h, fun k hk => ?_, fun k hk z => ?_, g, by rw [tI_len]; exact hg⟩, fun e => absurd e (by decide), fun e => absurd e (by decide)⟩
  · rw [tI_len] at hk
    obtain ⟨x, hx, e1, e2⟩ := tI_ex hk
    obtain ⟨x1, x2, x3, x4⟩ := h x hx
    rw [e1, e2, sN_nI (by omega)]
    exact ⟨x2, x3⟩
  · rw [tI_len] at hk
    obtain ⟨x, hx, e1, e2⟩ := tI_ex hk
    obtain ⟨x1, x2, x3, x4⟩ := h x hx
    rw [e1, sN_nI (by omega)] at z
    obtain ⟨d, d1, d2⟩ := x4 z
    rw [e2, d2, sN_nI (by omega)]
    omega
/-! nets -/
def itN (ln : Nat) (x : Nat × Int32) : Prop := ∃ j, x.1 < j ∧ j < ln ∧ x.2 = nI j
theorem ntS_ok {T : Nat → Nat} {m ln : Nat} : ∀ (f p : Nat) (Q P : xT), (∀ x, x ∈ Q → itN ln x) → Q.length + f ≤ 40 → ntS T m ln f p Q = .inr P → (∀ x, x ∈ P → itN ln x) ∧ P.length ≤ 40 := by
  intro f
  induction f with
  | zero => intro p Q P _ _ h; cases h
  | succ f ih =>
    intro p Q P hQ hf h
    rw [ntS] at h
    obtain ⟨b, e1, e2⟩ := sMt_r h
    have hb : itN ln b.2 := by
      unfold prT at e1
      by_cases c : 48 ≤ T p ∧ T p < 48 + ln
      · rw [if_pos c] at e1
        by_cases d : T p < T (p + 1) ∧ T (p + 1) < 48 + ln
        · rw [if_pos d] at e1
          rw [← Sum.inr.inj e1]
          exact ⟨T (p + 1) - 48, by show T p - 48 < T (p + 1) - 48; omega, by omega, rfl⟩
        · rw [if_neg d] at e1
          cases e1
      · rw [if_neg c] at e1
        cases e1
    have hx := mem_ap hQ hb
    have l2 : (Q ++ [b.2]).length = Q.length + 1 := by rw [List.length_append]; rfl
    by_cases c : b.1 < m
    · rw [if_pos c] at e2
      by_cases d : T b.1 = 44
      · rw [if_pos d] at e2
        exact ih (b.1 + 1) _ P hx (by omega) e2
      · rw [if_neg d] at e2
        cases e2
    · rw [if_neg c] at e2
      rw [← Sum.inr.inj e2]
      exact ⟨hx, by omega⟩
theorem net_gd {T : Nat → Nat} {m : Nat} {P : xT} (h : netP T m = .inr P) : gdP 3 (T 0 - 48) (tI P) := by
  unfold netP at h
  by_cases c : 50 ≤ T 0 ∧ T 0 ≤ 56
  · rw [if_pos c] at h
    have key : (∀ x, x ∈ P → itN (T 0 - 48) x) ∧ P.length ≤ 40 := by
      by_cases d : T 1 = 58
      · rw [if_pos d] at h
        by_cases e : 2 < m
        · rw [if_pos e] at h
          exact ntS_ok 40 2 [] P (fun x hx => by cases hx) (by show 0 + 40 ≤ 40; omega) h
        · rw [if_neg e] at h
          rw [← Sum.inr.inj h]
          exact ⟨fun x hx => (by cases hx), Nat.zero_le _⟩
      · rw [if_neg d] at h
        cases h
    refine ⟨by omega, by rw [tI_len]; omega, fun e => absurd e (by decide), fun e => absurd e (by decide), fun e => absurd e (by decide), fun _ => ⟨by omega, by omega, by rw [tI_len]; exact key.2, fun k hk => ?_⟩⟩
    rw [tI_len] at hk
    obtain ⟨x, hx, e1, e2⟩ := tI_ex hk
    obtain ⟨j, j1, j2, j3⟩ := key.1 x hx
    exact ⟨x.1, j, j1, j2, e1, by rw [e2, j3]⟩
  · rw [if_neg c] at h
    cases h
/-! machines -/
def itM (T : Nat → Nat) (x : Int32 × Nat) : Prop := two x.1 ∧ ∀ c, c < 4 → dgB (T (x.2 + c)) = true
theorem eg4_ok {T : Nat → Nat} : ∀ (n b : Nat) (a : Nat × Unit), eg4 T n b = .inr a → a.1 = b + n ∧ ∀ c, c < n → dgB (T (b + c)) = true := by
  intro n
  induction n with
  | zero =>
    intro b a h
    rw [← Sum.inr.inj h]
    exact ⟨rfl, fun c hc => absurd hc (by omega)⟩
  | succ n ih =>
    intro b a h
    rw [eg4] at h
    by_cases d : dgB (T b) = true
    · rw [if_pos d] at h
      obtain ⟨h1, h2⟩ := ih (b + 1) a h
      refine ⟨by omega, fun c hc => ?_⟩
      by_cases z : c = 0
      · rw [z]; exact d
      · have := h2 (c - 1) (by omega)
        rw [show b + 1 + (c - 1) = b + c by omega] at this
        exact this
    · rw [if_neg d] at h
      cases h
theorem mcTx_ok {T : Nat → Nat} {p : Nat} {a : Nat × (Int32 × Nat)} (h : mcTx T p = .inr a) : itM T a.2 := by
  unfold mcTx at h
  obtain ⟨b, e1, e2⟩ := sMt_r h
  have hb := csT_two e1
  by_cases c : T b.1 = 58
  · rw [if_pos c] at e2
    obtain ⟨d, e3, e4⟩ := sMt_r e2
    obtain ⟨h1, h2⟩ := eg4_ok 4 (b.1 + 1) d e3
    rw [← Sum.inr.inj e4]
    exact ⟨hb, h2⟩
  · rw [if_neg c] at e2
    cases e2
theorem mcSq_ok {T : Nat → Nat} {m : Nat} : ∀ (f p : Nat) (Q P : xM), (∀ x, x ∈ Q → itM T x) → mcSq T m f p Q = .inr P → ∀ x, x ∈ P → itM T x := by
  intro f
  induction f with
  | zero => intro p Q P _ h; cases h
  | succ f ih =>
    intro p Q P hQ h
    rw [mcSq] at h
    obtain ⟨b, e1, e2⟩ := sMt_r h
    have hx := mem_ap hQ (mcTx_ok e1)
    by_cases c : b.1 < m
    · rw [if_pos c] at e2
      by_cases d : T b.1 = 59
      · rw [if_pos d] at e2
        exact ih (b.1 + 1) _ P hx e2
      · rw [if_neg d] at e2
        cases e2
    · rw [if_neg c] at e2
      rw [← Sum.inr.inj e2]
      exact hx
def machP (T : Nat → Nat) (m : Nat) : Nat ⊕ xM := match mcSq T m 6 0 [] with
  | .inl e => .inl e
  | .inr Q => match lstE T Q.length Q (4 * Q.length) 0 with
    | some e => .inl e
    | none => .inr Q
theorem lstE_n {T : Nat → Nat} {sz : Nat} {Q : xM} : ∀ (n k : Nat), lstE T sz Q n k = none → ∀ j, k ≤ j → j < k + n → T (plM Q j) - 48 < sz := by
  intro n
  induction n with
  | zero => intro k _ j h1 h2; omega
  | succ n ih =>
    intro k h j h1 h2
    rw [lstE] at h
    by_cases c : T (plM Q k) - 48 < sz
    · rw [if_pos c] at h
      by_cases z : j = k
      · rw [z]; exact c
      · exact ih (k + 1) h j (by omega) (by omega)
    · rw [if_neg c] at h
      cases h
theorem vsum_d {T : Nat → Nat} {b : Nat} : ∀ c, c < 4 → vsum T b 4 / 8 ^ c % 8 = (T (b + c) - 48) % 8 := by
  intro c hc
  have h0 : (T b - 48) % 8 < 8 := Nat.mod_lt _ (by omega)
  have h1 : (T (b + 1) - 48) % 8 < 8 := Nat.mod_lt _ (by omega)
  have h2 : (T (b + 2) - 48) % 8 < 8 := Nat.mod_lt _ (by omega)
  have h3 : (T (b + 3) - 48) % 8 < 8 := Nat.mod_lt _ (by omega)
  have e : vsum T b 4 = 0 + (T b - 48) % 8 * 1 + (T (b + 1) - 48) % 8 * 8 + (T (b + 2) - 48) % 8 * 64 + (T (b + 3) - 48) % 8 * 512 := rfl
  rw [e]
  rcases (by omega : c = 0 ∨ c = 1 ∨ c = 2 ∨ c = 3) with rfl | rfl | rfl | rfl
  · show (0 + (T b - 48) % 8 * 1 + (T (b + 1) - 48) % 8 * 8 + (T (b + 2) - 48) % 8 * 64 + (T (b + 3) - 48) % 8 * 512) / 1 % 8 = (T b - 48) % 8
    rw [Nat.div_one]
    generalize (T b - 48) % 8 = a0 at *
    omega
  · rw [show (8 : Nat) ^ 1 = 8 from rfl]
    omega
  · rw [show (8 : Nat) ^ 2 = 64 from rfl]
    omega
  · rw [show (8 : Nat) ^ 3 = 512 from rfl]
    omega
theorem mI_at {T : Nat → Nat} {Q : xM} {k : Nat} (hk : k < Q.length) : ∃ x, x ∈ Q ∧ Q.getD k (0, 0) = x ∧ srt (mIx T Q) k = x.1 ∧ vlu (mIx T Q) k = nI (vsum T x.2 4) := by
  have h : Q[k]? = some Q[k] := List.getElem?_eq_getElem hk
  have e : (mIx T Q)[k]? = some (Q[k].1, nI (vsum T Q[k].2 4)) := by
    unfold mIx
    rw [List.getElem?_map, h]
    rfl
  have g : Q.getD k (0, 0) = Q[k] := by
    rw [List.getD_eq_getElem?_getD, h]
    rfl
  exact ⟨Q[k], List.getElem_mem hk, g, lay2_x _ k _ e⟩
/-- a machine without lost edges: each digit is below eight -/
theorem mach_e {T : Nat → Nat} {Q : xM} (hQ : Q.length ≤ 6) (hn : lstE T Q.length Q (4 * Q.length) 0 = none) {k c : Nat} (hk : k < Q.length) (hc : c < 4) : T ((Q.getD k (0, 0)).2 + c) - 48 < Q.length := by
  have := lstE_n _ _ hn (4 * k + c) (by omega) (by omega)
  unfold plM at this
  rw [show (4 * k + c) / 4 = k by omega, show (4 * k + c) % 4 = c by omega] at this
  exact this
theorem mach_gd {T : Nat → Nat} {Q : xM} (h : ∀ x, x ∈ Q → itM T x) (l1 : 1 ≤ Q.length) (l6 : Q.length ≤ 6) (hn : lstE T Q.length Q (4 * Q.length) 0 = none) : gdP 2 0 (mIx T Q) := by
  have lm : (mIx T Q).length = Q.length := List.length_map ..
  refine ⟨by omega, by omega, fun e => absurd e (by decide), fun e => absurd e (by decide), fun _ => ⟨rfl, by omega, by omega, fun k hk => ?_⟩, fun e => absurd e (by decide)⟩
  rw [lm] at hk ⊢
  obtain ⟨x, hx, g, e1, e2⟩ := mI_at (T := T) hk
  refine ⟨by rw [e1]; exact (h x hx).1, vsum T x.2 4, vsum_b 4 (by omega), e2, fun c hc => ?_⟩
  have := mach_e l6 hn hk hc
  rw [g] at this
  rw [vsum_d c hc, Nat.mod_eq_of_lt (by omega)]
  exact this
