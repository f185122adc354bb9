/-! ===== what an edit or a pair makes is a good program ===== -/
theorem gS2_s {kd : Nat} {Q X : xI} (h : gS2 kd Q = some X) : X = Q ∧ sndB kd Q = true := by
  unfold gS2 at h
  by_cases c : sndB kd Q = true
  · rw [if_pos c] at h; exact ⟨(Option.some.inj h).symm, c⟩
  · rw [if_neg c] at h; exact absurd h (by simp)
theorem mem_at {P : xI} {y : Int32 × Int32} : y ∈ P ↔ ∃ k, k < P.length ∧ y = (srt P k, vlu P k) := by
  constructor
  · intro h
    obtain ⟨k, hk⟩ := List.mem_iff_getElem?.mp h
    have l : k < P.length := (List.getElem?_eq_some_iff.mp hk).1
    rw [srt_at l] at hk
    exact ⟨k, l, (Option.some.inj hk).symm⟩
  · rintro ⟨k, hk, rfl⟩
    exact List.mem_of_getElem? (srt_at hk)
/-- a node's sort and number -/
def gl0 (y : Int32 × Int32) : Prop := y.1 = nI (sN y.1) ∧ sN y.1 ≤ 20 ∧ (sN y.1 = 0 → two y.2) ∧ (sN y.1 ≠ 0 → y.2 = 0)
theorem gd0 {Q : xI} (h : ∀ y, y ∈ Q → gl0 y) (hs : sndB 0 Q = true) : gdP 0 0 Q := by
  have et : tI (uTx Q) = Q := uTx_t (fun k hk => (h _ (mem_at.mpr ⟨k, hk, rfl⟩)).1)
  have mm : ∀ x, x ∈ uTx Q → ∃ y, y ∈ Q ∧ x = (sN y.1, y.2) := fun x hx => by
    obtain ⟨y, h1, h2⟩ := List.mem_map.mp hx
    exact ⟨y, h1, h2.symm⟩
  have h20 : ∀ x, x ∈ uTx Q → x.1 ≤ 20 := fun x hx => by obtain ⟨y, h1, rfl⟩ := mm x hx; exact (h y h1).2.1
  have hs' := hs
  rw [← et, snd_0 h20] at hs'
  refine ⟨by omega, by rw [← uTx_len]; exact hs'.1, fun _ => ⟨rfl, ⟨hs'.2, fun x hx => ?_⟩, et⟩, fun e => absurd e (by decide), fun e => absurd e (by decide), fun e => absurd e (by decide)⟩
  obtain ⟨y, h1, rfl⟩ := mm x hx
  exact (h y h1).2.2
theorem gd0_gl {ln : Nat} {P : xI} (hg : gdP 0 ln P) : ∀ y, y ∈ P → gl0 y := fun y hy => by
  obtain ⟨-, ho, et⟩ := hg.2.2.1 rfl
  obtain ⟨k, hk, rfl⟩ := mem_at.mp hy
  have hk' : k < (uTx P).length := by rw [uTx_len]; exact hk
  have e1 := (srt_tI hk').1
  rw [et] at e1
  have x20 := (nd_at ho hk').1
  have vv := ho.2 _ (List.mem_of_getElem? (xS_at hk'))
  have s1 := uTx_s (P := P) (k := k)
  rw [s1.1, s1.2] at vv
  rw [s1.1] at e1 x20
  exact ⟨e1, x20, vv.1, vv.2⟩
/-- an instruction's number -/
def v1 (y : Int32 × Int32) : Prop := (sN y.1 = 0 → two y.2) ∧ (sN y.1 ≠ 0 → sN y.1 < 17 → y.2 = 0)
theorem gd1 {Q : xI} (hI : okI Q) (hv : ∀ y, y ∈ Q → v1 y) (hs : sndB 1 Q = true) : gdP 1 0 Q := by
  obtain ⟨⟨s1, s2⟩, s3⟩ := snd_1.mp hs
  cases e : cdX Q Q.length 0 g00 with
  | inl y => rw [e] at s3; exact absurd s3 (by simp)
  | inr g =>
    obtain ⟨-, -, z3, -⟩ := cdX_z s1 e
    refine ⟨by omega, s2, fun e => absurd e (by decide), fun _ => ⟨rfl, s1, hI, fun k hk => hv _ (mem_at.mpr ⟨k, hk, rfl⟩), fun k hk h17 => ?_, g, e⟩, fun e => absurd e (by decide), fun e => absurd e (by decide)⟩
    obtain ⟨h, -, -, -, x4⟩ := z3 k hk
    have := (x4 _ (.inr ⟨h17, rfl⟩)).1
    omega
theorem okI_m {Q : xI} : okI Q ↔ ∀ y, y ∈ Q → y.1 = nI (sN y.1) ∧ sN y.1 ≤ 18 ∧ (17 ≤ sN y.1 → y.2 = nI (sN y.2) ∧ sN y.2 ≤ 200) := by
  constructor
  · intro h y hy
    obtain ⟨k, hk, rfl⟩ := mem_at.mp hy
    exact h k hk
  · intro h k hk
    exact h _ (mem_at.mpr ⟨k, hk, rfl⟩)
/-- a comparator -/
def n1 (ln : Nat) (y : Int32 × Int32) : Prop := ∃ i j, i < j ∧ j < ln ∧ y.1 = nI i ∧ y.2 = nI j
theorem gd3 {ln : Nat} {Q : xI} (h2 : 2 ≤ ln) (h8 : ln ≤ 8) (hl : Q.length ≤ 40) (h : ∀ y, y ∈ Q → n1 ln y) : gdP 3 ln Q := ⟨by omega, by omega, fun e => absurd e (by decide), fun e => absurd e (by decide), fun e => absurd e (by decide), fun _ => ⟨h2, h8, hl, fun k hk => h _ (mem_at.mpr ⟨k, hk, rfl⟩)⟩⟩
theorem cmp_ok : ∀ ln, ln < 9 → ∀ y, y < 28 → y < acr ln → (cmpN ln 8 0 y).1 < (cmpN ln 8 0 y).2 ∧ (cmpN ln 8 0 y).2 < ln := by decide +kernel
theorem cmp_n1 {ln y : Nat} (h8 : ln ≤ 8) (hy : y < acr ln) : n1 ln (cmpI ln y) := by
  have a := acr_b ln h8
  have := cmp_ok ln (by omega) y (by omega) hy
  exact ⟨_, _, this.1, this.2, rfl, rfl⟩
theorem mem_st {P : xI} {k : Nat} {y z : Int32 × Int32} (h : z ∈ P.set k y) : z ∈ P ∨ z = y := List.mem_or_eq_of_mem_set h
theorem two_nd {b : Nat} {v : Int32} (h : ndO2 b v = true) : two (ndg b v) := by
  have := of_decide_eq_true h
  exact two_in this.2.1 this.2.2
theorem nw_gl {s : Nat} (h : s ≤ 20) : gl0 (nwS s) := by
  have e : sN (nwS s).1 = s := sN_n (by omega)
  refine ⟨by rw [e]; rfl, by rw [e]; exact h, fun z => ?_, fun z => ?_⟩
  · rw [e] at z
    unfold nwS
    rw [if_pos z]
    exact .inl ⟨1, by omega, rfl⟩
  · rw [e] at z
    unfold nwS
    rw [if_neg z]
theorem lf_gl : ∀ w, w < 3 → gl0 (lfO w) := by
  intro w hw
  rcases (by omega : w = 0 ∨ w = 1 ∨ w = 2) with rfl | rfl | rfl
  · exact ⟨rfl, by decide, fun _ => .inl ⟨0, by omega, rfl⟩, fun _ => rfl⟩
  · exact ⟨rfl, by decide, fun e => absurd e (by decide), fun _ => rfl⟩
  · exact ⟨rfl, by decide, fun _ => .inl ⟨1, by omega, rfl⟩, fun e => absurd rfl e⟩
theorem ins_v : ∀ w, w < 5 → ∀ y, y ∈ insL w → v1 y := by
  intro w hw y hy
  have d : ∀ (s v : Int32), sN s ≠ 0 → v = 0 → v1 (s, v) := fun s v h1 h2 => ⟨fun e => absurd e h1, fun _ _ => h2⟩
  have o : v1 ((0 : Int32), (1 : Int32)) := ⟨fun _ => .inl ⟨1, by omega, rfl⟩, fun e => absurd rfl e⟩
  rcases (by omega : w = 0 ∨ w = 1 ∨ w = 2 ∨ w = 3 ∨ w = 4) with rfl | rfl | rfl | rfl | rfl
  · rw [show insL 0 = [(5, 0)] from rfl] at hy
    rw [List.mem_singleton.mp hy]; exact d 5 0 (by decide) rfl
  · rw [show insL 1 = [(0, 1), (7, 0)] from rfl] at hy
    rcases List.mem_cons.mp hy with rfl | hy
    · exact o
    · rw [List.mem_singleton.mp hy]; exact d 7 0 (by decide) rfl
  · rw [show insL 2 = [(0, 1), (8, 0)] from rfl] at hy
    rcases List.mem_cons.mp hy with rfl | hy
    · exact o
    · rw [List.mem_singleton.mp hy]; exact d 8 0 (by decide) rfl
  · rw [show insL 3 = [(1, 0), (7, 0)] from rfl] at hy
    rcases List.mem_cons.mp hy with rfl | hy
    · exact d 1 0 (by decide) rfl
    · rw [List.mem_singleton.mp hy]; exact d 7 0 (by decide) rfl
  · rw [show insL 4 = [(14, 0), (9, 0)] from rfl] at hy
    rcases List.mem_cons.mp hy with rfl | hy
    · exact d 14 0 (by decide) rfl
    · rw [List.mem_singleton.mp hy]; exact d 9 0 (by decide) rfl
theorem gd2 {Q : xI} (h1 : 1 ≤ Q.length) (h : okMl Q) : gdP 2 0 Q := ⟨by omega, by have := h.1; omega, fun e => absurd e (by decide), fun e => absurd e (by decide), fun _ => ⟨rfl, h1, h⟩, fun e => absurd e (by decide)⟩
theorem wEd_ok {P : xI} (h : okMl P) {e x m : Nat} (he : e < 4 * P.length) (hx : x < m) (hm : P.length ≤ m) (hm6 : m ≤ 6) : ∀ k, k < P.length → two (srt (wEd P e (nI x)) k) ∧ ∃ v, v < 4096 ∧ vlu (wEd P e (nI x)) k = nI v ∧ ∀ c, c < 4 → v / 8 ^ c % 8 < m := by
  intro k hk
  unfold wEd
  rw [(srt_stm (by omega)).1, (srt_stm (by omega)).2]
  by_cases q : k = e / 4
  · obtain ⟨t, v, v1, v2, v3⟩ := h.2 (e / 4) (by omega)
    obtain ⟨v', e1, e2, e3⟩ := w353 (x := x) (c := e % 4) v1 (by omega) (by omega)
    rw [if_pos q, if_pos q, v2]
    refine ⟨t, v', e2, e1, fun c hc => ?_⟩
    rw [e3 c hc]
    split
    · exact hx
    · have := v3 c hc; omega
  · obtain ⟨t, v, v1, v2, v3⟩ := h.2 k hk
    rw [if_neg q, if_neg q]
    exact ⟨t, v, v1, v2, fun c hc => by have := v3 c hc; omega⟩
theorem wEd_len {P : xI} {e : Nat} {x : Int32} : (wEd P e x).length = P.length := by unfold wEd; exact List.length_set ..
set_option maxRecDepth 100000 in
set_option maxHeartbeats 4000000 in
theorem cdE_gd {kd ln w c : Nat} {P Q : xI} (hg : gdP kd ln P) (hw : w < 4) (hc : c < ncE kd ln P.length w) (h : cdE kd ln P w c = some Q) : gdP kd ln Q := by
  have hg0 := hg
  obtain ⟨g1, g2, g3, g4, g5, g6⟩ := hg
  obtain ⟨hf, hsd⟩ := gd_frm hg0
  rcases (by omega : kd = 0 ∨ kd = 1 ∨ kd = 2 ∨ kd = 3) with rfl | rfl | rfl | rfl
  · have l0 := (g3 rfl).1
    subst l0
    have gl := gd0_gl hg0
    rcases (by omega : w = 0 ∨ w = 1 ∨ w = 2 ∨ w = 3) with rfl | rfl | rfl | rfl
    · have h : cd00 P c = some Q := h
      have hk : c / 5 < P.length := by have : c < 5 * P.length := hc; omega
      unfold cd00 at h
      by_cases q : srt P (c / 5) = 0
      case neg => rw [if_neg q] at h; exact absurd h (by simp)
      rw [if_pos q] at h
      by_cases q2 : ndO2 (c % 5) (vlu P (c / 5)) = true
      case neg => rw [if_neg q2] at h; exact absurd h (by simp)
      rw [if_pos q2] at h
      have e := Option.some.inj h
      subst e
      have s0 := (gS2_s ((set_0 (x := ndg (c % 5) (vlu P (c / 5))) hf hsd (by decide) hk q).2)).2
      rw [q] at s0
      refine gd0 (fun y hy => ?_) s0
      rcases mem_st hy with hy | rfl
      · exact gl y hy
      · exact ⟨rfl, by show sN 0 ≤ 20; decide, fun _ => two_nd q2, fun e => absurd rfl e⟩
    · have h : cd01 P c = some Q := h
      unfold cd01 at h
      by_cases q : c % 21 ≠ sN (srt P (c / 21)) ∧ likB (c % 21) (sN (srt P (c / 21))) = true
      case neg => rw [if_neg q] at h; exact absurd h (by simp)
      rw [if_pos q] at h
      obtain ⟨rfl, hs⟩ := gS2_s h
      refine gd0 (fun y hy => ?_) hs
      rcases mem_st hy with hy | rfl
      · exact gl y hy
      · exact nw_gl (by omega)
    · have h : cd02 P c = some Q := h
      unfold cd02 at h
      split at h
      · exact absurd h (by simp)
      obtain ⟨rfl, hs⟩ := gS2_s h
      refine gd0 (fun y hy => ?_) hs
      rcases List.mem_append.mp hy with hy | hy
      · exact gl y (List.mem_of_mem_take hy)
      · rcases List.mem_cons.mp hy with rfl | hy
        · exact lf_gl _ (by omega)
        · exact gl y (List.mem_of_mem_drop hy)
    · have h : cd03 P c = some Q := h
      unfold cd03 at h
      split at h
      · obtain ⟨rfl, hs⟩ := gS2_s h
        refine gd0 (fun y hy => ?_) hs
        rcases List.mem_append.mp hy with hy | hy
        · exact gl y (List.mem_of_mem_take hy)
        · rcases List.mem_append.mp hy with hy | hy
          · exact gl y (List.mem_of_mem_drop (List.mem_of_mem_take hy))
          · exact gl y (List.mem_of_mem_drop hy)
      · exact absurd h (by simp)
  · obtain ⟨l0, l1, hoI, hv, hj, hX⟩ := g4 rfl
    subst l0
    have et : tI (uTx P) = P := uTx_t (fun k hk => (hoI k hk).1)
    have lu := uTx_len (P := P)
    have hv' : ∀ y, y ∈ P → v1 y := fun y hy => by obtain ⟨k, hk, rfl⟩ := mem_at.mp hy; exact hv k hk
    have hI' := okI_m.mp hoI
    rcases (by omega : w = 0 ∨ w = 1 ∨ w = 2 ∨ w = 3) with rfl | rfl | rfl | rfl
    · have h : cd00 P c = some Q := h
      have hk : c / 5 < P.length := by have : c < 5 * P.length := hc; omega
      unfold cd00 at h
      by_cases q : srt P (c / 5) = 0
      case neg => rw [if_neg q] at h; exact absurd h (by simp)
      rw [if_pos q] at h
      by_cases q2 : ndO2 (c % 5) (vlu P (c / 5)) = true
      case neg => rw [if_neg q2] at h; exact absurd h (by simp)
      rw [if_pos q2] at h
      have e := Option.some.inj h
      subst e
      have s0 := set_0 (x := ndg (c % 5) (vlu P (c / 5))) hf hsd (by decide) hk q
      rw [q] at s0
      refine gd1 (s0.1.2.2.2 rfl).1 (fun y hy => ?_) (gS2_s s0.2).2
      rcases mem_st hy with hy | rfl
      · exact hv' y hy
      · exact ⟨fun _ => two_nd q2, fun e => absurd rfl e⟩
    · have h : cd11 P c = some Q := h
      have hk : c / 14 < P.length := by have : c < 14 * P.length := hc; omega
      unfold cd11 at h
      by_cases q : c % 14 ≠ sN (srt P (c / 14)) ∧ fam (c % 14) = fam (sN (srt P (c / 14)))
      case neg => rw [if_neg q] at h; exact absurd h (by simp)
      rw [if_pos q] at h
      have e := Option.some.inj h
      subst e
      have xs := (uTx_s (P := P) (k := c / 14)).1
      have s0 := set_1 (P := uTx P) (k := c / 14) (s := c % 14) (x := (nwS (c % 14)).2) (by rw [et]; exact hf) (by rw [et]; exact hsd) (by rw [lu]; exact hk) (by omega) (by rw [xs]; have := (hoI _ hk).2.1; omega) (by rw [xs]; exact q.2)
      rw [et] at s0
      refine gd1 (s0.1.2.2.2 rfl).1 (fun y hy => ?_) (gS2_s s0.2).2
      rcases mem_st hy with hy | rfl
      · exact hv' y hy
      · have n := nw_gl (s := c % 14) (by omega)
        exact ⟨n.2.2.1, fun e _ => n.2.2.2 e⟩
    · have h : cd12 P c = some Q := h
      unfold cd12 at h
      by_cases q : c / 3 + (c % 3 + 1) ≤ P.length ∧ wBad P (c / 3) (c % 3 + 1) (c / 3) = false
      case neg => rw [if_neg q] at h; exact absurd h (by simp)
      rw [if_pos q] at h
      obtain ⟨rfl, hs⟩ := gS2_s h
      have wf := wOut_f hoI g2 q.1 (by omega) q.2
      refine gd1 (wf.2.2.2 rfl).1 (fun y hy => ?_) hs
      unfold wOut at hy
      rcases List.mem_append.mp hy with hy | hy
      · obtain ⟨k, hk, rfl⟩ := List.mem_map.mp hy
        rw [List.mem_range] at hk
        have := hv k (by omega)
        refine ⟨fun e => ?_, fun e0 e17 => ?_⟩
        · have e : sN (srt P k) = 0 := e
          show two (if 16 < sN (srt P k) ∧ _ then _ else _)
          rw [if_neg (fun z => by omega)]
          exact this.1 e
        · have e0 : sN (srt P k) ≠ 0 := e0
          have e17 : sN (srt P k) < 17 := e17
          show (if 16 < sN (srt P k) ∧ _ then _ else _) = _
          rw [if_neg (fun z => by omega)]
          exact this.2 e0 e17
      · exact hv' y (List.mem_of_mem_drop hy)
    · have h : cd13 P c = some Q := h
      have hk : c / 5 ≤ P.length := by have : c < 5 * (P.length + 1) := hc; omega
      unfold cd13 at h
      obtain ⟨rfl, hs⟩ := gS2_s h
      have wf := wIn_f hoI hj g2 hk (show c % 5 < 5 by omega)
      refine gd1 (wf.2.2.2 rfl).1 (fun y hy => ?_) hs
      unfold wIn at hy
      rcases List.mem_append.mp hy with hy | hy
      · obtain ⟨k, hk', rfl⟩ := List.mem_map.mp hy
        rw [List.mem_range] at hk'
        have := hv k (by omega)
        refine ⟨fun e => ?_, fun e0 e17 => ?_⟩
        · have e : sN (srt P k) = 0 := e
          show two (if 16 < sN (srt P k) ∧ _ then _ else _)
          rw [if_neg (fun z => by omega)]
          exact this.1 e
        · have e0 : sN (srt P k) ≠ 0 := e0
          have e17 : sN (srt P k) < 17 := e17
          show (if 16 < sN (srt P k) ∧ _ then _ else _) = _
          rw [if_neg (fun z => by omega)]
          exact this.2 e0 e17
      · rcases List.mem_append.mp hy with hy | hy
        · exact ins_v _ (by omega) y hy
        · exact hv' y (List.mem_of_mem_drop hy)
  · obtain ⟨l0, l1, ho⟩ := g5 rfl
    subst l0
    rcases (by omega : w = 0 ∨ w = 1 ∨ w = 2 ∨ w = 3) with rfl | rfl | rfl | rfl
    · have h : cd20 P c = some Q := h
      have hk : c / 5 < P.length := by have : c < 5 * P.length := hc; omega
      unfold cd20 at h
      by_cases q2 : ndO2 (c % 5) (srt P (c / 5)) = true
      case neg => rw [if_neg q2] at h; exact absurd h (by simp)
      rw [if_pos q2] at h
      have e := Option.some.inj h
      subst e
      refine gd2 (by rw [List.length_set]; exact l1) ⟨by rw [List.length_set]; exact ho.1, fun k hkl => ?_⟩
      rw [List.length_set] at hkl ⊢
      rw [(srt_stm hk).1, (srt_stm hk).2]
      by_cases q : k = c / 5
      · rw [if_pos q, if_pos q]
        exact ⟨two_nd q2, by rw [← q]; exact (ho.2 k hkl).2⟩
      · rw [if_neg q, if_neg q]
        exact ho.2 k hkl
    · have h : cd21 P c = some Q := h
      have hc : c < 4 * P.length * P.length := hc
      have hk : c / P.length < 4 * P.length := Nat.div_lt_of_lt_mul (by rw [Nat.mul_comm]; exact hc)
      have hm : c % P.length < P.length := Nat.mod_lt _ l1
      unfold cd21 at h
      split at h
      · exact absurd h (by simp)
      have e := Option.some.inj h
      subst e
      refine gd2 (by rw [wEd_len]; exact l1) ⟨by rw [wEd_len]; exact ho.1, fun k hkl => ?_⟩
      rw [wEd_len] at hkl ⊢
      exact wEd_ok ho hk hm (Nat.le_refl _) ho.1 k hkl
    · have h : cd22 P c = some Q := h
      have hc : c < if P.length < 6 then 4 * P.length else 0 := hc
      by_cases q6 : P.length < 6
      case neg => rw [if_neg q6] at hc; omega
      rw [if_pos q6] at hc
      unfold cd22 at h
      have e := Option.some.inj h
      subst e
      obtain ⟨a, al, ae⟩ := okM_e ho hc
      have lq : (wEd P c (nI P.length) ++ [(srt P (sN (edg0 P c)), vlu P (sN (edg0 P c)))]).length = P.length + 1 := by rw [List.length_append, wEd_len]; rfl
      refine gd2 (by rw [lq]; omega) ⟨by rw [lq]; omega, fun k hkl => ?_⟩
      rw [lq] at hkl ⊢
      rw [(srt_ap (A := wEd P c (nI P.length))).1, (srt_ap (A := wEd P c (nI P.length))).2, wEd_len]
      by_cases q : k < P.length
      · rw [if_pos q, if_pos q]
        exact wEd_ok ho hc (x := P.length) (m := P.length + 1) (by omega) (by omega) (by omega) k q
      · rw [if_neg q, if_neg q, show k - P.length = 0 by omega]
        show two (srt P (sN (edg0 P c))) ∧ ∃ v, v < 4096 ∧ vlu P (sN (edg0 P c)) = nI v ∧ _
        rw [ae, sN_n (by omega)]
        obtain ⟨t, v, v1, v2, v3⟩ := ho.2 a al
        exact ⟨t, v, v1, v2, fun c hc => by have := v3 c hc; omega⟩
    · have h : cd23 P c = some Q := h
      have hc : c < P.length - 1 := hc
      unfold cd23 at h
      have e := Option.some.inj h
      subst e
      have lp : (P.take (c + 1) ++ P.drop (c + 2)).length = P.length - 1 := by rw [List.length_append, List.length_take, List.length_drop]; omega
      have l6 := ho.1
      refine gd2 (by rw [List.length_map, lp]; omega) ⟨by rw [List.length_map, lp]; omega, fun k hkl => ?_⟩
      rw [List.length_map] at hkl ⊢
      have sm := srt_map (P := P.take (c + 1) ++ P.drop (c + 2)) (f := fun x => (x.1, lsV (nI (c + 1)) x.2)) hkl
      rw [sm.1, sm.2]
      obtain ⟨k', hk', e1, e2⟩ : ∃ k', k' < P.length ∧ srt (P.take (c + 1) ++ P.drop (c + 2)) k = srt P k' ∧ vlu (P.take (c + 1) ++ P.drop (c + 2)) k = vlu P k' := by
        rw [lp] at hkl
        by_cases q : k < c + 1
        · exact ⟨k, by omega, (jo_l (by omega) q).1, (jo_l (by omega) q).2⟩
        · obtain ⟨m, rfl⟩ : ∃ m, k = c + 1 + m := ⟨k - (c + 1), by omega⟩
          exact ⟨c + 2 + m, by omega, (jo_r (by omega)).1, (jo_r (by omega)).2⟩
      show two (srt (P.take (c + 1) ++ P.drop (c + 2)) k) ∧ ∃ v, v < 4096 ∧ lsV (nI (c + 1)) (vlu (P.take (c + 1) ++ P.drop (c + 2)) k) = nI v ∧ _
      rw [e1, e2, lp]
      obtain ⟨t, v, w1, w2, w3⟩ := ho.2 k' hk'
      refine ⟨t, ?_⟩
      rw [w2]
      have kk : ∀ d, d < 4 → ∃ e, e < P.length - 1 ∧ lsE (nI (c + 1)) (pv_367 (nI v) (nI d)) = nI e := fun d hd => by
        have x1 := w3 d hd
        rw [t367 w1 hd]
        unfold lsE
        by_cases c1 : nI (v / 8 ^ d % 8) = nI (c + 1)
        · rw [if_pos c1]; exact ⟨0, by omega, rfl⟩
        · rw [if_neg c1]
          have n1 : v / 8 ^ d % 8 ≠ c + 1 := fun e => c1 (by rw [e])
          by_cases c2 : nI (c + 1) < nI (v / 8 ^ d % 8)
          · rw [if_pos c2]
            have := (nI_ltI (by omega) (by omega)).mp c2
            exact ⟨v / 8 ^ d % 8 - 1, by omega, nI_sub (b := 1) (by omega)⟩
          · rw [if_neg c2]
            have c3 : ¬ c + 1 < v / 8 ^ d % 8 := fun e => c2 ((nI_ltI (by omega) (by omega)).mpr e)
            exact ⟨v / 8 ^ d % 8, by omega, rfl⟩
      obtain ⟨x0, a0, b0⟩ := kk 0 (by omega)
      obtain ⟨x1, a1, b1⟩ := kk 1 (by omega)
      obtain ⟨x2, a2, b2⟩ := kk 2 (by omega)
      obtain ⟨x3, a3, b3⟩ := kk 3 (by omega)
      refine ⟨x0 + x1 * 8 + x2 * 64 + x3 * 512, by omega, ?_, fun d hd => ?_⟩
      · unfold lsV
        rw [show lsE (nI (c + 1)) (pv_367 (nI v) 0) = nI x0 from b0, show lsE (nI (c + 1)) (pv_367 (nI v) 1) = nI x1 from b1, show lsE (nI (c + 1)) (pv_367 (nI v) 2) = nI x2 from b2, show lsE (nI (c + 1)) (pv_367 (nI v) 3) = nI x3 from b3]
        have s0 : pv_353 0 0 (nI x0) = nI (0 + x0 * 8 ^ 0) := t353 0 (by omega) 0 (by decide) x0 (by omega)
        have s1 : pv_353 (nI (0 + x0 * 8 ^ 0)) 1 (nI x1) = nI (0 + x0 * 8 ^ 0 + x1 * 8 ^ 1) := t353 1 (by omega) _ (by omega) x1 (by omega)
        have s2 : pv_353 (nI (0 + x0 * 8 ^ 0 + x1 * 8 ^ 1)) 2 (nI x2) = nI (0 + x0 * 8 ^ 0 + x1 * 8 ^ 1 + x2 * 8 ^ 2) := t353 2 (by omega) _ (by omega) x2 (by omega)
        have s3 : pv_353 (nI (0 + x0 * 8 ^ 0 + x1 * 8 ^ 1 + x2 * 8 ^ 2)) 3 (nI x3) = nI (0 + x0 * 8 ^ 0 + x1 * 8 ^ 1 + x2 * 8 ^ 2 + x3 * 8 ^ 3) := t353 3 (by omega) _ (by omega) x3 (by omega)
        rw [s0, s1, s2, s3]
        congr 1
        omega
      · rcases (by omega : d = 0 ∨ d = 1 ∨ d = 2 ∨ d = 3) with rfl | rfl | rfl | rfl <;> omega
  · obtain ⟨l2, l8, h40, hv⟩ := g6 rfl
    have hv' : ∀ y, y ∈ P → n1 ln y := fun y hy => by obtain ⟨k, hk, rfl⟩ := mem_at.mp hy; exact hv k hk
    have a1 := acr_1 ln l8 l2
    rcases (by omega : w = 0 ∨ w = 1 ∨ w = 2 ∨ w = 3) with rfl | rfl | rfl | rfl
    · have h : cd30 ln P c = some Q := h
      unfold cd30 at h
      split at h
      · exact absurd h (by simp)
      have e := Option.some.inj h
      subst e
      refine gd3 l2 l8 (by rw [List.length_set]; exact h40) (fun y hy => ?_)
      rcases mem_st hy with hy | rfl
      · exact hv' y hy
      · exact cmp_n1 l8 (Nat.mod_lt _ a1)
    · have h : cd31 P c = some Q := h
      unfold cd31 at h
      have e := Option.some.inj h
      subst e
      refine gd3 l2 l8 (by rw [List.length_append, List.length_take, List.length_drop]; omega) (fun y hy => ?_)
      rcases List.mem_append.mp hy with hy | hy
      · exact hv' y (List.mem_of_mem_take hy)
      · exact hv' y (List.mem_of_mem_drop hy)
    · have h : cd32 ln P c = some Q := h
      have hc : c < if P.length < 40 then (P.length + 1) * acr ln else 0 := hc
      by_cases q6 : P.length < 40
      case neg => rw [if_neg q6] at hc; omega
      unfold cd32 at h
      have e := Option.some.inj h
      subst e
      refine gd3 l2 l8 (by rw [List.length_append, List.length_cons, List.length_take, List.length_drop]; omega) (fun y hy => ?_)
      rcases List.mem_append.mp hy with hy | hy
      · exact hv' y (List.mem_of_mem_take hy)
      · rcases List.mem_cons.mp hy with rfl | hy
        · exact cmp_n1 l8 (Nat.mod_lt _ a1)
        · exact hv' y (List.mem_of_mem_drop hy)
    · have h : cd33 P c = some Q := h
      have hc : c < P.length - 1 := hc
      unfold cd33 at h
      split at h
      · exact absurd h (by simp)
      have e := Option.some.inj h
      subst e
      refine gd3 l2 l8 (by rw [List.length_append, List.length_cons, List.length_cons, List.length_take, List.length_drop]; omega) (fun y hy => ?_)
      rcases List.mem_append.mp hy with hy | hy
      · exact hv' y (List.mem_of_mem_take hy)
      · rcases List.mem_cons.mp hy with rfl | hy
        · exact hv' _ (mem_at.mpr ⟨c + 1, by omega, rfl⟩)
        · rcases List.mem_cons.mp hy with rfl | hy
          · exact hv' _ (mem_at.mpr ⟨c, by omega, rfl⟩)
          · exact hv' y (List.mem_of_mem_drop hy)
