/-! ===== edits: going through candidates, in the reference ===== -/
theorem cnt_s {cd : Nat → Option xI} : ∀ (m c : Nat), cnt cd (m + 1) c = cnt cd m c + (if (cd (c + m)).isSome = true then 1 else 0) := by
  intro m
  induction m with
  | zero => intro c; rw [cnt, cnt, cnt, Nat.add_zero, Nat.add_zero, Nat.zero_add]
  | succ m ih =>
    intro c
    rw [cnt, ih (c + 1), cnt, show c + 1 + m = c + (m + 1) by omega]
    omega
theorem cnt_0 {cd : Nat → Option xI} (c : Nat) : cnt cd (c + 1) 0 = cnt cd c 0 + (if (cd c).isSome = true then 1 else 0) := by
  rw [cnt_s, Nat.zero_add]
theorem cnt_le {cd : Nat → Option xI} : ∀ (m c : Nat), cnt cd m c ≤ m := by
  intro m
  induction m with
  | zero => intro c; rw [cnt]; omega
  | succ m ih =>
    intro c
    rw [cnt]
    have := ih (c + 1)
    split <;> omega
def frSc (V W : Nat → Nat → Value) (I J : Nat → Nat → Int32) : Prop := (∀ a j, ¬ (a = 174 ∧ (j = 13 ∨ j = 14 ∨ j = 15 ∨ j = 94 ∨ j = 95)) → W a j = V a j) ∧ (∀ y, y ≠ 186 → y ≠ 187 → y ≠ 194 → y ≠ 195 → y ≠ 196 → y ≠ 211 → J y = I y) ∧ (wt V → wt W)
theorem frSc_r {V : Nat → Nat → Value} {I : Nat → Nat → Int32} : frSc V V I I := ⟨fun _ _ _ => rfl, fun _ _ _ _ _ _ _ => rfl, id⟩
theorem frSc_t {V W X : Nat → Nat → Value} {I J K : Nat → Nat → Int32} (h : frSc V W I J) (g : frSc W X J K) : frSc V X I K := ⟨fun a j n => (g.1 a j n).trans (h.1 a j n), fun y a b c d e f => (g.2.1 y a b c d e f).trans (h.2.1 y a b c d e f), fun w => g.2.2 (h.2.2 w)⟩
theorem frSc_d {V W : Nat → Nat → Value} {I J : Nat → Nat → Int32} (h : frEd V W I J) : frSc V W I J := ⟨fun a j n => h.1 a j (fun e => n ⟨e.1, by omega⟩), fun y a b _ _ _ _ => h.2.1 y a b, h.2.2⟩
theorem frSc_4 {V : Nat → Nat → Value} {I J : Nat → Nat → Int32} (h : fr4 I J) : frSc V V I J := ⟨fun _ _ _ => rfl, fun y _ _ c d e f => h y c d e f, id⟩
theorem frSc_c {V : Nat → Nat → Value} {I : Nat → Nat → Int32} {k : Nat} {b : Bool} : frSc V (ctV V k b) I I := by
  refine ⟨fun a j n => ?_, fun _ _ _ _ _ _ _ => rfl, fun w => wt_i (wt_i w (by decide)) (by decide)⟩
  unfold ctV
  rw [vup_o (fun e => n ⟨e.1, by omega⟩), vup_o (fun e => n ⟨e.1, by omega⟩)]
theorem frEd_i {V : Nat → Nat → Value} {I : Nat → Nat → Int32} {y : Nat} {F : Nat → Int32} (h : y = 186 ∨ y = 187) : frEd V V I (iup I y F) := ⟨fun _ _ _ => rfl, fun z a b => iup_na (fun e => by omega), id⟩
/-- c candidates are gone through, the one that is sought wasn't among them -/
def scS (V0 : Nat → Nat → Value) (I0 : Nat → Nat → Int32) (cd : Nat → Option xI) (so : Int32) (c : Nat) (V : Nat → Nat → Value) (I : Nat → Nat → Int32) : Prop := frSc V0 V I0 I ∧ V 174 94 = .int (nI (cnt cd c 0)) ∧ V 174 95 = .int 0 ∧ ∀ i, i < 1000000 → so = nI i → cnt cd c 0 ≤ i
/-- it was, and lies on the desk -/
def scH (V0 : Nat → Nat → Value) (I0 : Nat → Nat → Int32) (cd : Nat → Option xI) (so : Int32) (m kd : Nat) (nt : Int32) (V : Nat → Nat → Value) (I : Nat → Nat → Int32) : Prop := frSc V0 V I0 I ∧ V 174 95 = .int 1 ∧ ∃ c Q, c < m ∧ cd c = some Q ∧ so = nI (cnt cd c 0) ∧ dkL V I Q ∧ V 174 13 = .int (nI kd) ∧ V 174 15 = .int nt
theorem scH_m {V0 : Nat → Nat → Value} {I0 : Nat → Nat → Int32} {cd : Nat → Option xI} {so nt : Int32} {m m' kd : Nat} {V : Nat → Nat → Value} {I : Nat → Nat → Int32} (h : scH V0 I0 cd so m kd nt V I) (hm : m ≤ m') : scH V0 I0 cd so m' kd nt V I := by
  obtain ⟨a, b, c, Q, d, e⟩ := h
  exact ⟨a, b, c, Q, by omega, e⟩
theorem scS_n {V0 : Nat → Nat → Value} {I0 : Nat → Nat → Int32} {cd : Nat → Option xI} {so : Int32} {c : Nat} {V : Nat → Nat → Value} {I : Nat → Nat → Int32} (h : scS V0 I0 cd so c V I) (hn : cd c = none) : scS V0 I0 cd so (c + 1) V I := by
  have e : cnt cd (c + 1) 0 = cnt cd c 0 := by rw [cnt_0, hn]; rfl
  obtain ⟨a, b, d, f⟩ := h
  exact ⟨a, by rw [e]; exact b, d, by rw [e]; exact f⟩
set_option maxRecDepth 100000 in
set_option maxHeartbeats 4000000 in
theorem stepC {V : Nat → Nat → Value} {I : Nat → Nat → Int32} {L : Nat → Nat → Int64} {R : Nat → Nat → Option Nat} {tl : am_H} {V0 : Nat → Nat → Value} {I0 : Nat → Nat → Int32} {cd : Nat → Option xI} {so nt : Int32} {N c kd : Nat} {V1 : Nat → Nat → Value} {I1 : Nat → Nat → Int32} {Q : xI} (hN : 400 < N) (h : scS V0 I0 cd so c V I) (hf : frEd V V1 I I1) (hd : dkL V1 I1 Q) (h13 : V1 174 13 = .int (nI kd)) (h15 : V1 174 15 = .int nt) (hq : frm kd Q) (hc : cd c = gS2 kd Q) (c6 : c < 999999) (h93 : V0 174 93 = .int so) : ∃ W J b, fm_444 N (.ref 174) (fx V1 I1 L R ++ tl) = some (.inl (some (.int (bI b)), fx W J L R ++ tl)) ∧ (b = true → scH V0 I0 cd so (c + 1) kd nt W J) ∧ (b = false → scS V0 I0 cd so (c + 1) W J) := by
  obtain ⟨s1, s2, s3, s4⟩ := h
  have F1 : frSc V0 V1 I0 I1 := frSc_t s1 (frSc_d hf)
  have a93 : V1 174 93 = .int so := (F1.1 174 93 (by decide)).trans h93
  have a94 : V1 174 94 = .int (nI (cnt cd c 0)) := (hf.1 174 94 (by decide)).trans s2
  have a95 : V1 174 95 = .int 0 := (hf.1 174 95 (by decide)).trans s3
  obtain ⟨r1, r2⟩ := s444 (L := L) (R := R) (tl := tl) hN hq hd h13 a93 a94
  cases hs : sndB kd Q with
  | false =>
    obtain ⟨J, e, f⟩ := r1 hs
    have hn : cd c = none := by rw [hc]; unfold gS2; rw [hs]; rfl
    exact ⟨V1, J, false, e, fun e => Bool.noConfusion e, fun _ => scS_n ⟨frSc_t F1 (frSc_4 f), a94, a95, s4⟩ hn⟩
  | true =>
    obtain ⟨J, e, f⟩ := r2 hs
    have hy : cd c = some Q := by rw [hc]; unfold gS2; rw [hs]; rfl
    have ec : cnt cd (c + 1) 0 = cnt cd c 0 + 1 := by rw [cnt_0, hy]; rfl
    have lc := cnt_le (cd := cd) c 0
    refine ⟨_, J, _, e, fun h => ⟨frSc_t F1 (frSc_t (frSc_4 f) frSc_c), ?_, c, Q, by omega, hy, (of_decide_eq_true h).symm, ⟨?_, ?_⟩, ?_, ?_⟩, fun h => ⟨frSc_t F1 (frSc_t (frSc_4 f) frSc_c), ?_, ?_, fun i hi h' => ?_⟩⟩
    · unfold ctV
      rw [h]; rfl
    · unfold ctV
      rw [vup_o (by decide), vup_o (by decide)]
      exact hd.1
    · rw [f 186 (by decide) (by decide) (by decide) (by decide), f 187 (by decide) (by decide) (by decide) (by decide)]
      exact hd.2
    · unfold ctV
      rw [vup_o (by decide), vup_o (by decide)]
      exact h13
    · unfold ctV
      rw [vup_o (by decide), vup_o (by decide)]
      exact h15
    · unfold ctV
      rw [vup_o (by decide), ec]
      rfl
    · unfold ctV
      rw [h]; rfl
    · rw [ec]
      have g := s4 i hi h'
      have n := of_decide_eq_false h
      rw [h'] at n
      have : cnt cd c 0 ≠ i := fun e => n (by rw [e])
      omega
/-! the desk, changed at a place -/
theorem lay2_v {s v : Nat → Int32} {P : xI} {k : Nat} {x : Int32} (h : lay2 s v P) : lay2 s (upd v k x) (P.set k (srt P k, x)) := fun j y hy => by
  by_cases c : j = k
  · subst c
    have hl : j < P.length := by
      have := (List.getElem?_eq_some_iff.mp hy).1
      rw [List.length_set] at this
      exact this
    rw [List.getElem?_set_self hl] at hy
    have hy := Option.some.inj hy
    rw [← hy]
    refine ⟨?_, upd_eq⟩
    have e : P[j]? = some P[j] := List.getElem?_eq_getElem hl
    have := (h j _ e).1
    rw [this]
    unfold srt
    rw [List.getD_eq_getElem?_getD, e]
    rfl
  · rw [List.getElem?_set_ne (by omega)] at hy
    obtain ⟨a, b⟩ := h j y hy
    exact ⟨a, (upd_ne c).trans b⟩
theorem lay2_s {s v : Nat → Int32} {P : xI} {k : Nat} {x : Int32} (h : lay2 s v P) : lay2 (upd s k x) v (P.set k (x, vlu P k)) := fun j y hy => by
  by_cases c : j = k
  · subst c
    have hl : j < P.length := by
      have := (List.getElem?_eq_some_iff.mp hy).1
      rw [List.length_set] at this
      exact this
    rw [List.getElem?_set_self hl] at hy
    have hy := Option.some.inj hy
    rw [← hy]
    refine ⟨upd_eq, ?_⟩
    have e : P[j]? = some P[j] := List.getElem?_eq_getElem hl
    have := (h j _ e).2
    rw [this]
    unfold vlu
    rw [List.getD_eq_getElem?_getD, e]
    rfl
  · rw [List.getElem?_set_ne (by omega)] at hy
    obtain ⟨a, b⟩ := h j y hy
    exact ⟨(upd_ne c).trans a, b⟩
theorem lay2_sv {s v : Nat → Int32} {P : xI} {k : Nat} {x y : Int32} (h : lay2 s v P) : lay2 (upd s k x) (upd v k y) (P.set k (x, y)) := fun j z hz => by
  by_cases c : j = k
  · subst c
    have hl : j < P.length := by
      have := (List.getElem?_eq_some_iff.mp hz).1
      rw [List.length_set] at this
      exact this
    rw [List.getElem?_set_self hl] at hz
    have hz := Option.some.inj hz
    rw [← hz]
    exact ⟨upd_eq, upd_eq⟩
  · rw [List.getElem?_set_ne (by omega)] at hz
    obtain ⟨a, b⟩ := h j z hz
    exact ⟨(upd_ne c).trans a, (upd_ne c).trans b⟩
/-- the second desk's numbers -/
theorem ds_at {V : Nat → Nat → Value} {I : Nat → Nat → Int32} {P : xI} (h : dsA V I P) {k : Nat} (hk : k < P.length) : I 188 k = srt P k ∧ I 189 k = vlu P k := by
  have e : P[k]? = some P[k] := List.getElem?_eq_getElem hk
  have := h.2 k _ e
  unfold srt vlu
  rw [List.getD_eq_getElem?_getD, e]
  exact this
theorem ds_f {V W : Nat → Nat → Value} {I J : Nat → Nat → Int32} {P : xI} (f : frSc V W I J) (h : dsA V I P) : dsA W J P := ⟨(f.1 174 18 (by decide)).trans h.1, by rw [f.2.1 188 (by decide) (by decide) (by decide) (by decide) (by decide) (by decide), f.2.1 189 (by decide) (by decide) (by decide) (by decide) (by decide) (by decide)]; exact h.2⟩
