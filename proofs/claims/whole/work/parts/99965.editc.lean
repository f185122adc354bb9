/-! ===== edits: constants and outputs, in the reference ===== -/
theorem hd_440_96 {N : Nat} {h : am_H} {r_ : Option am_O} (k_ : some (.inl (none, h)) = r_) : fg_440_96 N h = r_ := k_
theorem hd_440_90 {N : Nat} {rec_2 : Value → Int32 → am_H → Option am_O} {x0 : Value} {x1 : Int32} {h : am_H} {r_ : Option am_O} (k_ : (rec_2 x0 ((x1 + 1)) h) = r_) : fg_440_90 N rec_2 x0 x1 h = r_ := k_
theorem hd_440_2 {N : Nat} {K : Nat} {x0 : Value} {x1 : Int32} {h : am_H} {r_ : Option am_O} (k_ : ((am_vI (am_pG 3090 x0 h)).bind fun v1 => (if v1 ≤ x1 then (fg_440_96 N h) else ((am_vI (am_pG 3167 x0 h)).bind fun v4 => (if ¬ v4 = 0 then (fg_440_96 N h) else ((am_vR (am_pG 3094 x0 h)).bind fun v7 => ((am_pA 0 v7 x1 h).bind fun v9 => ((am_vR (am_pG 3093 x0 h)).bind fun v11 => ((am_pA 0 v11 x1 h).bind fun v13 => (if ¬ v13 = 0 then (fg_440_90 N (fg_440_2 N K) x0 x1 h) else (if am_pOk 12 x0 h then am_cI true (fm_441 N x0 x1 ((v9 + 1)) h) (fun v17 h18 => (if ¬ v17 = 0 then (fg_440_90 N (fg_440_2 N K) x0 x1 h18) else (if am_pOk 12 x0 h18 then am_cI true (fm_441 N x0 x1 ((v9 - 1)) h18) (fun v22 h23 => (if ¬ v22 = 0 then (fg_440_90 N (fg_440_2 N K) x0 x1 h23) else (if am_pOk 12 x0 h23 then am_cI true (fm_441 N x0 x1 ((v9 + 10)) h23) (fun v27 h28 => (if ¬ v27 = 0 then (fg_440_90 N (fg_440_2 N K) x0 x1 h28) else (if am_pOk 12 x0 h28 then am_cI true (fm_441 N x0 x1 ((v9 - 10)) h28) (fun v32 h33 => (if ¬ v32 = 0 then (fg_440_90 N (fg_440_2 N K) x0 x1 h33) else (if am_pOk 12 x0 h33 then am_cI true (fm_441 N x0 x1 ((-v9)) h33) (fun v37 h38 => ((am_pP 3167 x0 (.int v37) h38).bind fun h40 => (fg_440_90 N (fg_440_2 N K) x0 x1 h40))) else none))) else none))) else none))) else none))) else none)))))))))) = r_) : fg_440_2 N (K + 1) x0 x1 h = r_ := by rw [fg_440_2]; exact k_
theorem hd_440_0 {N : Nat} {x0 : Value} {h : am_H} {r_ : Option am_O} (k_ : (fg_440_2 N N x0 0 h) = r_) : fg_440_0 N x0 h = r_ := k_
theorem hm_440 {N : Nat} {y0 : Value} {h : am_H} {r_ : Option am_O} (k_ : fg_440_0 N y0 h = r_) : fm_440 N y0 h = r_ := k_
theorem hd_441_24 {N : Nat} {h : am_H} {r_ : Option am_O} (k_ : some (.inl (some (.int 0), h)) = r_) : fg_441_24 N h = r_ := k_
theorem hd_441_0 {N : Nat} {x0 : Value} {x1 : Int32} {x2 : Int32} {h : am_H} {r_ : Option am_O} (k_ : am_cI false (fm_327 ((Int32.toInt64 x2)) ((-99)) 99 h) (fun v1 h2 => (if v1 = 0 then (fg_441_24 N h2) else ((am_vR (am_pG 3094 x0 h2)).bind fun v5 => ((am_pA 0 v5 x1 h2).bind fun v7 => (if ¬ x2 = v7 then (if am_pOk 12 x0 h2 then am_cV true (fm_442 N x0 h2) (fun h12 => ((am_vR (am_pG 3089 x0 h12)).bind fun v14 => ((am_pS 0 v14 x1 x2 h12).bind fun h16 => (if am_pOk 12 x0 h16 then am_cI true (fm_444 N x0 h16) (fun v19 h20 => (if am_rfit (some FieldType.boolean) v19 then some (.inl (some (.int v19), h20)) else none)) else none)))) else none) else (fg_441_24 N h2)))))) = r_) : fg_441_0 N x0 x1 x2 h = r_ := k_
theorem hm_441 {N : Nat} {y0 : Value} {y1 : Int32} {y2 : Int32} {h : am_H} {r_ : Option am_O} (k_ : fg_441_0 N y0 y1 y2 h = r_) : fm_441 N y0 y1 y2 h = r_ := k_
theorem hd_460_87 {N : Nat} {h : am_H} {r_ : Option am_O} (k_ : some (.inl (none, h)) = r_) : fg_460_87 N h = r_ := k_
theorem hd_460_81 {N : Nat} {rec_2 : Value → Int32 → am_H → Option am_O} {x0 : Value} {x1 : Int32} {h : am_H} {r_ : Option am_O} (k_ : (rec_2 x0 ((x1 + 1)) h) = r_) : fg_460_81 N rec_2 x0 x1 h = r_ := k_
theorem hd_460_2 {N : Nat} {K : Nat} {x0 : Value} {x1 : Int32} {h : am_H} {r_ : Option am_O} (k_ : ((am_vI (am_pG 3090 x0 h)).bind fun v1 => (if v1 ≤ x1 then (fg_460_87 N h) else ((am_vI (am_pG 3167 x0 h)).bind fun v4 => (if ¬ v4 = 0 then (fg_460_87 N h) else ((am_vR (am_pG 3093 x0 h)).bind fun v7 => ((am_pA 0 v7 x1 h).bind fun v9 => (if am_pOk 12 x0 h then am_cI true (fm_461 N x0 x1 ((v9 + 1)) h) (fun v12 h13 => (if ¬ v12 = 0 then (fg_460_81 N (fg_460_2 N K) x0 x1 h13) else (if am_pOk 12 x0 h13 then am_cI true (fm_461 N x0 x1 ((v9 - 1)) h13) (fun v17 h18 => (if ¬ v17 = 0 then (fg_460_81 N (fg_460_2 N K) x0 x1 h18) else (if am_pOk 12 x0 h18 then am_cI true (fm_461 N x0 x1 ((v9 + 10)) h18) (fun v22 h23 => (if ¬ v22 = 0 then (fg_460_81 N (fg_460_2 N K) x0 x1 h23) else (if am_pOk 12 x0 h23 then am_cI true (fm_461 N x0 x1 ((v9 - 10)) h23) (fun v27 h28 => (if ¬ v27 = 0 then (fg_460_81 N (fg_460_2 N K) x0 x1 h28) else (if am_pOk 12 x0 h28 then am_cI true (fm_461 N x0 x1 ((-v9)) h28) (fun v32 h33 => ((am_pP 3167 x0 (.int v32) h33).bind fun h35 => (fg_460_81 N (fg_460_2 N K) x0 x1 h35))) else none))) else none))) else none))) else none))) else none))))))) = r_) : fg_460_2 N (K + 1) x0 x1 h = r_ := by rw [fg_460_2]; exact k_
theorem hd_460_0 {N : Nat} {x0 : Value} {h : am_H} {r_ : Option am_O} (k_ : (fg_460_2 N N x0 0 h) = r_) : fg_460_0 N x0 h = r_ := k_
theorem hm_460 {N : Nat} {y0 : Value} {h : am_H} {r_ : Option am_O} (k_ : fg_460_0 N y0 h = r_) : fm_460 N y0 h = r_ := k_
theorem hd_461_24 {N : Nat} {h : am_H} {r_ : Option am_O} (k_ : some (.inl (some (.int 0), h)) = r_) : fg_461_24 N h = r_ := k_
theorem hd_461_0 {N : Nat} {x0 : Value} {x1 : Int32} {x2 : Int32} {h : am_H} {r_ : Option am_O} (k_ : am_cI false (fm_327 ((Int32.toInt64 x2)) ((-99)) 99 h) (fun v1 h2 => (if v1 = 0 then (fg_461_24 N h2) else ((am_vR (am_pG 3093 x0 h2)).bind fun v5 => ((am_pA 0 v5 x1 h2).bind fun v7 => (if ¬ x2 = v7 then (if am_pOk 12 x0 h2 then am_cV true (fm_442 N x0 h2) (fun h12 => ((am_vR (am_pG 3088 x0 h12)).bind fun v14 => ((am_pS 0 v14 x1 x2 h12).bind fun h16 => (if am_pOk 12 x0 h16 then am_cI true (fm_444 N x0 h16) (fun v19 h20 => (if am_rfit (some FieldType.boolean) v19 then some (.inl (some (.int v19), h20)) else none)) else none)))) else none) else (fg_461_24 N h2)))))) = r_) : fg_461_0 N x0 x1 x2 h = r_ := k_
theorem hm_461 {N : Nat} {y0 : Value} {y1 : Int32} {y2 : Int32} {h : am_H} {r_ : Option am_O} (k_ : fg_461_0 N y0 y1 y2 h = r_) : fm_461 N y0 y1 y2 h = r_ := k_
theorem srt_set {P : xI} {k : Nat} {y : Int32 × Int32} (hk : k < P.length) (j : Nat) : srt (P.set k y) j = if j = k then y.1 else srt P j := by
  unfold srt
  rw [List.getD_eq_getElem?_getD, List.getD_eq_getElem?_getD]
  by_cases c : j = k
  · subst c
    rw [if_pos rfl, List.getElem?_set_self hk]
    rfl
  · rw [if_neg c, List.getElem?_set_ne (by omega)]
theorem vlu_set {P : xI} {k : Nat} {y : Int32 × Int32} (hk : k < P.length) (j : Nat) : vlu (P.set k y) j = if j = k then y.2 else vlu P j := by
  unfold vlu
  rw [List.getD_eq_getElem?_getD, List.getD_eq_getElem?_getD]
  by_cases c : j = k
  · subst c
    rw [if_pos rfl, List.getElem?_set_self hk]
    rfl
  · rw [if_neg c, List.getElem?_set_ne (by omega)]
theorem cdX_congr {P Q : xI} (hl : P.length = Q.length) (h : ∀ j, tkN (sN (srt P j)) = tkN (sN (srt Q j)) ∧ ptN (sN (srt P j)) = ptN (sN (srt Q j)) ∧ (sN (srt P j) = 17 ↔ sN (srt Q j) = 17) ∧ (sN (srt P j) < 17 ↔ sN (srt Q j) < 17) ∧ (¬ sN (srt P j) < 17 → vlu P j = vlu Q j)) : ∀ (m k : Nat) (g : Nat → Option Nat), cdX P m k g = cdX Q m k g := by
  intro m
  induction m with
  | zero => intro k g; rw [cdX, cdX]
  | succ m ih =>
    intro k g
    obtain ⟨h1, h2, h3, h4, h5⟩ := h k
    rw [cdX, cdX, h1, h2, hl]
    cases g k with
    | none => rfl
    | some x =>
      dsimp only
      split
      · rfl
      · split
        · rfl
        · have e1 : (if sN (srt P k) = 17 then some g else rch Q.length (k + 1) (x - tkN (sN (srt Q k)) + ptN (sN (srt Q k))) g) = (if sN (srt Q k) = 17 then some g else rch Q.length (k + 1) (x - tkN (sN (srt Q k)) + ptN (sN (srt Q k))) g) := by
            by_cases c : sN (srt P k) = 17
            · rw [if_pos c, if_pos (h3.mp c)]
            · rw [if_neg c, if_neg (fun e => c (h3.mpr e))]
          rw [e1]
          cases (if sN (srt Q k) = 17 then some g else rch Q.length (k + 1) (x - tkN (sN (srt Q k)) + ptN (sN (srt Q k))) g) with
          | none => rfl
          | some g1 =>
            dsimp only
            have e2 : (if sN (srt P k) < 17 then some g1 else rch Q.length (k + 1 + sN (vlu P k)) (x - tkN (sN (srt Q k)) + ptN (sN (srt Q k))) g1) = (if sN (srt Q k) < 17 then some g1 else rch Q.length (k + 1 + sN (vlu Q k)) (x - tkN (sN (srt Q k)) + ptN (sN (srt Q k))) g1) := by
              by_cases c : sN (srt P k) < 17
              · rw [if_pos c, if_pos (h4.mp c)]
              · rw [if_neg c, if_neg (fun e => c (h4.mpr e)), h5 c]
            rw [e2]
            cases (if sN (srt Q k) < 17 then some g1 else rch Q.length (k + 1 + sN (vlu Q k)) (x - tkN (sN (srt Q k)) + ptN (sN (srt Q k))) g1) with
            | none => rfl
            | some g2 => exact ih (k + 1) g2
theorem tI_set {P : xT} {k a : Nat} {x : Int32} : tI (P.set k (a, x)) = (tI P).set k (nI a, x) := by
  unfold tI
  rw [List.map_set]
theorem sl_set {P : xT} {k : Nat} {x : Int32} (hk : k < P.length) : sl (P.set k (xS P k, x)) = sl P := by
  unfold sl
  rw [List.map_set]
  refine List.ext_getElem? (fun j => ?_)
  by_cases c : j = k
  · subst c
    rw [List.getElem?_set_self (by rw [List.length_map]; exact hk), List.getElem?_map, xS_at hk]
    rfl
  · rw [List.getElem?_set_ne (by omega)]
/-- another number at a node that has one -/
theorem set_0 {kd k : Nat} {P : xI} {x : Int32} (hf : frm kd P) (hs : sndB kd P = true) (h1 : kd ≤ 1) (hk : k < P.length) (h0 : srt P k = 0) : frm kd (P.set k (srt P k, x)) ∧ gS2 kd (P.set k (srt P k, x)) = some (P.set k (srt P k, x)) := by
  rcases (by omega : kd = 0 ∨ kd = 1) with rfl | rfl
  · obtain ⟨f1, f2, f3, -⟩ := hf
    obtain ⟨P', rfl, g1, g2⟩ := f3 rfl
    rw [tI_len] at hk f2
    have e : (tI P').set k (srt (tI P') k, x) = tI (P'.set k (xS P' k, x)) := by rw [tI_set, (srt_tI hk).1]
    have g3 : ∀ y, y ∈ P'.set k (xS P' k, x) → y.1 ≤ 20 := fun y hy => by
      rcases List.mem_or_eq_of_mem_set hy with h | h
      · exact g1 y h
      · rw [h]
        show xS P' k ≤ 20
        exact g1 (xS P' k, xV P' k) (List.mem_of_getElem? (xS_at hk))
    have l : (P'.set k (xS P' k, x)).length = P'.length := List.length_set
    rw [e]
    refine ⟨⟨f1, by rw [tI_len, l]; exact f2, fun _ => ⟨_, rfl, g3, by rw [sl_set hk]; exact g2⟩, fun h => absurd h (by decide)⟩, ?_⟩
    unfold gS2
    rw [if_pos]
    rw [snd_0 g3, l, sl_set hk]
    exact (snd_0 g1).mp hs
  · obtain ⟨f1, f2, -, f4⟩ := hf
    obtain ⟨g1, g2⟩ := f4 rfl
    have l : (P.set k (srt P k, x)).length = P.length := List.length_set
    have es : ∀ j, srt (P.set k (srt P k, x)) j = srt P j := fun j => by
      rw [srt_set hk]
      by_cases c : j = k
      · rw [if_pos c, c]
      · rw [if_neg c]
    have ev : ∀ j, ¬ sN (srt P j) < 17 → vlu (P.set k (srt P k, x)) j = vlu P j := fun j hj => by
      rw [vlu_set hk]
      by_cases c : j = k
      · rw [c, h0] at hj
        exact absurd (show sN 0 < 17 by decide) hj
      · rw [if_neg c]
    refine ⟨⟨f1, by rw [l]; exact f2, fun h => absurd h (by decide), fun _ => ⟨fun j hj => ?_, by rw [l]; exact g2⟩⟩, ?_⟩
    · rw [l] at hj
      obtain ⟨a, b, c⟩ := g1 j hj
      rw [es]
      refine ⟨a, b, fun h => ?_⟩
      rw [ev j (by omega)]
      exact c h
    · unfold gS2
      rw [if_pos]
      rw [snd_1, l]
      rw [snd_1] at hs
      refine ⟨hs.1, ?_⟩
      rw [cdX_congr (P := P.set k (srt P k, x)) (Q := P) l (fun j => by rw [es]; exact ⟨rfl, rfl, Iff.rfl, Iff.rfl, ev j⟩)]
      exact hs.2
theorem in99 {x : Int32} (h1 : ¬ x < -99) (h2 : ¬ 99 < x) : pv_327 x.toInt64 (-99) 99 = 1 := by
  refine in_ok ?_ ?_
  · exact w64le (a := -99) (b := x) (Int32.not_lt.mp h1)
  · exact w64le (a := x) (b := 99) (Int32.not_lt.mp h2)
theorem in99n {x : Int32} (h : x < -99 ∨ 99 < x) : pv_327 x.toInt64 (-99) 99 = 0 := by
  rcases h with h | h
  · exact in_lo (w64lt (a := x) (b := -99) h)
  · exact in_hi (w64lt (a := 99) (b := x) h)
/-- what stays while the reference goes through candidates -/
def ctxR (V0 : Nat → Nat → Value) (I0 : Nat → Nat → Int32) (kd : Nat) (nt so : Int32) (P : xI) : Prop := V0 174 20 = .int (nI kd) ∧ V0 174 19 = .int nt ∧ dsA V0 I0 P ∧ V0 174 93 = .int so ∧ P.length ≤ 60
def outS (V0 : Nat → Nat → Value) (I0 : Nat → Nat → Int32) (cd : Nat → Option xI) (so : Int32) (m kd : Nat) (nt : Int32) (V : Nat → Nat → Value) (I : Nat → Nat → Int32) : Prop := scH V0 I0 cd so m kd nt V I ∨ scS V0 I0 cd so m V I
theorem sc_hit {V0 : Nat → Nat → Value} {I0 : Nat → Nat → Int32} {cd : Nat → Option xI} {so nt : Int32} {m kd : Nat} {V : Nat → Nat → Value} {I : Nat → Nat → Int32} (h : scH V0 I0 cd so m kd nt V I) : V 174 95 = .int 1 := h.2.1
theorem ct_f {V0 : Nat → Nat → Value} {I0 : Nat → Nat → Int32} {kd : Nat} {nt so : Int32} {P : xI} {V : Nat → Nat → Value} {I : Nat → Nat → Int32} (h : ctxR V0 I0 kd nt so P) (f : frSc V0 V I0 I) : ctxR V I kd nt so P := ⟨(f.1 174 20 (by decide)).trans h.1, (f.1 174 19 (by decide)).trans h.2.1, ds_f f h.2.2.1, (f.1 174 93 (by decide)).trans h.2.2.2.1, h.2.2.2.2⟩
/-- 95 put again -/
theorem sc_95 {V0 : Nat → Nat → Value} {I0 : Nat → Nat → Int32} {cd : Nat → Option xI} {so nt : Int32} {m kd : Nat} {W : Nat → Nat → Value} {J : Nat → Nat → Int32} {b : Bool} (h1 : b = true → scH V0 I0 cd so m kd nt W J) (h2 : b = false → scS V0 I0 cd so m W J) : vup W 174 95 (.int (bI b)) = W := by
  refine vup_id ?_
  cases b with
  | true => exact (h1 rfl).2.1
  | false => exact (h2 rfl).2.2.1
set_option maxRecDepth 100000 in
set_option maxHeartbeats 4000000 in
theorem s441 {V : Nat → Nat → Value} {I : Nat → Nat → Int32} {L : Nat → Nat → Int64} {R : Nat → Nat → Option Nat} {tl : am_H} {V0 : Nat → Nat → Value} {I0 : Nat → Nat → Int32} {cd : Nat → Option xI} {so nt x : Int32} {N c kd k : Nat} {P : xI} (hN : 400 < N) (hx : ctxR V0 I0 kd nt so P) (h : scS V0 I0 cd so c V I) (hk : k < P.length) (c6 : c < 999999) (hcd : cd c = if x ≠ vlu P k ∧ ¬ x < -99 ∧ ¬ 99 < x then gS2 kd (P.set k (srt P k, x)) else none) (hf : x ≠ vlu P k ∧ ¬ x < -99 ∧ ¬ 99 < x → frm kd (P.set k (srt P k, x))) : ∃ W J b, fm_441 N (.ref 174) (nI k) x (fx V I L R ++ tl) = some (.inl (some (.int (bI b)), fx W J L R ++ tl)) ∧ (b = true → scH V0 I0 cd so (c + 1) kd nt W J) ∧ (b = false → scS V0 I0 cd so (c + 1) W J) := by
  obtain ⟨x1, x2, x3, x4, x5⟩ := ct_f hx h.1
  have no : cd c = none → fm_441 N (.ref 174) (nI k) x (fx V I L R ++ tl) = some (.inl (some (.int 0), fx V I L R ++ tl)) → ∃ W J b, fm_441 N (.ref 174) (nI k) x (fx V I L R ++ tl) = some (.inl (some (.int (bI b)), fx W J L R ++ tl)) ∧ (b = true → scH V0 I0 cd so (c + 1) kd nt W J) ∧ (b = false → scS V0 I0 cd so (c + 1) W J) := fun hn e => ⟨V, I, false, e, fun e => Bool.noConfusion e, fun _ => scS_n h hn⟩
  by_cases c1 : x < -99 ∨ 99 < x
  · refine no (by rw [hcd, if_neg (fun g => by rcases c1 with r | r; exact g.2.1 r; exact g.2.2 r)]) ?_
    apply hm_441
    apply hd_441_0
    refine ev_cI (pe_327 _ _ _ _) ?_
    rw [in99n c1]
    exact ev_t rfl rfl
  have a1 : ¬ x < -99 := fun h => c1 (.inl h)
  have a2 : ¬ 99 < x := fun h => c1 (.inr h)
  have rd : am_pA 0 (.ref 189) (nI k) (fx V I L R ++ tl) = some (vlu P k) := (qa_189 (by omega)).trans (congrArg some (ds_at x3 hk).2)
  by_cases c2 : x = vlu P k
  · refine no (by rw [hcd, if_neg (fun g => g.1 c2)]) ?_
    apply hm_441
    apply hd_441_0
    refine ev_cI (pe_327 _ _ _ _) ?_
    rw [in99 a1 a2]
    exact ev_f (by decide) (ev_b (rdR rfl) (ev_b rd (ev_f (fun e => e c2) rfl)))
  rw [if_pos ⟨c2, a1, a2⟩] at hcd
  obtain ⟨W1, J1, e1, d1, d2, d3, f1⟩ := s442 (L := L) (R := R) (tl := tl) hN x1 x2 x3 (by omega)
  obtain ⟨W, J, b, e, g1, g2⟩ := stepC (L := L) (R := R) (tl := tl) (V1 := W1) (I1 := iup J1 187 (upd (J1 187) k x)) hN h (frEd_t f1 (frEd_i (by decide))) ⟨by rw [List.length_set]; exact d1.1, lay2_v d1.2⟩ d2 d3 (hf ⟨c2, a1, a2⟩) hcd c6 hx.2.2.2.1
  refine ⟨W, J, b, ?_, g1, g2⟩
  apply hm_441
  apply hd_441_0
  refine ev_cI (pe_327 _ _ _ _) ?_
  rw [in99 a1 a2]
  exact ev_f (by decide) (ev_b (rdR rfl) (ev_b rd (ev_t c2 (ev_i rfl (ev_cV e1 (ev_b (rdR rfl) (ev_b (qs_187 (by omega)) (ev_i rfl (ev_cI e (ev_i (bI_fit b) rfl))))))))))
set_option maxRecDepth 100000 in
set_option maxHeartbeats 4000000 in
theorem s461 {V : Nat → Nat → Value} {I : Nat → Nat → Int32} {L : Nat → Nat → Int64} {R : Nat → Nat → Option Nat} {tl : am_H} {V0 : Nat → Nat → Value} {I0 : Nat → Nat → Int32} {cd : Nat → Option xI} {so nt x : Int32} {N c kd k : Nat} {P : xI} (hN : 400 < N) (hx : ctxR V0 I0 kd nt so P) (h : scS V0 I0 cd so c V I) (hk : k < P.length) (c6 : c < 999999) (hcd : cd c = if x ≠ srt P k ∧ ¬ x < -99 ∧ ¬ 99 < x then gS2 kd (P.set k (x, vlu P k)) else none) (hf : x ≠ srt P k ∧ ¬ x < -99 ∧ ¬ 99 < x → frm kd (P.set k (x, vlu P k))) : ∃ W J b, fm_461 N (.ref 174) (nI k) x (fx V I L R ++ tl) = some (.inl (some (.int (bI b)), fx W J L R ++ tl)) ∧ (b = true → scH V0 I0 cd so (c + 1) kd nt W J) ∧ (b = false → scS V0 I0 cd so (c + 1) W J) := by
  obtain ⟨x1, x2, x3, x4, x5⟩ := ct_f hx h.1
  have no : cd c = none → fm_461 N (.ref 174) (nI k) x (fx V I L R ++ tl) = some (.inl (some (.int 0), fx V I L R ++ tl)) → ∃ W J b, fm_461 N (.ref 174) (nI k) x (fx V I L R ++ tl) = some (.inl (some (.int (bI b)), fx W J L R ++ tl)) ∧ (b = true → scH V0 I0 cd so (c + 1) kd nt W J) ∧ (b = false → scS V0 I0 cd so (c + 1) W J) := fun hn e => ⟨V, I, false, e, fun e => Bool.noConfusion e, fun _ => scS_n h hn⟩
  by_cases c1 : x < -99 ∨ 99 < x
  · refine no (by rw [hcd, if_neg (fun g => by rcases c1 with r | r; exact g.2.1 r; exact g.2.2 r)]) ?_
    apply hm_461
    apply hd_461_0
    refine ev_cI (pe_327 _ _ _ _) ?_
    rw [in99n c1]
    exact ev_t rfl rfl
  have a1 : ¬ x < -99 := fun h => c1 (.inl h)
  have a2 : ¬ 99 < x := fun h => c1 (.inr h)
  have rd : am_pA 0 (.ref 188) (nI k) (fx V I L R ++ tl) = some (srt P k) := (qa_188 (by omega)).trans (congrArg some (ds_at x3 hk).1)
  by_cases c2 : x = srt P k
  · refine no (by rw [hcd, if_neg (fun g => g.1 c2)]) ?_
    apply hm_461
    apply hd_461_0
    refine ev_cI (pe_327 _ _ _ _) ?_
    rw [in99 a1 a2]
    exact ev_f (by decide) (ev_b (rdR rfl) (ev_b rd (ev_f (fun e => e c2) rfl)))
  rw [if_pos ⟨c2, a1, a2⟩] at hcd
  obtain ⟨W1, J1, e1, d1, d2, d3, f1⟩ := s442 (L := L) (R := R) (tl := tl) hN x1 x2 x3 (by omega)
  obtain ⟨W, J, b, e, g1, g2⟩ := stepC (L := L) (R := R) (tl := tl) (V1 := W1) (I1 := iup J1 186 (upd (J1 186) k x)) hN h (frEd_t f1 (frEd_i (by decide))) ⟨by rw [List.length_set]; exact d1.1, lay2_s d1.2⟩ d2 d3 (hf ⟨c2, a1, a2⟩) hcd c6 hx.2.2.2.1
  refine ⟨W, J, b, ?_, g1, g2⟩
  apply hm_461
  apply hd_461_0
  refine ev_cI (pe_327 _ _ _ _) ?_
  rw [in99 a1 a2]
  exact ev_f (by decide) (ev_b (rdR rfl) (ev_b rd (ev_t c2 (ev_i rfl (ev_cV e1 (ev_b (rdR rfl) (ev_b (qs_186 (by omega)) (ev_i rfl (ev_cI e (ev_i (bI_fit b) rfl))))))))))
set_option maxRecDepth 100000 in
set_option maxHeartbeats 4000000 in
theorem x440 {V : Nat → Nat → Value} {I : Nat → Nat → Int32} {L : Nat → Nat → Int64} {R : Nat → Nat → Option Nat} {tl : am_H} {N K : Nat} {k : Nat} {P : xI} (h18 : V 174 18 = .int (nI P.length)) (h95 : V 174 95 = .int 1) (hl : P.length ≤ 60) (hk : k ≤ 60) : fg_440_2 N (K + 1) (.ref 174) (nI k) (fx V I L R ++ tl) = some (.inl (none, fx V I L R ++ tl)) := by
  apply hd_440_2
  by_cases c : P.length ≤ k
  · exact ev_b (rdI h18) (ev_t (nI_le c (by omega)) rfl)
  · exact ev_b (rdI h18) (ev_f (nI_ge (by omega) (by omega)) (ev_b (rdI h95) (ev_t (by decide) rfl)))
set_option maxRecDepth 100000 in
set_option maxHeartbeats 4000000 in
theorem l440 {L : Nat → Nat → Int64} {R : Nat → Nat → Option Nat} {tl : am_H} {V0 : Nat → Nat → Value} {I0 : Nat → Nat → Int32} {cd : Nat → Option xI} {so nt : Int32} {N kd : Nat} {P : xI} (hN : 400 < N) (hx : ctxR V0 I0 kd nt so P) (hcd : ∀ k b, k < P.length → b < 5 → cd (5 * k + b) = (if srt P k = 0 then (if ndg b (vlu P k) ≠ vlu P k ∧ ¬ ndg b (vlu P k) < -99 ∧ ¬ 99 < ndg b (vlu P k) then gS2 kd (P.set k (srt P k, ndg b (vlu P k))) else none) else none)) (hfr : ∀ k x, k < P.length → srt P k = 0 → frm kd (P.set k (srt P k, x))) : ∀ (m k K : Nat) (V : Nat → Nat → Value) (I : Nat → Nat → Int32), k + m = P.length → m + 1 < K → scS V0 I0 cd so (5 * k) V I → ∃ W J, fg_440_2 N K (.ref 174) (nI k) (fx V I L R ++ tl) = some (.inl (none, fx W J L R ++ tl)) ∧ outS V0 I0 cd so (5 * P.length) kd nt W J := by
  intro m
  induction m with
  | zero =>
    intro k K V I hm hK h
    obtain ⟨K, rfl⟩ : ∃ k, K = k + 1 := ⟨K - 1, by omega⟩
    rw [Nat.add_zero] at hm
    subst hm
    refine ⟨V, I, ?_, .inr h⟩
    apply hd_440_2
    exact ev_b (rdI (ct_f hx h.1).2.2.1.1) (ev_t (nI_le (Nat.le_refl _) (by have := hx.2.2.2.2; omega)) rfl)
  | succ m ih =>
    intro k K V I hm hK h
    obtain ⟨K, rfl⟩ : ∃ k, K = k + 1 := ⟨K - 1, by omega⟩
    have l60 := hx.2.2.2.2
    have hk : k < P.length := by omega
    have c0 := ct_f hx h.1
    have rd18 := c0.2.2.1.1
    have rv : am_pA 0 (.ref 189) (nI k) (fx V I L R ++ tl) = some (vlu P k) := (qa_189 (by omega)).trans (congrArg some (ds_at c0.2.2.1 hk).2)
    have rs : am_pA 0 (.ref 188) (nI k) (fx V I L R ++ tl) = some (srt P k) := (qa_188 (by omega)).trans (congrArg some (ds_at c0.2.2.1 hk).1)
    have goH : ∀ c W J, c ≤ 5 * P.length → scH V0 I0 cd so c kd nt W J → fg_440_90 N (fg_440_2 N K) (.ref 174) (nI k) (fx W J L R ++ tl) = some (.inl (none, fx W J L R ++ tl)) ∧ outS V0 I0 cd so (5 * P.length) kd nt W J := fun c W J hc hh => by
      refine ⟨?_, .inl (scH_m hh hc)⟩
      obtain ⟨K, rfl⟩ : ∃ k, K = k + 1 := ⟨K - 1, by omega⟩
      apply hd_440_90
      rw [nI_1]
      exact x440 (P := P) (ct_f hx hh.1).2.2.1.1 hh.2.1 l60 (by omega)
    have goS : ∀ W J, scS V0 I0 cd so (5 * k + 5) W J → ∃ W' J', fg_440_90 N (fg_440_2 N K) (.ref 174) (nI k) (fx W J L R ++ tl) = some (.inl (none, fx W' J' L R ++ tl)) ∧ outS V0 I0 cd so (5 * P.length) kd nt W' J' := fun W J hs => by
      obtain ⟨W', J', e, o⟩ := ih (k + 1) K W J (by omega) (by omega) (by rw [show 5 * (k + 1) = 5 * k + 5 by omega]; exact hs)
      refine ⟨W', J', ?_, o⟩
      apply hd_440_90
      rw [nI_1]
      exact e
    by_cases h0 : srt P k = 0
    case neg =>
      have hs : scS V0 I0 cd so (5 * k + 5) V I := by
        have n : ∀ b, b < 5 → cd (5 * k + b) = none := fun b hb => by rw [hcd k b hk hb, if_neg h0]
        exact scS_n (scS_n (scS_n (scS_n (scS_n h (n 0 (by omega))) (n 1 (by omega))) (n 2 (by omega))) (n 3 (by omega))) (n 4 (by omega))
      obtain ⟨W', J', e, o⟩ := goS V I hs
      refine ⟨W', J', ?_, o⟩
      apply hd_440_2
      exact ev_b (rdI rd18) (ev_f (nI_ge hk (by omega)) (ev_b (rdI h.2.2.1) (ev_f (fun h => h rfl) (ev_b (rdR rfl) (ev_b rv (ev_b (rdR rfl) (ev_b rs (ev_t h0 e))))))))
    obtain ⟨W1, J1, b1, e1, g1, n1⟩ := s441 (V := V) (I := I) (L := L) (R := R) (tl := tl) (x := vlu P k + 1) hN hx h hk (by omega) (by have q := hcd k 0 hk (by omega); rw [if_pos h0] at q; exact q) (fun _ => hfr k _ hk h0 )
    cases b1 with
    | true =>
      obtain ⟨q1, q2⟩ := goH _ W1 J1 (by omega) (g1 rfl)
      refine ⟨W1, J1, ?_, q2⟩
      apply hd_440_2
      refine ev_b (rdI rd18) (ev_f (nI_ge hk (by omega)) (ev_b (rdI h.2.2.1) (ev_f (fun h => h rfl) (ev_b (rdR rfl) (ev_b rv (ev_b (rdR rfl) (ev_b rs (ev_f (fun h => h h0) (ev_i rfl (ev_cI e1 (ev_t (by decide) ?_)))))))))))
      exact q1
    | false =>
    have m1 := n1 rfl
    obtain ⟨W2, J2, b2, e2, g2, n2⟩ := s441 (V := W1) (I := J1) (L := L) (R := R) (tl := tl) (x := vlu P k - 1) hN hx m1 hk (by omega) (by have q := hcd k 1 hk (by omega); rw [if_pos h0] at q; exact q) (fun _ => hfr k _ hk h0 )
    cases b2 with
    | true =>
      obtain ⟨q1, q2⟩ := goH _ W2 J2 (by omega) (g2 rfl)
      refine ⟨W2, J2, ?_, q2⟩
      apply hd_440_2
      refine ev_b (rdI rd18) (ev_f (nI_ge hk (by omega)) (ev_b (rdI h.2.2.1) (ev_f (fun h => h rfl) (ev_b (rdR rfl) (ev_b rv (ev_b (rdR rfl) (ev_b rs (ev_f (fun h => h h0) (ev_i rfl (ev_cI e1 (ev_f (fun h => h rfl) (ev_i rfl (ev_cI e2 (ev_t (by decide) ?_))))))))))))))
      exact q1
    | false =>
    have m2 := n2 rfl
    obtain ⟨W3, J3, b3, e3, g3, n3⟩ := s441 (V := W2) (I := J2) (L := L) (R := R) (tl := tl) (x := vlu P k + 10) hN hx m2 hk (by omega) (by have q := hcd k 2 hk (by omega); rw [if_pos h0] at q; exact q) (fun _ => hfr k _ hk h0 )
    cases b3 with
    | true =>
      obtain ⟨q1, q2⟩ := goH _ W3 J3 (by omega) (g3 rfl)
      refine ⟨W3, J3, ?_, q2⟩
      apply hd_440_2
      refine ev_b (rdI rd18) (ev_f (nI_ge hk (by omega)) (ev_b (rdI h.2.2.1) (ev_f (fun h => h rfl) (ev_b (rdR rfl) (ev_b rv (ev_b (rdR rfl) (ev_b rs (ev_f (fun h => h h0) (ev_i rfl (ev_cI e1 (ev_f (fun h => h rfl) (ev_i rfl (ev_cI e2 (ev_f (fun h => h rfl) (ev_i rfl (ev_cI e3 (ev_t (by decide) ?_)))))))))))))))))
      exact q1
    | false =>
    have m3 := n3 rfl
    obtain ⟨W4, J4, b4, e4, g4, n4⟩ := s441 (V := W3) (I := J3) (L := L) (R := R) (tl := tl) (x := vlu P k - 10) hN hx m3 hk (by omega) (by have q := hcd k 3 hk (by omega); rw [if_pos h0] at q; exact q) (fun _ => hfr k _ hk h0 )
    cases b4 with
    | true =>
      obtain ⟨q1, q2⟩ := goH _ W4 J4 (by omega) (g4 rfl)
      refine ⟨W4, J4, ?_, q2⟩
      apply hd_440_2
      refine ev_b (rdI rd18) (ev_f (nI_ge hk (by omega)) (ev_b (rdI h.2.2.1) (ev_f (fun h => h rfl) (ev_b (rdR rfl) (ev_b rv (ev_b (rdR rfl) (ev_b rs (ev_f (fun h => h h0) (ev_i rfl (ev_cI e1 (ev_f (fun h => h rfl) (ev_i rfl (ev_cI e2 (ev_f (fun h => h rfl) (ev_i rfl (ev_cI e3 (ev_f (fun h => h rfl) (ev_i rfl (ev_cI e4 (ev_t (by decide) ?_))))))))))))))))))))
      exact q1
    | false =>
    have m4 := n4 rfl
    obtain ⟨W5, J5, b5, e5, g5, n5⟩ := s441 (V := W4) (I := J4) (L := L) (R := R) (tl := tl) (x := -vlu P k) hN hx m4 hk (by omega) (by have q := hcd k 4 hk (by omega); rw [if_pos h0] at q; exact q) (fun _ => hfr k _ hk h0 )
    have st0 : ∀ W' J', fg_440_90 N (fg_440_2 N K) (.ref 174) (nI k) (fx W5 J5 L R ++ tl) = some (.inl (none, fx W' J' L R ++ tl)) → fg_440_2 N (K + 1) (.ref 174) (nI k) (fx V I L R ++ tl) = some (.inl (none, fx W' J' L R ++ tl)) := fun W' J' k_ => by
      apply hd_440_2
      refine ev_b (rdI rd18) (ev_f (nI_ge hk (by omega)) (ev_b (rdI h.2.2.1) (ev_f (fun h => h rfl) (ev_b (rdR rfl) (ev_b rv (ev_b (rdR rfl) (ev_b rs (ev_f (fun h => h h0) (ev_i rfl (ev_cI e1 (ev_f (fun h => h rfl) (ev_i rfl (ev_cI e2 (ev_f (fun h => h rfl) (ev_i rfl (ev_cI e3 (ev_f (fun h => h rfl) (ev_i rfl (ev_cI e4 (ev_f (fun h => h rfl) (ev_i rfl (ev_cI e5 ?_))))))))))))))))))))))
      refine ev_b (qp_174_95 (by cases b5 <;> rfl)) ?_
      rw [sc_95 g5 n5]
      exact k_
    cases b5 with
    | true =>
      obtain ⟨q1, q2⟩ := goH _ W5 J5 (by omega) (g5 rfl)
      exact ⟨W5, J5, st0 _ _ q1, q2⟩
    | false =>
      obtain ⟨W', J', q1, q2⟩ := goS W5 J5 (n5 rfl)
      exact ⟨W', J', st0 _ _ q1, q2⟩
set_option maxRecDepth 100000 in
set_option maxHeartbeats 4000000 in
theorem r_440 {V : Nat → Nat → Value} {I : Nat → Nat → Int32} {L : Nat → Nat → Int64} {R : Nat → Nat → Option Nat} {tl : am_H} {V0 : Nat → Nat → Value} {I0 : Nat → Nat → Int32} {cd : Nat → Option xI} {so nt : Int32} {N kd : Nat} {P : xI} (hN : 400 < N) (hx : ctxR V0 I0 kd nt so P) (hcd : ∀ k b, k < P.length → b < 5 → cd (5 * k + b) = (if srt P k = 0 then (if ndg b (vlu P k) ≠ vlu P k ∧ ¬ ndg b (vlu P k) < -99 ∧ ¬ 99 < ndg b (vlu P k) then gS2 kd (P.set k (srt P k, ndg b (vlu P k))) else none) else none)) (hfr : ∀ k x, k < P.length → srt P k = 0 → frm kd (P.set k (srt P k, x))) (h : scS V0 I0 cd so 0 V I) : ∃ W J, fm_440 N (.ref 174) (fx V I L R ++ tl) = some (.inl (none, fx W J L R ++ tl)) ∧ outS V0 I0 cd so (5 * P.length) kd nt W J := by
  obtain ⟨W, J, e, o⟩ := l440 (L := L) (R := R) (tl := tl) hN hx hcd hfr P.length 0 N V I (by omega) (by have := hx.2.2.2.2; omega) h
  refine ⟨W, J, ?_, o⟩
  apply hm_440
  apply hd_440_0
  exact e
set_option maxRecDepth 100000 in
set_option maxHeartbeats 4000000 in
theorem x460 {V : Nat → Nat → Value} {I : Nat → Nat → Int32} {L : Nat → Nat → Int64} {R : Nat → Nat → Option Nat} {tl : am_H} {N K : Nat} {k : Nat} {P : xI} (h18 : V 174 18 = .int (nI P.length)) (h95 : V 174 95 = .int 1) (hl : P.length ≤ 60) (hk : k ≤ 60) : fg_460_2 N (K + 1) (.ref 174) (nI k) (fx V I L R ++ tl) = some (.inl (none, fx V I L R ++ tl)) := by
  apply hd_460_2
  by_cases c : P.length ≤ k
  · exact ev_b (rdI h18) (ev_t (nI_le c (by omega)) rfl)
  · exact ev_b (rdI h18) (ev_f (nI_ge (by omega) (by omega)) (ev_b (rdI h95) (ev_t (by decide) rfl)))
set_option maxRecDepth 100000 in
set_option maxHeartbeats 4000000 in
theorem l460 {L : Nat → Nat → Int64} {R : Nat → Nat → Option Nat} {tl : am_H} {V0 : Nat → Nat → Value} {I0 : Nat → Nat → Int32} {cd : Nat → Option xI} {so nt : Int32} {N kd : Nat} {P : xI} (hN : 400 < N) (hx : ctxR V0 I0 kd nt so P) (hcd : ∀ k b, k < P.length → b < 5 → cd (5 * k + b) = (if ndg b (srt P k) ≠ srt P k ∧ ¬ ndg b (srt P k) < -99 ∧ ¬ 99 < ndg b (srt P k) then gS2 kd (P.set k (ndg b (srt P k), vlu P k)) else none)) (hfr : ∀ k x, k < P.length → frm kd (P.set k (x, vlu P k))) : ∀ (m k K : Nat) (V : Nat → Nat → Value) (I : Nat → Nat → Int32), k + m = P.length → m + 1 < K → scS V0 I0 cd so (5 * k) V I → ∃ W J, fg_460_2 N K (.ref 174) (nI k) (fx V I L R ++ tl) = some (.inl (none, fx W J L R ++ tl)) ∧ outS V0 I0 cd so (5 * P.length) kd nt W J := by
  intro m
  induction m with
  | zero =>
    intro k K V I hm hK h
    obtain ⟨K, rfl⟩ : ∃ k, K = k + 1 := ⟨K - 1, by omega⟩
    rw [Nat.add_zero] at hm
    subst hm
    refine ⟨V, I, ?_, .inr h⟩
    apply hd_460_2
    exact ev_b (rdI (ct_f hx h.1).2.2.1.1) (ev_t (nI_le (Nat.le_refl _) (by have := hx.2.2.2.2; omega)) rfl)
  | succ m ih =>
    intro k K V I hm hK h
    obtain ⟨K, rfl⟩ : ∃ k, K = k + 1 := ⟨K - 1, by omega⟩
    have l60 := hx.2.2.2.2
    have hk : k < P.length := by omega
    have c0 := ct_f hx h.1
    have rd18 := c0.2.2.1.1
    have rv : am_pA 0 (.ref 188) (nI k) (fx V I L R ++ tl) = some (srt P k) := (qa_188 (by omega)).trans (congrArg some (ds_at c0.2.2.1 hk).1)
    have goH : ∀ c W J, c ≤ 5 * P.length → scH V0 I0 cd so c kd nt W J → fg_460_81 N (fg_460_2 N K) (.ref 174) (nI k) (fx W J L R ++ tl) = some (.inl (none, fx W J L R ++ tl)) ∧ outS V0 I0 cd so (5 * P.length) kd nt W J := fun c W J hc hh => by
      refine ⟨?_, .inl (scH_m hh hc)⟩
      obtain ⟨K, rfl⟩ : ∃ k, K = k + 1 := ⟨K - 1, by omega⟩
      apply hd_460_81
      rw [nI_1]
      exact x460 (P := P) (ct_f hx hh.1).2.2.1.1 hh.2.1 l60 (by omega)
    have goS : ∀ W J, scS V0 I0 cd so (5 * k + 5) W J → ∃ W' J', fg_460_81 N (fg_460_2 N K) (.ref 174) (nI k) (fx W J L R ++ tl) = some (.inl (none, fx W' J' L R ++ tl)) ∧ outS V0 I0 cd so (5 * P.length) kd nt W' J' := fun W J hs => by
      obtain ⟨W', J', e, o⟩ := ih (k + 1) K W J (by omega) (by omega) (by rw [show 5 * (k + 1) = 5 * k + 5 by omega]; exact hs)
      refine ⟨W', J', ?_, o⟩
      apply hd_460_81
      rw [nI_1]
      exact e
    obtain ⟨W1, J1, b1, e1, g1, n1⟩ := s461 (V := V) (I := I) (L := L) (R := R) (tl := tl) (x := srt P k + 1) hN hx h hk (by omega) (by have q := hcd k 0 hk (by omega); exact q) (fun _ => hfr k _ hk )
    cases b1 with
    | true =>
      obtain ⟨q1, q2⟩ := goH _ W1 J1 (by omega) (g1 rfl)
      refine ⟨W1, J1, ?_, q2⟩
      apply hd_460_2
      refine ev_b (rdI rd18) (ev_f (nI_ge hk (by omega)) (ev_b (rdI h.2.2.1) (ev_f (fun h => h rfl) (ev_b (rdR rfl) (ev_b rv (ev_i rfl (ev_cI e1 (ev_t (by decide) ?_))))))))
      exact q1
    | false =>
    have m1 := n1 rfl
    obtain ⟨W2, J2, b2, e2, g2, n2⟩ := s461 (V := W1) (I := J1) (L := L) (R := R) (tl := tl) (x := srt P k - 1) hN hx m1 hk (by omega) (by have q := hcd k 1 hk (by omega); exact q) (fun _ => hfr k _ hk )
    cases b2 with
    | true =>
      obtain ⟨q1, q2⟩ := goH _ W2 J2 (by omega) (g2 rfl)
      refine ⟨W2, J2, ?_, q2⟩
      apply hd_460_2
      refine ev_b (rdI rd18) (ev_f (nI_ge hk (by omega)) (ev_b (rdI h.2.2.1) (ev_f (fun h => h rfl) (ev_b (rdR rfl) (ev_b rv (ev_i rfl (ev_cI e1 (ev_f (fun h => h rfl) (ev_i rfl (ev_cI e2 (ev_t (by decide) ?_)))))))))))
      exact q1
    | false =>
    have m2 := n2 rfl
    obtain ⟨W3, J3, b3, e3, g3, n3⟩ := s461 (V := W2) (I := J2) (L := L) (R := R) (tl := tl) (x := srt P k + 10) hN hx m2 hk (by omega) (by have q := hcd k 2 hk (by omega); exact q) (fun _ => hfr k _ hk )
    cases b3 with
    | true =>
      obtain ⟨q1, q2⟩ := goH _ W3 J3 (by omega) (g3 rfl)
      refine ⟨W3, J3, ?_, q2⟩
      apply hd_460_2
      refine ev_b (rdI rd18) (ev_f (nI_ge hk (by omega)) (ev_b (rdI h.2.2.1) (ev_f (fun h => h rfl) (ev_b (rdR rfl) (ev_b rv (ev_i rfl (ev_cI e1 (ev_f (fun h => h rfl) (ev_i rfl (ev_cI e2 (ev_f (fun h => h rfl) (ev_i rfl (ev_cI e3 (ev_t (by decide) ?_))))))))))))))
      exact q1
    | false =>
    have m3 := n3 rfl
    obtain ⟨W4, J4, b4, e4, g4, n4⟩ := s461 (V := W3) (I := J3) (L := L) (R := R) (tl := tl) (x := srt P k - 10) hN hx m3 hk (by omega) (by have q := hcd k 3 hk (by omega); exact q) (fun _ => hfr k _ hk )
    cases b4 with
    | true =>
      obtain ⟨q1, q2⟩ := goH _ W4 J4 (by omega) (g4 rfl)
      refine ⟨W4, J4, ?_, q2⟩
      apply hd_460_2
      refine ev_b (rdI rd18) (ev_f (nI_ge hk (by omega)) (ev_b (rdI h.2.2.1) (ev_f (fun h => h rfl) (ev_b (rdR rfl) (ev_b rv (ev_i rfl (ev_cI e1 (ev_f (fun h => h rfl) (ev_i rfl (ev_cI e2 (ev_f (fun h => h rfl) (ev_i rfl (ev_cI e3 (ev_f (fun h => h rfl) (ev_i rfl (ev_cI e4 (ev_t (by decide) ?_)))))))))))))))))
      exact q1
    | false =>
    have m4 := n4 rfl
    obtain ⟨W5, J5, b5, e5, g5, n5⟩ := s461 (V := W4) (I := J4) (L := L) (R := R) (tl := tl) (x := -srt P k) hN hx m4 hk (by omega) (by have q := hcd k 4 hk (by omega); exact q) (fun _ => hfr k _ hk )
    have st0 : ∀ W' J', fg_460_81 N (fg_460_2 N K) (.ref 174) (nI k) (fx W5 J5 L R ++ tl) = some (.inl (none, fx W' J' L R ++ tl)) → fg_460_2 N (K + 1) (.ref 174) (nI k) (fx V I L R ++ tl) = some (.inl (none, fx W' J' L R ++ tl)) := fun W' J' k_ => by
      apply hd_460_2
      refine ev_b (rdI rd18) (ev_f (nI_ge hk (by omega)) (ev_b (rdI h.2.2.1) (ev_f (fun h => h rfl) (ev_b (rdR rfl) (ev_b rv (ev_i rfl (ev_cI e1 (ev_f (fun h => h rfl) (ev_i rfl (ev_cI e2 (ev_f (fun h => h rfl) (ev_i rfl (ev_cI e3 (ev_f (fun h => h rfl) (ev_i rfl (ev_cI e4 (ev_f (fun h => h rfl) (ev_i rfl (ev_cI e5 ?_)))))))))))))))))))
      refine ev_b (qp_174_95 (by cases b5 <;> rfl)) ?_
      rw [sc_95 g5 n5]
      exact k_
    cases b5 with
    | true =>
      obtain ⟨q1, q2⟩ := goH _ W5 J5 (by omega) (g5 rfl)
      exact ⟨W5, J5, st0 _ _ q1, q2⟩
    | false =>
      obtain ⟨W', J', q1, q2⟩ := goS W5 J5 (n5 rfl)
      exact ⟨W', J', st0 _ _ q1, q2⟩
set_option maxRecDepth 100000 in
set_option maxHeartbeats 4000000 in
theorem r_460 {V : Nat → Nat → Value} {I : Nat → Nat → Int32} {L : Nat → Nat → Int64} {R : Nat → Nat → Option Nat} {tl : am_H} {V0 : Nat → Nat → Value} {I0 : Nat → Nat → Int32} {cd : Nat → Option xI} {so nt : Int32} {N kd : Nat} {P : xI} (hN : 400 < N) (hx : ctxR V0 I0 kd nt so P) (hcd : ∀ k b, k < P.length → b < 5 → cd (5 * k + b) = (if ndg b (srt P k) ≠ srt P k ∧ ¬ ndg b (srt P k) < -99 ∧ ¬ 99 < ndg b (srt P k) then gS2 kd (P.set k (ndg b (srt P k), vlu P k)) else none)) (hfr : ∀ k x, k < P.length → frm kd (P.set k (x, vlu P k))) (h : scS V0 I0 cd so 0 V I) : ∃ W J, fm_460 N (.ref 174) (fx V I L R ++ tl) = some (.inl (none, fx W J L R ++ tl)) ∧ outS V0 I0 cd so (5 * P.length) kd nt W J := by
  obtain ⟨W, J, e, o⟩ := l460 (L := L) (R := R) (tl := tl) hN hx hcd hfr P.length 0 N V I (by omega) (by have := hx.2.2.2.2; omega) h
  refine ⟨W, J, ?_, o⟩
  apply hm_460
  apply hd_460_0
  exact e
