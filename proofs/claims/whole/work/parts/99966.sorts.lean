/-! ===== edits: loops in loops; trees with other sorts, leaves, parts, in the reference ===== -/
theorem hd_447_104 {N : Nat} {h : am_H} {r_ : Option am_O} (k_ : some (.inl (none, h)) = r_) : fg_447_104 N h = r_ := k_
theorem hd_447_98 {N : Nat} {rec_2 : Value → Int32 → am_H → Option am_O} {x0 : Value} {x1 : Int32} {h : am_H} {r_ : Option am_O} (k_ : (rec_2 x0 ((x1 + 1)) h) = r_) : fg_447_98 N rec_2 x0 x1 h = r_ := k_
theorem hd_447_92 {N : Nat} {rec_2 : Value → Int32 → am_H → Option am_O} {rec_19 : Value → Int32 → Int32 → am_H → Option am_O} {x0 : Value} {x1 : Int32} {x2 : Int32} {h : am_H} {r_ : Option am_O} (k_ : (rec_19 x0 x1 ((x2 + 1)) h) = r_) : fg_447_92 N rec_2 rec_19 x0 x1 x2 h = r_ := k_
theorem hd_447_83 {N : Nat} {rec_2 : Value → Int32 → am_H → Option am_O} {rec_19 : Value → Int32 → Int32 → am_H → Option am_O} {x0 : Value} {x1 : Int32} {x2 : Int32} {s0 : Value} {s1 : Int32} {s2 : Int32} {h : am_H} {r_ : Option am_O} (k_ : ((am_pS 0 s0 s1 s2 h).bind fun h1 => (if am_pOk 12 x0 h1 then am_cI true (fm_444 N x0 h1) (fun v4 h5 => ((am_pP 3167 x0 (.int v4) h5).bind fun h7 => (fg_447_92 N rec_2 rec_19 x0 x1 x2 h7))) else none)) = r_) : fg_447_83 N rec_2 rec_19 x0 x1 x2 s0 s1 s2 h = r_ := k_
theorem hd_447_19 {N : Nat} {rec_2 : Value → Int32 → am_H → Option am_O} {K : Nat} {x0 : Value} {x1 : Int32} {x2 : Int32} {h : am_H} {r_ : Option am_O} (k_ : (if 21 ≤ x2 then (fg_447_98 N rec_2 x0 x1 h) else ((am_vI (am_pG 3167 x0 h)).bind fun v2 => (if ¬ v2 = 0 then (fg_447_98 N rec_2 x0 x1 h) else ((am_vR (am_pG 3093 x0 h)).bind fun v5 => ((am_pA 0 v5 x1 h).bind fun v7 => (if x2 = v7 then (fg_447_92 N rec_2 (fg_447_19 N rec_2 K) x0 x1 x2 h) else ((am_vR (am_pG 3093 x0 h)).bind fun v10 => ((am_pA 0 v10 x1 h).bind fun v12 => am_cI false (fm_448 N x2 v12 h) (fun v14 h15 => (if ¬ v14 = 0 then (if am_pOk 12 x0 h15 then am_cV true (fm_442 N x0 h15) (fun h20 => ((am_vR (am_pG 3088 x0 h20)).bind fun v22 => ((am_pS 0 v22 x1 x2 h20).bind fun h24 => ((am_vR (am_pG 3089 x0 h24)).bind fun v26 => (if ¬ x2 = 0 then (fg_447_83 N rec_2 (fg_447_19 N rec_2 K) x0 x1 x2 v26 x1 0 h24) else (fg_447_83 N rec_2 (fg_447_19 N rec_2 K) x0 x1 x2 v26 x1 1 h24)))))) else none) else (fg_447_92 N rec_2 (fg_447_19 N rec_2 K) x0 x1 x2 h15))))))))))) = r_) : fg_447_19 N rec_2 (K + 1) x0 x1 x2 h = r_ := by rw [fg_447_19]; exact k_
theorem hd_447_2 {N : Nat} {K : Nat} {x0 : Value} {x1 : Int32} {h : am_H} {r_ : Option am_O} (k_ : ((am_vI (am_pG 3090 x0 h)).bind fun v1 => (if v1 ≤ x1 then (fg_447_104 N h) else ((am_vI (am_pG 3167 x0 h)).bind fun v4 => (if ¬ v4 = 0 then (fg_447_104 N h) else (fg_447_19 N (fg_447_2 N K) N x0 x1 0 h))))) = r_) : fg_447_2 N (K + 1) x0 x1 h = r_ := by rw [fg_447_2]; exact k_
theorem hd_447_0 {N : Nat} {x0 : Value} {h : am_H} {r_ : Option am_O} (k_ : (fg_447_2 N N x0 0 h) = r_) : fg_447_0 N x0 h = r_ := k_
theorem hm_447 {N : Nat} {y0 : Value} {h : am_H} {r_ : Option am_O} (k_ : fg_447_0 N y0 h = r_) : fm_447 N y0 h = r_ := k_
theorem hd_448_60 {N : Nat} {rec_30 : Int32 → Int32 → Int32 → Int32 → am_H → Option am_O} {x0 : Int32} {x1 : Int32} {x3 : Int32} {s0 : Int32} {h : am_H} {r_ : Option am_O} (k_ : (rec_30 x0 x1 s0 ((x3 + 1)) h) = r_) : fg_448_60 N rec_30 x0 x1 x3 s0 h = r_ := k_
theorem hd_448_59 {N : Nat} {rec_30 : Int32 → Int32 → Int32 → Int32 → am_H → Option am_O} {x0 : Int32} {x1 : Int32} {x3 : Int32} {h : am_H} {r_ : Option am_O} (k_ : (fg_448_60 N rec_30 x0 x1 x3 0 h) = r_) : fg_448_59 N rec_30 x0 x1 x3 h = r_ := k_
theorem hd_448_30 {N : Nat} {K : Nat} {x0 : Int32} {x1 : Int32} {x2 : Int32} {x3 : Int32} {h : am_H} {r_ : Option am_O} (k_ : am_cI false (fm_343 x0 h) (fun v1 h2 => (if v1 ≤ x3 then (if am_rfit (some FieldType.boolean) x2 then some (.inl (some (.int x2), h2)) else none) else (if x2 = 0 then (fg_448_59 N (fg_448_30 N K) x0 x1 x3 h2) else am_cI false (fm_330 x0 x3 h2) (fun v7 h8 => am_cI false (fm_330 x1 x3 h8) (fun v10 h11 => (if ¬ v7 = v10 then (fg_448_59 N (fg_448_30 N K) x0 x1 x3 h11) else (fg_448_60 N (fg_448_30 N K) x0 x1 x3 1 h11))))))) = r_) : fg_448_30 N (K + 1) x0 x1 x2 x3 h = r_ := by rw [fg_448_30]; exact k_
theorem hd_448_27 {N : Nat} {x0 : Int32} {x1 : Int32} {s0 : Int32} {h : am_H} {r_ : Option am_O} (k_ : (fg_448_30 N N x0 x1 s0 0 h) = r_) : fg_448_27 N x0 x1 s0 h = r_ := k_
theorem hd_448_26 {N : Nat} {x0 : Int32} {x1 : Int32} {h : am_H} {r_ : Option am_O} (k_ : (fg_448_27 N x0 x1 0 h) = r_) : fg_448_26 N x0 x1 h = r_ := k_
theorem hd_448_0 {N : Nat} {x0 : Int32} {x1 : Int32} {h : am_H} {r_ : Option am_O} (k_ : am_cI false (fm_343 x0 h) (fun v1 h2 => am_cI false (fm_343 x1 h2) (fun v4 h5 => (if ¬ v1 = v4 then (fg_448_26 N x0 x1 h5) else am_cI false (fm_334 x0 h5) (fun v8 h9 => am_cI false (fm_334 x1 h9) (fun v11 h12 => (if ¬ v8 = v11 then (fg_448_26 N x0 x1 h12) else (fg_448_27 N x0 x1 1 h12))))))) = r_) : fg_448_0 N x0 x1 h = r_ := k_
theorem hm_448 {N : Nat} {y0 : Int32} {y1 : Int32} {h : am_H} {r_ : Option am_O} (k_ : fg_448_0 N y0 y1 h = r_) : fm_448 N y0 y1 h = r_ := k_
theorem hd_449_54 {N : Nat} {h : am_H} {r_ : Option am_O} (k_ : some (.inl (none, h)) = r_) : fg_449_54 N h = r_ := k_
theorem hd_449_48 {N : Nat} {rec_2 : Value → Int32 → am_H → Option am_O} {x0 : Value} {x1 : Int32} {h : am_H} {r_ : Option am_O} (k_ : (rec_2 x0 ((x1 + 1)) h) = r_) : fg_449_48 N rec_2 x0 x1 h = r_ := k_
theorem hd_449_2 {N : Nat} {K : Nat} {x0 : Value} {x1 : Int32} {h : am_H} {r_ : Option am_O} (k_ : ((am_vI (am_pG 3090 x0 h)).bind fun v1 => (if v1 ≤ x1 then (fg_449_54 N h) else ((am_vI (am_pG 3167 x0 h)).bind fun v4 => (if ¬ v4 = 0 then (fg_449_54 N h) else (if am_pOk 12 x0 h then am_cI true (fm_450 N x0 x1 0 0 h) (fun v8 h9 => (if ¬ v8 = 0 then (fg_449_48 N (fg_449_2 N K) x0 x1 h9) else (if am_pOk 12 x0 h9 then am_cI true (fm_450 N x0 x1 1 0 h9) (fun v13 h14 => (if ¬ v13 = 0 then (fg_449_48 N (fg_449_2 N K) x0 x1 h14) else (if am_pOk 12 x0 h14 then am_cI true (fm_450 N x0 x1 0 1 h14) (fun v18 h19 => ((am_pP 3167 x0 (.int v18) h19).bind fun h21 => (fg_449_48 N (fg_449_2 N K) x0 x1 h21))) else none))) else none))) else none))))) = r_) : fg_449_2 N (K + 1) x0 x1 h = r_ := by rw [fg_449_2]; exact k_
theorem hd_449_0 {N : Nat} {x0 : Value} {h : am_H} {r_ : Option am_O} (k_ : (fg_449_2 N N x0 0 h) = r_) : fg_449_0 N x0 h = r_ := k_
theorem hm_449 {N : Nat} {y0 : Value} {h : am_H} {r_ : Option am_O} (k_ : fg_449_0 N y0 h = r_) : fm_449 N y0 h = r_ := k_
theorem hd_450_34 {N : Nat} {x0 : Value} {x1 : Int32} {x2 : Int32} {x3 : Int32} {h : am_H} {r_ : Option am_O} (k_ : (if am_pOk 12 x0 h then am_cV true (fm_451 x0 h) (fun h3 => (if am_pOk 12 x0 h3 then am_cV true (fm_443 N x0 0 x1 h3) (fun h7 => (if am_pOk 12 x0 h7 then am_cV true (fm_335 x0 x2 x3 h7) (fun h11 => ((am_vR (am_pG 3098 x0 h11)).bind fun v13 => ((am_pA 0 v13 x1 h11).bind fun v15 => ((am_vI (am_pG 3090 x0 h11)).bind fun v17 => (if am_pOk 12 x0 h11 then am_cV true (fm_443 N x0 ((x1 + v15)) v17 h11) (fun h21 => (if am_pOk 12 x0 h21 then am_cI true (fm_444 N x0 h21) (fun v24 h25 => (if am_rfit (some FieldType.boolean) v24 then some (.inl (some (.int v24), h25)) else none)) else none)) else none))))) else none)) else none)) else none) = r_) : fg_450_34 N x0 x1 x2 x3 h = r_ := k_
theorem hd_450_32 {N : Nat} {h : am_H} {r_ : Option am_O} (k_ : some (.inl (some (.int 0), h)) = r_) : fg_450_32 N h = r_ := k_
theorem hd_450_0 {N : Nat} {x0 : Value} {x1 : Int32} {x2 : Int32} {x3 : Int32} {h : am_H} {r_ : Option am_O} (k_ : ((am_vR (am_pG 3093 x0 h)).bind fun v1 => ((am_pA 0 v1 x1 h).bind fun v3 => am_cI false (fm_334 v3 h) (fun v5 h6 => (if ¬ v5 = 0 then (fg_450_32 N h6) else ((am_vR (am_pG 3093 x0 h6)).bind fun v9 => ((am_pA 0 v9 x1 h6).bind fun v11 => (if ¬ v11 = x2 then (fg_450_34 N x0 x1 x2 x3 h6) else ((am_vR (am_pG 3094 x0 h6)).bind fun v14 => ((am_pA 0 v14 x1 h6).bind fun v16 => (if ¬ v16 = x3 then (fg_450_34 N x0 x1 x2 x3 h6) else (fg_450_32 N h6))))))))))) = r_) : fg_450_0 N x0 x1 x2 x3 h = r_ := k_
theorem hm_450 {N : Nat} {y0 : Value} {y1 : Int32} {y2 : Int32} {y3 : Int32} {h : am_H} {r_ : Option am_O} (k_ : fg_450_0 N y0 y1 y2 y3 h = r_) : fm_450 N y0 y1 y2 y3 h = r_ := k_
theorem hd_452_130 {N : Nat} {h : am_H} {r_ : Option am_O} (k_ : some (.inl (none, h)) = r_) : fg_452_130 N h = r_ := k_
theorem hd_452_124 {N : Nat} {rec_2 : Value → Int32 → am_H → Option am_O} {x0 : Value} {x1 : Int32} {h : am_H} {r_ : Option am_O} (k_ : (rec_2 x0 ((x1 + 1)) h) = r_) : fg_452_124 N rec_2 x0 x1 h = r_ := k_
theorem hd_452_118 {N : Nat} {rec_2 : Value → Int32 → am_H → Option am_O} {rec_19 : Value → Int32 → Int32 → am_H → Option am_O} {x0 : Value} {x1 : Int32} {x2 : Int32} {h : am_H} {r_ : Option am_O} (k_ : (rec_19 x0 x1 ((x2 + 1)) h) = r_) : fg_452_118 N rec_2 rec_19 x0 x1 x2 h = r_ := k_
theorem hd_452_19 {N : Nat} {rec_2 : Value → Int32 → am_H → Option am_O} {K : Nat} {x0 : Value} {x1 : Int32} {x2 : Int32} {h : am_H} {r_ : Option am_O} (k_ : ((am_vR (am_pG 3093 x0 h)).bind fun v1 => ((am_pA 0 v1 x1 h).bind fun v3 => am_cI false (fm_343 v3 h) (fun v5 h6 => (if v5 ≤ x2 then (fg_452_124 N rec_2 x0 x1 h6) else ((am_vI (am_pG 3167 x0 h6)).bind fun v9 => (if ¬ v9 = 0 then (fg_452_124 N rec_2 x0 x1 h6) else ((am_vR (am_pG 3093 x0 h6)).bind fun v12 => ((am_pA 0 v12 x1 h6).bind fun v14 => am_cI false (fm_330 v14 x2 h6) (fun v16 h17 => ((am_vR (am_pG 3093 x0 h17)).bind fun v19 => ((am_pA 0 v19 x1 h17).bind fun v21 => am_cI false (fm_334 v21 h17) (fun v23 h24 => (if v16 = v23 then (if am_pOk 12 x0 h24 then am_cI true (fm_393 N x0 x1 x2 h24) (fun v28 h29 => (if am_pOk 12 x0 h29 then am_cV true (fm_451 x0 h29) (fun h33 => (if am_pOk 12 x0 h33 then am_cV true (fm_443 N x0 0 x1 h33) (fun h37 => ((am_vR (am_pG 3098 x0 h37)).bind fun v39 => ((am_pA 0 v39 v28 h37).bind fun v41 => (if am_pOk 12 x0 h37 then am_cV true (fm_443 N x0 v28 ((v28 + v41)) h37) (fun h45 => ((am_vR (am_pG 3098 x0 h45)).bind fun v47 => ((am_pA 0 v47 x1 h45).bind fun v49 => ((am_vI (am_pG 3090 x0 h45)).bind fun v51 => (if am_pOk 12 x0 h45 then am_cV true (fm_443 N x0 ((x1 + v49)) v51 h45) (fun h55 => (if am_pOk 12 x0 h55 then am_cI true (fm_444 N x0 h55) (fun v58 h59 => ((am_pP 3167 x0 (.int v58) h59).bind fun h61 => (fg_452_118 N rec_2 (fg_452_19 N rec_2 K) x0 x1 x2 h61))) else none)) else none))))) else none)))) else none)) else none)) else none) else (fg_452_118 N rec_2 (fg_452_19 N rec_2 K) x0 x1 x2 h24)))))))))))))) = r_) : fg_452_19 N rec_2 (K + 1) x0 x1 x2 h = r_ := by rw [fg_452_19]; exact k_
theorem hd_452_2 {N : Nat} {K : Nat} {x0 : Value} {x1 : Int32} {h : am_H} {r_ : Option am_O} (k_ : ((am_vI (am_pG 3090 x0 h)).bind fun v1 => (if v1 ≤ x1 then (fg_452_130 N h) else ((am_vI (am_pG 3167 x0 h)).bind fun v4 => (if ¬ v4 = 0 then (fg_452_130 N h) else (fg_452_19 N (fg_452_2 N K) N x0 x1 0 h))))) = r_) : fg_452_2 N (K + 1) x0 x1 h = r_ := by rw [fg_452_2]; exact k_
theorem hd_452_0 {N : Nat} {x0 : Value} {h : am_H} {r_ : Option am_O} (k_ : (fg_452_2 N N x0 0 h) = r_) : fg_452_0 N x0 h = r_ := k_
theorem hm_452 {N : Nat} {y0 : Value} {h : am_H} {r_ : Option am_O} (k_ : fg_452_0 N y0 h = r_) : fm_452 N y0 h = r_ := k_
theorem inn {L : Nat → Nat → Int64} {R : Nat → Nat → Option Nat} {tl : am_H} {V0 : Nat → Nat → Value} {I0 : Nat → Nat → Int32} {cd : Nat → Option xI} {so nt : Int32} {kd b S st : Nat} {E : Nat → Nat → am_H → Option am_O} {G : am_H → Option am_O} (hC : ∀ (K s : Nat) (V : Nat → Nat → Value) (I : Nat → Nat → Int32), s ≤ S → frSc V0 V I0 I → (s = S ∨ V 174 95 = .int 1) → E (K + 1) s (fx V I L R ++ tl) = G (fx V I L R ++ tl)) (hD : ∀ (K s : Nat) (V : Nat → Nat → Value) (I : Nat → Nat → Int32), s < S → scS V0 I0 cd so (b + st * s) V I → ∃ W J, E (K + 1) s (fx V I L R ++ tl) = E K (s + 1) (fx W J L R ++ tl) ∧ outS V0 I0 cd so (b + st * (s + 1)) kd nt W J) : ∀ (m s K : Nat) (V : Nat → Nat → Value) (I : Nat → Nat → Int32), s + m = S → m < K → scS V0 I0 cd so (b + st * s) V I → ∃ W J, E K s (fx V I L R ++ tl) = G (fx W J L R ++ tl) ∧ outS V0 I0 cd so (b + st * S) kd nt W J := by
  intro m
  induction m with
  | zero =>
    intro s K V I hm hK h
    obtain ⟨K, rfl⟩ : ∃ k, K = k + 1 := ⟨K - 1, by omega⟩
    rw [Nat.add_zero] at hm
    subst hm
    exact ⟨V, I, hC K s V I (Nat.le_refl _) h.1 (.inl rfl), .inr h⟩
  | succ m ih =>
    intro s K V I hm hK h
    obtain ⟨K, rfl⟩ : ∃ k, K = k + 1 := ⟨K - 1, by omega⟩
    obtain ⟨W, J, e, o⟩ := hD K s V I (by omega) h
    rcases o with o | o
    · obtain ⟨K, rfl⟩ : ∃ k, K = k + 1 := ⟨K - 1, by omega⟩
      exact ⟨W, J, e.trans (hC K (s + 1) W J (by omega) o.1 (.inr o.2.1)), .inl (scH_m o (Nat.add_le_add_left (Nat.mul_le_mul_left _ (by omega)) _))⟩
    · obtain ⟨W', J', e', o'⟩ := ih (s + 1) K W J (by omega) (by omega) o
      exact ⟨W', J', e.trans e', o'⟩
theorem outS_b {V0 : Nat → Nat → Value} {I0 : Nat → Nat → Int32} {cd : Nat → Option xI} {so nt : Int32} {m kd : Nat} {W : Nat → Nat → Value} {J : Nat → Nat → Int32} {b : Bool} (h1 : b = true → scH V0 I0 cd so m kd nt W J) (h2 : b = false → scS V0 I0 cd so m W J) : outS V0 I0 cd so m kd nt W J := by
  cases b with
  | true => exact .inl (h1 rfl)
  | false => exact .inr (h2 rfl)
theorem frEd_k {V W : Nat → Nat → Value} {I J : Nat → Nat → Int32} (h : frDk V W I J) : frEd V W I J := ⟨fun a j n => h.1 a j (fun e => n ⟨e.1, by omega⟩), h.2.1, h.2.2⟩
theorem isF_rp : ∀ (l : List (Nat × Nat)) (n k : Nat) (m : List (Nat × Nat)), isF n l → k < l.length → isF 1 m → isF n (l.take k ++ (m ++ l.drop (k + tk 1 (l.drop k)))) := by
  intro l
  induction l with
  | nil => intro n k m h hk _; exact absurd hk (by simp)
  | cons x l ih =>
    intro n k m h hk hm
    cases n with
    | zero => exact h.elim
    | succ n =>
      cases k with
      | zero =>
        rw [List.take_zero, List.nil_append, List.drop_zero, Nat.zero_add, Nat.add_comm n 1]
        exact isF_app _ _ 1 n hm (isF_add _ 1 n (by rw [Nat.add_comm]; exact h))
      | succ k =>
        rw [List.take_succ_cons, List.drop_succ_cons, show k + 1 + tk 1 (l.drop k) = (k + tk 1 (l.drop k)) + 1 by omega, List.drop_succ_cons]
        exact ih (n + arN x.1) k m h (by simpa using hk) hm
theorem isF_set : ∀ (l : List (Nat × Nat)) (n k : Nat) (y : Nat × Nat), isF n l → k < l.length → arN y.1 = arN (l.getD k (0, 0)).1 → isF n (l.set k y) := by
  intro l
  induction l with
  | nil => intro n k y h hk _; exact absurd hk (by simp)
  | cons x l ih =>
    intro n k y h hk e
    cases n with
    | zero => exact h.elim
    | succ n =>
      cases k with
      | zero =>
        have e : arN y.1 = arN x.1 := e
        show isF (n + arN y.1) l
        rw [e]
        exact h
      | succ k => exact ih (n + arN x.1) k y h (by simpa using hk) e
/-! sorts of a kind -/
def lkA (a b : Nat) : Nat → Nat → Bool
  | 0, _ => true
  | m + 1, p => decide (twN a p = twN b p) && lkA a b m (p + 1)
theorem ar343 : ∀ s, s < 21 → pv_343 (nI s) = nI (arN s) ∧ pv_334 (nI s) = nI (truN s) := by decide +kernel
theorem lk_eq : ∀ a, a < 21 → ∀ b, b < 21 → (decide (arN a = arN b) && decide (truN a = truN b) && lkA a b (arN a) 0) = likB a b := by decide +kernel
set_option maxRecDepth 100000 in
set_option maxHeartbeats 4000000 in
theorem lk8_0 {N a b : Nat} {h : am_H} (ha : a < 21) : ∀ (m p K : Nat), p + m = arN a → m < K → fg_448_30 N K (nI a) (nI b) 0 (nI p) h = some (.inl (some (.int 0), h)) := by
  have a3 : arN a ≤ 3 := by unfold arN; split <;> (try split) <;> (try split) <;> omega
  intro m
  induction m with
  | zero =>
    intro p K hm hK
    obtain ⟨K, rfl⟩ : ∃ k, K = k + 1 := ⟨K - 1, by omega⟩
    apply hd_448_30
    refine ev_cI (pe_343 _ _) ?_
    rw [(ar343 a ha).1]
    exact ev_t (nI_le (by omega) (by omega)) (ev_i rfl rfl)
  | succ m ih =>
    intro p K hm hK
    obtain ⟨K, rfl⟩ : ∃ k, K = k + 1 := ⟨K - 1, by omega⟩
    apply hd_448_30
    refine ev_cI (pe_343 _ _) ?_
    rw [(ar343 a ha).1]
    refine ev_f (nI_ge (by omega) (by omega)) (ev_t rfl ?_)
    apply hd_448_59
    apply hd_448_60
    rw [nI_1]
    exact ih (p + 1) K (by omega) (by omega)
set_option maxRecDepth 100000 in
set_option maxHeartbeats 4000000 in
theorem lk8_1 {N a b : Nat} {h : am_H} (ha : a < 21) (hb : b < 21) : ∀ (m p K : Nat), p + m = arN a → m < K → fg_448_30 N K (nI a) (nI b) 1 (nI p) h = some (.inl (some (.int (bI (lkA a b m p))), h)) := by
  have a3 : arN a ≤ 3 := by unfold arN; split <;> (try split) <;> (try split) <;> omega
  have t1 : ∀ s p, twN s p ≤ 1 := fun s p => by unfold twN; split <;> omega
  intro m
  induction m with
  | zero =>
    intro p K hm hK
    obtain ⟨K, rfl⟩ : ∃ k, K = k + 1 := ⟨K - 1, by omega⟩
    apply hd_448_30
    refine ev_cI (pe_343 _ _) ?_
    rw [(ar343 a ha).1]
    exact ev_t (nI_le (by omega) (by omega)) (ev_i rfl rfl)
  | succ m ih =>
    intro p K hm hK
    obtain ⟨K, rfl⟩ : ∃ k, K = k + 1 := ⟨K - 1, by omega⟩
    apply hd_448_30
    refine ev_cI (pe_343 _ _) ?_
    rw [(ar343 a ha).1]
    refine ev_f (nI_ge (by omega) (by omega)) (ev_f (by decide) (ev_cI (pe_330 _ _ _) (ev_cI (pe_330 _ _ _) ?_)))
    rw [tw330 a ha p (by omega), tw330 b hb p (by omega), lkA]
    by_cases c : twN a p = twN b p
    · rw [decide_eq_true c, Bool.true_and]
      refine ev_f (fun h => h (by rw [c])) ?_
      apply hd_448_60
      rw [nI_1]
      exact ih (p + 1) K (by omega) (by omega)
    · rw [decide_eq_false c, Bool.false_and]
      refine ev_t (fun e => c ((nI_eq (by have := t1 a p; omega) (by have := t1 b p; omega)).mp e)) ?_
      apply hd_448_59
      apply hd_448_60
      rw [nI_1]
      exact lk8_0 ha m (p + 1) K (by omega) (by omega)
set_option maxRecDepth 100000 in
set_option maxHeartbeats 4000000 in
theorem s448 {N a b : Nat} {h : am_H} (hN : 400 < N) (ha : a < 21) (hb : b < 21) : fm_448 N (nI a) (nI b) h = some (.inl (some (.int (bI (likB a b))), h)) := by
  have a3 : ∀ s, arN s ≤ 3 := fun s => by unfold arN; split <;> (try split) <;> (try split) <;> omega
  have t1 : ∀ s, truN s ≤ 1 := fun s => by unfold truN; split <;> omega
  rw [← lk_eq a ha b hb]
  apply hm_448
  apply hd_448_0
  refine ev_cI (pe_343 _ _) (ev_cI (pe_343 _ _) ?_)
  rw [(ar343 a ha).1, (ar343 b hb).1]
  have no : ∀ x y : Bool, (x && y) = false → fg_448_26 N (nI a) (nI b) h = some (.inl (some (.int (bI (x && y && lkA a b (arN a) 0))), h)) := fun x y e => by
    rw [e, Bool.false_and]
    apply hd_448_26
    apply hd_448_27
    exact lk8_0 ha (arN a) 0 N (by omega) (by have := a3 a; omega)
  by_cases c : arN a = arN b
  case neg => exact ev_t (fun e => c ((nI_eq (by have := a3 a; omega) (by have := a3 b; omega)).mp e)) (no _ _ (by rw [decide_eq_false c]; rfl))
  refine ev_f (fun e => e (by rw [c])) (ev_cI (pe_334 _ _) (ev_cI (pe_334 _ _) ?_))
  rw [(ar343 a ha).2, (ar343 b hb).2]
  by_cases d : truN a = truN b
  case neg => exact ev_t (fun e => d ((nI_eq (by have := t1 a; omega) (by have := t1 b; omega)).mp e)) (no _ _ (by rw [decide_eq_false d, Bool.and_false]))
  refine ev_f (fun e => e (by rw [d])) ?_
  rw [decide_eq_true c, decide_eq_true d, Bool.true_and, Bool.true_and]
  apply hd_448_27
  exact lk8_1 ha hb (arN a) 0 N (by omega) (by have := a3 a; omega)
/-! other sorts -/
set_option maxRecDepth 100000 in
set_option maxHeartbeats 4000000 in
theorem r_447 {V : Nat → Nat → Value} {I : Nat → Nat → Int32} {L : Nat → Nat → Int64} {R : Nat → Nat → Option Nat} {tl : am_H} {V0 : Nat → Nat → Value} {I0 : Nat → Nat → Int32} {cd : Nat → Option xI} {so nt : Int32} {N : Nat} {P : xT} (hN : 400 < N) (hx : ctxR V0 I0 0 nt so (tI P)) (h20 : ∀ x, x ∈ P → x.1 ≤ 20) (hF : isF 1 (sl P)) (hcd : ∀ c, cd c = cd01 (tI P) c) (h : scS V0 I0 cd so 0 V I) : ∃ W J, fm_447 N (.ref 174) (fx V I L R ++ tl) = some (.inl (none, fx W J L R ++ tl)) ∧ outS V0 I0 cd so (21 * P.length) 0 nt W J := by
  have l60 := hx.2.2.2.2
  have lt : (tI P).length = P.length := tI_len
  have d18 : ∀ (V : Nat → Nat → Value) (I : Nat → Nat → Int32), frSc V0 V I0 I → V 174 18 = .int (nI P.length) := fun V I f => by
    have := (ct_f hx f).2.2.1.1
    rw [lt] at this
    exact this
  have main := inn (L := L) (R := R) (tl := tl) (V0 := V0) (I0 := I0) (cd := cd) (so := so) (nt := nt) (kd := 0) (b := 0) (S := P.length) (st := 21) (E := fun K k h => fg_447_2 N K (.ref 174) (nI k) h) (G := fun h => some (.inl (none, h))) (fun K k V I hk f hc => by
      show fg_447_2 N (K + 1) (.ref 174) (nI k) _ = _
      apply hd_447_2
      by_cases c : P.length ≤ k
      · exact ev_b (rdI (d18 V I f)) (ev_t (nI_le c (by omega)) rfl)
      · rcases hc with hc | hc
        · omega
        · exact ev_b (rdI (d18 V I f)) (ev_f (nI_ge (by omega) (by omega)) (ev_b (rdI hc) (ev_t (by decide) rfl)))) (fun K k V I hk h => by
      rw [Nat.zero_add] at h
      have ik := inn (L := L) (R := R) (tl := tl) (V0 := V0) (I0 := I0) (cd := cd) (so := so) (nt := nt) (kd := 0) (b := 21 * k) (S := 21) (st := 1) (E := fun K' s h => fg_447_19 N (fg_447_2 N K) K' (.ref 174) (nI k) (nI s) h) (G := fun h => fg_447_2 N K (.ref 174) (nI (k + 1)) h) (fun K' s V I hs f hc => by
          show fg_447_19 N (fg_447_2 N K) (K' + 1) (.ref 174) (nI k) (nI s) _ = fg_447_2 N K (.ref 174) (nI (k + 1)) _
          have nx : fg_447_98 N (fg_447_2 N K) (.ref 174) (nI k) (fx V I L R ++ tl) = fg_447_2 N K (.ref 174) (nI (k + 1)) (fx V I L R ++ tl) := by
            apply hd_447_98
            rw [nI_1]
          apply hd_447_19
          by_cases c : 21 ≤ s
          · exact ev_t (nI_le (a := 21) c (by omega)) nx
          · rcases hc with hc | hc
            · omega
            · exact ev_f (nI_ge (b := 21) (by omega) (by decide)) (ev_b (rdI hc) (ev_t (by decide) nx))) (fun K' s V I hs h => by
          rw [Nat.one_mul] at h
          rw [Nat.one_mul]
          show ∃ W J, fg_447_19 N (fg_447_2 N K) (K' + 1) (.ref 174) (nI k) (nI s) (fx V I L R ++ tl) = fg_447_19 N (fg_447_2 N K) K' (.ref 174) (nI k) (nI (s + 1)) (fx W J L R ++ tl) ∧ _
          have c0 := ct_f hx h.1
          have hkI : k < (tI P).length := by omega
          have es := (ds_at c0.2.2.1 hkI).1
          rw [(srt_tI hk).1] at es
          have xk := h20 _ (List.mem_of_getElem? (xS_at hk))
          have xk : xS P k ≤ 20 := xk
          have rs : am_pA 0 (.ref 188) (nI k) (fx V I L R ++ tl) = some (nI (xS P k)) := (qa_188 (by omega)).trans (congrArg some es)
          have ecd : cd (21 * k + s) = if s ≠ xS P k ∧ likB s (xS P k) = true then gS2 0 ((tI P).set k (nwS s)) else none := by
            rw [hcd]
            unfold cd01
            rw [show (21 * k + s) / 21 = k by omega, show (21 * k + s) % 21 = s by omega, (srt_tI hk).1, sN_n (by omega)]
          have nx : ∀ (W : Nat → Nat → Value) (J : Nat → Nat → Int32), fg_447_92 N (fg_447_2 N K) (fg_447_19 N (fg_447_2 N K) K') (.ref 174) (nI k) (nI s) (fx W J L R ++ tl) = fg_447_19 N (fg_447_2 N K) K' (.ref 174) (nI k) (nI (s + 1)) (fx W J L R ++ tl) := fun W J => by
            apply hd_447_92
            rw [nI_1]
          by_cases c1 : s = xS P k
          · refine ⟨V, I, ?_, .inr (scS_n h (ecd.trans (if_neg (fun e => e.1 c1))))⟩
            apply hd_447_19
            exact ev_f (nI_ge (b := 21) hs (by decide)) (ev_b (rdI h.2.2.1) (ev_f (fun e => e rfl) (ev_b (rdR rfl) (ev_b rs (ev_t (by rw [c1]) (nx V I))))))
          have n1 : ¬ nI s = nI (xS P k) := fun e => c1 ((nI_eq (by omega) (by omega)).mp e)
          have e48 := s448 (N := N) (a := s) (b := xS P k) (h := fx V I L R ++ tl) hN hs (by omega)
          cases hl : likB s (xS P k) with
          | false =>
            rw [hl] at e48
            refine ⟨V, I, ?_, .inr (scS_n h (ecd.trans (if_neg (fun e => by rw [hl] at e; exact Bool.noConfusion e.2))))⟩
            apply hd_447_19
            exact ev_f (nI_ge (b := 21) hs (by decide)) (ev_b (rdI h.2.2.1) (ev_f (fun e => e rfl) (ev_b (rdR rfl) (ev_b rs (ev_f n1 (ev_b (rdR rfl) (ev_b rs (ev_cI e48 (ev_f (fun e => e rfl) (nx V I))))))))))
          | true =>
            rw [hl] at e48
            rw [if_pos ⟨c1, hl⟩] at ecd
            obtain ⟨W1, J1, e1, d1, d2, d3, f1⟩ := s442 (L := L) (R := R) (tl := tl) hN c0.1 c0.2.1 c0.2.2.1 (by omega)
            have es2 : (tI P).set k (nwS s) = tI (P.set k (s, (nwS s).2)) := by rw [tI_set]; rfl
            have fq : frm 0 ((tI P).set k (nwS s)) := by
              rw [es2]
              refine ⟨by omega, by rw [tI_len, List.length_set]; omega, fun _ => ⟨_, rfl, fun y hy => ?_, ?_⟩, fun e => absurd e (by decide)⟩
              · rcases List.mem_or_eq_of_mem_set hy with h | h
                · exact h20 y h
                · rw [h]; show s ≤ 20; omega
              · unfold sl
                rw [List.map_set]
                refine isF_set _ 1 k _ hF (by rw [List.length_map]; exact hk) ?_
                have : ((List.map (fun x => (x.1, 0)) P).getD k (0, 0)).1 = xS P k := by
                  rw [List.getD_eq_getElem?_getD, List.getElem?_map, xS_at hk]
                  rfl
                rw [this]
                unfold likB at hl
                exact (of_decide_eq_true hl).1
            obtain ⟨W, J, bb, e, g1, g2⟩ := stepC (L := L) (R := R) (tl := tl) (V1 := W1) (I1 := iup (iup J1 186 (upd (J1 186) k (nI s))) 187 (upd (J1 187) k (nwS s).2)) hN h (frEd_t f1 (frEd_t (frEd_i (by decide)) (frEd_i (by decide)))) ⟨by rw [List.length_set]; exact d1.1, lay2_sv d1.2⟩ d2 d3 fq ecd (by omega) hx.2.2.2.1
            refine ⟨W, J, ?_, outS_b g1 g2⟩
            apply hd_447_19
            refine ev_f (nI_ge (b := 21) hs (by decide)) (ev_b (rdI h.2.2.1) (ev_f (fun e => e rfl) (ev_b (rdR rfl) (ev_b rs (ev_f n1 (ev_b (rdR rfl) (ev_b rs (ev_cI e48 (ev_t (by decide) (ev_i rfl (ev_cV e1 (ev_b (rdR rfl) (ev_b (qs_186 (by omega)) (ev_b (rdR rfl) ?_))))))))))))))
            have go : fg_447_83 N (fg_447_2 N K) (fg_447_19 N (fg_447_2 N K) K') (.ref 174) (nI k) (nI s) (.ref 187) (nI k) (nwS s).2 (fx W1 (iup J1 186 (upd (J1 186) k (nI s))) L R ++ tl) = fg_447_19 N (fg_447_2 N K) K' (.ref 174) (nI k) (nI (s + 1)) (fx W J L R ++ tl) := by
              apply hd_447_83
              refine ev_b (qs_187 (by omega)) (ev_i rfl (ev_cI e (ev_b (qp_174_95 (by cases bb <;> rfl)) ?_)))
              rw [sc_95 g1 g2]
              exact nx W J
            by_cases c2 : s = 0
            · subst c2
              exact ev_f (fun e => e rfl) go
            · have v0 : (nwS s).2 = 0 := by unfold nwS; rw [if_neg c2]
              rw [v0] at go
              exact ev_t (fun e => c2 ((nI_eq (b := 0) (by omega) (by decide)).mp e)) go) 21 0 N V I (by omega) (by omega) (by rw [Nat.mul_zero, Nat.add_zero]; exact h)
      obtain ⟨W, J, e, o⟩ := ik
      refine ⟨W, J, ?_, ?_⟩
      · show fg_447_2 N (K + 1) (.ref 174) (nI k) _ = fg_447_2 N K (.ref 174) (nI (k + 1)) _
        apply hd_447_2
        exact ev_b (rdI (d18 V I h.1)) (ev_f (nI_ge hk (by omega)) (ev_b (rdI h.2.2.1) (ev_f (fun e => e rfl) e)))
      · rw [show 0 + 21 * (k + 1) = 21 * k + 1 * 21 by omega]
        exact o) P.length 0 N V I (by omega) (by omega) h
  obtain ⟨W, J, e, o⟩ := main
  refine ⟨W, J, ?_, by rw [Nat.zero_add] at o; exact o⟩
  apply hm_447
  apply hd_447_0
  exact e
