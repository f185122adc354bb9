/-! ===== edits: the class begins ===== -/
theorem hd_159_126 {N : Nat} {x0 : Value} {s0 : Value} {s1 : Int32} {h : am_H} {r_ : Option am_O} (k_ : ((am_pP 9 s0 (.int s1) h).bind fun h1 => ((am_vI (am_pG 9 x0 h1)).bind fun v3 => some (.inl (some (.int v3), h1)))) = r_) : fg_159_126 N x0 s0 s1 h = r_ := k_
theorem hd_159_109 {N : Nat} {x0 : Value} {x2 : Value} {x3 : Int32} {h : am_H} {r_ : Option am_O} (k_ : ((am_pZ x2).bind fun b1 => if b1 = true then (if am_pOk 0 x0 h then am_cI true (fm_160 x0 x3 h) (fun v8 h9 => (fg_159_126 N x0 x0 v8 h9)) else none) else (if am_pOk 0 x0 h then am_cI true (fm_161 x0 h) (fun v4 h5 => (fg_159_126 N x0 x0 v4 h5)) else none)) = r_) : fg_159_109 N x0 x2 x3 h = r_ := k_
theorem hd_159_71 {N : Nat} {x0 : Value} {x1 : Value} {x2 : Value} {x3 : Int32} {h : am_H} {r_ : Option am_O} (k_ : ((am_pZ x2).bind fun b1 => if b1 = true then (fg_159_109 N x0 x2 x3 h) else ((am_vI (am_pG 769 x1 h)).bind fun v3 => (if ¬ v3 = 1 then (fg_159_109 N x0 x2 x3 h) else ((am_vI (am_pG 769 x2 h)).bind fun v6 => (if ¬ v6 = 1 then (fg_159_109 N x0 x2 x3 h) else ((am_vR (am_pG 2 x0 h)).bind fun v9 => (if am_pOk 7 v9 h then am_cI true (fm_52 N v9 x1 h) (fun v12 h13 => ((am_vR (am_pG 3 x0 h13)).bind fun v15 => (if am_pOk 7 v15 h13 then am_cI true (fm_52 N v15 x2 h13) (fun v18 h19 => (fg_159_109 N x0 x2 x3 h19)) else none))) else none))))))) = r_) : fg_159_71 N x0 x1 x2 x3 h = r_ := k_
theorem hd_159_45 {N : Nat} {x0 : Value} {x1 : Value} {x2 : Value} {x3 : Int32} {h : am_H} {r_ : Option am_O} (k_ : ((am_pZ x2).bind fun b1 => if b1 = true then (fg_159_71 N x0 x1 x2 x3 h) else ((am_vI (am_pG 769 x1 h)).bind fun v3 => (if ¬ v3 = 0 then (fg_159_71 N x0 x1 x2 x3 h) else ((am_vI (am_pG 769 x2 h)).bind fun v6 => (if ¬ v6 = 0 then (fg_159_71 N x0 x1 x2 x3 h) else ((am_vR (am_pG 3 x0 h)).bind fun v9 => (if am_pOk 7 v9 h then am_cV true (fm_76 N v9 x2 h) (fun h13 => (fg_159_71 N x0 x1 x2 x3 h13)) else none))))))) = r_) : fg_159_45 N x0 x1 x2 x3 h = r_ := k_
theorem hd_159_26 {N : Nat} {x0 : Value} {x1 : Value} {x2 : Value} {x3 : Int32} {s0 : Value} {s1 : Int32} {s2 : Int32} {h : am_H} {r_ : Option am_O} (k_ : ((am_pP 7 s0 (.int (s1 + s2)) h).bind fun h1 => ((am_vI (am_pG 769 x1 h1)).bind fun v3 => (if ¬ v3 = 0 then (fg_159_45 N x0 x1 x2 x3 h1) else ((am_vR (am_pG 2 x0 h1)).bind fun v6 => (if am_pOk 7 v6 h1 then am_cV true (fm_76 N v6 x1 h1) (fun h10 => (fg_159_45 N x0 x1 x2 x3 h10)) else none))))) = r_) : fg_159_26 N x0 x1 x2 x3 s0 s1 s2 h = r_ := k_
theorem hd_159_0 {N : Nat} {x0 : Value} {x1 : Value} {x2 : Value} {x3 : Int32} {h : am_H} {r_ : Option am_O} (k_ : ((am_pP 5 x0 x1 h).bind fun h1 => ((am_pP 6 x0 x2 h1).bind fun h3 => ((am_vI (am_pG 769 x1 h3)).bind fun v5 => ((am_pZ x2).bind fun b7 => if b7 = true then (fg_159_26 N x0 x1 x2 x3 x0 ((5 * v5)) x3 h3) else (fg_159_26 N x0 x1 x2 x3 x0 ((5 * v5)) 4 h3))))) = r_) : fg_159_0 N x0 x1 x2 x3 h = r_ := k_
theorem hm_159 {N : Nat} {y0 : Value} {y1 : Value} {y2 : Value} {y3 : Int32} {h : am_H} {r_ : Option am_O} (k_ : fg_159_0 N y0 y1 y2 y3 h = r_) : fm_159 N y0 y1 y2 y3 h = r_ := k_
theorem hd_160_229 {s0 : Int32} {h : am_H} {r_ : Option am_O} (k_ : some (.inl (some (.int s0), h)) = r_) : fg_160_229 s0 h = r_ := k_
theorem hd_160_216 {x1 : Int32} {x2 : Int32} {h : am_H} {r_ : Option am_O} (k_ : (if ¬ x1 = 0 then (fg_160_229 ((x2 - 1)) h) else (fg_160_229 ((5 * x2)) h)) = r_) : fg_160_216 x1 x2 h = r_ := k_
theorem hd_160_215 {s0 : Int32} {h : am_H} {r_ : Option am_O} (k_ : some (.inl (some (.int s0), h)) = r_) : fg_160_215 s0 h = r_ := k_
theorem hd_160_187 {s0 : Int32} {h : am_H} {r_ : Option am_O} (k_ : some (.inl (some (.int s0), h)) = r_) : fg_160_187 s0 h = r_ := k_
theorem hd_160_153 {x2 : Int32} {h : am_H} {r_ : Option am_O} (k_ : some (.inl (some (.int (3 * x2)), h)) = r_) : fg_160_153 x2 h = r_ := k_
theorem hd_160_58 {x0 : Value} {x1 : Int32} {x2 : Int32} {s0 : Value} {s1 : Int32} {h : am_H} {r_ : Option am_O} (k_ : ((am_pP 8 s0 (.int s1) h).bind fun h1 => ((am_vI (am_pG 7 x0 h1)).bind fun v3 => (if v3 = 1 then some (.inl (some (.int (21 * x2)), h1)) else (if v3 = 2 then (fg_160_153 x2 h1) else (if v3 = 3 then (fg_160_153 x2 h1) else (if v3 = 6 then some (.inl (some (.int (14 * x2)), h1)) else (if v3 = 7 then (fg_160_153 x2 h1) else (if v3 = 8 then some (.inl (some (.int (5 * (x2 + 1))), h1)) else (if v3 = 11 then some (.inl (some (.int ((4 * x2) * x2)), h1)) else (if v3 = 12 then (if 6 ≤ x2 then (fg_160_187 0 h1) else (fg_160_187 ((4 * x2)) h1)) else (if v3 = 15 then ((am_vI (am_pG 8 x0 h1)).bind fun v15 => some (.inl (some (.int (x2 * v15)), h1))) else (if v3 = 16 then some (.inl (some (.int x2), h1)) else (if v3 = 17 then (if 40 ≤ x2 then (fg_160_215 0 h1) else ((am_vI (am_pG 8 x0 h1)).bind fun v20 => (fg_160_215 (((x2 + 1) * v20)) h1))) else (fg_160_216 x1 x2 h1)))))))))))))) = r_) : fg_160_58 x0 x1 x2 s0 s1 h = r_ := k_
theorem hd_160_0 {x0 : Value} {x1 : Int32} {h : am_H} {r_ : Option am_O} (k_ : ((am_vR (am_pG 5 x0 h)).bind fun v1 => ((am_vI (am_pG 771 v1 h)).bind fun v3 => ((am_vR (am_pG 5 x0 h)).bind fun v5 => ((am_vI (am_pG 769 v5 h)).bind fun v7 => (if ¬ v7 = 2 then ((am_vR (am_pG 5 x0 h)).bind fun v10 => ((am_vI (am_pG 769 v10 h)).bind fun v12 => (if ¬ v12 = 3 then (fg_160_58 x0 x1 v3 x0 1 h) else ((am_vR (am_pG 5 x0 h)).bind fun v15 => ((am_vI (am_pG 770 v15 h)).bind fun v17 => ((am_vR (am_pG 5 x0 h)).bind fun v19 => ((am_vI (am_pG 770 v19 h)).bind fun v21 => (fg_160_58 x0 x1 v3 x0 (((v17 * (v21 - 1)) / 2)) h)))))))) else (fg_160_58 x0 x1 v3 x0 v3 h)))))) = r_) : fg_160_0 x0 x1 h = r_ := k_
theorem hm_160 {y0 : Value} {y1 : Int32} {h : am_H} {r_ : Option am_O} (k_ : fg_160_0 y0 y1 h = r_) : fm_160 y0 y1 h = r_ := k_
/-- the changer's cells alone -/
def frCg (V W : Nat → Nat → Value) (I J : Nat → Nat → Int32) : Prop := (∀ a j, (a < 89 ∨ 117 < a) → W a j = V a j) ∧ (∀ y, (y < 89 ∨ 117 < y) → J y = I y) ∧ (wt V → wt W)
theorem frCg_r {V : Nat → Nat → Value} {I : Nat → Nat → Int32} : frCg V V I I := ⟨fun _ _ _ => rfl, fun _ _ => rfl, id⟩
theorem frCg_t {V W X : Nat → Nat → Value} {I J K : Nat → Nat → Int32} (h : frCg V W I J) (g : frCg W X J K) : frCg V X I K := ⟨fun a j n => (g.1 a j n).trans (h.1 a j n), fun y n => (g.2.1 y n).trans (h.2.1 y n), fun w => g.2.2 (h.2.2 w)⟩
theorem frM_Cg {V W : Nat → Nat → Value} {I J : Nat → Nat → Int32} (f : frM V W I J) : frCg V W I J := ⟨fun a j h => f.1 a j (by omega) (by omega) (by omega) (by omega), fun y h => f.2.1 y (by omega) (by omega) (by omega), f.2.2⟩
theorem frCg_o {V : Nat → Nat → Value} {I : Nat → Nat → Int32} {a j : Nat} {x : Value} (h1 : 89 ≤ a) (h2 : a ≤ 117) (hI : ¬ j ∈ fI a) (hL : ¬ j ∈ fL a) : frCg V (vup V a j x) I I := ⟨fun b i h => vup_o (fun e => by omega), fun _ _ => rfl, fun w => wt_o hI hL w⟩
theorem frCg_i {V : Nat → Nat → Value} {I : Nat → Nat → Int32} {a j : Nat} {x : Int32} (h1 : 89 ≤ a) (h2 : a ≤ 117) (hL : ¬ j ∈ fL a) : frCg V (vup V a j (.int x)) I I := ⟨fun b i h => vup_o (fun e => by omega), fun _ _ => rfl, fun w => wt_i w hL⟩
theorem srcE_ok {V : Nat → Nat → Value} {I : Nat → Nat → Int32} {L : Nat → Nat → Int64} {R : Nat → Nat → Option Nat} {tl : am_H} {A it kd ln : Nat} {P : xI} (h : srcE V I tl A it kd ln P) : am_pOk 3 (.ref A) (fx V I L R ++ tl) = true ∧ am_vI (am_pG 771 (.ref A) (fx V I L R ++ tl)) = some (nI P.length) ∧ am_vI (am_pG 769 (.ref A) (fx V I L R ++ tl)) = some (nI kd) ∧ am_vI (am_pG 770 (.ref A) (fx V I L R ++ tl)) = some (nI ln) := by
  obtain ⟨m, f, p1, p2, p3, p4⟩ := h
  obtain ⟨x1, x2, x3, x4, x5, x6, q1, q2⟩ := p1 V I L R (fun _ => rfl) rfl
  exact ⟨ev_ok q1, ev_gI q1 rfl rfl, ev_gI q1 rfl rfl, ev_gI q1 rfl rfl⟩
set_option maxRecDepth 100000 in
set_option maxHeartbeats 4000000 in
theorem s160 {V : Nat → Nat → Value} {I : Nat → Nat → Int32} {L : Nat → Nat → Int64} {R : Nat → Nat → Option Nat} {tl : am_H} {A it kd ln w : Nat} {P : xI} (hg : gdP kd ln P) (hw : w < 4) (h5 : V 89 5 = .ref A) (h7 : V 89 7 = .int (nI (5 * kd + w))) (hs : srcE V I tl A it kd ln P) : ∃ nC, fm_160 (.ref 89) (nI w) (fx V I L R ++ tl) = some (.inl (some (.int nC), fx (vup V 89 8 (.int (nI (acE kd ln P.length)))) I L R ++ tl)) ∧ (nC = nI (ncE kd ln P.length w) ∨ (ncE kd ln P.length w = 0 ∧ nC ≤ 0)) := by
  have rb : am_vR (am_pG 5 (.ref 89) (fx V I L R ++ tl)) = some (.ref A) := rVR qv_89_5 h5
  obtain ⟨o1, o2, o3, o4⟩ := srcE_ok (L := L) (R := R) hs
  have l60 := hg.2.1
  have k3 := hg.1
  rcases (by omega : kd = 0 ∨ kd = 1 ∨ kd = 2 ∨ kd = 3) with rfl | rfl | rfl | rfl
  · have hr : vup V 89 8 (.int 1) 89 7 = .int (nI (5 * 0 + w)) := h7
    have st1 : ∀ (x : Nat) o, fg_160_58 (.ref 89) (nI w) (nI P.length) (.ref 89) 1 (fx V I L R ++ tl) = o → fm_160 (.ref 89) (nI w) (fx V I L R ++ tl) = o := fun _ o e => by
      apply hm_160
      apply hd_160_0
      exact ev_b rb (ev_b o2 (ev_b rb (ev_b o3 (ev_t (by decide) (ev_b rb (ev_b o3 (ev_t (by decide) e)))))))
    rcases (by omega : w = 0 ∨ w = 1 ∨ w = 2 ∨ w = 3) with rfl | rfl | rfl | rfl
    · -- recipe 0
      exact ⟨nI (5 * P.length), st1 0 _ (hd_160_58 (ev_b qp_89_8 (ev_b (rdI hr) (ev_f (by decide) (ev_f (by decide) (ev_f (by decide) (ev_f (by decide) (ev_f (by decide) (ev_f (by decide) (ev_f (by decide) (ev_f (by decide) (ev_f (by decide) (ev_f (by decide) (ev_f (by decide) (hd_160_216 (ev_f (fun e => e rfl) (hd_160_229 (by rw [show (5 : Int32) * nI P.length = nI (5 * P.length) from nI_mm 5 _]; first | done | rfl)))))))))))))))))), .inl rfl⟩
    · -- recipe 1
      exact ⟨nI (21 * P.length), st1 0 _ (hd_160_58 (ev_b qp_89_8 (ev_b (rdI hr) (ev_t rfl (by rw [show (21 : Int32) * nI P.length = nI (21 * P.length) from nI_mm 21 _]; first | done | rfl))))), .inl rfl⟩
    · -- recipe 2
      exact ⟨nI (3 * P.length), st1 0 _ (hd_160_58 (ev_b qp_89_8 (ev_b (rdI hr) (ev_f (by decide) (ev_t rfl (hd_160_153 (by rw [show (3 : Int32) * nI P.length = nI (3 * P.length) from nI_mm 3 _]; first | done | rfl))))))), .inl rfl⟩
    · -- recipe 3
      exact ⟨nI (3 * P.length), st1 0 _ (hd_160_58 (ev_b qp_89_8 (ev_b (rdI hr) (ev_f (by decide) (ev_f (by decide) (ev_t rfl (hd_160_153 (by rw [show (3 : Int32) * nI P.length = nI (3 * P.length) from nI_mm 3 _]; first | done | rfl)))))))), .inl rfl⟩
  · have hr : vup V 89 8 (.int 1) 89 7 = .int (nI (5 * 1 + w)) := h7
    have st1 : ∀ (x : Nat) o, fg_160_58 (.ref 89) (nI w) (nI P.length) (.ref 89) 1 (fx V I L R ++ tl) = o → fm_160 (.ref 89) (nI w) (fx V I L R ++ tl) = o := fun _ o e => by
      apply hm_160
      apply hd_160_0
      exact ev_b rb (ev_b o2 (ev_b rb (ev_b o3 (ev_t (by decide) (ev_b rb (ev_b o3 (ev_t (by decide) e)))))))
    rcases (by omega : w = 0 ∨ w = 1 ∨ w = 2 ∨ w = 3) with rfl | rfl | rfl | rfl
    · -- recipe 5
      exact ⟨nI (5 * P.length), st1 0 _ (hd_160_58 (ev_b qp_89_8 (ev_b (rdI hr) (ev_f (by decide) (ev_f (by decide) (ev_f (by decide) (ev_f (by decide) (ev_f (by decide) (ev_f (by decide) (ev_f (by decide) (ev_f (by decide) (ev_f (by decide) (ev_f (by decide) (ev_f (by decide) (hd_160_216 (ev_f (fun e => e rfl) (hd_160_229 (by rw [show (5 : Int32) * nI P.length = nI (5 * P.length) from nI_mm 5 _]; first | done | rfl)))))))))))))))))), .inl rfl⟩
    · -- recipe 6
      exact ⟨nI (14 * P.length), st1 0 _ (hd_160_58 (ev_b qp_89_8 (ev_b (rdI hr) (ev_f (by decide) (ev_f (by decide) (ev_f (by decide) (ev_t rfl (by rw [show (14 : Int32) * nI P.length = nI (14 * P.length) from nI_mm 14 _]; first | done | rfl)))))))), .inl rfl⟩
    · -- recipe 7
      exact ⟨nI (3 * P.length), st1 0 _ (hd_160_58 (ev_b qp_89_8 (ev_b (rdI hr) (ev_f (by decide) (ev_f (by decide) (ev_f (by decide) (ev_f (by decide) (ev_t rfl (hd_160_153 (by rw [show (3 : Int32) * nI P.length = nI (3 * P.length) from nI_mm 3 _]; first | done | rfl)))))))))), .inl rfl⟩
    · -- recipe 8
      exact ⟨nI (5 * (P.length + 1)), st1 0 _ (hd_160_58 (ev_b qp_89_8 (ev_b (rdI hr) (ev_f (by decide) (ev_f (by decide) (ev_f (by decide) (ev_f (by decide) (ev_f (by decide) (ev_t rfl (by rw [nI_1, show (5 : Int32) * nI (P.length + 1) = nI (5 * (P.length + 1)) from nI_mm 5 _]; first | done | rfl)))))))))), .inl rfl⟩
  · have l1 := (hg.2.2.2.2.1 rfl).2.1
    have l6 := (hg.2.2.2.2.1 rfl).2.2.1
    have hr : vup V 89 8 (.int (nI P.length)) 89 7 = .int (nI (5 * 2 + w)) := h7
    have st1 : ∀ (x : Nat) o, fg_160_58 (.ref 89) (nI w) (nI P.length) (.ref 89) (nI P.length) (fx V I L R ++ tl) = o → fm_160 (.ref 89) (nI w) (fx V I L R ++ tl) = o := fun _ o e => by
      apply hm_160
      apply hd_160_0
      exact ev_b rb (ev_b o2 (ev_b rb (ev_b o3 (ev_f (fun e => e rfl) e))))
    rcases (by omega : w = 0 ∨ w = 1 ∨ w = 2 ∨ w = 3) with rfl | rfl | rfl | rfl
    · -- recipe 10
      exact ⟨nI (5 * P.length), st1 0 _ (hd_160_58 (ev_b qp_89_8 (ev_b (rdI hr) (ev_f (by decide) (ev_f (by decide) (ev_f (by decide) (ev_f (by decide) (ev_f (by decide) (ev_f (by decide) (ev_f (by decide) (ev_f (by decide) (ev_f (by decide) (ev_f (by decide) (ev_f (by decide) (hd_160_216 (ev_f (fun e => e rfl) (hd_160_229 (by rw [show (5 : Int32) * nI P.length = nI (5 * P.length) from nI_mm 5 _]; first | done | rfl)))))))))))))))))), .inl rfl⟩
    · -- recipe 11
      exact ⟨nI (4 * P.length * P.length), st1 0 _ (hd_160_58 (ev_b qp_89_8 (ev_b (rdI hr) (ev_f (by decide) (ev_f (by decide) (ev_f (by decide) (ev_f (by decide) (ev_f (by decide) (ev_f (by decide) (ev_t rfl (by rw [show (4 : Int32) * nI P.length = nI (4 * P.length) from nI_mm 4 _, nI_mm]; first | done | rfl))))))))))), .inl rfl⟩
    · -- recipe 12
      by_cases q : P.length < 6
      · refine ⟨nI (4 * P.length), st1 0 _ (hd_160_58 (ev_b qp_89_8 (ev_b (rdI hr) (ev_f (by decide) (ev_f (by decide) (ev_f (by decide) (ev_f (by decide) (ev_f (by decide) (ev_f (by decide) (ev_f (by decide) (ev_t rfl (ev_f (nI_ge (b := 6) q (by decide)) (hd_160_187 (by rw [show (4 : Int32) * nI P.length = nI (4 * P.length) from nI_mm 4 _]; first | done | rfl)))))))))))))), .inl ?_⟩
        show _ = nI (if P.length < 6 then 4 * P.length else 0)
        rw [if_pos q]
      · refine ⟨nI 0, st1 0 _ (hd_160_58 (ev_b qp_89_8 (ev_b (rdI hr) (ev_f (by decide) (ev_f (by decide) (ev_f (by decide) (ev_f (by decide) (ev_f (by decide) (ev_f (by decide) (ev_f (by decide) (ev_t rfl (ev_t (nI_le (a := 6) (by omega) (by omega)) (hd_160_187 rfl))))))))))))), .inl ?_⟩
        show _ = nI (if P.length < 6 then 4 * P.length else 0)
        rw [if_neg q]
    · -- recipe 13
      exact ⟨nI (P.length - 1), st1 0 _ (hd_160_58 (ev_b qp_89_8 (ev_b (rdI hr) (ev_f (by decide) (ev_f (by decide) (ev_f (by decide) (ev_f (by decide) (ev_f (by decide) (ev_f (by decide) (ev_f (by decide) (ev_f (by decide) (ev_f (by decide) (ev_f (by decide) (ev_f (by decide) (hd_160_216 (ev_t (by decide) (hd_160_229 (by rw [show nI P.length - 1 = nI (P.length - 1) from nI_sub (b := 1) l1]; first | done | rfl)))))))))))))))))), .inl rfl⟩
  · obtain ⟨n2, n8, n40, -⟩ := hg.2.2.2.2.2 rfl
    have a28 := acr_b ln n8
    have hr : vup V 89 8 (.int (nI (acr ln))) 89 7 = .int (nI (5 * 3 + w)) := h7
    have eac : nI ln * (nI ln - 1) / 2 = nI (acr ln) := by
      rw [show nI ln - 1 = nI (ln - 1) from nI_sub (b := 1) (by omega), nI_mm]
      have : ln * (ln - 1) ≤ 8 * 7 := Nat.mul_le_mul n8 (by omega)
      exact nI_dv (b := 2) (by omega) (by omega)
    have st1 : ∀ (x : Nat) o, fg_160_58 (.ref 89) (nI w) (nI P.length) (.ref 89) (nI (acr ln)) (fx V I L R ++ tl) = o → fm_160 (.ref 89) (nI w) (fx V I L R ++ tl) = o := fun _ o e => by
      apply hm_160
      apply hd_160_0
      exact ev_b rb (ev_b o2 (ev_b rb (ev_b o3 (ev_t (by decide) (ev_b rb (ev_b o3 (ev_f (fun e => e rfl) (ev_b rb (ev_b o4 (ev_b rb (ev_b o4 (by rw [eac]; exact e))))))))))))
    rcases (by omega : w = 0 ∨ w = 1 ∨ w = 2 ∨ w = 3) with rfl | rfl | rfl | rfl
    · -- recipe 15
      exact ⟨nI (P.length * acr ln), st1 0 _ (hd_160_58 (ev_b qp_89_8 (ev_b (rdI hr) (ev_f (by decide) (ev_f (by decide) (ev_f (by decide) (ev_f (by decide) (ev_f (by decide) (ev_f (by decide) (ev_f (by decide) (ev_f (by decide) (ev_t rfl (ev_b (rdI (V := vup V 89 8 (.int (nI (acr ln)))) rfl) (by rw [nI_mm]; first | done | rfl)))))))))))))), .inl rfl⟩
    · -- recipe 16
      exact ⟨nI P.length, st1 0 _ (hd_160_58 (ev_b qp_89_8 (ev_b (rdI hr) (ev_f (by decide) (ev_f (by decide) (ev_f (by decide) (ev_f (by decide) (ev_f (by decide) (ev_f (by decide) (ev_f (by decide) (ev_f (by decide) (ev_f (by decide) (ev_t rfl rfl))))))))))))), .inl rfl⟩
    · -- recipe 17
      by_cases q : P.length < 40
      · refine ⟨nI ((P.length + 1) * acr ln), st1 0 _ (hd_160_58 (ev_b qp_89_8 (ev_b (rdI hr) (ev_f (by decide) (ev_f (by decide) (ev_f (by decide) (ev_f (by decide) (ev_f (by decide) (ev_f (by decide) (ev_f (by decide) (ev_f (by decide) (ev_f (by decide) (ev_f (by decide) (ev_t rfl (ev_f (nI_ge (b := 40) q (by decide)) (ev_b (rdI (V := vup V 89 8 (.int (nI (acr ln)))) rfl) (hd_160_215 (by rw [nI_1, nI_mm]; first | done | rfl)))))))))))))))))), .inl ?_⟩
        show _ = nI (if P.length < 40 then (P.length + 1) * acr ln else 0)
        rw [if_pos q]
      · refine ⟨nI 0, st1 0 _ (hd_160_58 (ev_b qp_89_8 (ev_b (rdI hr) (ev_f (by decide) (ev_f (by decide) (ev_f (by decide) (ev_f (by decide) (ev_f (by decide) (ev_f (by decide) (ev_f (by decide) (ev_f (by decide) (ev_f (by decide) (ev_f (by decide) (ev_t rfl (ev_t (nI_le (a := 40) (by omega) (by omega)) (hd_160_215 rfl)))))))))))))))), .inl ?_⟩
        show _ = nI (if P.length < 40 then (P.length + 1) * acr ln else 0)
        rw [if_neg q]
    · -- recipe 18
      have e : fm_160 (.ref 89) (nI 3) (fx V I L R ++ tl) = some (.inl (some (.int (nI P.length - 1)), fx (vup V 89 8 (.int (nI (acr ln)))) I L R ++ tl)) := st1 0 _ (hd_160_58 (ev_b qp_89_8 (ev_b (rdI hr) (ev_f (by decide) (ev_f (by decide) (ev_f (by decide) (ev_f (by decide) (ev_f (by decide) (ev_f (by decide) (ev_f (by decide) (ev_f (by decide) (ev_f (by decide) (ev_f (by decide) (ev_f (by decide) (hd_160_216 (ev_t (by decide) (hd_160_229 rfl)))))))))))))))))
      by_cases q : 1 ≤ P.length
      · exact ⟨_, e, .inl (nI_sub (b := 1) q)⟩
      · exact ⟨_, e, .inr ⟨by show P.length - 1 = 0; omega, by rw [show P.length = 0 by omega]; decide⟩⟩
set_option maxRecDepth 100000 in
set_option maxHeartbeats 4000000 in
theorem sh_94 {V : Nat → Nat → Value} {I : Nat → Nat → Int32} {L : Nat → Nat → Int64} {R : Nat → Nat → Option Nat} {tl : am_H} {N A it ln : Nat} {P : xT} (hN : 100 < N) (hA : 130 < A) (hi : 130 < it) (hs : srcP V I tl A it 0 ln P) (ho : okP P) : ∃ J, fm_76 N (.ref 94) (.ref A) (fx V I L R ++ tl) = some (.inl (none, fx (vup V 94 7 (.int (nI P.length))) J L R ++ tl)) ∧ shT (vup V 94 7 (.int (nI P.length))) J 94 P ∧ frCg V (vup V 94 7 (.int (nI P.length))) I J ∧ (∀ y, y < 95 ∨ 100 < y → J y = I y) := by
  obtain ⟨m, f, p1, p2, p3, p4, p5, p6, p7⟩ := hs
  obtain ⟨J, j1, j2, j3⟩ := c_76_94 (V := V) (I := I) (L := L) (R := R) (tl := tl) (N := N) (l := sl P) (m0 := m) (f := f) hN (by rw [sl_len]; exact p1) (by omega) (by omega) (by rw [sl_len]; exact p3) p4 ho.1 (by rw [sl_len]; exact p7) (fun k x r e => by
    have hk : k < P.length := by
      by_cases c : k < P.length
      · exact c
      · rw [List.drop_of_length_le (by rw [sl_len]; omega)] at e; exact absurd e (by simp)
    rw [sl_at hk] at e
    injection e with e1 e2
    rw [← e1]
    exact ⟨(p2 k _ (xS_at hk)).1, (nd_at ho hk).1⟩)
  rw [sl_len] at j3
  exact ⟨J, j3, ⟨rfl, j1⟩, ⟨fun a j h => vup_o (fun e => by omega), fun y h => j2 y (by omega), fun w => wt_i w (by decide)⟩, fun y h => j2 y (by omega)⟩
theorem sh_102 {V : Nat → Nat → Value} {I : Nat → Nat → Int32} {L : Nat → Nat → Int64} {R : Nat → Nat → Option Nat} {tl : am_H} {N A it ln : Nat} {P : xT} (hN : 100 < N) (hA : 130 < A) (hi : 130 < it) (hs : srcP V I tl A it 0 ln P) (ho : okP P) : ∃ J, fm_76 N (.ref 102) (.ref A) (fx V I L R ++ tl) = some (.inl (none, fx (vup V 102 7 (.int (nI P.length))) J L R ++ tl)) ∧ shT (vup V 102 7 (.int (nI P.length))) J 102 P ∧ frCg V (vup V 102 7 (.int (nI P.length))) I J ∧ (∀ y, y < 103 ∨ 108 < y → J y = I y) := by
  obtain ⟨m, f, p1, p2, p3, p4, p5, p6, p7⟩ := hs
  obtain ⟨J, j1, j2, j3⟩ := c_76_102 (V := V) (I := I) (L := L) (R := R) (tl := tl) (N := N) (l := sl P) (m0 := m) (f := f) hN (by rw [sl_len]; exact p1) (by omega) (by omega) (by rw [sl_len]; exact p3) p4 ho.1 (by rw [sl_len]; exact p7) (fun k x r e => by
    have hk : k < P.length := by
      by_cases c : k < P.length
      · exact c
      · rw [List.drop_of_length_le (by rw [sl_len]; omega)] at e; exact absurd e (by simp)
    rw [sl_at hk] at e
    injection e with e1 e2
    rw [← e1]
    exact ⟨(p2 k _ (xS_at hk)).1, (nd_at ho hk).1⟩)
  rw [sl_len] at j3
  exact ⟨J, j3, ⟨rfl, j1⟩, ⟨fun a j h => vup_o (fun e => by omega), fun y h => j2 y (by omega), fun w => wt_i w (by decide)⟩, fun y h => j2 y (by omega)⟩
set_option maxRecDepth 100000 in
set_option maxHeartbeats 4000000 in
theorem beg_E {V : Nat → Nat → Value} {I : Nat → Nat → Int32} {L : Nat → Nat → Int64} {R : Nat → Nat → Option Nat} {tl : am_H} {N A it kd ln w : Nat} {P : xI} (hN : 100 < N) (hg : gdP kd ln P) (hw : w < 4) (wv : wt V) (hs : srcE V I tl A it kd ln P) (hA : 130 < A) (hi : 130 < it) : ∃ W J nC, fm_159 N (.ref 89) (.ref A) Value.null (nI w) (fx V I L R ++ tl) = some (.inl (some (.int nC), fx W J L R ++ tl)) ∧ SE tl A it kd ln w P W J ∧ W 89 9 = .int nC ∧ (nC = nI (ncE kd ln P.length w) ∨ (ncE kd ln P.length w = 0 ∧ nC ≤ 0)) ∧ frCg V W I J := by
  have k3 := hg.1
  have p5 : am_pP 5 (.ref 89) (.ref A) (fx V I L R ++ tl) = some (fx (vup V 89 5 (.ref A)) I L R ++ tl) := qp_89_5
  have p6 : am_pP 6 (.ref 89) Value.null (fx (vup V 89 5 (.ref A)) I L R ++ tl) = some (fx (vup (vup V 89 5 (.ref A)) 89 6 .null) I L R ++ tl) := ev_p rfl rfl rfl rfl
  have e7 : (5 : Int32) * nI kd + nI w = nI (5 * kd + w) := by rw [show (5 : Int32) * nI kd = nI (5 * kd) from nI_mm 5 kd, nI_add]
  obtain ⟨V1, ev1⟩ : ∃ X, X = vup (vup V 89 5 (.ref A)) 89 6 .null := ⟨_, rfl⟩
  obtain ⟨V2, ev2⟩ : ∃ X, X = vup V1 89 7 (.int (nI (5 * kd + w))) := ⟨_, rfl⟩
  rw [← ev1] at p6
  have f1 : frCg V V1 I I := by rw [ev1]; exact frCg_t (frCg_o (by decide) (by decide) (by decide) (by decide)) (frCg_o (by decide) (by decide) (by decide) (by decide))
  have f2 : frCg V V2 I I := by rw [ev2]; exact frCg_t f1 (frCg_i (by decide) (by decide) (by decide))
  have s1 : srcE V1 I tl A it kd ln P := srcE_c (fun j => f1.1 A j (by omega)) rfl hs
  have s2 : srcE V2 I tl A it kd ln P := srcE_c (fun j => f2.1 A j (by omega)) rfl hs
  have o1 := (srcE_ok (L := L) (R := R) s1).2.2.1
  have o2 := (srcE_ok (L := L) (R := R) s2).2.2.1
  -- behind the shape
  have tail : ∀ (W : Nat → Nat → Value) (J : Nat → Nat → Int32), frCg V W I J → W 89 5 = .ref A → W 89 7 = .int (nI (5 * kd + w)) → (kd = 0 → shT W J 94 (uTx P)) → fg_159_45 N (.ref 89) (.ref A) Value.null (nI w) (fx W J L R ++ tl) = fm_159 N (.ref 89) (.ref A) Value.null (nI w) (fx V I L R ++ tl) → ∃ W J nC, fm_159 N (.ref 89) (.ref A) Value.null (nI w) (fx V I L R ++ tl) = some (.inl (some (.int nC), fx W J L R ++ tl)) ∧ SE tl A it kd ln w P W J ∧ W 89 9 = .int nC ∧ (nC = nI (ncE kd ln P.length w) ∨ (ncE kd ln P.length w = 0 ∧ nC ≤ 0)) ∧ frCg V W I J := fun W J f w5 w7 wsh e => by
    have sW : srcE W J tl A it kd ln P := srcE_c (fun j => f.1 A j (by omega)) (f.2.1 it (by omega)) hs
    obtain ⟨nC, c1, c2⟩ := s160 (L := L) (R := R) hg hw w5 w7 sW
    obtain ⟨W8, e8⟩ : ∃ X, X = vup W 89 8 (.int (nI (acE kd ln P.length))) := ⟨_, rfl⟩
    obtain ⟨W9, e9⟩ : ∃ X, X = vup W8 89 9 (.int nC) := ⟨_, rfl⟩
    rw [← e8] at c1
    have g8 : frCg W W9 J J := by rw [e9, e8]; exact frCg_t (frCg_i (by decide) (by decide) (by decide)) (frCg_i (by decide) (by decide) (by decide))
    have h9 : W9 89 9 = .int nC := by rw [e9]; rfl
    refine ⟨W9, J, nC, ?_, ⟨(frCg_t f g8).2.2 wv, ?_, ?_, ?_, srcE_c (fun j => g8.1 A j (by omega)) rfl sW, hA, hi, fun k0 => ?_⟩, h9, c2, frCg_t f g8⟩
    · rw [← e]
      apply hd_159_45
      refine ev_b (a := true) rfl (ev_t rfl ?_)
      apply hd_159_71
      refine ev_b (a := true) rfl (ev_t rfl ?_)
      apply hd_159_109
      refine ev_b (a := true) rfl (ev_t rfl (ev_i rfl (ev_cI c1 ?_)))
      apply hd_159_126
      refine ev_b (a := fx W9 J L R ++ tl) (by rw [e9]; exact qp_89_9) (ev_b (rdI h9) rfl)
    · rw [e9, e8]; exact w5
    · rw [e9, e8]; exact w7
    · rw [e9, e8]; rfl
    · obtain ⟨x1, x2⟩ := wsh k0
      exact ⟨by rw [e9, e8]; exact x1, x2⟩
  have st0 : ∀ o, (if ¬ nI kd = 0 then (fg_159_45 N (.ref 89) (.ref A) Value.null (nI w) (fx V2 I L R ++ tl)) else ((am_vR (am_pG 2 (.ref 89) (fx V2 I L R ++ tl))).bind fun v6 => (if am_pOk 7 v6 (fx V2 I L R ++ tl) then am_cV true (fm_76 N v6 (.ref A) (fx V2 I L R ++ tl)) (fun h10 => (fg_159_45 N (.ref 89) (.ref A) Value.null (nI w) h10)) else none))) = o → fm_159 N (.ref 89) (.ref A) Value.null (nI w) (fx V I L R ++ tl) = o := fun o e => by
    apply hm_159
    apply hd_159_0
    refine ev_b p5 (ev_b p6 (ev_b o1 (ev_b (a := true) rfl (ev_t rfl ?_))))
    apply hd_159_26
    rw [e7]
    exact ev_b (a := fx V2 I L R ++ tl) (by rw [ev2]; exact qp_89_7) (ev_b o2 e)
  by_cases k0 : kd = 0
  · subst k0
    obtain ⟨l0, ho, et⟩ := hg.2.2.1 rfl
    subst l0
    have sP : srcP V2 I tl A it 0 0 (uTx P) := srcE_P (by omega) (by omega) (by rw [uTx_len]; exact hg.2.1) (by rw [et]; exact s2)
    obtain ⟨J, j1, j2, j3, j4⟩ := sh_94 (L := L) (R := R) (N := N) hN hA hi sP ho
    exact tail _ J (frCg_t f2 j3) (by rw [ev2, ev1]; rfl) (by rw [ev2]; rfl) (fun _ => j2) (st0 _ (ev_f (fun e => e rfl) (ev_b (rdR rfl) (ev_i rfl (ev_cV j1 rfl))))).symm
  · exact tail V2 I f2 (by rw [ev2, ev1]; rfl) (by rw [ev2]; rfl) (fun e => absurd e k0) (st0 _ (ev_t (fun e => k0 ((nI_eq (b := 0) (by omega) (by decide)).mp e)) rfl)).symm
