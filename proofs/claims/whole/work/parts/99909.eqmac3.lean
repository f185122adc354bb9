/-! ===== equal(a, b): two machines, the class's search ===== -/
set_option maxRecDepth 100000 in
set_option maxHeartbeats 1600000 in
theorem c_288l {V : Nat → Nat → Value} {I : Nat → Nat → Int32} {L : Nat → Nat → Int64} {R : Nat → Nat → Option Nat} {tl : am_H} {N a it ln z1 a' it' ln' z2 : Nat} {f f' v1 v2 : Nat → Int32} {n1 n2 : Nat → Nat → Nat} (hN : 5000 < N) (o1 : mcO z1 n1) (o2 : mcO z2 n2) (hp : mcC V I tl a it ln z1 f v1 n1) (hp' : mcC V I tl a' it' ln' z2 f' v2 n2) : ∀ (m k K : Nat) (g q : Nat → Int32), k + m = 37 → m < K → (∀ j, j < k → j < (mbs n1 n2 j).1) → qAr (mbs n1 n2 k) g q → match mgo n1 n2 v1 v2 m k with
    | none => ∃ g' q', fg_288_21 N K (.ref 131) (.ref (269 + a)) (.ref (269 + a')) (.ref 166) (nI (mbs n1 n2 k).1) (nI k) (fx V (iup (iup I 145 q) 146 g) L R ++ tl) = some (.inl (some (.int 0), fx V (iup (iup I 145 q') 146 g') L R ++ tl))
    | some y => y < (mbs n1 n2 y).1 ∧ qInv z1 z2 (mbs n1 n2 y) ∧ ∃ g' q' w, mwI (pth (mbs n1 n2 y).2.1 35 ((mbs n1 n2 y).2.2 y)) w ∧ fg_288_21 N K (.ref 131) (.ref (269 + a)) (.ref (269 + a')) (.ref 166) (nI (mbs n1 n2 k).1) (nI k) (fx V (iup (iup I 145 q) 146 g) L R ++ tl) = some (.inl (some (.int 1), fx V (iup (iup (iup I 145 q') 146 g') 166 w) L R ++ tl)) := by
  have s1 := o1.2.1
  have s2 := o2.2.1
  intro m
  induction m with
  | zero =>
    intro k K g q hk hK hj hA
    obtain ⟨K, rfl⟩ : ∃ k, K = k + 1 := ⟨K - 1, by omega⟩
    have bl := q_le (mbs_ok o1 o2 k hj)
    refine ⟨g, q, ?_⟩
    rw [fg_288_21]
    exact ev_t (nI_le (by omega) (by omega)) rfl
  | succ m ih =>
    intro k K g q hk hK hj hA
    obtain ⟨K, rfl⟩ : ∃ k, K = k + 1 := ⟨K - 1, by omega⟩
    have bi := mbs_ok o1 o2 k hj
    have bl := q_le bi
    by_cases c : (mbs n1 n2 k).1 ≤ k
    · rw [mgo, if_pos c]
      refine ⟨g, q, ?_⟩
      rw [fg_288_21]
      exact ev_t (nI_le c (by omega)) rfl
    · have kl : k < (mbs n1 n2 k).1 := by omega
      obtain ⟨k1, k2, k3⟩ := bi.2.1 k kl
      have hpp : mcC V (iup (iup I 145 q) 146 g) tl a it ln z1 f v1 n1 := ⟨fun W J L' R' h1 h2 => hp.1 W J L' R' h1 (h2.trans ((iup_na (by omega)).trans (iup_na (by omega)))), hp.2⟩
      have hpp' : mcC V (iup (iup I 145 q) 146 g) tl a' it' ln' z2 f' v2 n2 := ⟨fun W J L' R' h1 h2 => hp'.1 W J L' R' h1 (h2.trans ((iup_na (by omega)).trans (iup_na (by omega)))), hp'.2⟩
      obtain ⟨⟨x1, x2, x3, x4, x5, x6, p1⟩, hG, -⟩ := mc_get o1 hpp V (iup (iup I 145 q) 146 g) L R (fun _ => rfl) rfl
      obtain ⟨⟨y1, y2, y3, y4, y5, y6, p2⟩, hG', -⟩ := mc_get o2 hpp' V (iup (iup I 145 q) 146 g) L R (fun _ => rfl) rfl
      have rq : am_pA 0 (.ref 145) (nI k) (fx V (iup (iup I 145 q) 146 g) L R ++ tl) = some (nI ((mbs n1 n2 k).2.2 k)) := (qa_145 (by omega)).trans (congrArg some (hA.2 k kl))
      obtain ⟨d1, d2⟩ := dm6 _ k3
      have head : ∀ o, (if v1 ((mbs n1 n2 k).2.2 k / 6) = v2 ((mbs n1 n2 k).2.2 k % 6) then (fg_288_96 N (fg_288_21 N K) N (.ref 131) (.ref (269 + a)) (.ref (269 + a')) (.ref 166) (nI (mbs n1 n2 k).1) (nI k) (nI ((mbs n1 n2 k).2.2 k / 6)) (nI ((mbs n1 n2 k).2.2 k % 6)) 0 (fx V (iup (iup I 145 q) 146 g) L R ++ tl)) else ((am_vR (am_pG 2568 (.ref 131) (fx V (iup (iup I 145 q) 146 g) L R ++ tl))).bind fun v24 => ((am_pA 0 v24 (nI k) (fx V (iup (iup I 145 q) 146 g) L R ++ tl)).bind fun v26 => (if am_pOk 10 (.ref 131) (fx V (iup (iup I 145 q) 146 g) L R ++ tl) then am_cV true (fm_289 N (.ref 131) v26 (.ref 166) (fx V (iup (iup I 145 q) 146 g) L R ++ tl)) (fun h30 => some (.inl (some (.int 1), h30))) else none)))) = o → fg_288_21 N (K + 1) (.ref 131) (.ref (269 + a)) (.ref (269 + a')) (.ref 166) (nI (mbs n1 n2 k).1) (nI k) (fx V (iup (iup I 145 q) 146 g) L R ++ tl) = o := fun o hO => by
        rw [fg_288_21]
        refine ev_f (nI_ge kl (by omega)) (ev_b (a := Value.ref 145) rfl (ev_b (a := nI 36) rfl (ev_f (nI_ge (by omega) (by decide)) (ev_b (a := Value.ref 145) rfl (ev_b rq (ev_b (a := Value.ref 145) rfl (ev_b rq ?_)))))))
        rw [d2, d1]
        exact ev_i (ev_ok p1) (ev_cI (hG _ k1).1 (ev_i (ev_ok p2) (ev_cI (hG' _ k2).1 hO)))
      by_cases e : v1 ((mbs n1 n2 k).2.2 k / 6) = v2 ((mbs n1 n2 k).2.2 k % 6)
      · rw [mgo, if_neg c, if_pos e]
        obtain ⟨g1, q1, a1, a2⟩ := c_288e (V := V) (I := I) (L := L) (R := R) (tl := tl) (N := N) (X := .ref 166) (rc := fg_288_21 N K) o1 o2 hp hp' bi kl 4 0 N g q (by omega) (by omega) hA
        have qq := ih (k + 1) K g1 q1 (by omega) (by omega) (fun j hj2 => by
          by_cases e : j = k
          · rw [e]; exact kl
          · exact hj j (by omega)) a1
        have tr : fg_288_21 N (K + 1) (.ref 131) (.ref (269 + a)) (.ref (269 + a')) (.ref 166) (nI (mbs n1 n2 k).1) (nI k) (fx V (iup (iup I 145 q) 146 g) L R ++ tl) = fg_288_21 N K (.ref 131) (.ref (269 + a)) (.ref (269 + a')) (.ref 166) (nI (mbs n1 n2 (k + 1)).1) (nI (k + 1)) (fx V (iup (iup I 145 q1) 146 g1) L R ++ tl) := head _ (ev_t e a2)
        rw [tr]
        exact qq
      · rw [mgo, if_neg c, if_neg e]
        obtain ⟨w, w1, w2⟩ := c_289 (V := V) (I := iup (iup I 145 q) 146 g) (L := L) (R := R) (tl := tl) (N := N) (k := k) (by omega) bi kl (fun x hx => by rw [iup_eq]; exact hA.1 x hx)
        exact ⟨kl, bi, g, q, w, w1, head _ (ev_f e (ev_b (a := Value.ref 145) rfl (ev_b rq (ev_i rfl (ev_cV w2 rfl)))))⟩
set_option maxRecDepth 100000 in
set_option maxHeartbeats 1600000 in
theorem c_288 {V : Nat → Nat → Value} {I : Nat → Nat → Int32} {L : Nat → Nat → Int64} {R : Nat → Nat → Option Nat} {tl : am_H} {N a it ln z1 a' it' ln' z2 : Nat} {f f' v1 v2 : Nat → Int32} {n1 n2 : Nat → Nat → Nat} (hN : 5000 < N) (o1 : mcO z1 n1) (o2 : mcO z2 n2) (hp : mcC V I tl a it ln z1 f v1 n1) (hp' : mcC V I tl a' it' ln' z2 f' v2 n2) : match mgo n1 n2 v1 v2 37 0 with
    | none => ∃ g' q', fm_288 N (.ref 131) (.ref (269 + a)) (.ref (269 + a')) (.ref 166) (fx V I L R ++ tl) = some (.inl (some (.int 0), fx V (iup (iup I 145 q') 146 g') L R ++ tl))
    | some y => y < (mbs n1 n2 y).1 ∧ qInv z1 z2 (mbs n1 n2 y) ∧ ∃ g' q' w, mwI (pth (mbs n1 n2 y).2.1 35 ((mbs n1 n2 y).2.2 y)) w ∧ fm_288 N (.ref 131) (.ref (269 + a)) (.ref (269 + a')) (.ref 166) (fx V I L R ++ tl) = some (.inl (some (.int 1), fx V (iup (iup (iup I 145 q') 146 g') 166 w) L R ++ tl)) := by
  have ar0 : qAr (mbs n1 n2 0) (filf (I 146) (-1) 36) (upd (I 145) 0 0) := by
    refine ⟨fun x hx => ?_, fun i hi => ?_⟩
    · unfold filf
      rw [if_pos hx]
      rfl
    · have hi : i < 1 := hi
      rw [show i = 0 by omega, upd_eq]
      rfl
  have q := c_288l (V := V) (I := I) (L := L) (R := R) (tl := tl) (N := N) hN o1 o2 hp hp' 37 0 N (filf (I 146) (-1) 36) (upd (I 145) 0 0) (by omega) (by omega) (fun j hj => by omega) ar0
  have tr : fm_288 N (.ref 131) (.ref (269 + a)) (.ref (269 + a')) (.ref 166) (fx V I L R ++ tl) = fg_288_21 N N (.ref 131) (.ref (269 + a)) (.ref (269 + a')) (.ref 166) (nI (mbs n1 n2 0).1) (nI 0) (fx V (iup (iup I 145 (upd (I 145) 0 0)) 146 (filf (I 146) (-1) 36)) L R ++ tl) := by
    unfold fm_288 fg_288_0
    refine ev_b (a := Value.ref 146) rfl (ev_cV (h1 := fx V (iup I 146 (filf (I 146) (-1) 36)) L R ++ tl) (e_53 (a := 146) (n := 36) (f := I 146) rfl (by omega) (by omega)) (ev_b (a := Value.ref 145) rfl ?_))
    exact ev_b (a := fx V (iup (iup I 145 (upd (I 145) 0 0)) 146 (filf (I 146) (-1) 36)) L R ++ tl) (ev_s (f := I 145) (n := 36) rfl rfl rfl rfl) rfl
  rw [tr]
  exact q
