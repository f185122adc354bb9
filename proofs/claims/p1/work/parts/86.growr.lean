/-! ===== the reference's grow() ===== -/
theorem tS_all : ∀ n, n < 13 → ∀ w, w < 3 → ∀ s, s < 21 → ∀ t, t < 2 → uW (2 * w + t) s n = if truN s = t then (tSs n).getD (21 * w + s) 0 else 0 := by decide +kernel
theorem tS_u {w s n : Nat} (hw : w < 3) (hs : s < 21) (hn : n < 13) : tS (273 * w + 13 * s + n) = lN (uW (2 * w + truN s) s n) := by
  have k := tS_all n hn w hw s hs (truN s) (by have := tru_le s; omega)
  rw [if_pos rfl] at k
  unfold tS lN
  rw [show (273 * w + 13 * s + n) % 13 = n by omega, show (273 * w + 13 * s + n) / 13 = 21 * w + s by omega, k]
theorem tS_n {w s n t : Nat} (hw : w < 3) (hs : s < 21) (hn : n < 13) (ht : t < 2) (h : truN s ≠ t) : uW (2 * w + t) s n = 0 := by
  rw [tS_all n hn w hw s hs t ht, if_neg h]
/-- manySplit() as a number -/
def spN (c S n f g : Nat) : Nat := if 3 ≤ arN S then (if 2 + f + g ≤ n then uT (pcN c S 0) f * (uT (pcN c S 1) g * uT (pcN c S 1) (n - 1 - f - g)) else 0) else if n = 1 + f + g then (if arN S ≤ 1 then uT (pcN c S 0) f else uT (pcN c S 0) f * uT (pcN c S 1) g) else 0
theorem ar_20 : ∀ S, S < 21 → 3 ≤ arN S → S = 20 := by decide +kernel
theorem rcSp_u {w t S n f g : Nat} (hw : w < 3) (ht : t < 2) (hS : S < 21) (hn : n < 13) (hf : f < 13) (hg : g < 13) : rcSp tC w S n f g = lN (spN (2 * w + t) S n f g) := by
  have e : ∀ p, pcN (2 * w + t) S p = 2 * pwN w S p + twN S p := fun p => by
    unfold pcN
    rw [show (2 * w + t) / 2 = w by omega]
  unfold rcSp spN rcM
  rw [e 0, e 1]
  by_cases c1 : 3 ≤ arN S
  · rw [if_pos c1, if_pos c1]
    by_cases c2 : 2 + f + g ≤ n
    · rw [if_pos c2, if_pos c2, if_neg (by omega), tC_u (pw_lt hw) (tw_le _ _) (by omega), tC_u (pw_lt hw) (tw_le _ _) (by omega), tC_u hw (tw_le _ _) (by omega), lN_mul, lN_mul]
      have h20 := ar_20 S hS c1
      subst h20
      rw [show 2 * w + twN 20 2 = 2 * pwN w 20 1 + twN 20 1 from rfl, Nat.mul_assoc]
    · rw [if_neg c2, if_neg c2]
      rfl
  · rw [if_neg c1, if_neg c1]
    by_cases c2 : n = 1 + f + g
    · rw [if_pos c2, if_pos c2, if_pos (by omega)]
      by_cases c3 : arN S ≤ 1
      · rw [if_pos c3, if_pos c3, tC_u (pw_lt hw) (tw_le _ _) (by omega)]
      · rw [if_neg c3, if_neg c3, tC_u (pw_lt hw) (tw_le _ _) (by omega), tC_u (pw_lt hw) (tw_le _ _) (by omega), lN_mul]
    · rw [if_neg c2, if_neg c2]
      rfl
/-- the reference while it grows: nodes laid, tasks waiting -/
def gS (V : Nat → Nat → Value) (I : Nat → Nat → Int32) (L : Nat → Nat → Int64) (R : Nat → Nat → Option Nat) (tl : am_H) (s k : Nat) (a b c d e : Nat → Int32) (p : Nat → Int64) : am_H :=
  fx (vup (vup V 174 14 (.int (nI s))) 174 88 (.int (nI k))) (iup (iup (iup (iup (iup I 186 a) 187 b) 227 c) 228 d) 229 e) (lup L 230 p) R ++ tl
set_option maxRecDepth 100000 in
set_option maxHeartbeats 4000000 in
theorem g_387 {V : Nat → Nat → Value} {I : Nat → Nat → Int32} {L : Nat → Nat → Int64} {R : Nat → Nat → Option Nat} {tl : am_H} {s k : Nat} {a b c d e : Nat → Int32} {p : Nat → Int64} (hk : k < 40) (w t n : Int32) (x : Int64) : fm_387 (.ref 174) w t n x (gS V I L R tl s k a b c d e p) = some (.inl (none, gS V I L R tl s (k + 1) a b (upd c k w) (upd d k t) (upd e k n) (vp_updL p k x))) := by
  have hin : am_inb (nI k) 40 = true := am_inb_n hk (by omega)
  have hcl : (nI k).toNatClampNeg = k := nI_clamp (by omega)
  unfold fm_387 fg_387_0
  refine ev_b (a := .ref 227) rfl ?_
  refine ev_b (a := nI k) rfl ?_
  refine ev_b (ev_s (f := c) (n := 40) (h1 := gS V I L R tl s k a b (upd c k w) d e p) rfl hin rfl (by rw [hcl]; rfl)) ?_
  refine ev_b (a := .ref 228) rfl ?_
  refine ev_b (a := nI k) rfl ?_
  refine ev_b (ev_s (f := d) (n := 40) (h1 := gS V I L R tl s k a b (upd c k w) (upd d k t) e p) rfl hin rfl (by rw [hcl]; rfl)) ?_
  refine ev_b (a := .ref 229) rfl ?_
  refine ev_b (a := nI k) rfl ?_
  refine ev_b (ev_s (f := e) (n := 40) (h1 := gS V I L R tl s k a b (upd c k w) (upd d k t) (upd e k n) p) rfl hin rfl (by rw [hcl]; rfl)) ?_
  refine ev_b (a := .ref 230) rfl ?_
  refine ev_b (a := nI k) rfl ?_
  refine ev_b (ev_sL (f := p) (n := 40) (h1 := gS V I L R tl s k a b (upd c k w) (upd d k t) (upd e k n) (vp_updL p k x)) rfl hin (by rw [hcl]; rfl)) ?_
  refine ev_b (a := nI k) rfl ?_
  rw [nI_1]
  refine ev_b (a := gS V I L R tl s (k + 1) a b (upd c k w) (upd d k t) (upd e k n) (vp_updL p k x)) (ev_p rfl rfl rfl rfl) ?_
  rfl
set_option maxRecDepth 100000 in
set_option maxHeartbeats 4000000 in
theorem g_335 {V : Nat → Nat → Value} {I : Nat → Nat → Int32} {L : Nat → Nat → Int64} {R : Nat → Nat → Option Nat} {tl : am_H} {s k : Nat} {a b c d e : Nat → Int32} {p : Nat → Int64} (hs : s < 400) (x y : Int32) : fm_335 (.ref 174) x y (gS V I L R tl s k a b c d e p) = some (.inl (none, gS V I L R tl (s + 1) k (upd a s x) (upd b s y) c d e p)) := by
  have hin : am_inb (nI s) 400 = true := am_inb_n hs (by omega)
  have hcl : (nI s).toNatClampNeg = s := nI_clamp (by omega)
  unfold fm_335 fg_335_0
  refine ev_b (a := .ref 186) rfl ?_
  refine ev_b (a := nI s) rfl ?_
  refine ev_b (ev_s (f := a) (n := 400) (h1 := gS V I L R tl s k (upd a s x) b c d e p) rfl hin rfl (by rw [hcl]; rfl)) ?_
  refine ev_b (a := .ref 187) rfl ?_
  refine ev_b (a := nI s) rfl ?_
  refine ev_b (ev_s (f := b) (n := 400) (h1 := gS V I L R tl s k (upd a s x) (upd b s y) c d e p) rfl hin rfl (by rw [hcl]; rfl)) ?_
  refine ev_b (a := nI s) rfl ?_
  rw [nI_1]
  refine ev_b (a := gS V I L R tl (s + 1) k (upd a s x) (upd b s y) c d e p) (ev_p rfl rfl rfl rfl) ?_
  rfl
set_option maxRecDepth 100000 in
set_option maxHeartbeats 4000000 in
theorem g_O {V : Nat → Nat → Value} {I : Nat → Nat → Int32} {L : Nat → Nat → Int64} {R : Nat → Nat → Option Nat} {tl : am_H} {s k : Nat} {a b c d e : Nat → Int32} {p : Nat → Int64} : rcO (gS V I L R tl s k a b c d e p) := ⟨by unfold gS; rw [List.length_append, fx_len]; omega, _, rfl, rfl, rfl, rfl⟩
set_option maxRecDepth 100000 in
set_option maxHeartbeats 4000000 in
theorem g_hc {V : Nat → Nat → Value} {I : Nat → Nat → Int32} {L : Nat → Nat → Int64} {R : Nat → Nat → Option Nat} {tl : am_H} {s k : Nat} {a b c d e : Nat → Int32} {p : Nat → Int64} (h4 : L 224 = tC) (h5 : L 225 = tS) : hc (gS V I L R tl s k a b c d e p) tC tS (L 226) = gS V I L R tl s k a b c d e p := by
  rw [← h4, ← h5]
  rfl
theorem g_383 {V : Nat → Nat → Value} {I : Nat → Nat → Int32} {L : Nat → Nat → Int64} {R : Nat → Nat → Option Nat} {tl : am_H} {s k : Nat} {a b c d e : Nat → Int32} {p : Nat → Int64} (h4 : L 224 = tC) (h5 : L 225 = tS) {w t n : Nat} (hw : w < 3) (ht : t ≤ 1) (hn : n ≤ 12) : fm_383 (.ref 174) (nI w) (nI t) (nI n) (gS V I L R tl s k a b c d e p) = some (.inl (some (.long (lN (uT (2 * w + t) n))), gS V I L R tl s k a b c d e p)) := by
  have q := e_383 (h := gS V I L R tl s k a b c d e p) (C := tC) (S := tS) (Y := L 226) g_O hw ht (by omega : n ≤ 13)
  rw [g_hc h4 h5, tC_u hw ht hn] at q
  exact q
theorem g_384 {V : Nat → Nat → Value} {I : Nat → Nat → Int32} {L : Nat → Nat → Int64} {R : Nat → Nat → Option Nat} {tl : am_H} {s k : Nat} {a b c d e : Nat → Int32} {p : Nat → Int64} (h4 : L 224 = tC) (h5 : L 225 = tS) {w S n : Nat} (hw : w < 3) (hS : S < 21) (hn : n < 13) : fm_384 (.ref 174) (nI w) (nI S) (nI n) (gS V I L R tl s k a b c d e p) = some (.inl (some (.long (lN (uW (2 * w + truN S) S n))), gS V I L R tl s k a b c d e p)) := by
  have q := e_384 (h := gS V I L R tl s k a b c d e p) (C := tC) (S := tS) (Y := L 226) g_O hw hS hn
  rw [g_hc h4 h5, tS_u hw hS hn] at q
  exact q
theorem g_380 {V : Nat → Nat → Value} {I : Nat → Nat → Int32} {L : Nat → Nat → Int64} {R : Nat → Nat → Option Nat} {tl : am_H} {s k : Nat} {a b c d e : Nat → Int32} {p : Nat → Int64} (h4 : L 224 = tC) (h5 : L 225 = tS) {w t S n f g : Nat} (hw : w < 3) (ht : t < 2) (hS : S < 21) (hn : n < 13) (hf : f < 13) (hg : g < 13) : fm_380 (.ref 174) (nI w) (nI S) (nI n) (nI f) (nI g) (gS V I L R tl s k a b c d e p) = some (.inl (some (.long (lN (spN (2 * w + t) S n f g))), gS V I L R tl s k a b c d e p)) := by
  have q := e_380 (h := gS V I L R tl s k a b c d e p) (C := tC) (S := tS) (Y := L 226) g_O hw hS hn hf hg
  rw [g_hc h4 h5, rcSp_u hw ht hS hn hf hg] at q
  exact q
theorem g_ok {V : Nat → Nat → Value} {I : Nat → Nat → Int32} {L : Nat → Nat → Int64} {R : Nat → Nat → Option Nat} {tl : am_H} {s k : Nat} {a b c d e : Nat → Int32} {p : Nat → Int64} : am_pOk 12 (.ref 174) (gS V I L R tl s k a b c d e p) = true := rfl
/-- the sort of a node -/
theorem g_388p {V : Nat → Nat → Value} {I : Nat → Nat → Int32} {L : Nat → Nat → Int64} {R : Nat → Nat → Option Nat} {tl : am_H} {s k : Nat} {a b c d e : Nat → Int32} {p : Nat → Int64} (h4 : L 224 = tC) (h5 : L 225 = tS) {N w t n : Nat} (hw : w < 3) (ht : t < 2) (h1 : 1 ≤ n) (hn : n < 13) :
    ∀ (m S P K : Nat), m + S = 20 → m + 1 < K → P < sumF (2 * w + t) n (m + 1) S → sumF (2 * w + t) n (m + 1) S < 2 ^ 50 → fg_388_10 N K (.ref 174) (nI w) (nI t) (nI n) (lN P) (nI S) 0 (gS V I L R tl s k a b c d e p) = fg_388_120 N (.ref 174) (nI w) (nI n) (lN (pk (2 * w + t) n m S P).2) (nI (pk (2 * w + t) n m S P).1) (nI (arN (pk (2 * w + t) n m S P).1)) (.ref 174) (nI (pk (2 * w + t) n m S P).1) (nI (if (pk (2 * w + t) n m S P).1 = 0 then (pk (2 * w + t) n m S P).2 else 0)) (gS V I L R tl s k a b c d e p) := by
  -- one turn that finds
  have hfound : ∀ (S P K : Nat), S < 21 → 1 < K → P < uW (2 * w + t) S n → uW (2 * w + t) S n < 2 ^ 50 → fg_388_10 N K (.ref 174) (nI w) (nI t) (nI n) (lN P) (nI S) 0 (gS V I L R tl s k a b c d e p) = fg_388_120 N (.ref 174) (nI w) (nI n) (lN P) (nI S) (nI (arN S)) (.ref 174) (nI S) (nI (if S = 0 then P else 0)) (gS V I L R tl s k a b c d e p) := by
    intro S P K hS hK hP hb
    obtain ⟨K, rfl⟩ : ∃ k, K = k + 2 := ⟨K - 2, by omega⟩
    have htr : truN S = t := Classical.byContradiction (fun h9 => by rw [tS_n hw hS hn ht h9] at hP; omega)
    have hend : fg_388_10 N (K + 1) (.ref 174) (nI w) (nI t) (nI n) (lN P) (nI S) 1 (gS V I L R tl s k a b c d e p) = fg_388_120 N (.ref 174) (nI w) (nI n) (lN P) (nI S) (nI (arN S)) (.ref 174) (nI S) (nI (if S = 0 then P else 0)) (gS V I L R tl s k a b c d e p) := by
      rw [fg_388_10]
      refine ev_t (by decide) ?_
      refine ev_cI (pe_343 _ _) ?_
      rw [ar_eq S hS]
      by_cases c0 : S = 0
      · rw [if_pos c0]
        refine ev_f (fun e9 => e9 (by rw [c0]; rfl)) ?_
        rw [lN_i]
      · rw [if_neg c0]
        exact ev_t (nI_ne0 (by omega) (by omega)) rfl
    rw [fg_388_10]
    refine ev_f (fun e9 => e9 rfl) ?_
    refine ev_cI (pe_334 _ _) ?_
    rw [tr_eq S hS, htr]
    have h30 : fg_388_30 N (fg_388_10 N (K + 1)) (.ref 174) (nI w) (nI t) (nI n) (lN P) (nI S) (nI t) (nI t) (gS V I L R tl s k a b c d e p) = fg_388_120 N (.ref 174) (nI w) (nI n) (lN P) (nI S) (nI (arN S)) (.ref 174) (nI S) (nI (if S = 0 then P else 0)) (gS V I L R tl s k a b c d e p) := by
      unfold fg_388_30
      refine ev_f (fun e9 => e9 rfl) ?_
      refine ev_i g_ok ?_
      refine ev_cL (g_384 h4 h5 hw hS hn) ?_
      rw [htr]
      unfold fg_388_45
      refine ev_f (fun e9 => absurd ((lM_le (by omega) (by omega)).mp ((lg_cmp_ge _ _).mp e9)) (by omega)) ?_
      unfold fg_388_60
      refine ev_f (by decide) ?_
      unfold fg_388_77
      refine ev_f (by decide) ?_
      unfold fg_388_93
      exact hend
    by_cases c1 : t = 1
    · refine ev_f (fun e9 => e9 (by rw [c1]; rfl)) ?_
      rw [show (1 : Int32) = nI t by rw [c1]; rfl]
      exact h30
    · refine ev_t (fun e9 => c1 ((nI_eq (by omega) (by decide)).mp e9)) ?_
      rw [show (0 : Int32) = nI t by rw [show t = 0 by omega]; rfl]
      have h30b := h30
      rw [show t = 0 by omega] at h30b ⊢
      exact h30b
  intro m
  induction m with
  | zero =>
    intro S P K hm hK hP hb
    rw [sumF, sumF] at hP hb
    exact hfound S P K (by omega) (by omega) (by omega) (by omega)
  | succ m ih =>
    intro S P K hm hK hP hb
    rw [sumF] at hP hb
    rw [pk]
    by_cases c1 : P < uW (2 * w + t) S n
    · rw [if_pos c1]
      exact hfound S P K (by omega) (by omega) c1 (by omega)
    · rw [if_neg c1]
      obtain ⟨K, rfl⟩ : ∃ k, K = k + 1 := ⟨K - 1, by omega⟩
      have hS : S < 21 := by omega
      rw [fg_388_10]
      refine ev_f (fun e9 => e9 rfl) ?_
      refine ev_cI (pe_334 _ _) ?_
      rw [tr_eq S hS]
      have h45 : fg_388_45 N (fg_388_10 N K) (.ref 174) (nI w) (nI t) (nI n) (lN P) (nI S) (lN (uW (2 * w + t) S n)) (gS V I L R tl s k a b c d e p) = fg_388_10 N K (.ref 174) (nI w) (nI t) (nI n) (lN (P - uW (2 * w + t) S n)) (nI (S + 1)) 0 (gS V I L R tl s k a b c d e p) := by
        unfold fg_388_45
        refine ev_t ((lg_cmp_ge _ _).mpr ((lM_le (by omega) (by omega)).mpr (by omega))) ?_
        unfold fg_388_60
        refine ev_t rfl ?_
        unfold fg_388_77
        refine ev_t rfl ?_
        unfold fg_388_93
        rw [nI_1, lN_sub (by omega)]
      have h30 : ∀ v, v = nI t → fg_388_30 N (fg_388_10 N K) (.ref 174) (nI w) (nI t) (nI n) (lN P) (nI S) (nI (truN S)) v (gS V I L R tl s k a b c d e p) = fg_388_10 N K (.ref 174) (nI w) (nI t) (nI n) (lN (P - uW (2 * w + t) S n)) (nI (S + 1)) 0 (gS V I L R tl s k a b c d e p) := by
        intro v hv
        have htl := tru_le S
        unfold fg_388_30
        by_cases c2 : truN S = t
        · refine ev_f (fun e9 => e9 (by rw [hv, c2])) ?_
          refine ev_i g_ok ?_
          refine ev_cL (g_384 h4 h5 hw hS hn) ?_
          rw [c2]
          exact h45
        · refine ev_t (fun e9 => c2 ((nI_eq (by omega) (by omega)).mp (e9.trans hv))) ?_
          rw [tS_n hw hS hn ht c2] at h45 ⊢
          exact h45
      have hnext := ih (S + 1) (P - uW (2 * w + t) S n) K (by omega) (by omega) (by omega) (by omega)
      by_cases c2 : t = 1
      · refine ev_f (fun e9 => e9 (by rw [c2]; rfl)) ?_
        exact (h30 1 (by rw [c2]; rfl)).trans hnext
      · refine ev_t (fun e9 => c2 ((nI_eq (by omega) (by decide)).mp e9)) ?_
        exact (h30 0 (by rw [show t = 0 by omega]; rfl)).trans hnext
