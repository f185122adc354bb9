/-! ===== reads and writes of the fixed cells, a row each ===== -/
theorem vI_i {x : Int32} : am_vI (some (.int x)) = some x := rfl
theorem vL_l {x : Int64} : am_vL (some (.long x)) = some x := rfl
theorem vR_r {a : Nat} : am_vR (some (.ref a)) = some (.ref a) := rfl
theorem ob_s {α β : Type} {a : α} {f : α → Option β} : (some a).bind f = f a := rfl
theorem vup_at {V : Nat → Nat → Value} {a j : Nat} {w : Value} {b k : Nat} : vup V a j w b k = if b = a then (if k = j then w else V b k) else V b k := rfl
theorem iup_at {I : Nat → Nat → Int32} {a : Nat} {f : Nat → Int32} {b : Nat} : iup I a f b = if b = a then f else I b := rfl
theorem lup_at {L : Nat → Nat → Int64} {a : Nat} {f : Nat → Int64} {b : Nat} : lup L a f b = if b = a then f else L b := rfl
theorem cI_s {t : Bool} {v : Int32} {h : am_H} {k : Int32 → am_H → Option am_O} : am_cI t (some (.inl (some (.int v), h))) k = k v h := rfl
theorem cL_s {t : Bool} {v : Int64} {h : am_H} {k : Int64 → am_H → Option am_O} : am_cL t (some (.inl (some (.long v), h))) k = k v h := rfl
theorem cV_s {t : Bool} {h : am_H} {k : am_H → Option am_O} : am_cV t (some (.inl (none, h))) k = k h := rfl
set_option maxRecDepth 100000 in
set_option maxHeartbeats 4000000 in
theorem qr_0_0 {V : Nat → Nat → Value} {I : Nat → Nat → Int32} {L : Nat → Nat → Int64} {R : Nat → Nat → Option Nat} {tl : am_H} : am_pG 2816 (.ref 0) (fx V I L R ++ tl) = some (.ref 1) := rfl
set_option maxRecDepth 100000 in
set_option maxHeartbeats 4000000 in
theorem qv_0_1 {V : Nat → Nat → Value} {I : Nat → Nat → Int32} {L : Nat → Nat → Int64} {R : Nat → Nat → Option Nat} {tl : am_H} : am_pG 2817 (.ref 0) (fx V I L R ++ tl) = some (V 0 1) := rfl
set_option maxRecDepth 100000 in
set_option maxHeartbeats 4000000 in
theorem qp_0_1 {V : Nat → Nat → Value} {I : Nat → Nat → Int32} {L : Nat → Nat → Int64} {R : Nat → Nat → Option Nat} {tl : am_H} {x : Int32} : am_pP 2817 (.ref 0) (.int x) (fx V I L R ++ tl) = some (fx (vup V 0 1 (.int x)) I L R ++ tl) := ev_p rfl rfl rfl rfl
set_option maxRecDepth 100000 in
set_option maxHeartbeats 4000000 in
theorem qr_0_2 {V : Nat → Nat → Value} {I : Nat → Nat → Int32} {L : Nat → Nat → Int64} {R : Nat → Nat → Option Nat} {tl : am_H} : am_pG 2818 (.ref 0) (fx V I L R ++ tl) = some (.ref 2) := rfl
set_option maxRecDepth 100000 in
set_option maxHeartbeats 4000000 in
theorem qr_0_3 {V : Nat → Nat → Value} {I : Nat → Nat → Int32} {L : Nat → Nat → Int64} {R : Nat → Nat → Option Nat} {tl : am_H} : am_pG 2819 (.ref 0) (fx V I L R ++ tl) = some (.ref 14) := rfl
set_option maxRecDepth 100000 in
set_option maxHeartbeats 4000000 in
theorem qr_0_4 {V : Nat → Nat → Value} {I : Nat → Nat → Int32} {L : Nat → Nat → Int64} {R : Nat → Nat → Option Nat} {tl : am_H} : am_pG 2820 (.ref 0) (fx V I L R ++ tl) = some (.ref 38) := rfl
set_option maxRecDepth 100000 in
set_option maxHeartbeats 4000000 in
theorem qr_0_5 {V : Nat → Nat → Value} {I : Nat → Nat → Int32} {L : Nat → Nat → Int64} {R : Nat → Nat → Option Nat} {tl : am_H} : am_pG 2821 (.ref 0) (fx V I L R ++ tl) = some (.ref 39) := rfl
set_option maxRecDepth 100000 in
set_option maxHeartbeats 4000000 in
theorem qr_0_6 {V : Nat → Nat → Value} {I : Nat → Nat → Int32} {L : Nat → Nat → Int64} {R : Nat → Nat → Option Nat} {tl : am_H} : am_pG 2822 (.ref 0) (fx V I L R ++ tl) = some (.ref 76) := rfl
set_option maxRecDepth 100000 in
set_option maxHeartbeats 4000000 in
theorem qr_0_7 {V : Nat → Nat → Value} {I : Nat → Nat → Int32} {L : Nat → Nat → Int64} {R : Nat → Nat → Option Nat} {tl : am_H} : am_pG 2823 (.ref 0) (fx V I L R ++ tl) = some (.ref 89) := rfl
set_option maxRecDepth 100000 in
set_option maxHeartbeats 4000000 in
theorem qr_0_8 {V : Nat → Nat → Value} {I : Nat → Nat → Int32} {L : Nat → Nat → Int64} {R : Nat → Nat → Option Nat} {tl : am_H} : am_pG 2824 (.ref 0) (fx V I L R ++ tl) = some (.ref 118) := rfl
set_option maxRecDepth 100000 in
set_option maxHeartbeats 4000000 in
theorem qr_0_9 {V : Nat → Nat → Value} {I : Nat → Nat → Int32} {L : Nat → Nat → Int64} {R : Nat → Nat → Option Nat} {tl : am_H} : am_pG 2825 (.ref 0) (fx V I L R ++ tl) = some (.ref 131) := rfl
set_option maxRecDepth 100000 in
set_option maxHeartbeats 4000000 in
theorem qr_0_10 {V : Nat → Nat → Value} {I : Nat → Nat → Int32} {L : Nat → Nat → Int64} {R : Nat → Nat → Option Nat} {tl : am_H} : am_pG 2826 (.ref 0) (fx V I L R ++ tl) = some (.ref 164) := rfl
set_option maxRecDepth 100000 in
set_option maxHeartbeats 4000000 in
theorem qr_0_11 {V : Nat → Nat → Value} {I : Nat → Nat → Int32} {L : Nat → Nat → Int64} {R : Nat → Nat → Option Nat} {tl : am_H} : am_pG 2827 (.ref 0) (fx V I L R ++ tl) = some (.ref 165) := rfl
set_option maxRecDepth 100000 in
set_option maxHeartbeats 4000000 in
theorem qv_0_12 {V : Nat → Nat → Value} {I : Nat → Nat → Int32} {L : Nat → Nat → Int64} {R : Nat → Nat → Option Nat} {tl : am_H} : am_pG 2828 (.ref 0) (fx V I L R ++ tl) = some (V 0 12) := rfl
set_option maxRecDepth 100000 in
set_option maxHeartbeats 4000000 in
theorem qp_0_12 {V : Nat → Nat → Value} {I : Nat → Nat → Int32} {L : Nat → Nat → Int64} {R : Nat → Nat → Option Nat} {tl : am_H} {x : Int32} : am_pP 2828 (.ref 0) (.int x) (fx V I L R ++ tl) = some (fx (vup V 0 12 (.int x)) I L R ++ tl) := ev_p rfl rfl rfl rfl
set_option maxRecDepth 100000 in
set_option maxHeartbeats 4000000 in
theorem qv_0_13 {V : Nat → Nat → Value} {I : Nat → Nat → Int32} {L : Nat → Nat → Int64} {R : Nat → Nat → Option Nat} {tl : am_H} : am_pG 2829 (.ref 0) (fx V I L R ++ tl) = some (V 0 13) := rfl
set_option maxRecDepth 100000 in
set_option maxHeartbeats 4000000 in
theorem qp_0_13 {V : Nat → Nat → Value} {I : Nat → Nat → Int32} {L : Nat → Nat → Int64} {R : Nat → Nat → Option Nat} {tl : am_H} {x : Int32} : am_pP 2829 (.ref 0) (.int x) (fx V I L R ++ tl) = some (fx (vup V 0 13 (.int x)) I L R ++ tl) := ev_p rfl rfl rfl rfl
set_option maxRecDepth 100000 in
set_option maxHeartbeats 4000000 in
theorem qr_0_14 {V : Nat → Nat → Value} {I : Nat → Nat → Int32} {L : Nat → Nat → Int64} {R : Nat → Nat → Option Nat} {tl : am_H} : am_pG 2830 (.ref 0) (fx V I L R ++ tl) = some (.ref 166) := rfl
set_option maxRecDepth 100000 in
set_option maxHeartbeats 4000000 in
theorem qr_0_15 {V : Nat → Nat → Value} {I : Nat → Nat → Int32} {L : Nat → Nat → Int64} {R : Nat → Nat → Option Nat} {tl : am_H} : am_pG 2831 (.ref 0) (fx V I L R ++ tl) = some (.ref 167) := rfl
set_option maxRecDepth 100000 in
set_option maxHeartbeats 4000000 in
theorem qr_0_16 {V : Nat → Nat → Value} {I : Nat → Nat → Int32} {L : Nat → Nat → Int64} {R : Nat → Nat → Option Nat} {tl : am_H} : am_pG 2832 (.ref 0) (fx V I L R ++ tl) = some (.ref 169) := rfl
set_option maxRecDepth 100000 in
set_option maxHeartbeats 4000000 in
theorem qr_0_17 {V : Nat → Nat → Value} {I : Nat → Nat → Int32} {L : Nat → Nat → Int64} {R : Nat → Nat → Option Nat} {tl : am_H} : am_pG 2833 (.ref 0) (fx V I L R ++ tl) = some (.ref 171) := rfl
set_option maxRecDepth 100000 in
set_option maxHeartbeats 4000000 in
theorem qr_0_18 {V : Nat → Nat → Value} {I : Nat → Nat → Int32} {L : Nat → Nat → Int64} {R : Nat → Nat → Option Nat} {tl : am_H} : am_pG 2834 (.ref 0) (fx V I L R ++ tl) = some (.ref 172) := rfl
set_option maxRecDepth 100000 in
set_option maxHeartbeats 4000000 in
theorem qr_0_19 {V : Nat → Nat → Value} {I : Nat → Nat → Int32} {L : Nat → Nat → Int64} {R : Nat → Nat → Option Nat} {tl : am_H} : am_pG 2835 (.ref 0) (fx V I L R ++ tl) = some (.ref 173) := rfl
set_option maxRecDepth 100000 in
set_option maxHeartbeats 4000000 in
theorem qr_2_0 {V : Nat → Nat → Value} {I : Nat → Nat → Int32} {L : Nat → Nat → Int64} {R : Nat → Nat → Option Nat} {tl : am_H} : am_pG 2304 (.ref 2) (fx V I L R ++ tl) = some (.ref 3) := rfl
set_option maxRecDepth 100000 in
set_option maxHeartbeats 4000000 in
theorem qv_2_1 {V : Nat → Nat → Value} {I : Nat → Nat → Int32} {L : Nat → Nat → Int64} {R : Nat → Nat → Option Nat} {tl : am_H} : am_pG 2305 (.ref 2) (fx V I L R ++ tl) = some (V 2 1) := rfl
set_option maxRecDepth 100000 in
set_option maxHeartbeats 4000000 in
theorem qp_2_1 {V : Nat → Nat → Value} {I : Nat → Nat → Int32} {L : Nat → Nat → Int64} {R : Nat → Nat → Option Nat} {tl : am_H} {x : Int32} : am_pP 2305 (.ref 2) (.int x) (fx V I L R ++ tl) = some (fx (vup V 2 1 (.int x)) I L R ++ tl) := ev_p rfl rfl rfl rfl
set_option maxRecDepth 100000 in
set_option maxHeartbeats 4000000 in
theorem qv_2_2 {V : Nat → Nat → Value} {I : Nat → Nat → Int32} {L : Nat → Nat → Int64} {R : Nat → Nat → Option Nat} {tl : am_H} : am_pG 2306 (.ref 2) (fx V I L R ++ tl) = some (V 2 2) := rfl
set_option maxRecDepth 100000 in
set_option maxHeartbeats 4000000 in
theorem qp_2_2 {V : Nat → Nat → Value} {I : Nat → Nat → Int32} {L : Nat → Nat → Int64} {R : Nat → Nat → Option Nat} {tl : am_H} {x : Int32} : am_pP 2306 (.ref 2) (.int x) (fx V I L R ++ tl) = some (fx (vup V 2 2 (.int x)) I L R ++ tl) := ev_p rfl rfl rfl rfl
set_option maxRecDepth 100000 in
set_option maxHeartbeats 4000000 in
theorem qv_2_3 {V : Nat → Nat → Value} {I : Nat → Nat → Int32} {L : Nat → Nat → Int64} {R : Nat → Nat → Option Nat} {tl : am_H} : am_pG 2307 (.ref 2) (fx V I L R ++ tl) = some (V 2 3) := rfl
set_option maxRecDepth 100000 in
set_option maxHeartbeats 4000000 in
theorem qp_2_3 {V : Nat → Nat → Value} {I : Nat → Nat → Int32} {L : Nat → Nat → Int64} {R : Nat → Nat → Option Nat} {tl : am_H} {x : Int32} : am_pP 2307 (.ref 2) (.int x) (fx V I L R ++ tl) = some (fx (vup V 2 3 (.int x)) I L R ++ tl) := ev_p rfl rfl rfl rfl
set_option maxRecDepth 100000 in
set_option maxHeartbeats 4000000 in
theorem qv_2_4 {V : Nat → Nat → Value} {I : Nat → Nat → Int32} {L : Nat → Nat → Int64} {R : Nat → Nat → Option Nat} {tl : am_H} : am_pG 2308 (.ref 2) (fx V I L R ++ tl) = some (V 2 4) := rfl
set_option maxRecDepth 100000 in
set_option maxHeartbeats 4000000 in
theorem qp_2_4 {V : Nat → Nat → Value} {I : Nat → Nat → Int32} {L : Nat → Nat → Int64} {R : Nat → Nat → Option Nat} {tl : am_H} {x : Nat} : am_pP 2308 (.ref 2) (.ref x) (fx V I L R ++ tl) = some (fx (vup V 2 4 (.ref x)) I L R ++ tl) := ev_p rfl rfl rfl rfl
set_option maxRecDepth 100000 in
set_option maxHeartbeats 4000000 in
theorem qr_2_5 {V : Nat → Nat → Value} {I : Nat → Nat → Int32} {L : Nat → Nat → Int64} {R : Nat → Nat → Option Nat} {tl : am_H} : am_pG 2309 (.ref 2) (fx V I L R ++ tl) = some (.ref 4) := rfl
set_option maxRecDepth 100000 in
set_option maxHeartbeats 4000000 in
theorem qr_2_6 {V : Nat → Nat → Value} {I : Nat → Nat → Int32} {L : Nat → Nat → Int64} {R : Nat → Nat → Option Nat} {tl : am_H} : am_pG 2310 (.ref 2) (fx V I L R ++ tl) = some (.ref 5) := rfl
set_option maxRecDepth 100000 in
set_option maxHeartbeats 4000000 in
theorem qr_2_7 {V : Nat → Nat → Value} {I : Nat → Nat → Int32} {L : Nat → Nat → Int64} {R : Nat → Nat → Option Nat} {tl : am_H} : am_pG 2311 (.ref 2) (fx V I L R ++ tl) = some (.ref 13) := rfl
set_option maxRecDepth 100000 in
set_option maxHeartbeats 4000000 in
theorem qv_2_8 {V : Nat → Nat → Value} {I : Nat → Nat → Int32} {L : Nat → Nat → Int64} {R : Nat → Nat → Option Nat} {tl : am_H} : am_pG 2312 (.ref 2) (fx V I L R ++ tl) = some (V 2 8) := rfl
set_option maxRecDepth 100000 in
set_option maxHeartbeats 4000000 in
theorem qp_2_8 {V : Nat → Nat → Value} {I : Nat → Nat → Int32} {L : Nat → Nat → Int64} {R : Nat → Nat → Option Nat} {tl : am_H} {x : Int32} : am_pP 2312 (.ref 2) (.int x) (fx V I L R ++ tl) = some (fx (vup V 2 8 (.int x)) I L R ++ tl) := ev_p rfl rfl rfl rfl
set_option maxRecDepth 100000 in
set_option maxHeartbeats 4000000 in
theorem qa_3 {V : Nat → Nat → Value} {I : Nat → Nat → Int32} {L : Nat → Nat → Int64} {R : Nat → Nat → Option Nat} {tl : am_H} {k : Nat} (hk : k < 240) : am_pA 3 (.ref 3) (nI k) (fx V I L R ++ tl) = some (I 3 k) := by rw [ev_a (f := I 3) (n := 240) rfl (am_inb_n hk (by omega)), nI_clamp (by omega)]
set_option maxRecDepth 100000 in
set_option maxHeartbeats 4000000 in
theorem qs_3 {V : Nat → Nat → Value} {I : Nat → Nat → Int32} {L : Nat → Nat → Int64} {R : Nat → Nat → Option Nat} {tl : am_H} {k : Nat} {x : Int32} (hk : k < 240) (hx : am_afit 3 x = true) : am_pS 3 (.ref 3) (nI k) x (fx V I L R ++ tl) = some (fx V (iup I 3 (upd (I 3) k x)) L R ++ tl) := ev_s (f := I 3) (n := 240) rfl (am_inb_n hk (by omega)) hx (by rw [nI_clamp (by omega)]; rfl)
set_option maxRecDepth 100000 in
set_option maxHeartbeats 4000000 in
theorem qa_4 {V : Nat → Nat → Value} {I : Nat → Nat → Int32} {L : Nat → Nat → Int64} {R : Nat → Nat → Option Nat} {tl : am_H} {k : Nat} (hk : k < 60) : am_pA 0 (.ref 4) (nI k) (fx V I L R ++ tl) = some (I 4 k) := by rw [ev_a (f := I 4) (n := 60) rfl (am_inb_n hk (by omega)), nI_clamp (by omega)]
set_option maxRecDepth 100000 in
set_option maxHeartbeats 4000000 in
theorem qs_4 {V : Nat → Nat → Value} {I : Nat → Nat → Int32} {L : Nat → Nat → Int64} {R : Nat → Nat → Option Nat} {tl : am_H} {k : Nat} {x : Int32} (hk : k < 60) : am_pS 0 (.ref 4) (nI k) x (fx V I L R ++ tl) = some (fx V (iup I 4 (upd (I 4) k x)) L R ++ tl) := ev_s (f := I 4) (n := 60) rfl (am_inb_n hk (by omega)) rfl (by rw [nI_clamp (by omega)]; rfl)
set_option maxRecDepth 100000 in
set_option maxHeartbeats 4000000 in
theorem qr_5_0 {V : Nat → Nat → Value} {I : Nat → Nat → Int32} {L : Nat → Nat → Int64} {R : Nat → Nat → Option Nat} {tl : am_H} : am_pG 1792 (.ref 5) (fx V I L R ++ tl) = some (.ref 6) := rfl
set_option maxRecDepth 100000 in
set_option maxHeartbeats 4000000 in
theorem qr_5_1 {V : Nat → Nat → Value} {I : Nat → Nat → Int32} {L : Nat → Nat → Int64} {R : Nat → Nat → Option Nat} {tl : am_H} : am_pG 1793 (.ref 5) (fx V I L R ++ tl) = some (.ref 7) := rfl
set_option maxRecDepth 100000 in
set_option maxHeartbeats 4000000 in
theorem qr_5_2 {V : Nat → Nat → Value} {I : Nat → Nat → Int32} {L : Nat → Nat → Int64} {R : Nat → Nat → Option Nat} {tl : am_H} : am_pG 1794 (.ref 5) (fx V I L R ++ tl) = some (.ref 8) := rfl
set_option maxRecDepth 100000 in
set_option maxHeartbeats 4000000 in
theorem qr_5_3 {V : Nat → Nat → Value} {I : Nat → Nat → Int32} {L : Nat → Nat → Int64} {R : Nat → Nat → Option Nat} {tl : am_H} : am_pG 1795 (.ref 5) (fx V I L R ++ tl) = some (.ref 9) := rfl
set_option maxRecDepth 100000 in
set_option maxHeartbeats 4000000 in
theorem qr_5_4 {V : Nat → Nat → Value} {I : Nat → Nat → Int32} {L : Nat → Nat → Int64} {R : Nat → Nat → Option Nat} {tl : am_H} : am_pG 1796 (.ref 5) (fx V I L R ++ tl) = some (.ref 10) := rfl
set_option maxRecDepth 100000 in
set_option maxHeartbeats 4000000 in
theorem qr_5_5 {V : Nat → Nat → Value} {I : Nat → Nat → Int32} {L : Nat → Nat → Int64} {R : Nat → Nat → Option Nat} {tl : am_H} : am_pG 1797 (.ref 5) (fx V I L R ++ tl) = some (.ref 11) := rfl
set_option maxRecDepth 100000 in
set_option maxHeartbeats 4000000 in
theorem qr_5_6 {V : Nat → Nat → Value} {I : Nat → Nat → Int32} {L : Nat → Nat → Int64} {R : Nat → Nat → Option Nat} {tl : am_H} : am_pG 1798 (.ref 5) (fx V I L R ++ tl) = some (.ref 12) := rfl
set_option maxRecDepth 100000 in
set_option maxHeartbeats 4000000 in
theorem qv_5_7 {V : Nat → Nat → Value} {I : Nat → Nat → Int32} {L : Nat → Nat → Int64} {R : Nat → Nat → Option Nat} {tl : am_H} : am_pG 1799 (.ref 5) (fx V I L R ++ tl) = some (V 5 7) := rfl
set_option maxRecDepth 100000 in
set_option maxHeartbeats 4000000 in
theorem qp_5_7 {V : Nat → Nat → Value} {I : Nat → Nat → Int32} {L : Nat → Nat → Int64} {R : Nat → Nat → Option Nat} {tl : am_H} {x : Int32} : am_pP 1799 (.ref 5) (.int x) (fx V I L R ++ tl) = some (fx (vup V 5 7 (.int x)) I L R ++ tl) := ev_p rfl rfl rfl rfl
set_option maxRecDepth 100000 in
set_option maxHeartbeats 4000000 in
theorem qa_6 {V : Nat → Nat → Value} {I : Nat → Nat → Int32} {L : Nat → Nat → Int64} {R : Nat → Nat → Option Nat} {tl : am_H} {k : Nat} (hk : k < 60) : am_pA 0 (.ref 6) (nI k) (fx V I L R ++ tl) = some (I 6 k) := by rw [ev_a (f := I 6) (n := 60) rfl (am_inb_n hk (by omega)), nI_clamp (by omega)]
set_option maxRecDepth 100000 in
set_option maxHeartbeats 4000000 in
theorem qs_6 {V : Nat → Nat → Value} {I : Nat → Nat → Int32} {L : Nat → Nat → Int64} {R : Nat → Nat → Option Nat} {tl : am_H} {k : Nat} {x : Int32} (hk : k < 60) : am_pS 0 (.ref 6) (nI k) x (fx V I L R ++ tl) = some (fx V (iup I 6 (upd (I 6) k x)) L R ++ tl) := ev_s (f := I 6) (n := 60) rfl (am_inb_n hk (by omega)) rfl (by rw [nI_clamp (by omega)]; rfl)
set_option maxRecDepth 100000 in
set_option maxHeartbeats 4000000 in
theorem qa_7 {V : Nat → Nat → Value} {I : Nat → Nat → Int32} {L : Nat → Nat → Int64} {R : Nat → Nat → Option Nat} {tl : am_H} {k : Nat} (hk : k < 60) : am_pA 0 (.ref 7) (nI k) (fx V I L R ++ tl) = some (I 7 k) := by rw [ev_a (f := I 7) (n := 60) rfl (am_inb_n hk (by omega)), nI_clamp (by omega)]
set_option maxRecDepth 100000 in
set_option maxHeartbeats 4000000 in
theorem qs_7 {V : Nat → Nat → Value} {I : Nat → Nat → Int32} {L : Nat → Nat → Int64} {R : Nat → Nat → Option Nat} {tl : am_H} {k : Nat} {x : Int32} (hk : k < 60) : am_pS 0 (.ref 7) (nI k) x (fx V I L R ++ tl) = some (fx V (iup I 7 (upd (I 7) k x)) L R ++ tl) := ev_s (f := I 7) (n := 60) rfl (am_inb_n hk (by omega)) rfl (by rw [nI_clamp (by omega)]; rfl)
set_option maxRecDepth 100000 in
set_option maxHeartbeats 4000000 in
theorem qa_8 {V : Nat → Nat → Value} {I : Nat → Nat → Int32} {L : Nat → Nat → Int64} {R : Nat → Nat → Option Nat} {tl : am_H} {k : Nat} (hk : k < 60) : am_pA 0 (.ref 8) (nI k) (fx V I L R ++ tl) = some (I 8 k) := by rw [ev_a (f := I 8) (n := 60) rfl (am_inb_n hk (by omega)), nI_clamp (by omega)]
set_option maxRecDepth 100000 in
set_option maxHeartbeats 4000000 in
theorem qs_8 {V : Nat → Nat → Value} {I : Nat → Nat → Int32} {L : Nat → Nat → Int64} {R : Nat → Nat → Option Nat} {tl : am_H} {k : Nat} {x : Int32} (hk : k < 60) : am_pS 0 (.ref 8) (nI k) x (fx V I L R ++ tl) = some (fx V (iup I 8 (upd (I 8) k x)) L R ++ tl) := ev_s (f := I 8) (n := 60) rfl (am_inb_n hk (by omega)) rfl (by rw [nI_clamp (by omega)]; rfl)
set_option maxRecDepth 100000 in
set_option maxHeartbeats 4000000 in
theorem qa_9 {V : Nat → Nat → Value} {I : Nat → Nat → Int32} {L : Nat → Nat → Int64} {R : Nat → Nat → Option Nat} {tl : am_H} {k : Nat} (hk : k < 60) : am_pA 2 (.ref 9) (nI k) (fx V I L R ++ tl) = some (I 9 k) := by rw [ev_a (f := I 9) (n := 60) rfl (am_inb_n hk (by omega)), nI_clamp (by omega)]
set_option maxRecDepth 100000 in
set_option maxHeartbeats 4000000 in
theorem qs_9 {V : Nat → Nat → Value} {I : Nat → Nat → Int32} {L : Nat → Nat → Int64} {R : Nat → Nat → Option Nat} {tl : am_H} {k : Nat} {x : Int32} (hk : k < 60) (hx : am_afit 2 x = true) : am_pS 2 (.ref 9) (nI k) x (fx V I L R ++ tl) = some (fx V (iup I 9 (upd (I 9) k x)) L R ++ tl) := ev_s (f := I 9) (n := 60) rfl (am_inb_n hk (by omega)) hx (by rw [nI_clamp (by omega)]; rfl)
set_option maxRecDepth 100000 in
set_option maxHeartbeats 4000000 in
theorem qa_10 {V : Nat → Nat → Value} {I : Nat → Nat → Int32} {L : Nat → Nat → Int64} {R : Nat → Nat → Option Nat} {tl : am_H} {k : Nat} (hk : k < 60) : am_pA 2 (.ref 10) (nI k) (fx V I L R ++ tl) = some (I 10 k) := by rw [ev_a (f := I 10) (n := 60) rfl (am_inb_n hk (by omega)), nI_clamp (by omega)]
set_option maxRecDepth 100000 in
set_option maxHeartbeats 4000000 in
theorem qs_10 {V : Nat → Nat → Value} {I : Nat → Nat → Int32} {L : Nat → Nat → Int64} {R : Nat → Nat → Option Nat} {tl : am_H} {k : Nat} {x : Int32} (hk : k < 60) (hx : am_afit 2 x = true) : am_pS 2 (.ref 10) (nI k) x (fx V I L R ++ tl) = some (fx V (iup I 10 (upd (I 10) k x)) L R ++ tl) := ev_s (f := I 10) (n := 60) rfl (am_inb_n hk (by omega)) hx (by rw [nI_clamp (by omega)]; rfl)
set_option maxRecDepth 100000 in
set_option maxHeartbeats 4000000 in
theorem qa_11 {V : Nat → Nat → Value} {I : Nat → Nat → Int32} {L : Nat → Nat → Int64} {R : Nat → Nat → Option Nat} {tl : am_H} {k : Nat} (hk : k < 60) : am_pA 2 (.ref 11) (nI k) (fx V I L R ++ tl) = some (I 11 k) := by rw [ev_a (f := I 11) (n := 60) rfl (am_inb_n hk (by omega)), nI_clamp (by omega)]
set_option maxRecDepth 100000 in
set_option maxHeartbeats 4000000 in
theorem qs_11 {V : Nat → Nat → Value} {I : Nat → Nat → Int32} {L : Nat → Nat → Int64} {R : Nat → Nat → Option Nat} {tl : am_H} {k : Nat} {x : Int32} (hk : k < 60) (hx : am_afit 2 x = true) : am_pS 2 (.ref 11) (nI k) x (fx V I L R ++ tl) = some (fx V (iup I 11 (upd (I 11) k x)) L R ++ tl) := ev_s (f := I 11) (n := 60) rfl (am_inb_n hk (by omega)) hx (by rw [nI_clamp (by omega)]; rfl)
set_option maxRecDepth 100000 in
set_option maxHeartbeats 4000000 in
theorem qa_12 {V : Nat → Nat → Value} {I : Nat → Nat → Int32} {L : Nat → Nat → Int64} {R : Nat → Nat → Option Nat} {tl : am_H} {k : Nat} (hk : k < 61) : am_pA 0 (.ref 12) (nI k) (fx V I L R ++ tl) = some (I 12 k) := by rw [ev_a (f := I 12) (n := 61) rfl (am_inb_n hk (by omega)), nI_clamp (by omega)]
set_option maxRecDepth 100000 in
set_option maxHeartbeats 4000000 in
theorem qs_12 {V : Nat → Nat → Value} {I : Nat → Nat → Int32} {L : Nat → Nat → Int64} {R : Nat → Nat → Option Nat} {tl : am_H} {k : Nat} {x : Int32} (hk : k < 61) : am_pS 0 (.ref 12) (nI k) x (fx V I L R ++ tl) = some (fx V (iup I 12 (upd (I 12) k x)) L R ++ tl) := ev_s (f := I 12) (n := 61) rfl (am_inb_n hk (by omega)) rfl (by rw [nI_clamp (by omega)]; rfl)
set_option maxRecDepth 100000 in
set_option maxHeartbeats 4000000 in
theorem qa_13 {V : Nat → Nat → Value} {I : Nat → Nat → Int32} {L : Nat → Nat → Int64} {R : Nat → Nat → Option Nat} {tl : am_H} {k : Nat} (hk : k < 240) : am_pA 3 (.ref 13) (nI k) (fx V I L R ++ tl) = some (I 13 k) := by rw [ev_a (f := I 13) (n := 240) rfl (am_inb_n hk (by omega)), nI_clamp (by omega)]
set_option maxRecDepth 100000 in
set_option maxHeartbeats 4000000 in
theorem qs_13 {V : Nat → Nat → Value} {I : Nat → Nat → Int32} {L : Nat → Nat → Int64} {R : Nat → Nat → Option Nat} {tl : am_H} {k : Nat} {x : Int32} (hk : k < 240) (hx : am_afit 3 x = true) : am_pS 3 (.ref 13) (nI k) x (fx V I L R ++ tl) = some (fx V (iup I 13 (upd (I 13) k x)) L R ++ tl) := ev_s (f := I 13) (n := 240) rfl (am_inb_n hk (by omega)) hx (by rw [nI_clamp (by omega)]; rfl)
set_option maxRecDepth 100000 in
set_option maxHeartbeats 4000000 in
theorem qr_14_0 {V : Nat → Nat → Value} {I : Nat → Nat → Int32} {L : Nat → Nat → Int64} {R : Nat → Nat → Option Nat} {tl : am_H} : am_pG 512 (.ref 14) (fx V I L R ++ tl) = some (.ref 15) := rfl
set_option maxRecDepth 100000 in
set_option maxHeartbeats 4000000 in
theorem qv_14_1 {V : Nat → Nat → Value} {I : Nat → Nat → Int32} {L : Nat → Nat → Int64} {R : Nat → Nat → Option Nat} {tl : am_H} : am_pG 513 (.ref 14) (fx V I L R ++ tl) = some (V 14 1) := rfl
set_option maxRecDepth 100000 in
set_option maxHeartbeats 4000000 in
theorem qp_14_1 {V : Nat → Nat → Value} {I : Nat → Nat → Int32} {L : Nat → Nat → Int64} {R : Nat → Nat → Option Nat} {tl : am_H} {x : Int32} : am_pP 513 (.ref 14) (.int x) (fx V I L R ++ tl) = some (fx (vup V 14 1 (.int x)) I L R ++ tl) := ev_p rfl rfl rfl rfl
set_option maxRecDepth 100000 in
set_option maxHeartbeats 4000000 in
theorem qr_14_2 {V : Nat → Nat → Value} {I : Nat → Nat → Int32} {L : Nat → Nat → Int64} {R : Nat → Nat → Option Nat} {tl : am_H} : am_pG 514 (.ref 14) (fx V I L R ++ tl) = some (.ref 16) := rfl
set_option maxRecDepth 100000 in
set_option maxHeartbeats 4000000 in
theorem qr_14_3 {V : Nat → Nat → Value} {I : Nat → Nat → Int32} {L : Nat → Nat → Int64} {R : Nat → Nat → Option Nat} {tl : am_H} : am_pG 515 (.ref 14) (fx V I L R ++ tl) = some (.ref 27) := rfl
set_option maxRecDepth 100000 in
set_option maxHeartbeats 4000000 in
theorem qv_14_4 {V : Nat → Nat → Value} {I : Nat → Nat → Int32} {L : Nat → Nat → Int64} {R : Nat → Nat → Option Nat} {tl : am_H} : am_pG 516 (.ref 14) (fx V I L R ++ tl) = some (V 14 4) := rfl
set_option maxRecDepth 100000 in
set_option maxHeartbeats 4000000 in
theorem qp_14_4 {V : Nat → Nat → Value} {I : Nat → Nat → Int32} {L : Nat → Nat → Int64} {R : Nat → Nat → Option Nat} {tl : am_H} {x : Int64} : am_pP 516 (.ref 14) (.long x) (fx V I L R ++ tl) = some (fx (vup V 14 4 (.long x)) I L R ++ tl) := ev_p rfl rfl rfl rfl
set_option maxRecDepth 100000 in
set_option maxHeartbeats 4000000 in
theorem qv_14_5 {V : Nat → Nat → Value} {I : Nat → Nat → Int32} {L : Nat → Nat → Int64} {R : Nat → Nat → Option Nat} {tl : am_H} : am_pG 517 (.ref 14) (fx V I L R ++ tl) = some (V 14 5) := rfl
set_option maxRecDepth 100000 in
set_option maxHeartbeats 4000000 in
theorem qp_14_5 {V : Nat → Nat → Value} {I : Nat → Nat → Int32} {L : Nat → Nat → Int64} {R : Nat → Nat → Option Nat} {tl : am_H} {x : Int64} : am_pP 517 (.ref 14) (.long x) (fx V I L R ++ tl) = some (fx (vup V 14 5 (.long x)) I L R ++ tl) := ev_p rfl rfl rfl rfl
set_option maxRecDepth 100000 in
set_option maxHeartbeats 4000000 in
theorem qa_15 {V : Nat → Nat → Value} {I : Nat → Nat → Int32} {L : Nat → Nat → Int64} {R : Nat → Nat → Option Nat} {tl : am_H} {k : Nat} (hk : k < 360) : am_pA 0 (.ref 15) (nI k) (fx V I L R ++ tl) = some (I 15 k) := by rw [ev_a (f := I 15) (n := 360) rfl (am_inb_n hk (by omega)), nI_clamp (by omega)]
set_option maxRecDepth 100000 in
set_option maxHeartbeats 4000000 in
theorem qs_15 {V : Nat → Nat → Value} {I : Nat → Nat → Int32} {L : Nat → Nat → Int64} {R : Nat → Nat → Option Nat} {tl : am_H} {k : Nat} {x : Int32} (hk : k < 360) : am_pS 0 (.ref 15) (nI k) x (fx V I L R ++ tl) = some (fx V (iup I 15 (upd (I 15) k x)) L R ++ tl) := ev_s (f := I 15) (n := 360) rfl (am_inb_n hk (by omega)) rfl (by rw [nI_clamp (by omega)]; rfl)
set_option maxRecDepth 100000 in
set_option maxHeartbeats 4000000 in
theorem qv_16_0 {V : Nat → Nat → Value} {I : Nat → Nat → Int32} {L : Nat → Nat → Int64} {R : Nat → Nat → Option Nat} {tl : am_H} : am_pG 1536 (.ref 16) (fx V I L R ++ tl) = some (V 16 0) := rfl
set_option maxRecDepth 100000 in
set_option maxHeartbeats 4000000 in
theorem qp_16_0 {V : Nat → Nat → Value} {I : Nat → Nat → Int32} {L : Nat → Nat → Int64} {R : Nat → Nat → Option Nat} {tl : am_H} {x : Int32} : am_pP 1536 (.ref 16) (.int x) (fx V I L R ++ tl) = some (fx (vup V 16 0 (.int x)) I L R ++ tl) := ev_p rfl rfl rfl rfl
set_option maxRecDepth 100000 in
set_option maxHeartbeats 4000000 in
theorem qv_16_1 {V : Nat → Nat → Value} {I : Nat → Nat → Int32} {L : Nat → Nat → Int64} {R : Nat → Nat → Option Nat} {tl : am_H} : am_pG 1537 (.ref 16) (fx V I L R ++ tl) = some (V 16 1) := rfl
set_option maxRecDepth 100000 in
set_option maxHeartbeats 4000000 in
theorem qp_16_1 {V : Nat → Nat → Value} {I : Nat → Nat → Int32} {L : Nat → Nat → Int64} {R : Nat → Nat → Option Nat} {tl : am_H} {x : Int32} : am_pP 1537 (.ref 16) (.int x) (fx V I L R ++ tl) = some (fx (vup V 16 1 (.int x)) I L R ++ tl) := ev_p rfl rfl rfl rfl
set_option maxRecDepth 100000 in
set_option maxHeartbeats 4000000 in
theorem qv_16_2 {V : Nat → Nat → Value} {I : Nat → Nat → Int32} {L : Nat → Nat → Int64} {R : Nat → Nat → Option Nat} {tl : am_H} : am_pG 1538 (.ref 16) (fx V I L R ++ tl) = some (V 16 2) := rfl
set_option maxRecDepth 100000 in
set_option maxHeartbeats 4000000 in
theorem qp_16_2 {V : Nat → Nat → Value} {I : Nat → Nat → Int32} {L : Nat → Nat → Int64} {R : Nat → Nat → Option Nat} {tl : am_H} {x : Int32} : am_pP 1538 (.ref 16) (.int x) (fx V I L R ++ tl) = some (fx (vup V 16 2 (.int x)) I L R ++ tl) := ev_p rfl rfl rfl rfl
set_option maxRecDepth 100000 in
set_option maxHeartbeats 4000000 in
theorem qv_16_3 {V : Nat → Nat → Value} {I : Nat → Nat → Int32} {L : Nat → Nat → Int64} {R : Nat → Nat → Option Nat} {tl : am_H} : am_pG 1539 (.ref 16) (fx V I L R ++ tl) = some (V 16 3) := rfl
set_option maxRecDepth 100000 in
set_option maxHeartbeats 4000000 in
theorem qp_16_3 {V : Nat → Nat → Value} {I : Nat → Nat → Int32} {L : Nat → Nat → Int64} {R : Nat → Nat → Option Nat} {tl : am_H} {x : Int32} : am_pP 1539 (.ref 16) (.int x) (fx V I L R ++ tl) = some (fx (vup V 16 3 (.int x)) I L R ++ tl) := ev_p rfl rfl rfl rfl
set_option maxRecDepth 100000 in
set_option maxHeartbeats 4000000 in
theorem qv_16_4 {V : Nat → Nat → Value} {I : Nat → Nat → Int32} {L : Nat → Nat → Int64} {R : Nat → Nat → Option Nat} {tl : am_H} : am_pG 1540 (.ref 16) (fx V I L R ++ tl) = some (V 16 4) := rfl
set_option maxRecDepth 100000 in
set_option maxHeartbeats 4000000 in
theorem qp_16_4 {V : Nat → Nat → Value} {I : Nat → Nat → Int32} {L : Nat → Nat → Int64} {R : Nat → Nat → Option Nat} {tl : am_H} {x : Nat} : am_pP 1540 (.ref 16) (.ref x) (fx V I L R ++ tl) = some (fx (vup V 16 4 (.ref x)) I L R ++ tl) := ev_p rfl rfl rfl rfl
set_option maxRecDepth 100000 in
set_option maxHeartbeats 4000000 in
theorem qr_16_5 {V : Nat → Nat → Value} {I : Nat → Nat → Int32} {L : Nat → Nat → Int64} {R : Nat → Nat → Option Nat} {tl : am_H} : am_pG 1541 (.ref 16) (fx V I L R ++ tl) = some (.ref 17) := rfl
set_option maxRecDepth 100000 in
set_option maxHeartbeats 4000000 in
theorem qv_16_6 {V : Nat → Nat → Value} {I : Nat → Nat → Int32} {L : Nat → Nat → Int64} {R : Nat → Nat → Option Nat} {tl : am_H} : am_pG 1542 (.ref 16) (fx V I L R ++ tl) = some (V 16 6) := rfl
set_option maxRecDepth 100000 in
set_option maxHeartbeats 4000000 in
theorem qp_16_6 {V : Nat → Nat → Value} {I : Nat → Nat → Int32} {L : Nat → Nat → Int64} {R : Nat → Nat → Option Nat} {tl : am_H} {x : Int32} : am_pP 1542 (.ref 16) (.int x) (fx V I L R ++ tl) = some (fx (vup V 16 6 (.int x)) I L R ++ tl) := ev_p rfl rfl rfl rfl
set_option maxRecDepth 100000 in
set_option maxHeartbeats 4000000 in
theorem qv_16_7 {V : Nat → Nat → Value} {I : Nat → Nat → Int32} {L : Nat → Nat → Int64} {R : Nat → Nat → Option Nat} {tl : am_H} : am_pG 1543 (.ref 16) (fx V I L R ++ tl) = some (V 16 7) := rfl
set_option maxRecDepth 100000 in
set_option maxHeartbeats 4000000 in
theorem qp_16_7 {V : Nat → Nat → Value} {I : Nat → Nat → Int32} {L : Nat → Nat → Int64} {R : Nat → Nat → Option Nat} {tl : am_H} {x : Int32} : am_pP 1543 (.ref 16) (.int x) (fx V I L R ++ tl) = some (fx (vup V 16 7 (.int x)) I L R ++ tl) := ev_p rfl rfl rfl rfl
set_option maxRecDepth 100000 in
set_option maxHeartbeats 4000000 in
theorem qv_16_8 {V : Nat → Nat → Value} {I : Nat → Nat → Int32} {L : Nat → Nat → Int64} {R : Nat → Nat → Option Nat} {tl : am_H} : am_pG 1544 (.ref 16) (fx V I L R ++ tl) = some (V 16 8) := rfl
set_option maxRecDepth 100000 in
set_option maxHeartbeats 4000000 in
theorem qp_16_8 {V : Nat → Nat → Value} {I : Nat → Nat → Int32} {L : Nat → Nat → Int64} {R : Nat → Nat → Option Nat} {tl : am_H} {x : Int32} : am_pP 1544 (.ref 16) (.int x) (fx V I L R ++ tl) = some (fx (vup V 16 8 (.int x)) I L R ++ tl) := ev_p rfl rfl rfl rfl
set_option maxRecDepth 100000 in
set_option maxHeartbeats 4000000 in
theorem qr_16_9 {V : Nat → Nat → Value} {I : Nat → Nat → Int32} {L : Nat → Nat → Int64} {R : Nat → Nat → Option Nat} {tl : am_H} : am_pG 1545 (.ref 16) (fx V I L R ++ tl) = some (.ref 25) := rfl
set_option maxRecDepth 100000 in
set_option maxHeartbeats 4000000 in
theorem qv_16_10 {V : Nat → Nat → Value} {I : Nat → Nat → Int32} {L : Nat → Nat → Int64} {R : Nat → Nat → Option Nat} {tl : am_H} : am_pG 1546 (.ref 16) (fx V I L R ++ tl) = some (V 16 10) := rfl
set_option maxRecDepth 100000 in
set_option maxHeartbeats 4000000 in
theorem qp_16_10 {V : Nat → Nat → Value} {I : Nat → Nat → Int32} {L : Nat → Nat → Int64} {R : Nat → Nat → Option Nat} {tl : am_H} {x : Int32} : am_pP 1546 (.ref 16) (.int x) (fx V I L R ++ tl) = some (fx (vup V 16 10 (.int x)) I L R ++ tl) := ev_p rfl rfl rfl rfl
set_option maxRecDepth 100000 in
set_option maxHeartbeats 4000000 in
theorem qv_16_11 {V : Nat → Nat → Value} {I : Nat → Nat → Int32} {L : Nat → Nat → Int64} {R : Nat → Nat → Option Nat} {tl : am_H} : am_pG 1547 (.ref 16) (fx V I L R ++ tl) = some (V 16 11) := rfl
set_option maxRecDepth 100000 in
set_option maxHeartbeats 4000000 in
theorem qp_16_11 {V : Nat → Nat → Value} {I : Nat → Nat → Int32} {L : Nat → Nat → Int64} {R : Nat → Nat → Option Nat} {tl : am_H} {x : Int32} : am_pP 1547 (.ref 16) (.int x) (fx V I L R ++ tl) = some (fx (vup V 16 11 (.int x)) I L R ++ tl) := ev_p rfl rfl rfl rfl
set_option maxRecDepth 100000 in
set_option maxHeartbeats 4000000 in
theorem qv_16_12 {V : Nat → Nat → Value} {I : Nat → Nat → Int32} {L : Nat → Nat → Int64} {R : Nat → Nat → Option Nat} {tl : am_H} : am_pG 1548 (.ref 16) (fx V I L R ++ tl) = some (V 16 12) := rfl
set_option maxRecDepth 100000 in
set_option maxHeartbeats 4000000 in
theorem qp_16_12 {V : Nat → Nat → Value} {I : Nat → Nat → Int32} {L : Nat → Nat → Int64} {R : Nat → Nat → Option Nat} {tl : am_H} {x : Int32} : am_pP 1548 (.ref 16) (.int x) (fx V I L R ++ tl) = some (fx (vup V 16 12 (.int x)) I L R ++ tl) := ev_p rfl rfl rfl rfl
set_option maxRecDepth 100000 in
set_option maxHeartbeats 4000000 in
theorem qr_16_13 {V : Nat → Nat → Value} {I : Nat → Nat → Int32} {L : Nat → Nat → Int64} {R : Nat → Nat → Option Nat} {tl : am_H} : am_pG 1549 (.ref 16) (fx V I L R ++ tl) = some (.ref 26) := rfl
set_option maxRecDepth 100000 in
set_option maxHeartbeats 4000000 in
theorem qv_16_14 {V : Nat → Nat → Value} {I : Nat → Nat → Int32} {L : Nat → Nat → Int64} {R : Nat → Nat → Option Nat} {tl : am_H} : am_pG 1550 (.ref 16) (fx V I L R ++ tl) = some (V 16 14) := rfl
set_option maxRecDepth 100000 in
set_option maxHeartbeats 4000000 in
theorem qp_16_14 {V : Nat → Nat → Value} {I : Nat → Nat → Int32} {L : Nat → Nat → Int64} {R : Nat → Nat → Option Nat} {tl : am_H} {x : Int32} : am_pP 1550 (.ref 16) (.int x) (fx V I L R ++ tl) = some (fx (vup V 16 14 (.int x)) I L R ++ tl) := ev_p rfl rfl rfl rfl
set_option maxRecDepth 100000 in
set_option maxHeartbeats 4000000 in
theorem qr_17_0 {V : Nat → Nat → Value} {I : Nat → Nat → Int32} {L : Nat → Nat → Int64} {R : Nat → Nat → Option Nat} {tl : am_H} : am_pG 1792 (.ref 17) (fx V I L R ++ tl) = some (.ref 18) := rfl
set_option maxRecDepth 100000 in
set_option maxHeartbeats 4000000 in
theorem qr_17_1 {V : Nat → Nat → Value} {I : Nat → Nat → Int32} {L : Nat → Nat → Int64} {R : Nat → Nat → Option Nat} {tl : am_H} : am_pG 1793 (.ref 17) (fx V I L R ++ tl) = some (.ref 19) := rfl
set_option maxRecDepth 100000 in
set_option maxHeartbeats 4000000 in
theorem qr_17_2 {V : Nat → Nat → Value} {I : Nat → Nat → Int32} {L : Nat → Nat → Int64} {R : Nat → Nat → Option Nat} {tl : am_H} : am_pG 1794 (.ref 17) (fx V I L R ++ tl) = some (.ref 20) := rfl
set_option maxRecDepth 100000 in
set_option maxHeartbeats 4000000 in
theorem qr_17_3 {V : Nat → Nat → Value} {I : Nat → Nat → Int32} {L : Nat → Nat → Int64} {R : Nat → Nat → Option Nat} {tl : am_H} : am_pG 1795 (.ref 17) (fx V I L R ++ tl) = some (.ref 21) := rfl
set_option maxRecDepth 100000 in
set_option maxHeartbeats 4000000 in
theorem qr_17_4 {V : Nat → Nat → Value} {I : Nat → Nat → Int32} {L : Nat → Nat → Int64} {R : Nat → Nat → Option Nat} {tl : am_H} : am_pG 1796 (.ref 17) (fx V I L R ++ tl) = some (.ref 22) := rfl
set_option maxRecDepth 100000 in
set_option maxHeartbeats 4000000 in
theorem qr_17_5 {V : Nat → Nat → Value} {I : Nat → Nat → Int32} {L : Nat → Nat → Int64} {R : Nat → Nat → Option Nat} {tl : am_H} : am_pG 1797 (.ref 17) (fx V I L R ++ tl) = some (.ref 23) := rfl
set_option maxRecDepth 100000 in
set_option maxHeartbeats 4000000 in
theorem qr_17_6 {V : Nat → Nat → Value} {I : Nat → Nat → Int32} {L : Nat → Nat → Int64} {R : Nat → Nat → Option Nat} {tl : am_H} : am_pG 1798 (.ref 17) (fx V I L R ++ tl) = some (.ref 24) := rfl
set_option maxRecDepth 100000 in
set_option maxHeartbeats 4000000 in
theorem qv_17_7 {V : Nat → Nat → Value} {I : Nat → Nat → Int32} {L : Nat → Nat → Int64} {R : Nat → Nat → Option Nat} {tl : am_H} : am_pG 1799 (.ref 17) (fx V I L R ++ tl) = some (V 17 7) := rfl
set_option maxRecDepth 100000 in
set_option maxHeartbeats 4000000 in
theorem qp_17_7 {V : Nat → Nat → Value} {I : Nat → Nat → Int32} {L : Nat → Nat → Int64} {R : Nat → Nat → Option Nat} {tl : am_H} {x : Int32} : am_pP 1799 (.ref 17) (.int x) (fx V I L R ++ tl) = some (fx (vup V 17 7 (.int x)) I L R ++ tl) := ev_p rfl rfl rfl rfl
set_option maxRecDepth 100000 in
set_option maxHeartbeats 4000000 in
theorem qa_18 {V : Nat → Nat → Value} {I : Nat → Nat → Int32} {L : Nat → Nat → Int64} {R : Nat → Nat → Option Nat} {tl : am_H} {k : Nat} (hk : k < 60) : am_pA 0 (.ref 18) (nI k) (fx V I L R ++ tl) = some (I 18 k) := by rw [ev_a (f := I 18) (n := 60) rfl (am_inb_n hk (by omega)), nI_clamp (by omega)]
set_option maxRecDepth 100000 in
set_option maxHeartbeats 4000000 in
theorem qs_18 {V : Nat → Nat → Value} {I : Nat → Nat → Int32} {L : Nat → Nat → Int64} {R : Nat → Nat → Option Nat} {tl : am_H} {k : Nat} {x : Int32} (hk : k < 60) : am_pS 0 (.ref 18) (nI k) x (fx V I L R ++ tl) = some (fx V (iup I 18 (upd (I 18) k x)) L R ++ tl) := ev_s (f := I 18) (n := 60) rfl (am_inb_n hk (by omega)) rfl (by rw [nI_clamp (by omega)]; rfl)
set_option maxRecDepth 100000 in
set_option maxHeartbeats 4000000 in
theorem qa_19 {V : Nat → Nat → Value} {I : Nat → Nat → Int32} {L : Nat → Nat → Int64} {R : Nat → Nat → Option Nat} {tl : am_H} {k : Nat} (hk : k < 60) : am_pA 0 (.ref 19) (nI k) (fx V I L R ++ tl) = some (I 19 k) := by rw [ev_a (f := I 19) (n := 60) rfl (am_inb_n hk (by omega)), nI_clamp (by omega)]
set_option maxRecDepth 100000 in
set_option maxHeartbeats 4000000 in
theorem qs_19 {V : Nat → Nat → Value} {I : Nat → Nat → Int32} {L : Nat → Nat → Int64} {R : Nat → Nat → Option Nat} {tl : am_H} {k : Nat} {x : Int32} (hk : k < 60) : am_pS 0 (.ref 19) (nI k) x (fx V I L R ++ tl) = some (fx V (iup I 19 (upd (I 19) k x)) L R ++ tl) := ev_s (f := I 19) (n := 60) rfl (am_inb_n hk (by omega)) rfl (by rw [nI_clamp (by omega)]; rfl)
set_option maxRecDepth 100000 in
set_option maxHeartbeats 4000000 in
theorem qa_20 {V : Nat → Nat → Value} {I : Nat → Nat → Int32} {L : Nat → Nat → Int64} {R : Nat → Nat → Option Nat} {tl : am_H} {k : Nat} (hk : k < 60) : am_pA 0 (.ref 20) (nI k) (fx V I L R ++ tl) = some (I 20 k) := by rw [ev_a (f := I 20) (n := 60) rfl (am_inb_n hk (by omega)), nI_clamp (by omega)]
set_option maxRecDepth 100000 in
set_option maxHeartbeats 4000000 in
theorem qs_20 {V : Nat → Nat → Value} {I : Nat → Nat → Int32} {L : Nat → Nat → Int64} {R : Nat → Nat → Option Nat} {tl : am_H} {k : Nat} {x : Int32} (hk : k < 60) : am_pS 0 (.ref 20) (nI k) x (fx V I L R ++ tl) = some (fx V (iup I 20 (upd (I 20) k x)) L R ++ tl) := ev_s (f := I 20) (n := 60) rfl (am_inb_n hk (by omega)) rfl (by rw [nI_clamp (by omega)]; rfl)
set_option maxRecDepth 100000 in
set_option maxHeartbeats 4000000 in
theorem qa_21 {V : Nat → Nat → Value} {I : Nat → Nat → Int32} {L : Nat → Nat → Int64} {R : Nat → Nat → Option Nat} {tl : am_H} {k : Nat} (hk : k < 60) : am_pA 2 (.ref 21) (nI k) (fx V I L R ++ tl) = some (I 21 k) := by rw [ev_a (f := I 21) (n := 60) rfl (am_inb_n hk (by omega)), nI_clamp (by omega)]
set_option maxRecDepth 100000 in
set_option maxHeartbeats 4000000 in
theorem qs_21 {V : Nat → Nat → Value} {I : Nat → Nat → Int32} {L : Nat → Nat → Int64} {R : Nat → Nat → Option Nat} {tl : am_H} {k : Nat} {x : Int32} (hk : k < 60) (hx : am_afit 2 x = true) : am_pS 2 (.ref 21) (nI k) x (fx V I L R ++ tl) = some (fx V (iup I 21 (upd (I 21) k x)) L R ++ tl) := ev_s (f := I 21) (n := 60) rfl (am_inb_n hk (by omega)) hx (by rw [nI_clamp (by omega)]; rfl)
set_option maxRecDepth 100000 in
set_option maxHeartbeats 4000000 in
theorem qa_22 {V : Nat → Nat → Value} {I : Nat → Nat → Int32} {L : Nat → Nat → Int64} {R : Nat → Nat → Option Nat} {tl : am_H} {k : Nat} (hk : k < 60) : am_pA 2 (.ref 22) (nI k) (fx V I L R ++ tl) = some (I 22 k) := by rw [ev_a (f := I 22) (n := 60) rfl (am_inb_n hk (by omega)), nI_clamp (by omega)]
set_option maxRecDepth 100000 in
set_option maxHeartbeats 4000000 in
theorem qs_22 {V : Nat → Nat → Value} {I : Nat → Nat → Int32} {L : Nat → Nat → Int64} {R : Nat → Nat → Option Nat} {tl : am_H} {k : Nat} {x : Int32} (hk : k < 60) (hx : am_afit 2 x = true) : am_pS 2 (.ref 22) (nI k) x (fx V I L R ++ tl) = some (fx V (iup I 22 (upd (I 22) k x)) L R ++ tl) := ev_s (f := I 22) (n := 60) rfl (am_inb_n hk (by omega)) hx (by rw [nI_clamp (by omega)]; rfl)
set_option maxRecDepth 100000 in
set_option maxHeartbeats 4000000 in
theorem qa_23 {V : Nat → Nat → Value} {I : Nat → Nat → Int32} {L : Nat → Nat → Int64} {R : Nat → Nat → Option Nat} {tl : am_H} {k : Nat} (hk : k < 60) : am_pA 2 (.ref 23) (nI k) (fx V I L R ++ tl) = some (I 23 k) := by rw [ev_a (f := I 23) (n := 60) rfl (am_inb_n hk (by omega)), nI_clamp (by omega)]
set_option maxRecDepth 100000 in
set_option maxHeartbeats 4000000 in
theorem qs_23 {V : Nat → Nat → Value} {I : Nat → Nat → Int32} {L : Nat → Nat → Int64} {R : Nat → Nat → Option Nat} {tl : am_H} {k : Nat} {x : Int32} (hk : k < 60) (hx : am_afit 2 x = true) : am_pS 2 (.ref 23) (nI k) x (fx V I L R ++ tl) = some (fx V (iup I 23 (upd (I 23) k x)) L R ++ tl) := ev_s (f := I 23) (n := 60) rfl (am_inb_n hk (by omega)) hx (by rw [nI_clamp (by omega)]; rfl)
set_option maxRecDepth 100000 in
set_option maxHeartbeats 4000000 in
theorem qa_24 {V : Nat → Nat → Value} {I : Nat → Nat → Int32} {L : Nat → Nat → Int64} {R : Nat → Nat → Option Nat} {tl : am_H} {k : Nat} (hk : k < 61) : am_pA 0 (.ref 24) (nI k) (fx V I L R ++ tl) = some (I 24 k) := by rw [ev_a (f := I 24) (n := 61) rfl (am_inb_n hk (by omega)), nI_clamp (by omega)]
set_option maxRecDepth 100000 in
set_option maxHeartbeats 4000000 in
theorem qs_24 {V : Nat → Nat → Value} {I : Nat → Nat → Int32} {L : Nat → Nat → Int64} {R : Nat → Nat → Option Nat} {tl : am_H} {k : Nat} {x : Int32} (hk : k < 61) : am_pS 0 (.ref 24) (nI k) x (fx V I L R ++ tl) = some (fx V (iup I 24 (upd (I 24) k x)) L R ++ tl) := ev_s (f := I 24) (n := 61) rfl (am_inb_n hk (by omega)) rfl (by rw [nI_clamp (by omega)]; rfl)
set_option maxRecDepth 100000 in
set_option maxHeartbeats 4000000 in
theorem qa_25 {V : Nat → Nat → Value} {I : Nat → Nat → Int32} {L : Nat → Nat → Int64} {R : Nat → Nat → Option Nat} {tl : am_H} {k : Nat} (hk : k < 8) : am_pA 0 (.ref 25) (nI k) (fx V I L R ++ tl) = some (I 25 k) := by rw [ev_a (f := I 25) (n := 8) rfl (am_inb_n hk (by omega)), nI_clamp (by omega)]
set_option maxRecDepth 100000 in
set_option maxHeartbeats 4000000 in
theorem qs_25 {V : Nat → Nat → Value} {I : Nat → Nat → Int32} {L : Nat → Nat → Int64} {R : Nat → Nat → Option Nat} {tl : am_H} {k : Nat} {x : Int32} (hk : k < 8) : am_pS 0 (.ref 25) (nI k) x (fx V I L R ++ tl) = some (fx V (iup I 25 (upd (I 25) k x)) L R ++ tl) := ev_s (f := I 25) (n := 8) rfl (am_inb_n hk (by omega)) rfl (by rw [nI_clamp (by omega)]; rfl)
set_option maxRecDepth 100000 in
set_option maxHeartbeats 4000000 in
theorem qa_26 {V : Nat → Nat → Value} {I : Nat → Nat → Int32} {L : Nat → Nat → Int64} {R : Nat → Nat → Option Nat} {tl : am_H} {k : Nat} (hk : k < 8) : am_pA 0 (.ref 26) (nI k) (fx V I L R ++ tl) = some (I 26 k) := by rw [ev_a (f := I 26) (n := 8) rfl (am_inb_n hk (by omega)), nI_clamp (by omega)]
set_option maxRecDepth 100000 in
set_option maxHeartbeats 4000000 in
theorem qs_26 {V : Nat → Nat → Value} {I : Nat → Nat → Int32} {L : Nat → Nat → Int64} {R : Nat → Nat → Option Nat} {tl : am_H} {k : Nat} {x : Int32} (hk : k < 8) : am_pS 0 (.ref 26) (nI k) x (fx V I L R ++ tl) = some (fx V (iup I 26 (upd (I 26) k x)) L R ++ tl) := ev_s (f := I 26) (n := 8) rfl (am_inb_n hk (by omega)) rfl (by rw [nI_clamp (by omega)]; rfl)
set_option maxRecDepth 100000 in
set_option maxHeartbeats 4000000 in
theorem qv_27_0 {V : Nat → Nat → Value} {I : Nat → Nat → Int32} {L : Nat → Nat → Int64} {R : Nat → Nat → Option Nat} {tl : am_H} : am_pG 1536 (.ref 27) (fx V I L R ++ tl) = some (V 27 0) := rfl
set_option maxRecDepth 100000 in
set_option maxHeartbeats 4000000 in
theorem qp_27_0 {V : Nat → Nat → Value} {I : Nat → Nat → Int32} {L : Nat → Nat → Int64} {R : Nat → Nat → Option Nat} {tl : am_H} {x : Int32} : am_pP 1536 (.ref 27) (.int x) (fx V I L R ++ tl) = some (fx (vup V 27 0 (.int x)) I L R ++ tl) := ev_p rfl rfl rfl rfl
set_option maxRecDepth 100000 in
set_option maxHeartbeats 4000000 in
theorem qv_27_1 {V : Nat → Nat → Value} {I : Nat → Nat → Int32} {L : Nat → Nat → Int64} {R : Nat → Nat → Option Nat} {tl : am_H} : am_pG 1537 (.ref 27) (fx V I L R ++ tl) = some (V 27 1) := rfl
set_option maxRecDepth 100000 in
set_option maxHeartbeats 4000000 in
theorem qp_27_1 {V : Nat → Nat → Value} {I : Nat → Nat → Int32} {L : Nat → Nat → Int64} {R : Nat → Nat → Option Nat} {tl : am_H} {x : Int32} : am_pP 1537 (.ref 27) (.int x) (fx V I L R ++ tl) = some (fx (vup V 27 1 (.int x)) I L R ++ tl) := ev_p rfl rfl rfl rfl
set_option maxRecDepth 100000 in
set_option maxHeartbeats 4000000 in
theorem qv_27_2 {V : Nat → Nat → Value} {I : Nat → Nat → Int32} {L : Nat → Nat → Int64} {R : Nat → Nat → Option Nat} {tl : am_H} : am_pG 1538 (.ref 27) (fx V I L R ++ tl) = some (V 27 2) := rfl
set_option maxRecDepth 100000 in
set_option maxHeartbeats 4000000 in
theorem qp_27_2 {V : Nat → Nat → Value} {I : Nat → Nat → Int32} {L : Nat → Nat → Int64} {R : Nat → Nat → Option Nat} {tl : am_H} {x : Int32} : am_pP 1538 (.ref 27) (.int x) (fx V I L R ++ tl) = some (fx (vup V 27 2 (.int x)) I L R ++ tl) := ev_p rfl rfl rfl rfl
set_option maxRecDepth 100000 in
set_option maxHeartbeats 4000000 in
theorem qv_27_3 {V : Nat → Nat → Value} {I : Nat → Nat → Int32} {L : Nat → Nat → Int64} {R : Nat → Nat → Option Nat} {tl : am_H} : am_pG 1539 (.ref 27) (fx V I L R ++ tl) = some (V 27 3) := rfl
set_option maxRecDepth 100000 in
set_option maxHeartbeats 4000000 in
theorem qp_27_3 {V : Nat → Nat → Value} {I : Nat → Nat → Int32} {L : Nat → Nat → Int64} {R : Nat → Nat → Option Nat} {tl : am_H} {x : Int32} : am_pP 1539 (.ref 27) (.int x) (fx V I L R ++ tl) = some (fx (vup V 27 3 (.int x)) I L R ++ tl) := ev_p rfl rfl rfl rfl
set_option maxRecDepth 100000 in
set_option maxHeartbeats 4000000 in
theorem qv_27_4 {V : Nat → Nat → Value} {I : Nat → Nat → Int32} {L : Nat → Nat → Int64} {R : Nat → Nat → Option Nat} {tl : am_H} : am_pG 1540 (.ref 27) (fx V I L R ++ tl) = some (V 27 4) := rfl
set_option maxRecDepth 100000 in
set_option maxHeartbeats 4000000 in
theorem qp_27_4 {V : Nat → Nat → Value} {I : Nat → Nat → Int32} {L : Nat → Nat → Int64} {R : Nat → Nat → Option Nat} {tl : am_H} {x : Nat} : am_pP 1540 (.ref 27) (.ref x) (fx V I L R ++ tl) = some (fx (vup V 27 4 (.ref x)) I L R ++ tl) := ev_p rfl rfl rfl rfl
set_option maxRecDepth 100000 in
set_option maxHeartbeats 4000000 in
theorem qr_27_5 {V : Nat → Nat → Value} {I : Nat → Nat → Int32} {L : Nat → Nat → Int64} {R : Nat → Nat → Option Nat} {tl : am_H} : am_pG 1541 (.ref 27) (fx V I L R ++ tl) = some (.ref 28) := rfl
set_option maxRecDepth 100000 in
set_option maxHeartbeats 4000000 in
theorem qv_27_6 {V : Nat → Nat → Value} {I : Nat → Nat → Int32} {L : Nat → Nat → Int64} {R : Nat → Nat → Option Nat} {tl : am_H} : am_pG 1542 (.ref 27) (fx V I L R ++ tl) = some (V 27 6) := rfl
set_option maxRecDepth 100000 in
set_option maxHeartbeats 4000000 in
theorem qp_27_6 {V : Nat → Nat → Value} {I : Nat → Nat → Int32} {L : Nat → Nat → Int64} {R : Nat → Nat → Option Nat} {tl : am_H} {x : Int32} : am_pP 1542 (.ref 27) (.int x) (fx V I L R ++ tl) = some (fx (vup V 27 6 (.int x)) I L R ++ tl) := ev_p rfl rfl rfl rfl
set_option maxRecDepth 100000 in
set_option maxHeartbeats 4000000 in
theorem qv_27_7 {V : Nat → Nat → Value} {I : Nat → Nat → Int32} {L : Nat → Nat → Int64} {R : Nat → Nat → Option Nat} {tl : am_H} : am_pG 1543 (.ref 27) (fx V I L R ++ tl) = some (V 27 7) := rfl
set_option maxRecDepth 100000 in
set_option maxHeartbeats 4000000 in
theorem qp_27_7 {V : Nat → Nat → Value} {I : Nat → Nat → Int32} {L : Nat → Nat → Int64} {R : Nat → Nat → Option Nat} {tl : am_H} {x : Int32} : am_pP 1543 (.ref 27) (.int x) (fx V I L R ++ tl) = some (fx (vup V 27 7 (.int x)) I L R ++ tl) := ev_p rfl rfl rfl rfl
set_option maxRecDepth 100000 in
set_option maxHeartbeats 4000000 in
theorem qv_27_8 {V : Nat → Nat → Value} {I : Nat → Nat → Int32} {L : Nat → Nat → Int64} {R : Nat → Nat → Option Nat} {tl : am_H} : am_pG 1544 (.ref 27) (fx V I L R ++ tl) = some (V 27 8) := rfl
set_option maxRecDepth 100000 in
set_option maxHeartbeats 4000000 in
theorem qp_27_8 {V : Nat → Nat → Value} {I : Nat → Nat → Int32} {L : Nat → Nat → Int64} {R : Nat → Nat → Option Nat} {tl : am_H} {x : Int32} : am_pP 1544 (.ref 27) (.int x) (fx V I L R ++ tl) = some (fx (vup V 27 8 (.int x)) I L R ++ tl) := ev_p rfl rfl rfl rfl
set_option maxRecDepth 100000 in
set_option maxHeartbeats 4000000 in
theorem qr_27_9 {V : Nat → Nat → Value} {I : Nat → Nat → Int32} {L : Nat → Nat → Int64} {R : Nat → Nat → Option Nat} {tl : am_H} : am_pG 1545 (.ref 27) (fx V I L R ++ tl) = some (.ref 36) := rfl
set_option maxRecDepth 100000 in
set_option maxHeartbeats 4000000 in
theorem qv_27_10 {V : Nat → Nat → Value} {I : Nat → Nat → Int32} {L : Nat → Nat → Int64} {R : Nat → Nat → Option Nat} {tl : am_H} : am_pG 1546 (.ref 27) (fx V I L R ++ tl) = some (V 27 10) := rfl
set_option maxRecDepth 100000 in
set_option maxHeartbeats 4000000 in
theorem qp_27_10 {V : Nat → Nat → Value} {I : Nat → Nat → Int32} {L : Nat → Nat → Int64} {R : Nat → Nat → Option Nat} {tl : am_H} {x : Int32} : am_pP 1546 (.ref 27) (.int x) (fx V I L R ++ tl) = some (fx (vup V 27 10 (.int x)) I L R ++ tl) := ev_p rfl rfl rfl rfl
set_option maxRecDepth 100000 in
set_option maxHeartbeats 4000000 in
theorem qv_27_11 {V : Nat → Nat → Value} {I : Nat → Nat → Int32} {L : Nat → Nat → Int64} {R : Nat → Nat → Option Nat} {tl : am_H} : am_pG 1547 (.ref 27) (fx V I L R ++ tl) = some (V 27 11) := rfl
set_option maxRecDepth 100000 in
set_option maxHeartbeats 4000000 in
theorem qp_27_11 {V : Nat → Nat → Value} {I : Nat → Nat → Int32} {L : Nat → Nat → Int64} {R : Nat → Nat → Option Nat} {tl : am_H} {x : Int32} : am_pP 1547 (.ref 27) (.int x) (fx V I L R ++ tl) = some (fx (vup V 27 11 (.int x)) I L R ++ tl) := ev_p rfl rfl rfl rfl
set_option maxRecDepth 100000 in
set_option maxHeartbeats 4000000 in
theorem qv_27_12 {V : Nat → Nat → Value} {I : Nat → Nat → Int32} {L : Nat → Nat → Int64} {R : Nat → Nat → Option Nat} {tl : am_H} : am_pG 1548 (.ref 27) (fx V I L R ++ tl) = some (V 27 12) := rfl
set_option maxRecDepth 100000 in
set_option maxHeartbeats 4000000 in
theorem qp_27_12 {V : Nat → Nat → Value} {I : Nat → Nat → Int32} {L : Nat → Nat → Int64} {R : Nat → Nat → Option Nat} {tl : am_H} {x : Int32} : am_pP 1548 (.ref 27) (.int x) (fx V I L R ++ tl) = some (fx (vup V 27 12 (.int x)) I L R ++ tl) := ev_p rfl rfl rfl rfl
set_option maxRecDepth 100000 in
set_option maxHeartbeats 4000000 in
theorem qr_27_13 {V : Nat → Nat → Value} {I : Nat → Nat → Int32} {L : Nat → Nat → Int64} {R : Nat → Nat → Option Nat} {tl : am_H} : am_pG 1549 (.ref 27) (fx V I L R ++ tl) = some (.ref 37) := rfl
set_option maxRecDepth 100000 in
set_option maxHeartbeats 4000000 in
theorem qv_27_14 {V : Nat → Nat → Value} {I : Nat → Nat → Int32} {L : Nat → Nat → Int64} {R : Nat → Nat → Option Nat} {tl : am_H} : am_pG 1550 (.ref 27) (fx V I L R ++ tl) = some (V 27 14) := rfl
set_option maxRecDepth 100000 in
set_option maxHeartbeats 4000000 in
theorem qp_27_14 {V : Nat → Nat → Value} {I : Nat → Nat → Int32} {L : Nat → Nat → Int64} {R : Nat → Nat → Option Nat} {tl : am_H} {x : Int32} : am_pP 1550 (.ref 27) (.int x) (fx V I L R ++ tl) = some (fx (vup V 27 14 (.int x)) I L R ++ tl) := ev_p rfl rfl rfl rfl
set_option maxRecDepth 100000 in
set_option maxHeartbeats 4000000 in
theorem qr_28_0 {V : Nat → Nat → Value} {I : Nat → Nat → Int32} {L : Nat → Nat → Int64} {R : Nat → Nat → Option Nat} {tl : am_H} : am_pG 1792 (.ref 28) (fx V I L R ++ tl) = some (.ref 29) := rfl
set_option maxRecDepth 100000 in
set_option maxHeartbeats 4000000 in
theorem qr_28_1 {V : Nat → Nat → Value} {I : Nat → Nat → Int32} {L : Nat → Nat → Int64} {R : Nat → Nat → Option Nat} {tl : am_H} : am_pG 1793 (.ref 28) (fx V I L R ++ tl) = some (.ref 30) := rfl
set_option maxRecDepth 100000 in
set_option maxHeartbeats 4000000 in
theorem qr_28_2 {V : Nat → Nat → Value} {I : Nat → Nat → Int32} {L : Nat → Nat → Int64} {R : Nat → Nat → Option Nat} {tl : am_H} : am_pG 1794 (.ref 28) (fx V I L R ++ tl) = some (.ref 31) := rfl
set_option maxRecDepth 100000 in
set_option maxHeartbeats 4000000 in
theorem qr_28_3 {V : Nat → Nat → Value} {I : Nat → Nat → Int32} {L : Nat → Nat → Int64} {R : Nat → Nat → Option Nat} {tl : am_H} : am_pG 1795 (.ref 28) (fx V I L R ++ tl) = some (.ref 32) := rfl
set_option maxRecDepth 100000 in
set_option maxHeartbeats 4000000 in
theorem qr_28_4 {V : Nat → Nat → Value} {I : Nat → Nat → Int32} {L : Nat → Nat → Int64} {R : Nat → Nat → Option Nat} {tl : am_H} : am_pG 1796 (.ref 28) (fx V I L R ++ tl) = some (.ref 33) := rfl
set_option maxRecDepth 100000 in
set_option maxHeartbeats 4000000 in
theorem qr_28_5 {V : Nat → Nat → Value} {I : Nat → Nat → Int32} {L : Nat → Nat → Int64} {R : Nat → Nat → Option Nat} {tl : am_H} : am_pG 1797 (.ref 28) (fx V I L R ++ tl) = some (.ref 34) := rfl
set_option maxRecDepth 100000 in
set_option maxHeartbeats 4000000 in
theorem qr_28_6 {V : Nat → Nat → Value} {I : Nat → Nat → Int32} {L : Nat → Nat → Int64} {R : Nat → Nat → Option Nat} {tl : am_H} : am_pG 1798 (.ref 28) (fx V I L R ++ tl) = some (.ref 35) := rfl
set_option maxRecDepth 100000 in
set_option maxHeartbeats 4000000 in
theorem qv_28_7 {V : Nat → Nat → Value} {I : Nat → Nat → Int32} {L : Nat → Nat → Int64} {R : Nat → Nat → Option Nat} {tl : am_H} : am_pG 1799 (.ref 28) (fx V I L R ++ tl) = some (V 28 7) := rfl
set_option maxRecDepth 100000 in
set_option maxHeartbeats 4000000 in
theorem qp_28_7 {V : Nat → Nat → Value} {I : Nat → Nat → Int32} {L : Nat → Nat → Int64} {R : Nat → Nat → Option Nat} {tl : am_H} {x : Int32} : am_pP 1799 (.ref 28) (.int x) (fx V I L R ++ tl) = some (fx (vup V 28 7 (.int x)) I L R ++ tl) := ev_p rfl rfl rfl rfl
set_option maxRecDepth 100000 in
set_option maxHeartbeats 4000000 in
theorem qa_29 {V : Nat → Nat → Value} {I : Nat → Nat → Int32} {L : Nat → Nat → Int64} {R : Nat → Nat → Option Nat} {tl : am_H} {k : Nat} (hk : k < 60) : am_pA 0 (.ref 29) (nI k) (fx V I L R ++ tl) = some (I 29 k) := by rw [ev_a (f := I 29) (n := 60) rfl (am_inb_n hk (by omega)), nI_clamp (by omega)]
set_option maxRecDepth 100000 in
set_option maxHeartbeats 4000000 in
theorem qs_29 {V : Nat → Nat → Value} {I : Nat → Nat → Int32} {L : Nat → Nat → Int64} {R : Nat → Nat → Option Nat} {tl : am_H} {k : Nat} {x : Int32} (hk : k < 60) : am_pS 0 (.ref 29) (nI k) x (fx V I L R ++ tl) = some (fx V (iup I 29 (upd (I 29) k x)) L R ++ tl) := ev_s (f := I 29) (n := 60) rfl (am_inb_n hk (by omega)) rfl (by rw [nI_clamp (by omega)]; rfl)
set_option maxRecDepth 100000 in
set_option maxHeartbeats 4000000 in
theorem qa_30 {V : Nat → Nat → Value} {I : Nat → Nat → Int32} {L : Nat → Nat → Int64} {R : Nat → Nat → Option Nat} {tl : am_H} {k : Nat} (hk : k < 60) : am_pA 0 (.ref 30) (nI k) (fx V I L R ++ tl) = some (I 30 k) := by rw [ev_a (f := I 30) (n := 60) rfl (am_inb_n hk (by omega)), nI_clamp (by omega)]
set_option maxRecDepth 100000 in
set_option maxHeartbeats 4000000 in
theorem qs_30 {V : Nat → Nat → Value} {I : Nat → Nat → Int32} {L : Nat → Nat → Int64} {R : Nat → Nat → Option Nat} {tl : am_H} {k : Nat} {x : Int32} (hk : k < 60) : am_pS 0 (.ref 30) (nI k) x (fx V I L R ++ tl) = some (fx V (iup I 30 (upd (I 30) k x)) L R ++ tl) := ev_s (f := I 30) (n := 60) rfl (am_inb_n hk (by omega)) rfl (by rw [nI_clamp (by omega)]; rfl)
set_option maxRecDepth 100000 in
set_option maxHeartbeats 4000000 in
theorem qa_31 {V : Nat → Nat → Value} {I : Nat → Nat → Int32} {L : Nat → Nat → Int64} {R : Nat → Nat → Option Nat} {tl : am_H} {k : Nat} (hk : k < 60) : am_pA 0 (.ref 31) (nI k) (fx V I L R ++ tl) = some (I 31 k) := by rw [ev_a (f := I 31) (n := 60) rfl (am_inb_n hk (by omega)), nI_clamp (by omega)]
set_option maxRecDepth 100000 in
set_option maxHeartbeats 4000000 in
theorem qs_31 {V : Nat → Nat → Value} {I : Nat → Nat → Int32} {L : Nat → Nat → Int64} {R : Nat → Nat → Option Nat} {tl : am_H} {k : Nat} {x : Int32} (hk : k < 60) : am_pS 0 (.ref 31) (nI k) x (fx V I L R ++ tl) = some (fx V (iup I 31 (upd (I 31) k x)) L R ++ tl) := ev_s (f := I 31) (n := 60) rfl (am_inb_n hk (by omega)) rfl (by rw [nI_clamp (by omega)]; rfl)
set_option maxRecDepth 100000 in
set_option maxHeartbeats 4000000 in
theorem qa_32 {V : Nat → Nat → Value} {I : Nat → Nat → Int32} {L : Nat → Nat → Int64} {R : Nat → Nat → Option Nat} {tl : am_H} {k : Nat} (hk : k < 60) : am_pA 2 (.ref 32) (nI k) (fx V I L R ++ tl) = some (I 32 k) := by rw [ev_a (f := I 32) (n := 60) rfl (am_inb_n hk (by omega)), nI_clamp (by omega)]
set_option maxRecDepth 100000 in
set_option maxHeartbeats 4000000 in
theorem qs_32 {V : Nat → Nat → Value} {I : Nat → Nat → Int32} {L : Nat → Nat → Int64} {R : Nat → Nat → Option Nat} {tl : am_H} {k : Nat} {x : Int32} (hk : k < 60) (hx : am_afit 2 x = true) : am_pS 2 (.ref 32) (nI k) x (fx V I L R ++ tl) = some (fx V (iup I 32 (upd (I 32) k x)) L R ++ tl) := ev_s (f := I 32) (n := 60) rfl (am_inb_n hk (by omega)) hx (by rw [nI_clamp (by omega)]; rfl)
set_option maxRecDepth 100000 in
set_option maxHeartbeats 4000000 in
theorem qa_33 {V : Nat → Nat → Value} {I : Nat → Nat → Int32} {L : Nat → Nat → Int64} {R : Nat → Nat → Option Nat} {tl : am_H} {k : Nat} (hk : k < 60) : am_pA 2 (.ref 33) (nI k) (fx V I L R ++ tl) = some (I 33 k) := by rw [ev_a (f := I 33) (n := 60) rfl (am_inb_n hk (by omega)), nI_clamp (by omega)]
set_option maxRecDepth 100000 in
set_option maxHeartbeats 4000000 in
theorem qs_33 {V : Nat → Nat → Value} {I : Nat → Nat → Int32} {L : Nat → Nat → Int64} {R : Nat → Nat → Option Nat} {tl : am_H} {k : Nat} {x : Int32} (hk : k < 60) (hx : am_afit 2 x = true) : am_pS 2 (.ref 33) (nI k) x (fx V I L R ++ tl) = some (fx V (iup I 33 (upd (I 33) k x)) L R ++ tl) := ev_s (f := I 33) (n := 60) rfl (am_inb_n hk (by omega)) hx (by rw [nI_clamp (by omega)]; rfl)
set_option maxRecDepth 100000 in
set_option maxHeartbeats 4000000 in
theorem qa_34 {V : Nat → Nat → Value} {I : Nat → Nat → Int32} {L : Nat → Nat → Int64} {R : Nat → Nat → Option Nat} {tl : am_H} {k : Nat} (hk : k < 60) : am_pA 2 (.ref 34) (nI k) (fx V I L R ++ tl) = some (I 34 k) := by rw [ev_a (f := I 34) (n := 60) rfl (am_inb_n hk (by omega)), nI_clamp (by omega)]
set_option maxRecDepth 100000 in
set_option maxHeartbeats 4000000 in
theorem qs_34 {V : Nat → Nat → Value} {I : Nat → Nat → Int32} {L : Nat → Nat → Int64} {R : Nat → Nat → Option Nat} {tl : am_H} {k : Nat} {x : Int32} (hk : k < 60) (hx : am_afit 2 x = true) : am_pS 2 (.ref 34) (nI k) x (fx V I L R ++ tl) = some (fx V (iup I 34 (upd (I 34) k x)) L R ++ tl) := ev_s (f := I 34) (n := 60) rfl (am_inb_n hk (by omega)) hx (by rw [nI_clamp (by omega)]; rfl)
set_option maxRecDepth 100000 in
set_option maxHeartbeats 4000000 in
theorem qa_35 {V : Nat → Nat → Value} {I : Nat → Nat → Int32} {L : Nat → Nat → Int64} {R : Nat → Nat → Option Nat} {tl : am_H} {k : Nat} (hk : k < 61) : am_pA 0 (.ref 35) (nI k) (fx V I L R ++ tl) = some (I 35 k) := by rw [ev_a (f := I 35) (n := 61) rfl (am_inb_n hk (by omega)), nI_clamp (by omega)]
set_option maxRecDepth 100000 in
set_option maxHeartbeats 4000000 in
theorem qs_35 {V : Nat → Nat → Value} {I : Nat → Nat → Int32} {L : Nat → Nat → Int64} {R : Nat → Nat → Option Nat} {tl : am_H} {k : Nat} {x : Int32} (hk : k < 61) : am_pS 0 (.ref 35) (nI k) x (fx V I L R ++ tl) = some (fx V (iup I 35 (upd (I 35) k x)) L R ++ tl) := ev_s (f := I 35) (n := 61) rfl (am_inb_n hk (by omega)) rfl (by rw [nI_clamp (by omega)]; rfl)
set_option maxRecDepth 100000 in
set_option maxHeartbeats 4000000 in
theorem qa_36 {V : Nat → Nat → Value} {I : Nat → Nat → Int32} {L : Nat → Nat → Int64} {R : Nat → Nat → Option Nat} {tl : am_H} {k : Nat} (hk : k < 8) : am_pA 0 (.ref 36) (nI k) (fx V I L R ++ tl) = some (I 36 k) := by rw [ev_a (f := I 36) (n := 8) rfl (am_inb_n hk (by omega)), nI_clamp (by omega)]
set_option maxRecDepth 100000 in
set_option maxHeartbeats 4000000 in
theorem qs_36 {V : Nat → Nat → Value} {I : Nat → Nat → Int32} {L : Nat → Nat → Int64} {R : Nat → Nat → Option Nat} {tl : am_H} {k : Nat} {x : Int32} (hk : k < 8) : am_pS 0 (.ref 36) (nI k) x (fx V I L R ++ tl) = some (fx V (iup I 36 (upd (I 36) k x)) L R ++ tl) := ev_s (f := I 36) (n := 8) rfl (am_inb_n hk (by omega)) rfl (by rw [nI_clamp (by omega)]; rfl)
set_option maxRecDepth 100000 in
set_option maxHeartbeats 4000000 in
theorem qa_37 {V : Nat → Nat → Value} {I : Nat → Nat → Int32} {L : Nat → Nat → Int64} {R : Nat → Nat → Option Nat} {tl : am_H} {k : Nat} (hk : k < 8) : am_pA 0 (.ref 37) (nI k) (fx V I L R ++ tl) = some (I 37 k) := by rw [ev_a (f := I 37) (n := 8) rfl (am_inb_n hk (by omega)), nI_clamp (by omega)]
set_option maxRecDepth 100000 in
set_option maxHeartbeats 4000000 in
theorem qs_37 {V : Nat → Nat → Value} {I : Nat → Nat → Int32} {L : Nat → Nat → Int64} {R : Nat → Nat → Option Nat} {tl : am_H} {k : Nat} {x : Int32} (hk : k < 8) : am_pS 0 (.ref 37) (nI k) x (fx V I L R ++ tl) = some (fx V (iup I 37 (upd (I 37) k x)) L R ++ tl) := ev_s (f := I 37) (n := 8) rfl (am_inb_n hk (by omega)) rfl (by rw [nI_clamp (by omega)]; rfl)
set_option maxRecDepth 100000 in
set_option maxHeartbeats 4000000 in
theorem qa_38 {V : Nat → Nat → Value} {I : Nat → Nat → Int32} {L : Nat → Nat → Int64} {R : Nat → Nat → Option Nat} {tl : am_H} {k : Nat} (hk : k < 5) : am_pA 0 (.ref 38) (nI k) (fx V I L R ++ tl) = some (I 38 k) := by rw [ev_a (f := I 38) (n := 5) rfl (am_inb_n hk (by omega)), nI_clamp (by omega)]
set_option maxRecDepth 100000 in
set_option maxHeartbeats 4000000 in
theorem qs_38 {V : Nat → Nat → Value} {I : Nat → Nat → Int32} {L : Nat → Nat → Int64} {R : Nat → Nat → Option Nat} {tl : am_H} {k : Nat} {x : Int32} (hk : k < 5) : am_pS 0 (.ref 38) (nI k) x (fx V I L R ++ tl) = some (fx V (iup I 38 (upd (I 38) k x)) L R ++ tl) := ev_s (f := I 38) (n := 5) rfl (am_inb_n hk (by omega)) rfl (by rw [nI_clamp (by omega)]; rfl)
set_option maxRecDepth 100000 in
set_option maxHeartbeats 4000000 in
theorem qv_40_0 {V : Nat → Nat → Value} {I : Nat → Nat → Int32} {L : Nat → Nat → Int64} {R : Nat → Nat → Option Nat} {tl : am_H} : am_pG 256 (.ref 40) (fx V I L R ++ tl) = some (V 40 0) := rfl
set_option maxRecDepth 100000 in
set_option maxHeartbeats 4000000 in
theorem qp_40_0 {V : Nat → Nat → Value} {I : Nat → Nat → Int32} {L : Nat → Nat → Int64} {R : Nat → Nat → Option Nat} {tl : am_H} {x : Int32} : am_pP 256 (.ref 40) (.int x) (fx V I L R ++ tl) = some (fx (vup V 40 0 (.int x)) I L R ++ tl) := ev_p rfl rfl rfl rfl
set_option maxRecDepth 100000 in
set_option maxHeartbeats 4000000 in
theorem qr_40_1 {V : Nat → Nat → Value} {I : Nat → Nat → Int32} {L : Nat → Nat → Int64} {R : Nat → Nat → Option Nat} {tl : am_H} : am_pG 257 (.ref 40) (fx V I L R ++ tl) = some (.ref 41) := rfl
set_option maxRecDepth 100000 in
set_option maxHeartbeats 4000000 in
theorem qr_40_2 {V : Nat → Nat → Value} {I : Nat → Nat → Int32} {L : Nat → Nat → Int64} {R : Nat → Nat → Option Nat} {tl : am_H} : am_pG 258 (.ref 40) (fx V I L R ++ tl) = some (.ref 42) := rfl
set_option maxRecDepth 100000 in
set_option maxHeartbeats 4000000 in
theorem qv_40_3 {V : Nat → Nat → Value} {I : Nat → Nat → Int32} {L : Nat → Nat → Int64} {R : Nat → Nat → Option Nat} {tl : am_H} : am_pG 259 (.ref 40) (fx V I L R ++ tl) = some (V 40 3) := rfl
set_option maxRecDepth 100000 in
set_option maxHeartbeats 4000000 in
theorem qp_40_3 {V : Nat → Nat → Value} {I : Nat → Nat → Int32} {L : Nat → Nat → Int64} {R : Nat → Nat → Option Nat} {tl : am_H} {x : Int32} : am_pP 259 (.ref 40) (.int x) (fx V I L R ++ tl) = some (fx (vup V 40 3 (.int x)) I L R ++ tl) := ev_p rfl rfl rfl rfl
set_option maxRecDepth 100000 in
set_option maxHeartbeats 4000000 in
theorem qr_40_4 {V : Nat → Nat → Value} {I : Nat → Nat → Int32} {L : Nat → Nat → Int64} {R : Nat → Nat → Option Nat} {tl : am_H} : am_pG 260 (.ref 40) (fx V I L R ++ tl) = some (.ref 43) := rfl
set_option maxRecDepth 100000 in
set_option maxHeartbeats 4000000 in
theorem qr_40_5 {V : Nat → Nat → Value} {I : Nat → Nat → Int32} {L : Nat → Nat → Int64} {R : Nat → Nat → Option Nat} {tl : am_H} : am_pG 261 (.ref 40) (fx V I L R ++ tl) = some (.ref 44) := rfl
set_option maxRecDepth 100000 in
set_option maxHeartbeats 4000000 in
theorem qr_40_6 {V : Nat → Nat → Value} {I : Nat → Nat → Int32} {L : Nat → Nat → Int64} {R : Nat → Nat → Option Nat} {tl : am_H} : am_pG 262 (.ref 40) (fx V I L R ++ tl) = some (.ref 45) := rfl
set_option maxRecDepth 100000 in
set_option maxHeartbeats 4000000 in
theorem qr_40_7 {V : Nat → Nat → Value} {I : Nat → Nat → Int32} {L : Nat → Nat → Int64} {R : Nat → Nat → Option Nat} {tl : am_H} : am_pG 263 (.ref 40) (fx V I L R ++ tl) = some (.ref 46) := rfl
set_option maxRecDepth 100000 in
set_option maxHeartbeats 4000000 in
theorem qr_40_8 {V : Nat → Nat → Value} {I : Nat → Nat → Int32} {L : Nat → Nat → Int64} {R : Nat → Nat → Option Nat} {tl : am_H} : am_pG 264 (.ref 40) (fx V I L R ++ tl) = some (.ref 47) := rfl
set_option maxRecDepth 100000 in
set_option maxHeartbeats 4000000 in
theorem qr_40_9 {V : Nat → Nat → Value} {I : Nat → Nat → Int32} {L : Nat → Nat → Int64} {R : Nat → Nat → Option Nat} {tl : am_H} : am_pG 265 (.ref 40) (fx V I L R ++ tl) = some (.ref 48) := rfl
set_option maxRecDepth 100000 in
set_option maxHeartbeats 4000000 in
theorem qa_41 {V : Nat → Nat → Value} {I : Nat → Nat → Int32} {L : Nat → Nat → Int64} {R : Nat → Nat → Option Nat} {tl : am_H} {k : Nat} (hk : k < 16) : am_pA 0 (.ref 41) (nI k) (fx V I L R ++ tl) = some (I 41 k) := by rw [ev_a (f := I 41) (n := 16) rfl (am_inb_n hk (by omega)), nI_clamp (by omega)]
set_option maxRecDepth 100000 in
set_option maxHeartbeats 4000000 in
theorem qs_41 {V : Nat → Nat → Value} {I : Nat → Nat → Int32} {L : Nat → Nat → Int64} {R : Nat → Nat → Option Nat} {tl : am_H} {k : Nat} {x : Int32} (hk : k < 16) : am_pS 0 (.ref 41) (nI k) x (fx V I L R ++ tl) = some (fx V (iup I 41 (upd (I 41) k x)) L R ++ tl) := ev_s (f := I 41) (n := 16) rfl (am_inb_n hk (by omega)) rfl (by rw [nI_clamp (by omega)]; rfl)
set_option maxRecDepth 100000 in
set_option maxHeartbeats 4000000 in
theorem qv_42_0 {V : Nat → Nat → Value} {I : Nat → Nat → Int32} {L : Nat → Nat → Int64} {R : Nat → Nat → Option Nat} {tl : am_H} : am_pG 2048 (.ref 42) (fx V I L R ++ tl) = some (V 42 0) := rfl
set_option maxRecDepth 100000 in
set_option maxHeartbeats 4000000 in
theorem qp_42_0 {V : Nat → Nat → Value} {I : Nat → Nat → Int32} {L : Nat → Nat → Int64} {R : Nat → Nat → Option Nat} {tl : am_H} {x : Int64} : am_pP 2048 (.ref 42) (.long x) (fx V I L R ++ tl) = some (fx (vup V 42 0 (.long x)) I L R ++ tl) := ev_p rfl rfl rfl rfl
set_option maxRecDepth 100000 in
set_option maxHeartbeats 4000000 in
theorem qa_43 {V : Nat → Nat → Value} {I : Nat → Nat → Int32} {L : Nat → Nat → Int64} {R : Nat → Nat → Option Nat} {tl : am_H} {k : Nat} (hk : k < 16) : am_pA 0 (.ref 43) (nI k) (fx V I L R ++ tl) = some (I 43 k) := by rw [ev_a (f := I 43) (n := 16) rfl (am_inb_n hk (by omega)), nI_clamp (by omega)]
set_option maxRecDepth 100000 in
set_option maxHeartbeats 4000000 in
theorem qs_43 {V : Nat → Nat → Value} {I : Nat → Nat → Int32} {L : Nat → Nat → Int64} {R : Nat → Nat → Option Nat} {tl : am_H} {k : Nat} {x : Int32} (hk : k < 16) : am_pS 0 (.ref 43) (nI k) x (fx V I L R ++ tl) = some (fx V (iup I 43 (upd (I 43) k x)) L R ++ tl) := ev_s (f := I 43) (n := 16) rfl (am_inb_n hk (by omega)) rfl (by rw [nI_clamp (by omega)]; rfl)
set_option maxRecDepth 100000 in
set_option maxHeartbeats 4000000 in
theorem qa_44 {V : Nat → Nat → Value} {I : Nat → Nat → Int32} {L : Nat → Nat → Int64} {R : Nat → Nat → Option Nat} {tl : am_H} {k : Nat} (hk : k < 16) : am_pAL (.ref 44) (nI k) (fx V I L R ++ tl) = some (L 44 k) := by rw [ev_aL (f := L 44) (n := 16) rfl (am_inb_n hk (by omega)), nI_clamp (by omega)]
set_option maxRecDepth 100000 in
set_option maxHeartbeats 4000000 in
theorem qs_44 {V : Nat → Nat → Value} {I : Nat → Nat → Int32} {L : Nat → Nat → Int64} {R : Nat → Nat → Option Nat} {tl : am_H} {k : Nat} {x : Int64} (hk : k < 16) : am_pSL (.ref 44) (nI k) x (fx V I L R ++ tl) = some (fx V I (lup L 44 (vp_updL (L 44) k x)) R ++ tl) := ev_sL (f := L 44) (n := 16) rfl (am_inb_n hk (by omega)) (by rw [nI_clamp (by omega)]; rfl)
set_option maxRecDepth 100000 in
set_option maxHeartbeats 4000000 in
theorem qa_45 {V : Nat → Nat → Value} {I : Nat → Nat → Int32} {L : Nat → Nat → Int64} {R : Nat → Nat → Option Nat} {tl : am_H} {k : Nat} (hk : k < 16) : am_pA 0 (.ref 45) (nI k) (fx V I L R ++ tl) = some (I 45 k) := by rw [ev_a (f := I 45) (n := 16) rfl (am_inb_n hk (by omega)), nI_clamp (by omega)]
set_option maxRecDepth 100000 in
set_option maxHeartbeats 4000000 in
theorem qs_45 {V : Nat → Nat → Value} {I : Nat → Nat → Int32} {L : Nat → Nat → Int64} {R : Nat → Nat → Option Nat} {tl : am_H} {k : Nat} {x : Int32} (hk : k < 16) : am_pS 0 (.ref 45) (nI k) x (fx V I L R ++ tl) = some (fx V (iup I 45 (upd (I 45) k x)) L R ++ tl) := ev_s (f := I 45) (n := 16) rfl (am_inb_n hk (by omega)) rfl (by rw [nI_clamp (by omega)]; rfl)
set_option maxRecDepth 100000 in
set_option maxHeartbeats 4000000 in
theorem qa_46 {V : Nat → Nat → Value} {I : Nat → Nat → Int32} {L : Nat → Nat → Int64} {R : Nat → Nat → Option Nat} {tl : am_H} {k : Nat} (hk : k < 384) : am_pA 0 (.ref 46) (nI k) (fx V I L R ++ tl) = some (I 46 k) := by rw [ev_a (f := I 46) (n := 384) rfl (am_inb_n hk (by omega)), nI_clamp (by omega)]
set_option maxRecDepth 100000 in
set_option maxHeartbeats 4000000 in
theorem qs_46 {V : Nat → Nat → Value} {I : Nat → Nat → Int32} {L : Nat → Nat → Int64} {R : Nat → Nat → Option Nat} {tl : am_H} {k : Nat} {x : Int32} (hk : k < 384) : am_pS 0 (.ref 46) (nI k) x (fx V I L R ++ tl) = some (fx V (iup I 46 (upd (I 46) k x)) L R ++ tl) := ev_s (f := I 46) (n := 384) rfl (am_inb_n hk (by omega)) rfl (by rw [nI_clamp (by omega)]; rfl)
set_option maxRecDepth 100000 in
set_option maxHeartbeats 4000000 in
theorem qa_47 {V : Nat → Nat → Value} {I : Nat → Nat → Int32} {L : Nat → Nat → Int64} {R : Nat → Nat → Option Nat} {tl : am_H} {k : Nat} (hk : k < 24) : am_pA 0 (.ref 47) (nI k) (fx V I L R ++ tl) = some (I 47 k) := by rw [ev_a (f := I 47) (n := 24) rfl (am_inb_n hk (by omega)), nI_clamp (by omega)]
set_option maxRecDepth 100000 in
set_option maxHeartbeats 4000000 in
theorem qs_47 {V : Nat → Nat → Value} {I : Nat → Nat → Int32} {L : Nat → Nat → Int64} {R : Nat → Nat → Option Nat} {tl : am_H} {k : Nat} {x : Int32} (hk : k < 24) : am_pS 0 (.ref 47) (nI k) x (fx V I L R ++ tl) = some (fx V (iup I 47 (upd (I 47) k x)) L R ++ tl) := ev_s (f := I 47) (n := 24) rfl (am_inb_n hk (by omega)) rfl (by rw [nI_clamp (by omega)]; rfl)
set_option maxRecDepth 100000 in
set_option maxHeartbeats 4000000 in
theorem qa_48 {V : Nat → Nat → Value} {I : Nat → Nat → Int32} {L : Nat → Nat → Int64} {R : Nat → Nat → Option Nat} {tl : am_H} {k : Nat} (hk : k < 24) : am_pA 0 (.ref 48) (nI k) (fx V I L R ++ tl) = some (I 48 k) := by rw [ev_a (f := I 48) (n := 24) rfl (am_inb_n hk (by omega)), nI_clamp (by omega)]
set_option maxRecDepth 100000 in
set_option maxHeartbeats 4000000 in
theorem qs_48 {V : Nat → Nat → Value} {I : Nat → Nat → Int32} {L : Nat → Nat → Int64} {R : Nat → Nat → Option Nat} {tl : am_H} {k : Nat} {x : Int32} (hk : k < 24) : am_pS 0 (.ref 48) (nI k) x (fx V I L R ++ tl) = some (fx V (iup I 48 (upd (I 48) k x)) L R ++ tl) := ev_s (f := I 48) (n := 24) rfl (am_inb_n hk (by omega)) rfl (by rw [nI_clamp (by omega)]; rfl)
set_option maxRecDepth 100000 in
set_option maxHeartbeats 4000000 in
theorem qv_49_0 {V : Nat → Nat → Value} {I : Nat → Nat → Int32} {L : Nat → Nat → Int64} {R : Nat → Nat → Option Nat} {tl : am_H} : am_pG 256 (.ref 49) (fx V I L R ++ tl) = some (V 49 0) := rfl
set_option maxRecDepth 100000 in
set_option maxHeartbeats 4000000 in
theorem qp_49_0 {V : Nat → Nat → Value} {I : Nat → Nat → Int32} {L : Nat → Nat → Int64} {R : Nat → Nat → Option Nat} {tl : am_H} {x : Int32} : am_pP 256 (.ref 49) (.int x) (fx V I L R ++ tl) = some (fx (vup V 49 0 (.int x)) I L R ++ tl) := ev_p rfl rfl rfl rfl
set_option maxRecDepth 100000 in
set_option maxHeartbeats 4000000 in
theorem qr_49_1 {V : Nat → Nat → Value} {I : Nat → Nat → Int32} {L : Nat → Nat → Int64} {R : Nat → Nat → Option Nat} {tl : am_H} : am_pG 257 (.ref 49) (fx V I L R ++ tl) = some (.ref 50) := rfl
set_option maxRecDepth 100000 in
set_option maxHeartbeats 4000000 in
theorem qr_49_2 {V : Nat → Nat → Value} {I : Nat → Nat → Int32} {L : Nat → Nat → Int64} {R : Nat → Nat → Option Nat} {tl : am_H} : am_pG 258 (.ref 49) (fx V I L R ++ tl) = some (.ref 51) := rfl
set_option maxRecDepth 100000 in
set_option maxHeartbeats 4000000 in
theorem qv_49_3 {V : Nat → Nat → Value} {I : Nat → Nat → Int32} {L : Nat → Nat → Int64} {R : Nat → Nat → Option Nat} {tl : am_H} : am_pG 259 (.ref 49) (fx V I L R ++ tl) = some (V 49 3) := rfl
set_option maxRecDepth 100000 in
set_option maxHeartbeats 4000000 in
theorem qp_49_3 {V : Nat → Nat → Value} {I : Nat → Nat → Int32} {L : Nat → Nat → Int64} {R : Nat → Nat → Option Nat} {tl : am_H} {x : Int32} : am_pP 259 (.ref 49) (.int x) (fx V I L R ++ tl) = some (fx (vup V 49 3 (.int x)) I L R ++ tl) := ev_p rfl rfl rfl rfl
set_option maxRecDepth 100000 in
set_option maxHeartbeats 4000000 in
theorem qr_49_4 {V : Nat → Nat → Value} {I : Nat → Nat → Int32} {L : Nat → Nat → Int64} {R : Nat → Nat → Option Nat} {tl : am_H} : am_pG 260 (.ref 49) (fx V I L R ++ tl) = some (.ref 52) := rfl
set_option maxRecDepth 100000 in
set_option maxHeartbeats 4000000 in
theorem qr_49_5 {V : Nat → Nat → Value} {I : Nat → Nat → Int32} {L : Nat → Nat → Int64} {R : Nat → Nat → Option Nat} {tl : am_H} : am_pG 261 (.ref 49) (fx V I L R ++ tl) = some (.ref 53) := rfl
set_option maxRecDepth 100000 in
set_option maxHeartbeats 4000000 in
theorem qr_49_6 {V : Nat → Nat → Value} {I : Nat → Nat → Int32} {L : Nat → Nat → Int64} {R : Nat → Nat → Option Nat} {tl : am_H} : am_pG 262 (.ref 49) (fx V I L R ++ tl) = some (.ref 54) := rfl
set_option maxRecDepth 100000 in
set_option maxHeartbeats 4000000 in
theorem qr_49_7 {V : Nat → Nat → Value} {I : Nat → Nat → Int32} {L : Nat → Nat → Int64} {R : Nat → Nat → Option Nat} {tl : am_H} : am_pG 263 (.ref 49) (fx V I L R ++ tl) = some (.ref 55) := rfl
set_option maxRecDepth 100000 in
set_option maxHeartbeats 4000000 in
theorem qr_49_8 {V : Nat → Nat → Value} {I : Nat → Nat → Int32} {L : Nat → Nat → Int64} {R : Nat → Nat → Option Nat} {tl : am_H} : am_pG 264 (.ref 49) (fx V I L R ++ tl) = some (.ref 56) := rfl
set_option maxRecDepth 100000 in
set_option maxHeartbeats 4000000 in
theorem qr_49_9 {V : Nat → Nat → Value} {I : Nat → Nat → Int32} {L : Nat → Nat → Int64} {R : Nat → Nat → Option Nat} {tl : am_H} : am_pG 265 (.ref 49) (fx V I L R ++ tl) = some (.ref 57) := rfl
set_option maxRecDepth 100000 in
set_option maxHeartbeats 4000000 in
theorem qa_50 {V : Nat → Nat → Value} {I : Nat → Nat → Int32} {L : Nat → Nat → Int64} {R : Nat → Nat → Option Nat} {tl : am_H} {k : Nat} (hk : k < 16) : am_pA 0 (.ref 50) (nI k) (fx V I L R ++ tl) = some (I 50 k) := by rw [ev_a (f := I 50) (n := 16) rfl (am_inb_n hk (by omega)), nI_clamp (by omega)]
set_option maxRecDepth 100000 in
set_option maxHeartbeats 4000000 in
theorem qs_50 {V : Nat → Nat → Value} {I : Nat → Nat → Int32} {L : Nat → Nat → Int64} {R : Nat → Nat → Option Nat} {tl : am_H} {k : Nat} {x : Int32} (hk : k < 16) : am_pS 0 (.ref 50) (nI k) x (fx V I L R ++ tl) = some (fx V (iup I 50 (upd (I 50) k x)) L R ++ tl) := ev_s (f := I 50) (n := 16) rfl (am_inb_n hk (by omega)) rfl (by rw [nI_clamp (by omega)]; rfl)
set_option maxRecDepth 100000 in
set_option maxHeartbeats 4000000 in
theorem qv_51_0 {V : Nat → Nat → Value} {I : Nat → Nat → Int32} {L : Nat → Nat → Int64} {R : Nat → Nat → Option Nat} {tl : am_H} : am_pG 2048 (.ref 51) (fx V I L R ++ tl) = some (V 51 0) := rfl
set_option maxRecDepth 100000 in
set_option maxHeartbeats 4000000 in
theorem qp_51_0 {V : Nat → Nat → Value} {I : Nat → Nat → Int32} {L : Nat → Nat → Int64} {R : Nat → Nat → Option Nat} {tl : am_H} {x : Int64} : am_pP 2048 (.ref 51) (.long x) (fx V I L R ++ tl) = some (fx (vup V 51 0 (.long x)) I L R ++ tl) := ev_p rfl rfl rfl rfl
set_option maxRecDepth 100000 in
set_option maxHeartbeats 4000000 in
theorem qa_52 {V : Nat → Nat → Value} {I : Nat → Nat → Int32} {L : Nat → Nat → Int64} {R : Nat → Nat → Option Nat} {tl : am_H} {k : Nat} (hk : k < 16) : am_pA 0 (.ref 52) (nI k) (fx V I L R ++ tl) = some (I 52 k) := by rw [ev_a (f := I 52) (n := 16) rfl (am_inb_n hk (by omega)), nI_clamp (by omega)]
set_option maxRecDepth 100000 in
set_option maxHeartbeats 4000000 in
theorem qs_52 {V : Nat → Nat → Value} {I : Nat → Nat → Int32} {L : Nat → Nat → Int64} {R : Nat → Nat → Option Nat} {tl : am_H} {k : Nat} {x : Int32} (hk : k < 16) : am_pS 0 (.ref 52) (nI k) x (fx V I L R ++ tl) = some (fx V (iup I 52 (upd (I 52) k x)) L R ++ tl) := ev_s (f := I 52) (n := 16) rfl (am_inb_n hk (by omega)) rfl (by rw [nI_clamp (by omega)]; rfl)
set_option maxRecDepth 100000 in
set_option maxHeartbeats 4000000 in
theorem qa_53 {V : Nat → Nat → Value} {I : Nat → Nat → Int32} {L : Nat → Nat → Int64} {R : Nat → Nat → Option Nat} {tl : am_H} {k : Nat} (hk : k < 16) : am_pAL (.ref 53) (nI k) (fx V I L R ++ tl) = some (L 53 k) := by rw [ev_aL (f := L 53) (n := 16) rfl (am_inb_n hk (by omega)), nI_clamp (by omega)]
set_option maxRecDepth 100000 in
set_option maxHeartbeats 4000000 in
theorem qs_53 {V : Nat → Nat → Value} {I : Nat → Nat → Int32} {L : Nat → Nat → Int64} {R : Nat → Nat → Option Nat} {tl : am_H} {k : Nat} {x : Int64} (hk : k < 16) : am_pSL (.ref 53) (nI k) x (fx V I L R ++ tl) = some (fx V I (lup L 53 (vp_updL (L 53) k x)) R ++ tl) := ev_sL (f := L 53) (n := 16) rfl (am_inb_n hk (by omega)) (by rw [nI_clamp (by omega)]; rfl)
set_option maxRecDepth 100000 in
set_option maxHeartbeats 4000000 in
theorem qa_54 {V : Nat → Nat → Value} {I : Nat → Nat → Int32} {L : Nat → Nat → Int64} {R : Nat → Nat → Option Nat} {tl : am_H} {k : Nat} (hk : k < 16) : am_pA 0 (.ref 54) (nI k) (fx V I L R ++ tl) = some (I 54 k) := by rw [ev_a (f := I 54) (n := 16) rfl (am_inb_n hk (by omega)), nI_clamp (by omega)]
set_option maxRecDepth 100000 in
set_option maxHeartbeats 4000000 in
theorem qs_54 {V : Nat → Nat → Value} {I : Nat → Nat → Int32} {L : Nat → Nat → Int64} {R : Nat → Nat → Option Nat} {tl : am_H} {k : Nat} {x : Int32} (hk : k < 16) : am_pS 0 (.ref 54) (nI k) x (fx V I L R ++ tl) = some (fx V (iup I 54 (upd (I 54) k x)) L R ++ tl) := ev_s (f := I 54) (n := 16) rfl (am_inb_n hk (by omega)) rfl (by rw [nI_clamp (by omega)]; rfl)
set_option maxRecDepth 100000 in
set_option maxHeartbeats 4000000 in
theorem qa_55 {V : Nat → Nat → Value} {I : Nat → Nat → Int32} {L : Nat → Nat → Int64} {R : Nat → Nat → Option Nat} {tl : am_H} {k : Nat} (hk : k < 384) : am_pA 0 (.ref 55) (nI k) (fx V I L R ++ tl) = some (I 55 k) := by rw [ev_a (f := I 55) (n := 384) rfl (am_inb_n hk (by omega)), nI_clamp (by omega)]
set_option maxRecDepth 100000 in
set_option maxHeartbeats 4000000 in
theorem qs_55 {V : Nat → Nat → Value} {I : Nat → Nat → Int32} {L : Nat → Nat → Int64} {R : Nat → Nat → Option Nat} {tl : am_H} {k : Nat} {x : Int32} (hk : k < 384) : am_pS 0 (.ref 55) (nI k) x (fx V I L R ++ tl) = some (fx V (iup I 55 (upd (I 55) k x)) L R ++ tl) := ev_s (f := I 55) (n := 384) rfl (am_inb_n hk (by omega)) rfl (by rw [nI_clamp (by omega)]; rfl)
set_option maxRecDepth 100000 in
set_option maxHeartbeats 4000000 in
theorem qa_56 {V : Nat → Nat → Value} {I : Nat → Nat → Int32} {L : Nat → Nat → Int64} {R : Nat → Nat → Option Nat} {tl : am_H} {k : Nat} (hk : k < 24) : am_pA 0 (.ref 56) (nI k) (fx V I L R ++ tl) = some (I 56 k) := by rw [ev_a (f := I 56) (n := 24) rfl (am_inb_n hk (by omega)), nI_clamp (by omega)]
set_option maxRecDepth 100000 in
set_option maxHeartbeats 4000000 in
theorem qs_56 {V : Nat → Nat → Value} {I : Nat → Nat → Int32} {L : Nat → Nat → Int64} {R : Nat → Nat → Option Nat} {tl : am_H} {k : Nat} {x : Int32} (hk : k < 24) : am_pS 0 (.ref 56) (nI k) x (fx V I L R ++ tl) = some (fx V (iup I 56 (upd (I 56) k x)) L R ++ tl) := ev_s (f := I 56) (n := 24) rfl (am_inb_n hk (by omega)) rfl (by rw [nI_clamp (by omega)]; rfl)
set_option maxRecDepth 100000 in
set_option maxHeartbeats 4000000 in
theorem qa_57 {V : Nat → Nat → Value} {I : Nat → Nat → Int32} {L : Nat → Nat → Int64} {R : Nat → Nat → Option Nat} {tl : am_H} {k : Nat} (hk : k < 24) : am_pA 0 (.ref 57) (nI k) (fx V I L R ++ tl) = some (I 57 k) := by rw [ev_a (f := I 57) (n := 24) rfl (am_inb_n hk (by omega)), nI_clamp (by omega)]
set_option maxRecDepth 100000 in
set_option maxHeartbeats 4000000 in
theorem qs_57 {V : Nat → Nat → Value} {I : Nat → Nat → Int32} {L : Nat → Nat → Int64} {R : Nat → Nat → Option Nat} {tl : am_H} {k : Nat} {x : Int32} (hk : k < 24) : am_pS 0 (.ref 57) (nI k) x (fx V I L R ++ tl) = some (fx V (iup I 57 (upd (I 57) k x)) L R ++ tl) := ev_s (f := I 57) (n := 24) rfl (am_inb_n hk (by omega)) rfl (by rw [nI_clamp (by omega)]; rfl)
set_option maxRecDepth 100000 in
set_option maxHeartbeats 4000000 in
theorem qv_58_0 {V : Nat → Nat → Value} {I : Nat → Nat → Int32} {L : Nat → Nat → Int64} {R : Nat → Nat → Option Nat} {tl : am_H} : am_pG 256 (.ref 58) (fx V I L R ++ tl) = some (V 58 0) := rfl
set_option maxRecDepth 100000 in
set_option maxHeartbeats 4000000 in
theorem qp_58_0 {V : Nat → Nat → Value} {I : Nat → Nat → Int32} {L : Nat → Nat → Int64} {R : Nat → Nat → Option Nat} {tl : am_H} {x : Int32} : am_pP 256 (.ref 58) (.int x) (fx V I L R ++ tl) = some (fx (vup V 58 0 (.int x)) I L R ++ tl) := ev_p rfl rfl rfl rfl
set_option maxRecDepth 100000 in
set_option maxHeartbeats 4000000 in
theorem qr_58_1 {V : Nat → Nat → Value} {I : Nat → Nat → Int32} {L : Nat → Nat → Int64} {R : Nat → Nat → Option Nat} {tl : am_H} : am_pG 257 (.ref 58) (fx V I L R ++ tl) = some (.ref 59) := rfl
set_option maxRecDepth 100000 in
set_option maxHeartbeats 4000000 in
theorem qr_58_2 {V : Nat → Nat → Value} {I : Nat → Nat → Int32} {L : Nat → Nat → Int64} {R : Nat → Nat → Option Nat} {tl : am_H} : am_pG 258 (.ref 58) (fx V I L R ++ tl) = some (.ref 60) := rfl
set_option maxRecDepth 100000 in
set_option maxHeartbeats 4000000 in
theorem qv_58_3 {V : Nat → Nat → Value} {I : Nat → Nat → Int32} {L : Nat → Nat → Int64} {R : Nat → Nat → Option Nat} {tl : am_H} : am_pG 259 (.ref 58) (fx V I L R ++ tl) = some (V 58 3) := rfl
set_option maxRecDepth 100000 in
set_option maxHeartbeats 4000000 in
theorem qp_58_3 {V : Nat → Nat → Value} {I : Nat → Nat → Int32} {L : Nat → Nat → Int64} {R : Nat → Nat → Option Nat} {tl : am_H} {x : Int32} : am_pP 259 (.ref 58) (.int x) (fx V I L R ++ tl) = some (fx (vup V 58 3 (.int x)) I L R ++ tl) := ev_p rfl rfl rfl rfl
set_option maxRecDepth 100000 in
set_option maxHeartbeats 4000000 in
theorem qr_58_4 {V : Nat → Nat → Value} {I : Nat → Nat → Int32} {L : Nat → Nat → Int64} {R : Nat → Nat → Option Nat} {tl : am_H} : am_pG 260 (.ref 58) (fx V I L R ++ tl) = some (.ref 61) := rfl
set_option maxRecDepth 100000 in
set_option maxHeartbeats 4000000 in
theorem qr_58_5 {V : Nat → Nat → Value} {I : Nat → Nat → Int32} {L : Nat → Nat → Int64} {R : Nat → Nat → Option Nat} {tl : am_H} : am_pG 261 (.ref 58) (fx V I L R ++ tl) = some (.ref 62) := rfl
set_option maxRecDepth 100000 in
set_option maxHeartbeats 4000000 in
theorem qr_58_6 {V : Nat → Nat → Value} {I : Nat → Nat → Int32} {L : Nat → Nat → Int64} {R : Nat → Nat → Option Nat} {tl : am_H} : am_pG 262 (.ref 58) (fx V I L R ++ tl) = some (.ref 63) := rfl
set_option maxRecDepth 100000 in
set_option maxHeartbeats 4000000 in
theorem qr_58_7 {V : Nat → Nat → Value} {I : Nat → Nat → Int32} {L : Nat → Nat → Int64} {R : Nat → Nat → Option Nat} {tl : am_H} : am_pG 263 (.ref 58) (fx V I L R ++ tl) = some (.ref 64) := rfl
set_option maxRecDepth 100000 in
set_option maxHeartbeats 4000000 in
theorem qr_58_8 {V : Nat → Nat → Value} {I : Nat → Nat → Int32} {L : Nat → Nat → Int64} {R : Nat → Nat → Option Nat} {tl : am_H} : am_pG 264 (.ref 58) (fx V I L R ++ tl) = some (.ref 65) := rfl
set_option maxRecDepth 100000 in
set_option maxHeartbeats 4000000 in
theorem qr_58_9 {V : Nat → Nat → Value} {I : Nat → Nat → Int32} {L : Nat → Nat → Int64} {R : Nat → Nat → Option Nat} {tl : am_H} : am_pG 265 (.ref 58) (fx V I L R ++ tl) = some (.ref 66) := rfl
set_option maxRecDepth 100000 in
set_option maxHeartbeats 4000000 in
theorem qa_59 {V : Nat → Nat → Value} {I : Nat → Nat → Int32} {L : Nat → Nat → Int64} {R : Nat → Nat → Option Nat} {tl : am_H} {k : Nat} (hk : k < 16) : am_pA 0 (.ref 59) (nI k) (fx V I L R ++ tl) = some (I 59 k) := by rw [ev_a (f := I 59) (n := 16) rfl (am_inb_n hk (by omega)), nI_clamp (by omega)]
set_option maxRecDepth 100000 in
set_option maxHeartbeats 4000000 in
theorem qs_59 {V : Nat → Nat → Value} {I : Nat → Nat → Int32} {L : Nat → Nat → Int64} {R : Nat → Nat → Option Nat} {tl : am_H} {k : Nat} {x : Int32} (hk : k < 16) : am_pS 0 (.ref 59) (nI k) x (fx V I L R ++ tl) = some (fx V (iup I 59 (upd (I 59) k x)) L R ++ tl) := ev_s (f := I 59) (n := 16) rfl (am_inb_n hk (by omega)) rfl (by rw [nI_clamp (by omega)]; rfl)
set_option maxRecDepth 100000 in
set_option maxHeartbeats 4000000 in
theorem qv_60_0 {V : Nat → Nat → Value} {I : Nat → Nat → Int32} {L : Nat → Nat → Int64} {R : Nat → Nat → Option Nat} {tl : am_H} : am_pG 2048 (.ref 60) (fx V I L R ++ tl) = some (V 60 0) := rfl
set_option maxRecDepth 100000 in
set_option maxHeartbeats 4000000 in
theorem qp_60_0 {V : Nat → Nat → Value} {I : Nat → Nat → Int32} {L : Nat → Nat → Int64} {R : Nat → Nat → Option Nat} {tl : am_H} {x : Int64} : am_pP 2048 (.ref 60) (.long x) (fx V I L R ++ tl) = some (fx (vup V 60 0 (.long x)) I L R ++ tl) := ev_p rfl rfl rfl rfl
set_option maxRecDepth 100000 in
set_option maxHeartbeats 4000000 in
theorem qa_61 {V : Nat → Nat → Value} {I : Nat → Nat → Int32} {L : Nat → Nat → Int64} {R : Nat → Nat → Option Nat} {tl : am_H} {k : Nat} (hk : k < 16) : am_pA 0 (.ref 61) (nI k) (fx V I L R ++ tl) = some (I 61 k) := by rw [ev_a (f := I 61) (n := 16) rfl (am_inb_n hk (by omega)), nI_clamp (by omega)]
set_option maxRecDepth 100000 in
set_option maxHeartbeats 4000000 in
theorem qs_61 {V : Nat → Nat → Value} {I : Nat → Nat → Int32} {L : Nat → Nat → Int64} {R : Nat → Nat → Option Nat} {tl : am_H} {k : Nat} {x : Int32} (hk : k < 16) : am_pS 0 (.ref 61) (nI k) x (fx V I L R ++ tl) = some (fx V (iup I 61 (upd (I 61) k x)) L R ++ tl) := ev_s (f := I 61) (n := 16) rfl (am_inb_n hk (by omega)) rfl (by rw [nI_clamp (by omega)]; rfl)
set_option maxRecDepth 100000 in
set_option maxHeartbeats 4000000 in
theorem qa_62 {V : Nat → Nat → Value} {I : Nat → Nat → Int32} {L : Nat → Nat → Int64} {R : Nat → Nat → Option Nat} {tl : am_H} {k : Nat} (hk : k < 16) : am_pAL (.ref 62) (nI k) (fx V I L R ++ tl) = some (L 62 k) := by rw [ev_aL (f := L 62) (n := 16) rfl (am_inb_n hk (by omega)), nI_clamp (by omega)]
set_option maxRecDepth 100000 in
set_option maxHeartbeats 4000000 in
theorem qs_62 {V : Nat → Nat → Value} {I : Nat → Nat → Int32} {L : Nat → Nat → Int64} {R : Nat → Nat → Option Nat} {tl : am_H} {k : Nat} {x : Int64} (hk : k < 16) : am_pSL (.ref 62) (nI k) x (fx V I L R ++ tl) = some (fx V I (lup L 62 (vp_updL (L 62) k x)) R ++ tl) := ev_sL (f := L 62) (n := 16) rfl (am_inb_n hk (by omega)) (by rw [nI_clamp (by omega)]; rfl)
set_option maxRecDepth 100000 in
set_option maxHeartbeats 4000000 in
theorem qa_63 {V : Nat → Nat → Value} {I : Nat → Nat → Int32} {L : Nat → Nat → Int64} {R : Nat → Nat → Option Nat} {tl : am_H} {k : Nat} (hk : k < 16) : am_pA 0 (.ref 63) (nI k) (fx V I L R ++ tl) = some (I 63 k) := by rw [ev_a (f := I 63) (n := 16) rfl (am_inb_n hk (by omega)), nI_clamp (by omega)]
set_option maxRecDepth 100000 in
set_option maxHeartbeats 4000000 in
theorem qs_63 {V : Nat → Nat → Value} {I : Nat → Nat → Int32} {L : Nat → Nat → Int64} {R : Nat → Nat → Option Nat} {tl : am_H} {k : Nat} {x : Int32} (hk : k < 16) : am_pS 0 (.ref 63) (nI k) x (fx V I L R ++ tl) = some (fx V (iup I 63 (upd (I 63) k x)) L R ++ tl) := ev_s (f := I 63) (n := 16) rfl (am_inb_n hk (by omega)) rfl (by rw [nI_clamp (by omega)]; rfl)
set_option maxRecDepth 100000 in
set_option maxHeartbeats 4000000 in
theorem qa_64 {V : Nat → Nat → Value} {I : Nat → Nat → Int32} {L : Nat → Nat → Int64} {R : Nat → Nat → Option Nat} {tl : am_H} {k : Nat} (hk : k < 384) : am_pA 0 (.ref 64) (nI k) (fx V I L R ++ tl) = some (I 64 k) := by rw [ev_a (f := I 64) (n := 384) rfl (am_inb_n hk (by omega)), nI_clamp (by omega)]
set_option maxRecDepth 100000 in
set_option maxHeartbeats 4000000 in
theorem qs_64 {V : Nat → Nat → Value} {I : Nat → Nat → Int32} {L : Nat → Nat → Int64} {R : Nat → Nat → Option Nat} {tl : am_H} {k : Nat} {x : Int32} (hk : k < 384) : am_pS 0 (.ref 64) (nI k) x (fx V I L R ++ tl) = some (fx V (iup I 64 (upd (I 64) k x)) L R ++ tl) := ev_s (f := I 64) (n := 384) rfl (am_inb_n hk (by omega)) rfl (by rw [nI_clamp (by omega)]; rfl)
set_option maxRecDepth 100000 in
set_option maxHeartbeats 4000000 in
theorem qa_65 {V : Nat → Nat → Value} {I : Nat → Nat → Int32} {L : Nat → Nat → Int64} {R : Nat → Nat → Option Nat} {tl : am_H} {k : Nat} (hk : k < 24) : am_pA 0 (.ref 65) (nI k) (fx V I L R ++ tl) = some (I 65 k) := by rw [ev_a (f := I 65) (n := 24) rfl (am_inb_n hk (by omega)), nI_clamp (by omega)]
set_option maxRecDepth 100000 in
set_option maxHeartbeats 4000000 in
theorem qs_65 {V : Nat → Nat → Value} {I : Nat → Nat → Int32} {L : Nat → Nat → Int64} {R : Nat → Nat → Option Nat} {tl : am_H} {k : Nat} {x : Int32} (hk : k < 24) : am_pS 0 (.ref 65) (nI k) x (fx V I L R ++ tl) = some (fx V (iup I 65 (upd (I 65) k x)) L R ++ tl) := ev_s (f := I 65) (n := 24) rfl (am_inb_n hk (by omega)) rfl (by rw [nI_clamp (by omega)]; rfl)
set_option maxRecDepth 100000 in
set_option maxHeartbeats 4000000 in
theorem qa_66 {V : Nat → Nat → Value} {I : Nat → Nat → Int32} {L : Nat → Nat → Int64} {R : Nat → Nat → Option Nat} {tl : am_H} {k : Nat} (hk : k < 24) : am_pA 0 (.ref 66) (nI k) (fx V I L R ++ tl) = some (I 66 k) := by rw [ev_a (f := I 66) (n := 24) rfl (am_inb_n hk (by omega)), nI_clamp (by omega)]
set_option maxRecDepth 100000 in
set_option maxHeartbeats 4000000 in
theorem qs_66 {V : Nat → Nat → Value} {I : Nat → Nat → Int32} {L : Nat → Nat → Int64} {R : Nat → Nat → Option Nat} {tl : am_H} {k : Nat} {x : Int32} (hk : k < 24) : am_pS 0 (.ref 66) (nI k) x (fx V I L R ++ tl) = some (fx V (iup I 66 (upd (I 66) k x)) L R ++ tl) := ev_s (f := I 66) (n := 24) rfl (am_inb_n hk (by omega)) rfl (by rw [nI_clamp (by omega)]; rfl)
set_option maxRecDepth 100000 in
set_option maxHeartbeats 4000000 in
theorem qv_67_0 {V : Nat → Nat → Value} {I : Nat → Nat → Int32} {L : Nat → Nat → Int64} {R : Nat → Nat → Option Nat} {tl : am_H} : am_pG 256 (.ref 67) (fx V I L R ++ tl) = some (V 67 0) := rfl
set_option maxRecDepth 100000 in
set_option maxHeartbeats 4000000 in
theorem qp_67_0 {V : Nat → Nat → Value} {I : Nat → Nat → Int32} {L : Nat → Nat → Int64} {R : Nat → Nat → Option Nat} {tl : am_H} {x : Int32} : am_pP 256 (.ref 67) (.int x) (fx V I L R ++ tl) = some (fx (vup V 67 0 (.int x)) I L R ++ tl) := ev_p rfl rfl rfl rfl
set_option maxRecDepth 100000 in
set_option maxHeartbeats 4000000 in
theorem qr_67_1 {V : Nat → Nat → Value} {I : Nat → Nat → Int32} {L : Nat → Nat → Int64} {R : Nat → Nat → Option Nat} {tl : am_H} : am_pG 257 (.ref 67) (fx V I L R ++ tl) = some (.ref 68) := rfl
set_option maxRecDepth 100000 in
set_option maxHeartbeats 4000000 in
theorem qr_67_2 {V : Nat → Nat → Value} {I : Nat → Nat → Int32} {L : Nat → Nat → Int64} {R : Nat → Nat → Option Nat} {tl : am_H} : am_pG 258 (.ref 67) (fx V I L R ++ tl) = some (.ref 69) := rfl
set_option maxRecDepth 100000 in
set_option maxHeartbeats 4000000 in
theorem qv_67_3 {V : Nat → Nat → Value} {I : Nat → Nat → Int32} {L : Nat → Nat → Int64} {R : Nat → Nat → Option Nat} {tl : am_H} : am_pG 259 (.ref 67) (fx V I L R ++ tl) = some (V 67 3) := rfl
set_option maxRecDepth 100000 in
set_option maxHeartbeats 4000000 in
theorem qp_67_3 {V : Nat → Nat → Value} {I : Nat → Nat → Int32} {L : Nat → Nat → Int64} {R : Nat → Nat → Option Nat} {tl : am_H} {x : Int32} : am_pP 259 (.ref 67) (.int x) (fx V I L R ++ tl) = some (fx (vup V 67 3 (.int x)) I L R ++ tl) := ev_p rfl rfl rfl rfl
set_option maxRecDepth 100000 in
set_option maxHeartbeats 4000000 in
theorem qr_67_4 {V : Nat → Nat → Value} {I : Nat → Nat → Int32} {L : Nat → Nat → Int64} {R : Nat → Nat → Option Nat} {tl : am_H} : am_pG 260 (.ref 67) (fx V I L R ++ tl) = some (.ref 70) := rfl
set_option maxRecDepth 100000 in
set_option maxHeartbeats 4000000 in
theorem qr_67_5 {V : Nat → Nat → Value} {I : Nat → Nat → Int32} {L : Nat → Nat → Int64} {R : Nat → Nat → Option Nat} {tl : am_H} : am_pG 261 (.ref 67) (fx V I L R ++ tl) = some (.ref 71) := rfl
set_option maxRecDepth 100000 in
set_option maxHeartbeats 4000000 in
theorem qr_67_6 {V : Nat → Nat → Value} {I : Nat → Nat → Int32} {L : Nat → Nat → Int64} {R : Nat → Nat → Option Nat} {tl : am_H} : am_pG 262 (.ref 67) (fx V I L R ++ tl) = some (.ref 72) := rfl
set_option maxRecDepth 100000 in
set_option maxHeartbeats 4000000 in
theorem qr_67_7 {V : Nat → Nat → Value} {I : Nat → Nat → Int32} {L : Nat → Nat → Int64} {R : Nat → Nat → Option Nat} {tl : am_H} : am_pG 263 (.ref 67) (fx V I L R ++ tl) = some (.ref 73) := rfl
set_option maxRecDepth 100000 in
set_option maxHeartbeats 4000000 in
theorem qr_67_8 {V : Nat → Nat → Value} {I : Nat → Nat → Int32} {L : Nat → Nat → Int64} {R : Nat → Nat → Option Nat} {tl : am_H} : am_pG 264 (.ref 67) (fx V I L R ++ tl) = some (.ref 74) := rfl
set_option maxRecDepth 100000 in
set_option maxHeartbeats 4000000 in
theorem qr_67_9 {V : Nat → Nat → Value} {I : Nat → Nat → Int32} {L : Nat → Nat → Int64} {R : Nat → Nat → Option Nat} {tl : am_H} : am_pG 265 (.ref 67) (fx V I L R ++ tl) = some (.ref 75) := rfl
set_option maxRecDepth 100000 in
set_option maxHeartbeats 4000000 in
theorem qa_68 {V : Nat → Nat → Value} {I : Nat → Nat → Int32} {L : Nat → Nat → Int64} {R : Nat → Nat → Option Nat} {tl : am_H} {k : Nat} (hk : k < 16) : am_pA 0 (.ref 68) (nI k) (fx V I L R ++ tl) = some (I 68 k) := by rw [ev_a (f := I 68) (n := 16) rfl (am_inb_n hk (by omega)), nI_clamp (by omega)]
set_option maxRecDepth 100000 in
set_option maxHeartbeats 4000000 in
theorem qs_68 {V : Nat → Nat → Value} {I : Nat → Nat → Int32} {L : Nat → Nat → Int64} {R : Nat → Nat → Option Nat} {tl : am_H} {k : Nat} {x : Int32} (hk : k < 16) : am_pS 0 (.ref 68) (nI k) x (fx V I L R ++ tl) = some (fx V (iup I 68 (upd (I 68) k x)) L R ++ tl) := ev_s (f := I 68) (n := 16) rfl (am_inb_n hk (by omega)) rfl (by rw [nI_clamp (by omega)]; rfl)
set_option maxRecDepth 100000 in
set_option maxHeartbeats 4000000 in
theorem qv_69_0 {V : Nat → Nat → Value} {I : Nat → Nat → Int32} {L : Nat → Nat → Int64} {R : Nat → Nat → Option Nat} {tl : am_H} : am_pG 2048 (.ref 69) (fx V I L R ++ tl) = some (V 69 0) := rfl
set_option maxRecDepth 100000 in
set_option maxHeartbeats 4000000 in
theorem qp_69_0 {V : Nat → Nat → Value} {I : Nat → Nat → Int32} {L : Nat → Nat → Int64} {R : Nat → Nat → Option Nat} {tl : am_H} {x : Int64} : am_pP 2048 (.ref 69) (.long x) (fx V I L R ++ tl) = some (fx (vup V 69 0 (.long x)) I L R ++ tl) := ev_p rfl rfl rfl rfl
set_option maxRecDepth 100000 in
set_option maxHeartbeats 4000000 in
theorem qa_70 {V : Nat → Nat → Value} {I : Nat → Nat → Int32} {L : Nat → Nat → Int64} {R : Nat → Nat → Option Nat} {tl : am_H} {k : Nat} (hk : k < 16) : am_pA 0 (.ref 70) (nI k) (fx V I L R ++ tl) = some (I 70 k) := by rw [ev_a (f := I 70) (n := 16) rfl (am_inb_n hk (by omega)), nI_clamp (by omega)]
set_option maxRecDepth 100000 in
set_option maxHeartbeats 4000000 in
theorem qs_70 {V : Nat → Nat → Value} {I : Nat → Nat → Int32} {L : Nat → Nat → Int64} {R : Nat → Nat → Option Nat} {tl : am_H} {k : Nat} {x : Int32} (hk : k < 16) : am_pS 0 (.ref 70) (nI k) x (fx V I L R ++ tl) = some (fx V (iup I 70 (upd (I 70) k x)) L R ++ tl) := ev_s (f := I 70) (n := 16) rfl (am_inb_n hk (by omega)) rfl (by rw [nI_clamp (by omega)]; rfl)
set_option maxRecDepth 100000 in
set_option maxHeartbeats 4000000 in
theorem qa_71 {V : Nat → Nat → Value} {I : Nat → Nat → Int32} {L : Nat → Nat → Int64} {R : Nat → Nat → Option Nat} {tl : am_H} {k : Nat} (hk : k < 16) : am_pAL (.ref 71) (nI k) (fx V I L R ++ tl) = some (L 71 k) := by rw [ev_aL (f := L 71) (n := 16) rfl (am_inb_n hk (by omega)), nI_clamp (by omega)]
set_option maxRecDepth 100000 in
set_option maxHeartbeats 4000000 in
theorem qs_71 {V : Nat → Nat → Value} {I : Nat → Nat → Int32} {L : Nat → Nat → Int64} {R : Nat → Nat → Option Nat} {tl : am_H} {k : Nat} {x : Int64} (hk : k < 16) : am_pSL (.ref 71) (nI k) x (fx V I L R ++ tl) = some (fx V I (lup L 71 (vp_updL (L 71) k x)) R ++ tl) := ev_sL (f := L 71) (n := 16) rfl (am_inb_n hk (by omega)) (by rw [nI_clamp (by omega)]; rfl)
set_option maxRecDepth 100000 in
set_option maxHeartbeats 4000000 in
theorem qa_72 {V : Nat → Nat → Value} {I : Nat → Nat → Int32} {L : Nat → Nat → Int64} {R : Nat → Nat → Option Nat} {tl : am_H} {k : Nat} (hk : k < 16) : am_pA 0 (.ref 72) (nI k) (fx V I L R ++ tl) = some (I 72 k) := by rw [ev_a (f := I 72) (n := 16) rfl (am_inb_n hk (by omega)), nI_clamp (by omega)]
set_option maxRecDepth 100000 in
set_option maxHeartbeats 4000000 in
theorem qs_72 {V : Nat → Nat → Value} {I : Nat → Nat → Int32} {L : Nat → Nat → Int64} {R : Nat → Nat → Option Nat} {tl : am_H} {k : Nat} {x : Int32} (hk : k < 16) : am_pS 0 (.ref 72) (nI k) x (fx V I L R ++ tl) = some (fx V (iup I 72 (upd (I 72) k x)) L R ++ tl) := ev_s (f := I 72) (n := 16) rfl (am_inb_n hk (by omega)) rfl (by rw [nI_clamp (by omega)]; rfl)
set_option maxRecDepth 100000 in
set_option maxHeartbeats 4000000 in
theorem qa_73 {V : Nat → Nat → Value} {I : Nat → Nat → Int32} {L : Nat → Nat → Int64} {R : Nat → Nat → Option Nat} {tl : am_H} {k : Nat} (hk : k < 384) : am_pA 0 (.ref 73) (nI k) (fx V I L R ++ tl) = some (I 73 k) := by rw [ev_a (f := I 73) (n := 384) rfl (am_inb_n hk (by omega)), nI_clamp (by omega)]
set_option maxRecDepth 100000 in
set_option maxHeartbeats 4000000 in
theorem qs_73 {V : Nat → Nat → Value} {I : Nat → Nat → Int32} {L : Nat → Nat → Int64} {R : Nat → Nat → Option Nat} {tl : am_H} {k : Nat} {x : Int32} (hk : k < 384) : am_pS 0 (.ref 73) (nI k) x (fx V I L R ++ tl) = some (fx V (iup I 73 (upd (I 73) k x)) L R ++ tl) := ev_s (f := I 73) (n := 384) rfl (am_inb_n hk (by omega)) rfl (by rw [nI_clamp (by omega)]; rfl)
set_option maxRecDepth 100000 in
set_option maxHeartbeats 4000000 in
theorem qa_74 {V : Nat → Nat → Value} {I : Nat → Nat → Int32} {L : Nat → Nat → Int64} {R : Nat → Nat → Option Nat} {tl : am_H} {k : Nat} (hk : k < 24) : am_pA 0 (.ref 74) (nI k) (fx V I L R ++ tl) = some (I 74 k) := by rw [ev_a (f := I 74) (n := 24) rfl (am_inb_n hk (by omega)), nI_clamp (by omega)]
set_option maxRecDepth 100000 in
set_option maxHeartbeats 4000000 in
theorem qs_74 {V : Nat → Nat → Value} {I : Nat → Nat → Int32} {L : Nat → Nat → Int64} {R : Nat → Nat → Option Nat} {tl : am_H} {k : Nat} {x : Int32} (hk : k < 24) : am_pS 0 (.ref 74) (nI k) x (fx V I L R ++ tl) = some (fx V (iup I 74 (upd (I 74) k x)) L R ++ tl) := ev_s (f := I 74) (n := 24) rfl (am_inb_n hk (by omega)) rfl (by rw [nI_clamp (by omega)]; rfl)
set_option maxRecDepth 100000 in
set_option maxHeartbeats 4000000 in
theorem qa_75 {V : Nat → Nat → Value} {I : Nat → Nat → Int32} {L : Nat → Nat → Int64} {R : Nat → Nat → Option Nat} {tl : am_H} {k : Nat} (hk : k < 24) : am_pA 0 (.ref 75) (nI k) (fx V I L R ++ tl) = some (I 75 k) := by rw [ev_a (f := I 75) (n := 24) rfl (am_inb_n hk (by omega)), nI_clamp (by omega)]
set_option maxRecDepth 100000 in
set_option maxHeartbeats 4000000 in
theorem qs_75 {V : Nat → Nat → Value} {I : Nat → Nat → Int32} {L : Nat → Nat → Int64} {R : Nat → Nat → Option Nat} {tl : am_H} {k : Nat} {x : Int32} (hk : k < 24) : am_pS 0 (.ref 75) (nI k) x (fx V I L R ++ tl) = some (fx V (iup I 75 (upd (I 75) k x)) L R ++ tl) := ev_s (f := I 75) (n := 24) rfl (am_inb_n hk (by omega)) rfl (by rw [nI_clamp (by omega)]; rfl)
set_option maxRecDepth 100000 in
set_option maxHeartbeats 4000000 in
theorem qr_76_0 {V : Nat → Nat → Value} {I : Nat → Nat → Int32} {L : Nat → Nat → Int64} {R : Nat → Nat → Option Nat} {tl : am_H} : am_pG 1024 (.ref 76) (fx V I L R ++ tl) = some (.ref 77) := rfl
set_option maxRecDepth 100000 in
set_option maxHeartbeats 4000000 in
theorem qr_76_1 {V : Nat → Nat → Value} {I : Nat → Nat → Int32} {L : Nat → Nat → Int64} {R : Nat → Nat → Option Nat} {tl : am_H} : am_pG 1025 (.ref 76) (fx V I L R ++ tl) = some (.ref 78) := rfl
set_option maxRecDepth 100000 in
set_option maxHeartbeats 4000000 in
theorem qr_76_2 {V : Nat → Nat → Value} {I : Nat → Nat → Int32} {L : Nat → Nat → Int64} {R : Nat → Nat → Option Nat} {tl : am_H} : am_pG 1026 (.ref 76) (fx V I L R ++ tl) = some (.ref 79) := rfl
set_option maxRecDepth 100000 in
set_option maxHeartbeats 4000000 in
theorem qv_76_3 {V : Nat → Nat → Value} {I : Nat → Nat → Int32} {L : Nat → Nat → Int64} {R : Nat → Nat → Option Nat} {tl : am_H} : am_pG 1027 (.ref 76) (fx V I L R ++ tl) = some (V 76 3) := rfl
set_option maxRecDepth 100000 in
set_option maxHeartbeats 4000000 in
theorem qp_76_3 {V : Nat → Nat → Value} {I : Nat → Nat → Int32} {L : Nat → Nat → Int64} {R : Nat → Nat → Option Nat} {tl : am_H} {x : Nat} : am_pP 1027 (.ref 76) (.ref x) (fx V I L R ++ tl) = some (fx (vup V 76 3 (.ref x)) I L R ++ tl) := ev_p rfl rfl rfl rfl
set_option maxRecDepth 100000 in
set_option maxHeartbeats 4000000 in
theorem qr_76_4 {V : Nat → Nat → Value} {I : Nat → Nat → Int32} {L : Nat → Nat → Int64} {R : Nat → Nat → Option Nat} {tl : am_H} : am_pG 1028 (.ref 76) (fx V I L R ++ tl) = some (.ref 87) := rfl
set_option maxRecDepth 100000 in
set_option maxHeartbeats 4000000 in
theorem qr_76_5 {V : Nat → Nat → Value} {I : Nat → Nat → Int32} {L : Nat → Nat → Int64} {R : Nat → Nat → Option Nat} {tl : am_H} : am_pG 1029 (.ref 76) (fx V I L R ++ tl) = some (.ref 88) := rfl
set_option maxRecDepth 100000 in
set_option maxHeartbeats 4000000 in
theorem qv_76_6 {V : Nat → Nat → Value} {I : Nat → Nat → Int32} {L : Nat → Nat → Int64} {R : Nat → Nat → Option Nat} {tl : am_H} : am_pG 1030 (.ref 76) (fx V I L R ++ tl) = some (V 76 6) := rfl
set_option maxRecDepth 100000 in
set_option maxHeartbeats 4000000 in
theorem qp_76_6 {V : Nat → Nat → Value} {I : Nat → Nat → Int32} {L : Nat → Nat → Int64} {R : Nat → Nat → Option Nat} {tl : am_H} {x : Int32} : am_pP 1030 (.ref 76) (.int x) (fx V I L R ++ tl) = some (fx (vup V 76 6 (.int x)) I L R ++ tl) := ev_p rfl rfl rfl rfl
set_option maxRecDepth 100000 in
set_option maxHeartbeats 4000000 in
theorem qv_76_7 {V : Nat → Nat → Value} {I : Nat → Nat → Int32} {L : Nat → Nat → Int64} {R : Nat → Nat → Option Nat} {tl : am_H} : am_pG 1031 (.ref 76) (fx V I L R ++ tl) = some (V 76 7) := rfl
set_option maxRecDepth 100000 in
set_option maxHeartbeats 4000000 in
theorem qp_76_7 {V : Nat → Nat → Value} {I : Nat → Nat → Int32} {L : Nat → Nat → Int64} {R : Nat → Nat → Option Nat} {tl : am_H} {x : Nat} : am_pP 1031 (.ref 76) (.ref x) (fx V I L R ++ tl) = some (fx (vup V 76 7 (.ref x)) I L R ++ tl) := ev_p rfl rfl rfl rfl
set_option maxRecDepth 100000 in
set_option maxHeartbeats 4000000 in
theorem qv_76_8 {V : Nat → Nat → Value} {I : Nat → Nat → Int32} {L : Nat → Nat → Int64} {R : Nat → Nat → Option Nat} {tl : am_H} : am_pG 1032 (.ref 76) (fx V I L R ++ tl) = some (V 76 8) := rfl
set_option maxRecDepth 100000 in
set_option maxHeartbeats 4000000 in
theorem qp_76_8 {V : Nat → Nat → Value} {I : Nat → Nat → Int32} {L : Nat → Nat → Int64} {R : Nat → Nat → Option Nat} {tl : am_H} {x : Int32} : am_pP 1032 (.ref 76) (.int x) (fx V I L R ++ tl) = some (fx (vup V 76 8 (.int x)) I L R ++ tl) := ev_p rfl rfl rfl rfl
set_option maxRecDepth 100000 in
set_option maxHeartbeats 4000000 in
theorem qa_77 {V : Nat → Nat → Value} {I : Nat → Nat → Int32} {L : Nat → Nat → Int64} {R : Nat → Nat → Option Nat} {tl : am_H} {k : Nat} (hk : k < 1638) : am_pAL (.ref 77) (nI k) (fx V I L R ++ tl) = some (L 77 k) := by rw [ev_aL (f := L 77) (n := 1638) rfl (am_inb_n hk (by omega)), nI_clamp (by omega)]
set_option maxRecDepth 100000 in
set_option maxHeartbeats 4000000 in
theorem qs_77 {V : Nat → Nat → Value} {I : Nat → Nat → Int32} {L : Nat → Nat → Int64} {R : Nat → Nat → Option Nat} {tl : am_H} {k : Nat} {x : Int64} (hk : k < 1638) : am_pSL (.ref 77) (nI k) x (fx V I L R ++ tl) = some (fx V I (lup L 77 (vp_updL (L 77) k x)) R ++ tl) := ev_sL (f := L 77) (n := 1638) rfl (am_inb_n hk (by omega)) (by rw [nI_clamp (by omega)]; rfl)
set_option maxRecDepth 100000 in
set_option maxHeartbeats 4000000 in
theorem qa_78 {V : Nat → Nat → Value} {I : Nat → Nat → Int32} {L : Nat → Nat → Int64} {R : Nat → Nat → Option Nat} {tl : am_H} {k : Nat} (hk : k < 78) : am_pAL (.ref 78) (nI k) (fx V I L R ++ tl) = some (L 78 k) := by rw [ev_aL (f := L 78) (n := 78) rfl (am_inb_n hk (by omega)), nI_clamp (by omega)]
set_option maxRecDepth 100000 in
set_option maxHeartbeats 4000000 in
theorem qs_78 {V : Nat → Nat → Value} {I : Nat → Nat → Int32} {L : Nat → Nat → Int64} {R : Nat → Nat → Option Nat} {tl : am_H} {k : Nat} {x : Int64} (hk : k < 78) : am_pSL (.ref 78) (nI k) x (fx V I L R ++ tl) = some (fx V I (lup L 78 (vp_updL (L 78) k x)) R ++ tl) := ev_sL (f := L 78) (n := 78) rfl (am_inb_n hk (by omega)) (by rw [nI_clamp (by omega)]; rfl)
set_option maxRecDepth 100000 in
set_option maxHeartbeats 4000000 in
theorem qr_79_0 {V : Nat → Nat → Value} {I : Nat → Nat → Int32} {L : Nat → Nat → Int64} {R : Nat → Nat → Option Nat} {tl : am_H} : am_pG 1792 (.ref 79) (fx V I L R ++ tl) = some (.ref 80) := rfl
set_option maxRecDepth 100000 in
set_option maxHeartbeats 4000000 in
theorem qr_79_1 {V : Nat → Nat → Value} {I : Nat → Nat → Int32} {L : Nat → Nat → Int64} {R : Nat → Nat → Option Nat} {tl : am_H} : am_pG 1793 (.ref 79) (fx V I L R ++ tl) = some (.ref 81) := rfl
set_option maxRecDepth 100000 in
set_option maxHeartbeats 4000000 in
theorem qr_79_2 {V : Nat → Nat → Value} {I : Nat → Nat → Int32} {L : Nat → Nat → Int64} {R : Nat → Nat → Option Nat} {tl : am_H} : am_pG 1794 (.ref 79) (fx V I L R ++ tl) = some (.ref 82) := rfl
set_option maxRecDepth 100000 in
set_option maxHeartbeats 4000000 in
theorem qr_79_3 {V : Nat → Nat → Value} {I : Nat → Nat → Int32} {L : Nat → Nat → Int64} {R : Nat → Nat → Option Nat} {tl : am_H} : am_pG 1795 (.ref 79) (fx V I L R ++ tl) = some (.ref 83) := rfl
set_option maxRecDepth 100000 in
set_option maxHeartbeats 4000000 in
theorem qr_79_4 {V : Nat → Nat → Value} {I : Nat → Nat → Int32} {L : Nat → Nat → Int64} {R : Nat → Nat → Option Nat} {tl : am_H} : am_pG 1796 (.ref 79) (fx V I L R ++ tl) = some (.ref 84) := rfl
set_option maxRecDepth 100000 in
set_option maxHeartbeats 4000000 in
theorem qr_79_5 {V : Nat → Nat → Value} {I : Nat → Nat → Int32} {L : Nat → Nat → Int64} {R : Nat → Nat → Option Nat} {tl : am_H} : am_pG 1797 (.ref 79) (fx V I L R ++ tl) = some (.ref 85) := rfl
set_option maxRecDepth 100000 in
set_option maxHeartbeats 4000000 in
theorem qr_79_6 {V : Nat → Nat → Value} {I : Nat → Nat → Int32} {L : Nat → Nat → Int64} {R : Nat → Nat → Option Nat} {tl : am_H} : am_pG 1798 (.ref 79) (fx V I L R ++ tl) = some (.ref 86) := rfl
set_option maxRecDepth 100000 in
set_option maxHeartbeats 4000000 in
theorem qv_79_7 {V : Nat → Nat → Value} {I : Nat → Nat → Int32} {L : Nat → Nat → Int64} {R : Nat → Nat → Option Nat} {tl : am_H} : am_pG 1799 (.ref 79) (fx V I L R ++ tl) = some (V 79 7) := rfl
set_option maxRecDepth 100000 in
set_option maxHeartbeats 4000000 in
theorem qp_79_7 {V : Nat → Nat → Value} {I : Nat → Nat → Int32} {L : Nat → Nat → Int64} {R : Nat → Nat → Option Nat} {tl : am_H} {x : Int32} : am_pP 1799 (.ref 79) (.int x) (fx V I L R ++ tl) = some (fx (vup V 79 7 (.int x)) I L R ++ tl) := ev_p rfl rfl rfl rfl
set_option maxRecDepth 100000 in
set_option maxHeartbeats 4000000 in
theorem qa_80 {V : Nat → Nat → Value} {I : Nat → Nat → Int32} {L : Nat → Nat → Int64} {R : Nat → Nat → Option Nat} {tl : am_H} {k : Nat} (hk : k < 60) : am_pA 0 (.ref 80) (nI k) (fx V I L R ++ tl) = some (I 80 k) := by rw [ev_a (f := I 80) (n := 60) rfl (am_inb_n hk (by omega)), nI_clamp (by omega)]
set_option maxRecDepth 100000 in
set_option maxHeartbeats 4000000 in
theorem qs_80 {V : Nat → Nat → Value} {I : Nat → Nat → Int32} {L : Nat → Nat → Int64} {R : Nat → Nat → Option Nat} {tl : am_H} {k : Nat} {x : Int32} (hk : k < 60) : am_pS 0 (.ref 80) (nI k) x (fx V I L R ++ tl) = some (fx V (iup I 80 (upd (I 80) k x)) L R ++ tl) := ev_s (f := I 80) (n := 60) rfl (am_inb_n hk (by omega)) rfl (by rw [nI_clamp (by omega)]; rfl)
set_option maxRecDepth 100000 in
set_option maxHeartbeats 4000000 in
theorem qa_81 {V : Nat → Nat → Value} {I : Nat → Nat → Int32} {L : Nat → Nat → Int64} {R : Nat → Nat → Option Nat} {tl : am_H} {k : Nat} (hk : k < 60) : am_pA 0 (.ref 81) (nI k) (fx V I L R ++ tl) = some (I 81 k) := by rw [ev_a (f := I 81) (n := 60) rfl (am_inb_n hk (by omega)), nI_clamp (by omega)]
set_option maxRecDepth 100000 in
set_option maxHeartbeats 4000000 in
theorem qs_81 {V : Nat → Nat → Value} {I : Nat → Nat → Int32} {L : Nat → Nat → Int64} {R : Nat → Nat → Option Nat} {tl : am_H} {k : Nat} {x : Int32} (hk : k < 60) : am_pS 0 (.ref 81) (nI k) x (fx V I L R ++ tl) = some (fx V (iup I 81 (upd (I 81) k x)) L R ++ tl) := ev_s (f := I 81) (n := 60) rfl (am_inb_n hk (by omega)) rfl (by rw [nI_clamp (by omega)]; rfl)
set_option maxRecDepth 100000 in
set_option maxHeartbeats 4000000 in
theorem qa_82 {V : Nat → Nat → Value} {I : Nat → Nat → Int32} {L : Nat → Nat → Int64} {R : Nat → Nat → Option Nat} {tl : am_H} {k : Nat} (hk : k < 60) : am_pA 0 (.ref 82) (nI k) (fx V I L R ++ tl) = some (I 82 k) := by rw [ev_a (f := I 82) (n := 60) rfl (am_inb_n hk (by omega)), nI_clamp (by omega)]
set_option maxRecDepth 100000 in
set_option maxHeartbeats 4000000 in
theorem qs_82 {V : Nat → Nat → Value} {I : Nat → Nat → Int32} {L : Nat → Nat → Int64} {R : Nat → Nat → Option Nat} {tl : am_H} {k : Nat} {x : Int32} (hk : k < 60) : am_pS 0 (.ref 82) (nI k) x (fx V I L R ++ tl) = some (fx V (iup I 82 (upd (I 82) k x)) L R ++ tl) := ev_s (f := I 82) (n := 60) rfl (am_inb_n hk (by omega)) rfl (by rw [nI_clamp (by omega)]; rfl)
set_option maxRecDepth 100000 in
set_option maxHeartbeats 4000000 in
theorem qa_83 {V : Nat → Nat → Value} {I : Nat → Nat → Int32} {L : Nat → Nat → Int64} {R : Nat → Nat → Option Nat} {tl : am_H} {k : Nat} (hk : k < 60) : am_pA 2 (.ref 83) (nI k) (fx V I L R ++ tl) = some (I 83 k) := by rw [ev_a (f := I 83) (n := 60) rfl (am_inb_n hk (by omega)), nI_clamp (by omega)]
set_option maxRecDepth 100000 in
set_option maxHeartbeats 4000000 in
theorem qs_83 {V : Nat → Nat → Value} {I : Nat → Nat → Int32} {L : Nat → Nat → Int64} {R : Nat → Nat → Option Nat} {tl : am_H} {k : Nat} {x : Int32} (hk : k < 60) (hx : am_afit 2 x = true) : am_pS 2 (.ref 83) (nI k) x (fx V I L R ++ tl) = some (fx V (iup I 83 (upd (I 83) k x)) L R ++ tl) := ev_s (f := I 83) (n := 60) rfl (am_inb_n hk (by omega)) hx (by rw [nI_clamp (by omega)]; rfl)
set_option maxRecDepth 100000 in
set_option maxHeartbeats 4000000 in
theorem qa_84 {V : Nat → Nat → Value} {I : Nat → Nat → Int32} {L : Nat → Nat → Int64} {R : Nat → Nat → Option Nat} {tl : am_H} {k : Nat} (hk : k < 60) : am_pA 2 (.ref 84) (nI k) (fx V I L R ++ tl) = some (I 84 k) := by rw [ev_a (f := I 84) (n := 60) rfl (am_inb_n hk (by omega)), nI_clamp (by omega)]
set_option maxRecDepth 100000 in
set_option maxHeartbeats 4000000 in
theorem qs_84 {V : Nat → Nat → Value} {I : Nat → Nat → Int32} {L : Nat → Nat → Int64} {R : Nat → Nat → Option Nat} {tl : am_H} {k : Nat} {x : Int32} (hk : k < 60) (hx : am_afit 2 x = true) : am_pS 2 (.ref 84) (nI k) x (fx V I L R ++ tl) = some (fx V (iup I 84 (upd (I 84) k x)) L R ++ tl) := ev_s (f := I 84) (n := 60) rfl (am_inb_n hk (by omega)) hx (by rw [nI_clamp (by omega)]; rfl)
set_option maxRecDepth 100000 in
set_option maxHeartbeats 4000000 in
theorem qa_85 {V : Nat → Nat → Value} {I : Nat → Nat → Int32} {L : Nat → Nat → Int64} {R : Nat → Nat → Option Nat} {tl : am_H} {k : Nat} (hk : k < 60) : am_pA 2 (.ref 85) (nI k) (fx V I L R ++ tl) = some (I 85 k) := by rw [ev_a (f := I 85) (n := 60) rfl (am_inb_n hk (by omega)), nI_clamp (by omega)]
set_option maxRecDepth 100000 in
set_option maxHeartbeats 4000000 in
theorem qs_85 {V : Nat → Nat → Value} {I : Nat → Nat → Int32} {L : Nat → Nat → Int64} {R : Nat → Nat → Option Nat} {tl : am_H} {k : Nat} {x : Int32} (hk : k < 60) (hx : am_afit 2 x = true) : am_pS 2 (.ref 85) (nI k) x (fx V I L R ++ tl) = some (fx V (iup I 85 (upd (I 85) k x)) L R ++ tl) := ev_s (f := I 85) (n := 60) rfl (am_inb_n hk (by omega)) hx (by rw [nI_clamp (by omega)]; rfl)
set_option maxRecDepth 100000 in
set_option maxHeartbeats 4000000 in
theorem qa_86 {V : Nat → Nat → Value} {I : Nat → Nat → Int32} {L : Nat → Nat → Int64} {R : Nat → Nat → Option Nat} {tl : am_H} {k : Nat} (hk : k < 61) : am_pA 0 (.ref 86) (nI k) (fx V I L R ++ tl) = some (I 86 k) := by rw [ev_a (f := I 86) (n := 61) rfl (am_inb_n hk (by omega)), nI_clamp (by omega)]
set_option maxRecDepth 100000 in
set_option maxHeartbeats 4000000 in
theorem qs_86 {V : Nat → Nat → Value} {I : Nat → Nat → Int32} {L : Nat → Nat → Int64} {R : Nat → Nat → Option Nat} {tl : am_H} {k : Nat} {x : Int32} (hk : k < 61) : am_pS 0 (.ref 86) (nI k) x (fx V I L R ++ tl) = some (fx V (iup I 86 (upd (I 86) k x)) L R ++ tl) := ev_s (f := I 86) (n := 61) rfl (am_inb_n hk (by omega)) rfl (by rw [nI_clamp (by omega)]; rfl)
set_option maxRecDepth 100000 in
set_option maxHeartbeats 4000000 in
theorem qa_88 {V : Nat → Nat → Value} {I : Nat → Nat → Int32} {L : Nat → Nat → Int64} {R : Nat → Nat → Option Nat} {tl : am_H} {k : Nat} (hk : k < 24) : am_pA 0 (.ref 88) (nI k) (fx V I L R ++ tl) = some (I 88 k) := by rw [ev_a (f := I 88) (n := 24) rfl (am_inb_n hk (by omega)), nI_clamp (by omega)]
set_option maxRecDepth 100000 in
set_option maxHeartbeats 4000000 in
theorem qs_88 {V : Nat → Nat → Value} {I : Nat → Nat → Int32} {L : Nat → Nat → Int64} {R : Nat → Nat → Option Nat} {tl : am_H} {k : Nat} {x : Int32} (hk : k < 24) : am_pS 0 (.ref 88) (nI k) x (fx V I L R ++ tl) = some (fx V (iup I 88 (upd (I 88) k x)) L R ++ tl) := ev_s (f := I 88) (n := 24) rfl (am_inb_n hk (by omega)) rfl (by rw [nI_clamp (by omega)]; rfl)
set_option maxRecDepth 100000 in
set_option maxHeartbeats 4000000 in
theorem qr_89_0 {V : Nat → Nat → Value} {I : Nat → Nat → Int32} {L : Nat → Nat → Int64} {R : Nat → Nat → Option Nat} {tl : am_H} : am_pG 0 (.ref 89) (fx V I L R ++ tl) = some (.ref 90) := rfl
set_option maxRecDepth 100000 in
set_option maxHeartbeats 4000000 in
theorem qr_89_1 {V : Nat → Nat → Value} {I : Nat → Nat → Int32} {L : Nat → Nat → Int64} {R : Nat → Nat → Option Nat} {tl : am_H} : am_pG 1 (.ref 89) (fx V I L R ++ tl) = some (.ref 92) := rfl
set_option maxRecDepth 100000 in
set_option maxHeartbeats 4000000 in
theorem qr_89_2 {V : Nat → Nat → Value} {I : Nat → Nat → Int32} {L : Nat → Nat → Int64} {R : Nat → Nat → Option Nat} {tl : am_H} : am_pG 2 (.ref 89) (fx V I L R ++ tl) = some (.ref 94) := rfl
set_option maxRecDepth 100000 in
set_option maxHeartbeats 4000000 in
theorem qr_89_3 {V : Nat → Nat → Value} {I : Nat → Nat → Int32} {L : Nat → Nat → Int64} {R : Nat → Nat → Option Nat} {tl : am_H} : am_pG 3 (.ref 89) (fx V I L R ++ tl) = some (.ref 102) := rfl
set_option maxRecDepth 100000 in
set_option maxHeartbeats 4000000 in
theorem qr_89_4 {V : Nat → Nat → Value} {I : Nat → Nat → Int32} {L : Nat → Nat → Int64} {R : Nat → Nat → Option Nat} {tl : am_H} : am_pG 4 (.ref 89) (fx V I L R ++ tl) = some (.ref 110) := rfl
set_option maxRecDepth 100000 in
set_option maxHeartbeats 4000000 in
theorem qv_89_5 {V : Nat → Nat → Value} {I : Nat → Nat → Int32} {L : Nat → Nat → Int64} {R : Nat → Nat → Option Nat} {tl : am_H} : am_pG 5 (.ref 89) (fx V I L R ++ tl) = some (V 89 5) := rfl
set_option maxRecDepth 100000 in
set_option maxHeartbeats 4000000 in
theorem qp_89_5 {V : Nat → Nat → Value} {I : Nat → Nat → Int32} {L : Nat → Nat → Int64} {R : Nat → Nat → Option Nat} {tl : am_H} {x : Nat} : am_pP 5 (.ref 89) (.ref x) (fx V I L R ++ tl) = some (fx (vup V 89 5 (.ref x)) I L R ++ tl) := ev_p rfl rfl rfl rfl
set_option maxRecDepth 100000 in
set_option maxHeartbeats 4000000 in
theorem qv_89_6 {V : Nat → Nat → Value} {I : Nat → Nat → Int32} {L : Nat → Nat → Int64} {R : Nat → Nat → Option Nat} {tl : am_H} : am_pG 6 (.ref 89) (fx V I L R ++ tl) = some (V 89 6) := rfl
set_option maxRecDepth 100000 in
set_option maxHeartbeats 4000000 in
theorem qp_89_6 {V : Nat → Nat → Value} {I : Nat → Nat → Int32} {L : Nat → Nat → Int64} {R : Nat → Nat → Option Nat} {tl : am_H} {x : Nat} : am_pP 6 (.ref 89) (.ref x) (fx V I L R ++ tl) = some (fx (vup V 89 6 (.ref x)) I L R ++ tl) := ev_p rfl rfl rfl rfl
set_option maxRecDepth 100000 in
set_option maxHeartbeats 4000000 in
theorem qv_89_7 {V : Nat → Nat → Value} {I : Nat → Nat → Int32} {L : Nat → Nat → Int64} {R : Nat → Nat → Option Nat} {tl : am_H} : am_pG 7 (.ref 89) (fx V I L R ++ tl) = some (V 89 7) := rfl
set_option maxRecDepth 100000 in
set_option maxHeartbeats 4000000 in
theorem qp_89_7 {V : Nat → Nat → Value} {I : Nat → Nat → Int32} {L : Nat → Nat → Int64} {R : Nat → Nat → Option Nat} {tl : am_H} {x : Int32} : am_pP 7 (.ref 89) (.int x) (fx V I L R ++ tl) = some (fx (vup V 89 7 (.int x)) I L R ++ tl) := ev_p rfl rfl rfl rfl
set_option maxRecDepth 100000 in
set_option maxHeartbeats 4000000 in
theorem qv_89_8 {V : Nat → Nat → Value} {I : Nat → Nat → Int32} {L : Nat → Nat → Int64} {R : Nat → Nat → Option Nat} {tl : am_H} : am_pG 8 (.ref 89) (fx V I L R ++ tl) = some (V 89 8) := rfl
set_option maxRecDepth 100000 in
set_option maxHeartbeats 4000000 in
theorem qp_89_8 {V : Nat → Nat → Value} {I : Nat → Nat → Int32} {L : Nat → Nat → Int64} {R : Nat → Nat → Option Nat} {tl : am_H} {x : Int32} : am_pP 8 (.ref 89) (.int x) (fx V I L R ++ tl) = some (fx (vup V 89 8 (.int x)) I L R ++ tl) := ev_p rfl rfl rfl rfl
set_option maxRecDepth 100000 in
set_option maxHeartbeats 4000000 in
theorem qv_89_9 {V : Nat → Nat → Value} {I : Nat → Nat → Int32} {L : Nat → Nat → Int64} {R : Nat → Nat → Option Nat} {tl : am_H} : am_pG 9 (.ref 89) (fx V I L R ++ tl) = some (V 89 9) := rfl
set_option maxRecDepth 100000 in
set_option maxHeartbeats 4000000 in
theorem qp_89_9 {V : Nat → Nat → Value} {I : Nat → Nat → Int32} {L : Nat → Nat → Int64} {R : Nat → Nat → Option Nat} {tl : am_H} {x : Int32} : am_pP 9 (.ref 89) (.int x) (fx V I L R ++ tl) = some (fx (vup V 89 9 (.int x)) I L R ++ tl) := ev_p rfl rfl rfl rfl
set_option maxRecDepth 100000 in
set_option maxHeartbeats 4000000 in
theorem qv_89_10 {V : Nat → Nat → Value} {I : Nat → Nat → Int32} {L : Nat → Nat → Int64} {R : Nat → Nat → Option Nat} {tl : am_H} : am_pG 10 (.ref 89) (fx V I L R ++ tl) = some (V 89 10) := rfl
set_option maxRecDepth 100000 in
set_option maxHeartbeats 4000000 in
theorem qp_89_10 {V : Nat → Nat → Value} {I : Nat → Nat → Int32} {L : Nat → Nat → Int64} {R : Nat → Nat → Option Nat} {tl : am_H} {x : Nat} : am_pP 10 (.ref 89) (.ref x) (fx V I L R ++ tl) = some (fx (vup V 89 10 (.ref x)) I L R ++ tl) := ev_p rfl rfl rfl rfl
set_option maxRecDepth 100000 in
set_option maxHeartbeats 4000000 in
theorem qv_89_11 {V : Nat → Nat → Value} {I : Nat → Nat → Int32} {L : Nat → Nat → Int64} {R : Nat → Nat → Option Nat} {tl : am_H} : am_pG 11 (.ref 89) (fx V I L R ++ tl) = some (V 89 11) := rfl
set_option maxRecDepth 100000 in
set_option maxHeartbeats 4000000 in
theorem qp_89_11 {V : Nat → Nat → Value} {I : Nat → Nat → Int32} {L : Nat → Nat → Int64} {R : Nat → Nat → Option Nat} {tl : am_H} {x : Int32} : am_pP 11 (.ref 89) (.int x) (fx V I L R ++ tl) = some (fx (vup V 89 11 (.int x)) I L R ++ tl) := ev_p rfl rfl rfl rfl
set_option maxRecDepth 100000 in
set_option maxHeartbeats 4000000 in
theorem qv_89_12 {V : Nat → Nat → Value} {I : Nat → Nat → Int32} {L : Nat → Nat → Int64} {R : Nat → Nat → Option Nat} {tl : am_H} : am_pG 12 (.ref 89) (fx V I L R ++ tl) = some (V 89 12) := rfl
set_option maxRecDepth 100000 in
set_option maxHeartbeats 4000000 in
theorem qp_89_12 {V : Nat → Nat → Value} {I : Nat → Nat → Int32} {L : Nat → Nat → Int64} {R : Nat → Nat → Option Nat} {tl : am_H} {x : Int32} : am_pP 12 (.ref 89) (.int x) (fx V I L R ++ tl) = some (fx (vup V 89 12 (.int x)) I L R ++ tl) := ev_p rfl rfl rfl rfl
set_option maxRecDepth 100000 in
set_option maxHeartbeats 4000000 in
theorem qr_90_0 {V : Nat → Nat → Value} {I : Nat → Nat → Int32} {L : Nat → Nat → Int64} {R : Nat → Nat → Option Nat} {tl : am_H} : am_pG 768 (.ref 90) (fx V I L R ++ tl) = some (.ref 91) := rfl
set_option maxRecDepth 100000 in
set_option maxHeartbeats 4000000 in
theorem qv_90_1 {V : Nat → Nat → Value} {I : Nat → Nat → Int32} {L : Nat → Nat → Int64} {R : Nat → Nat → Option Nat} {tl : am_H} : am_pG 769 (.ref 90) (fx V I L R ++ tl) = some (V 90 1) := rfl
set_option maxRecDepth 100000 in
set_option maxHeartbeats 4000000 in
theorem qp_90_1 {V : Nat → Nat → Value} {I : Nat → Nat → Int32} {L : Nat → Nat → Int64} {R : Nat → Nat → Option Nat} {tl : am_H} {x : Int32} : am_pP 769 (.ref 90) (.int x) (fx V I L R ++ tl) = some (fx (vup V 90 1 (.int x)) I L R ++ tl) := ev_p rfl rfl rfl rfl
set_option maxRecDepth 100000 in
set_option maxHeartbeats 4000000 in
theorem qv_90_2 {V : Nat → Nat → Value} {I : Nat → Nat → Int32} {L : Nat → Nat → Int64} {R : Nat → Nat → Option Nat} {tl : am_H} : am_pG 770 (.ref 90) (fx V I L R ++ tl) = some (V 90 2) := rfl
set_option maxRecDepth 100000 in
set_option maxHeartbeats 4000000 in
theorem qp_90_2 {V : Nat → Nat → Value} {I : Nat → Nat → Int32} {L : Nat → Nat → Int64} {R : Nat → Nat → Option Nat} {tl : am_H} {x : Int32} : am_pP 770 (.ref 90) (.int x) (fx V I L R ++ tl) = some (fx (vup V 90 2 (.int x)) I L R ++ tl) := ev_p rfl rfl rfl rfl
set_option maxRecDepth 100000 in
set_option maxHeartbeats 4000000 in
theorem qv_90_3 {V : Nat → Nat → Value} {I : Nat → Nat → Int32} {L : Nat → Nat → Int64} {R : Nat → Nat → Option Nat} {tl : am_H} : am_pG 771 (.ref 90) (fx V I L R ++ tl) = some (V 90 3) := rfl
set_option maxRecDepth 100000 in
set_option maxHeartbeats 4000000 in
theorem qp_90_3 {V : Nat → Nat → Value} {I : Nat → Nat → Int32} {L : Nat → Nat → Int64} {R : Nat → Nat → Option Nat} {tl : am_H} {x : Int32} : am_pP 771 (.ref 90) (.int x) (fx V I L R ++ tl) = some (fx (vup V 90 3 (.int x)) I L R ++ tl) := ev_p rfl rfl rfl rfl
set_option maxRecDepth 100000 in
set_option maxHeartbeats 4000000 in
theorem qv_90_4 {V : Nat → Nat → Value} {I : Nat → Nat → Int32} {L : Nat → Nat → Int64} {R : Nat → Nat → Option Nat} {tl : am_H} : am_pG 772 (.ref 90) (fx V I L R ++ tl) = some (V 90 4) := rfl
set_option maxRecDepth 100000 in
set_option maxHeartbeats 4000000 in
theorem qp_90_4 {V : Nat → Nat → Value} {I : Nat → Nat → Int32} {L : Nat → Nat → Int64} {R : Nat → Nat → Option Nat} {tl : am_H} {x : Int32} : am_pP 772 (.ref 90) (.int x) (fx V I L R ++ tl) = some (fx (vup V 90 4 (.int x)) I L R ++ tl) := ev_p rfl rfl rfl rfl
set_option maxRecDepth 100000 in
set_option maxHeartbeats 4000000 in
theorem qv_90_5 {V : Nat → Nat → Value} {I : Nat → Nat → Int32} {L : Nat → Nat → Int64} {R : Nat → Nat → Option Nat} {tl : am_H} : am_pG 773 (.ref 90) (fx V I L R ++ tl) = some (V 90 5) := rfl
set_option maxRecDepth 100000 in
set_option maxHeartbeats 4000000 in
theorem qp_90_5 {V : Nat → Nat → Value} {I : Nat → Nat → Int32} {L : Nat → Nat → Int64} {R : Nat → Nat → Option Nat} {tl : am_H} {x : Int32} : am_pP 773 (.ref 90) (.int x) (fx V I L R ++ tl) = some (fx (vup V 90 5 (.int x)) I L R ++ tl) := ev_p rfl rfl rfl rfl
set_option maxRecDepth 100000 in
set_option maxHeartbeats 4000000 in
theorem qv_90_6 {V : Nat → Nat → Value} {I : Nat → Nat → Int32} {L : Nat → Nat → Int64} {R : Nat → Nat → Option Nat} {tl : am_H} : am_pG 774 (.ref 90) (fx V I L R ++ tl) = some (V 90 6) := rfl
set_option maxRecDepth 100000 in
set_option maxHeartbeats 4000000 in
theorem qp_90_6 {V : Nat → Nat → Value} {I : Nat → Nat → Int32} {L : Nat → Nat → Int64} {R : Nat → Nat → Option Nat} {tl : am_H} {x : Int32} : am_pP 774 (.ref 90) (.int x) (fx V I L R ++ tl) = some (fx (vup V 90 6 (.int x)) I L R ++ tl) := ev_p rfl rfl rfl rfl
set_option maxRecDepth 100000 in
set_option maxHeartbeats 4000000 in
theorem qv_90_7 {V : Nat → Nat → Value} {I : Nat → Nat → Int32} {L : Nat → Nat → Int64} {R : Nat → Nat → Option Nat} {tl : am_H} : am_pG 775 (.ref 90) (fx V I L R ++ tl) = some (V 90 7) := rfl
set_option maxRecDepth 100000 in
set_option maxHeartbeats 4000000 in
theorem qp_90_7 {V : Nat → Nat → Value} {I : Nat → Nat → Int32} {L : Nat → Nat → Int64} {R : Nat → Nat → Option Nat} {tl : am_H} {x : Int32} : am_pP 775 (.ref 90) (.int x) (fx V I L R ++ tl) = some (fx (vup V 90 7 (.int x)) I L R ++ tl) := ev_p rfl rfl rfl rfl
set_option maxRecDepth 100000 in
set_option maxHeartbeats 4000000 in
theorem qv_90_8 {V : Nat → Nat → Value} {I : Nat → Nat → Int32} {L : Nat → Nat → Int64} {R : Nat → Nat → Option Nat} {tl : am_H} : am_pG 776 (.ref 90) (fx V I L R ++ tl) = some (V 90 8) := rfl
set_option maxRecDepth 100000 in
set_option maxHeartbeats 4000000 in
theorem qp_90_8 {V : Nat → Nat → Value} {I : Nat → Nat → Int32} {L : Nat → Nat → Int64} {R : Nat → Nat → Option Nat} {tl : am_H} {x : Int32} : am_pP 776 (.ref 90) (.int x) (fx V I L R ++ tl) = some (fx (vup V 90 8 (.int x)) I L R ++ tl) := ev_p rfl rfl rfl rfl
set_option maxRecDepth 100000 in
set_option maxHeartbeats 4000000 in
theorem qv_90_9 {V : Nat → Nat → Value} {I : Nat → Nat → Int32} {L : Nat → Nat → Int64} {R : Nat → Nat → Option Nat} {tl : am_H} : am_pG 777 (.ref 90) (fx V I L R ++ tl) = some (V 90 9) := rfl
set_option maxRecDepth 100000 in
set_option maxHeartbeats 4000000 in
theorem qp_90_9 {V : Nat → Nat → Value} {I : Nat → Nat → Int32} {L : Nat → Nat → Int64} {R : Nat → Nat → Option Nat} {tl : am_H} {x : Int32} : am_pP 777 (.ref 90) (.int x) (fx V I L R ++ tl) = some (fx (vup V 90 9 (.int x)) I L R ++ tl) := ev_p rfl rfl rfl rfl
set_option maxRecDepth 100000 in
set_option maxHeartbeats 4000000 in
theorem qv_90_10 {V : Nat → Nat → Value} {I : Nat → Nat → Int32} {L : Nat → Nat → Int64} {R : Nat → Nat → Option Nat} {tl : am_H} : am_pG 778 (.ref 90) (fx V I L R ++ tl) = some (V 90 10) := rfl
set_option maxRecDepth 100000 in
set_option maxHeartbeats 4000000 in
theorem qp_90_10 {V : Nat → Nat → Value} {I : Nat → Nat → Int32} {L : Nat → Nat → Int64} {R : Nat → Nat → Option Nat} {tl : am_H} {x : Int64} : am_pP 778 (.ref 90) (.long x) (fx V I L R ++ tl) = some (fx (vup V 90 10 (.long x)) I L R ++ tl) := ev_p rfl rfl rfl rfl
set_option maxRecDepth 100000 in
set_option maxHeartbeats 4000000 in
theorem qa_91 {V : Nat → Nat → Value} {I : Nat → Nat → Int32} {L : Nat → Nat → Int64} {R : Nat → Nat → Option Nat} {tl : am_H} {k : Nat} (hk : k < 120) : am_pA 0 (.ref 91) (nI k) (fx V I L R ++ tl) = some (I 91 k) := by rw [ev_a (f := I 91) (n := 120) rfl (am_inb_n hk (by omega)), nI_clamp (by omega)]
set_option maxRecDepth 100000 in
set_option maxHeartbeats 4000000 in
theorem qs_91 {V : Nat → Nat → Value} {I : Nat → Nat → Int32} {L : Nat → Nat → Int64} {R : Nat → Nat → Option Nat} {tl : am_H} {k : Nat} {x : Int32} (hk : k < 120) : am_pS 0 (.ref 91) (nI k) x (fx V I L R ++ tl) = some (fx V (iup I 91 (upd (I 91) k x)) L R ++ tl) := ev_s (f := I 91) (n := 120) rfl (am_inb_n hk (by omega)) rfl (by rw [nI_clamp (by omega)]; rfl)
set_option maxRecDepth 100000 in
set_option maxHeartbeats 4000000 in
theorem qr_92_0 {V : Nat → Nat → Value} {I : Nat → Nat → Int32} {L : Nat → Nat → Int64} {R : Nat → Nat → Option Nat} {tl : am_H} : am_pG 768 (.ref 92) (fx V I L R ++ tl) = some (.ref 93) := rfl
set_option maxRecDepth 100000 in
set_option maxHeartbeats 4000000 in
theorem qv_92_1 {V : Nat → Nat → Value} {I : Nat → Nat → Int32} {L : Nat → Nat → Int64} {R : Nat → Nat → Option Nat} {tl : am_H} : am_pG 769 (.ref 92) (fx V I L R ++ tl) = some (V 92 1) := rfl
set_option maxRecDepth 100000 in
set_option maxHeartbeats 4000000 in
theorem qp_92_1 {V : Nat → Nat → Value} {I : Nat → Nat → Int32} {L : Nat → Nat → Int64} {R : Nat → Nat → Option Nat} {tl : am_H} {x : Int32} : am_pP 769 (.ref 92) (.int x) (fx V I L R ++ tl) = some (fx (vup V 92 1 (.int x)) I L R ++ tl) := ev_p rfl rfl rfl rfl
set_option maxRecDepth 100000 in
set_option maxHeartbeats 4000000 in
theorem qv_92_2 {V : Nat → Nat → Value} {I : Nat → Nat → Int32} {L : Nat → Nat → Int64} {R : Nat → Nat → Option Nat} {tl : am_H} : am_pG 770 (.ref 92) (fx V I L R ++ tl) = some (V 92 2) := rfl
set_option maxRecDepth 100000 in
set_option maxHeartbeats 4000000 in
theorem qp_92_2 {V : Nat → Nat → Value} {I : Nat → Nat → Int32} {L : Nat → Nat → Int64} {R : Nat → Nat → Option Nat} {tl : am_H} {x : Int32} : am_pP 770 (.ref 92) (.int x) (fx V I L R ++ tl) = some (fx (vup V 92 2 (.int x)) I L R ++ tl) := ev_p rfl rfl rfl rfl
set_option maxRecDepth 100000 in
set_option maxHeartbeats 4000000 in
theorem qv_92_3 {V : Nat → Nat → Value} {I : Nat → Nat → Int32} {L : Nat → Nat → Int64} {R : Nat → Nat → Option Nat} {tl : am_H} : am_pG 771 (.ref 92) (fx V I L R ++ tl) = some (V 92 3) := rfl
set_option maxRecDepth 100000 in
set_option maxHeartbeats 4000000 in
theorem qp_92_3 {V : Nat → Nat → Value} {I : Nat → Nat → Int32} {L : Nat → Nat → Int64} {R : Nat → Nat → Option Nat} {tl : am_H} {x : Int32} : am_pP 771 (.ref 92) (.int x) (fx V I L R ++ tl) = some (fx (vup V 92 3 (.int x)) I L R ++ tl) := ev_p rfl rfl rfl rfl
set_option maxRecDepth 100000 in
set_option maxHeartbeats 4000000 in
theorem qv_92_4 {V : Nat → Nat → Value} {I : Nat → Nat → Int32} {L : Nat → Nat → Int64} {R : Nat → Nat → Option Nat} {tl : am_H} : am_pG 772 (.ref 92) (fx V I L R ++ tl) = some (V 92 4) := rfl
set_option maxRecDepth 100000 in
set_option maxHeartbeats 4000000 in
theorem qp_92_4 {V : Nat → Nat → Value} {I : Nat → Nat → Int32} {L : Nat → Nat → Int64} {R : Nat → Nat → Option Nat} {tl : am_H} {x : Int32} : am_pP 772 (.ref 92) (.int x) (fx V I L R ++ tl) = some (fx (vup V 92 4 (.int x)) I L R ++ tl) := ev_p rfl rfl rfl rfl
set_option maxRecDepth 100000 in
set_option maxHeartbeats 4000000 in
theorem qv_92_5 {V : Nat → Nat → Value} {I : Nat → Nat → Int32} {L : Nat → Nat → Int64} {R : Nat → Nat → Option Nat} {tl : am_H} : am_pG 773 (.ref 92) (fx V I L R ++ tl) = some (V 92 5) := rfl
set_option maxRecDepth 100000 in
set_option maxHeartbeats 4000000 in
theorem qp_92_5 {V : Nat → Nat → Value} {I : Nat → Nat → Int32} {L : Nat → Nat → Int64} {R : Nat → Nat → Option Nat} {tl : am_H} {x : Int32} : am_pP 773 (.ref 92) (.int x) (fx V I L R ++ tl) = some (fx (vup V 92 5 (.int x)) I L R ++ tl) := ev_p rfl rfl rfl rfl
set_option maxRecDepth 100000 in
set_option maxHeartbeats 4000000 in
theorem qv_92_6 {V : Nat → Nat → Value} {I : Nat → Nat → Int32} {L : Nat → Nat → Int64} {R : Nat → Nat → Option Nat} {tl : am_H} : am_pG 774 (.ref 92) (fx V I L R ++ tl) = some (V 92 6) := rfl
set_option maxRecDepth 100000 in
set_option maxHeartbeats 4000000 in
theorem qp_92_6 {V : Nat → Nat → Value} {I : Nat → Nat → Int32} {L : Nat → Nat → Int64} {R : Nat → Nat → Option Nat} {tl : am_H} {x : Int32} : am_pP 774 (.ref 92) (.int x) (fx V I L R ++ tl) = some (fx (vup V 92 6 (.int x)) I L R ++ tl) := ev_p rfl rfl rfl rfl
set_option maxRecDepth 100000 in
set_option maxHeartbeats 4000000 in
theorem qv_92_7 {V : Nat → Nat → Value} {I : Nat → Nat → Int32} {L : Nat → Nat → Int64} {R : Nat → Nat → Option Nat} {tl : am_H} : am_pG 775 (.ref 92) (fx V I L R ++ tl) = some (V 92 7) := rfl
set_option maxRecDepth 100000 in
set_option maxHeartbeats 4000000 in
theorem qp_92_7 {V : Nat → Nat → Value} {I : Nat → Nat → Int32} {L : Nat → Nat → Int64} {R : Nat → Nat → Option Nat} {tl : am_H} {x : Int32} : am_pP 775 (.ref 92) (.int x) (fx V I L R ++ tl) = some (fx (vup V 92 7 (.int x)) I L R ++ tl) := ev_p rfl rfl rfl rfl
set_option maxRecDepth 100000 in
set_option maxHeartbeats 4000000 in
theorem qv_92_8 {V : Nat → Nat → Value} {I : Nat → Nat → Int32} {L : Nat → Nat → Int64} {R : Nat → Nat → Option Nat} {tl : am_H} : am_pG 776 (.ref 92) (fx V I L R ++ tl) = some (V 92 8) := rfl
set_option maxRecDepth 100000 in
set_option maxHeartbeats 4000000 in
theorem qp_92_8 {V : Nat → Nat → Value} {I : Nat → Nat → Int32} {L : Nat → Nat → Int64} {R : Nat → Nat → Option Nat} {tl : am_H} {x : Int32} : am_pP 776 (.ref 92) (.int x) (fx V I L R ++ tl) = some (fx (vup V 92 8 (.int x)) I L R ++ tl) := ev_p rfl rfl rfl rfl
set_option maxRecDepth 100000 in
set_option maxHeartbeats 4000000 in
theorem qv_92_9 {V : Nat → Nat → Value} {I : Nat → Nat → Int32} {L : Nat → Nat → Int64} {R : Nat → Nat → Option Nat} {tl : am_H} : am_pG 777 (.ref 92) (fx V I L R ++ tl) = some (V 92 9) := rfl
set_option maxRecDepth 100000 in
set_option maxHeartbeats 4000000 in
theorem qp_92_9 {V : Nat → Nat → Value} {I : Nat → Nat → Int32} {L : Nat → Nat → Int64} {R : Nat → Nat → Option Nat} {tl : am_H} {x : Int32} : am_pP 777 (.ref 92) (.int x) (fx V I L R ++ tl) = some (fx (vup V 92 9 (.int x)) I L R ++ tl) := ev_p rfl rfl rfl rfl
set_option maxRecDepth 100000 in
set_option maxHeartbeats 4000000 in
theorem qv_92_10 {V : Nat → Nat → Value} {I : Nat → Nat → Int32} {L : Nat → Nat → Int64} {R : Nat → Nat → Option Nat} {tl : am_H} : am_pG 778 (.ref 92) (fx V I L R ++ tl) = some (V 92 10) := rfl
set_option maxRecDepth 100000 in
set_option maxHeartbeats 4000000 in
theorem qp_92_10 {V : Nat → Nat → Value} {I : Nat → Nat → Int32} {L : Nat → Nat → Int64} {R : Nat → Nat → Option Nat} {tl : am_H} {x : Int64} : am_pP 778 (.ref 92) (.long x) (fx V I L R ++ tl) = some (fx (vup V 92 10 (.long x)) I L R ++ tl) := ev_p rfl rfl rfl rfl
