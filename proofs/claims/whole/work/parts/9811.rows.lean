/-! ===== reads and writes of the fixed cells (2) ===== -/
set_option maxRecDepth 100000 in
set_option maxHeartbeats 4000000 in
theorem qa_93 {V : Nat → Nat → Value} {I : Nat → Nat → Int32} {L : Nat → Nat → Int64} {R : Nat → Nat → Option Nat} {tl : am_H} {k : Nat} (hk : k < 120) : am_pA 0 (.ref 93) (nI k) (fx V I L R ++ tl) = some (I 93 k) := by rw [ev_a (f := I 93) (n := 120) rfl (am_inb_n hk (by omega)), nI_clamp (by omega)]
set_option maxRecDepth 100000 in
set_option maxHeartbeats 4000000 in
theorem qs_93 {V : Nat → Nat → Value} {I : Nat → Nat → Int32} {L : Nat → Nat → Int64} {R : Nat → Nat → Option Nat} {tl : am_H} {k : Nat} {x : Int32} (hk : k < 120) : am_pS 0 (.ref 93) (nI k) x (fx V I L R ++ tl) = some (fx V (iup I 93 (upd (I 93) k x)) L R ++ tl) := ev_s (f := I 93) (n := 120) rfl (am_inb_n hk (by omega)) rfl (by rw [nI_clamp (by omega)]; rfl)
set_option maxRecDepth 100000 in
set_option maxHeartbeats 4000000 in
theorem qr_94_0 {V : Nat → Nat → Value} {I : Nat → Nat → Int32} {L : Nat → Nat → Int64} {R : Nat → Nat → Option Nat} {tl : am_H} : am_pG 1792 (.ref 94) (fx V I L R ++ tl) = some (.ref 95) := rfl
set_option maxRecDepth 100000 in
set_option maxHeartbeats 4000000 in
theorem qr_94_1 {V : Nat → Nat → Value} {I : Nat → Nat → Int32} {L : Nat → Nat → Int64} {R : Nat → Nat → Option Nat} {tl : am_H} : am_pG 1793 (.ref 94) (fx V I L R ++ tl) = some (.ref 96) := rfl
set_option maxRecDepth 100000 in
set_option maxHeartbeats 4000000 in
theorem qr_94_2 {V : Nat → Nat → Value} {I : Nat → Nat → Int32} {L : Nat → Nat → Int64} {R : Nat → Nat → Option Nat} {tl : am_H} : am_pG 1794 (.ref 94) (fx V I L R ++ tl) = some (.ref 97) := rfl
set_option maxRecDepth 100000 in
set_option maxHeartbeats 4000000 in
theorem qr_94_3 {V : Nat → Nat → Value} {I : Nat → Nat → Int32} {L : Nat → Nat → Int64} {R : Nat → Nat → Option Nat} {tl : am_H} : am_pG 1795 (.ref 94) (fx V I L R ++ tl) = some (.ref 98) := rfl
set_option maxRecDepth 100000 in
set_option maxHeartbeats 4000000 in
theorem qr_94_4 {V : Nat → Nat → Value} {I : Nat → Nat → Int32} {L : Nat → Nat → Int64} {R : Nat → Nat → Option Nat} {tl : am_H} : am_pG 1796 (.ref 94) (fx V I L R ++ tl) = some (.ref 99) := rfl
set_option maxRecDepth 100000 in
set_option maxHeartbeats 4000000 in
theorem qr_94_5 {V : Nat → Nat → Value} {I : Nat → Nat → Int32} {L : Nat → Nat → Int64} {R : Nat → Nat → Option Nat} {tl : am_H} : am_pG 1797 (.ref 94) (fx V I L R ++ tl) = some (.ref 100) := rfl
set_option maxRecDepth 100000 in
set_option maxHeartbeats 4000000 in
theorem qr_94_6 {V : Nat → Nat → Value} {I : Nat → Nat → Int32} {L : Nat → Nat → Int64} {R : Nat → Nat → Option Nat} {tl : am_H} : am_pG 1798 (.ref 94) (fx V I L R ++ tl) = some (.ref 101) := rfl
set_option maxRecDepth 100000 in
set_option maxHeartbeats 4000000 in
theorem qv_94_7 {V : Nat → Nat → Value} {I : Nat → Nat → Int32} {L : Nat → Nat → Int64} {R : Nat → Nat → Option Nat} {tl : am_H} : am_pG 1799 (.ref 94) (fx V I L R ++ tl) = some (V 94 7) := rfl
set_option maxRecDepth 100000 in
set_option maxHeartbeats 4000000 in
theorem qp_94_7 {V : Nat → Nat → Value} {I : Nat → Nat → Int32} {L : Nat → Nat → Int64} {R : Nat → Nat → Option Nat} {tl : am_H} {x : Int32} : am_pP 1799 (.ref 94) (.int x) (fx V I L R ++ tl) = some (fx (vup V 94 7 (.int x)) I L R ++ tl) := ev_p rfl rfl rfl rfl
set_option maxRecDepth 100000 in
set_option maxHeartbeats 4000000 in
theorem qa_95 {V : Nat → Nat → Value} {I : Nat → Nat → Int32} {L : Nat → Nat → Int64} {R : Nat → Nat → Option Nat} {tl : am_H} {k : Nat} (hk : k < 60) : am_pA 0 (.ref 95) (nI k) (fx V I L R ++ tl) = some (I 95 k) := by rw [ev_a (f := I 95) (n := 60) rfl (am_inb_n hk (by omega)), nI_clamp (by omega)]
set_option maxRecDepth 100000 in
set_option maxHeartbeats 4000000 in
theorem qs_95 {V : Nat → Nat → Value} {I : Nat → Nat → Int32} {L : Nat → Nat → Int64} {R : Nat → Nat → Option Nat} {tl : am_H} {k : Nat} {x : Int32} (hk : k < 60) : am_pS 0 (.ref 95) (nI k) x (fx V I L R ++ tl) = some (fx V (iup I 95 (upd (I 95) k x)) L R ++ tl) := ev_s (f := I 95) (n := 60) rfl (am_inb_n hk (by omega)) rfl (by rw [nI_clamp (by omega)]; rfl)
set_option maxRecDepth 100000 in
set_option maxHeartbeats 4000000 in
theorem qa_96 {V : Nat → Nat → Value} {I : Nat → Nat → Int32} {L : Nat → Nat → Int64} {R : Nat → Nat → Option Nat} {tl : am_H} {k : Nat} (hk : k < 60) : am_pA 0 (.ref 96) (nI k) (fx V I L R ++ tl) = some (I 96 k) := by rw [ev_a (f := I 96) (n := 60) rfl (am_inb_n hk (by omega)), nI_clamp (by omega)]
set_option maxRecDepth 100000 in
set_option maxHeartbeats 4000000 in
theorem qs_96 {V : Nat → Nat → Value} {I : Nat → Nat → Int32} {L : Nat → Nat → Int64} {R : Nat → Nat → Option Nat} {tl : am_H} {k : Nat} {x : Int32} (hk : k < 60) : am_pS 0 (.ref 96) (nI k) x (fx V I L R ++ tl) = some (fx V (iup I 96 (upd (I 96) k x)) L R ++ tl) := ev_s (f := I 96) (n := 60) rfl (am_inb_n hk (by omega)) rfl (by rw [nI_clamp (by omega)]; rfl)
set_option maxRecDepth 100000 in
set_option maxHeartbeats 4000000 in
theorem qa_97 {V : Nat → Nat → Value} {I : Nat → Nat → Int32} {L : Nat → Nat → Int64} {R : Nat → Nat → Option Nat} {tl : am_H} {k : Nat} (hk : k < 60) : am_pA 0 (.ref 97) (nI k) (fx V I L R ++ tl) = some (I 97 k) := by rw [ev_a (f := I 97) (n := 60) rfl (am_inb_n hk (by omega)), nI_clamp (by omega)]
set_option maxRecDepth 100000 in
set_option maxHeartbeats 4000000 in
theorem qs_97 {V : Nat → Nat → Value} {I : Nat → Nat → Int32} {L : Nat → Nat → Int64} {R : Nat → Nat → Option Nat} {tl : am_H} {k : Nat} {x : Int32} (hk : k < 60) : am_pS 0 (.ref 97) (nI k) x (fx V I L R ++ tl) = some (fx V (iup I 97 (upd (I 97) k x)) L R ++ tl) := ev_s (f := I 97) (n := 60) rfl (am_inb_n hk (by omega)) rfl (by rw [nI_clamp (by omega)]; rfl)
set_option maxRecDepth 100000 in
set_option maxHeartbeats 4000000 in
theorem qa_98 {V : Nat → Nat → Value} {I : Nat → Nat → Int32} {L : Nat → Nat → Int64} {R : Nat → Nat → Option Nat} {tl : am_H} {k : Nat} (hk : k < 60) : am_pA 2 (.ref 98) (nI k) (fx V I L R ++ tl) = some (I 98 k) := by rw [ev_a (f := I 98) (n := 60) rfl (am_inb_n hk (by omega)), nI_clamp (by omega)]
set_option maxRecDepth 100000 in
set_option maxHeartbeats 4000000 in
theorem qs_98 {V : Nat → Nat → Value} {I : Nat → Nat → Int32} {L : Nat → Nat → Int64} {R : Nat → Nat → Option Nat} {tl : am_H} {k : Nat} {x : Int32} (hk : k < 60) (hx : am_afit 2 x = true) : am_pS 2 (.ref 98) (nI k) x (fx V I L R ++ tl) = some (fx V (iup I 98 (upd (I 98) k x)) L R ++ tl) := ev_s (f := I 98) (n := 60) rfl (am_inb_n hk (by omega)) hx (by rw [nI_clamp (by omega)]; rfl)
set_option maxRecDepth 100000 in
set_option maxHeartbeats 4000000 in
theorem qa_99 {V : Nat → Nat → Value} {I : Nat → Nat → Int32} {L : Nat → Nat → Int64} {R : Nat → Nat → Option Nat} {tl : am_H} {k : Nat} (hk : k < 60) : am_pA 2 (.ref 99) (nI k) (fx V I L R ++ tl) = some (I 99 k) := by rw [ev_a (f := I 99) (n := 60) rfl (am_inb_n hk (by omega)), nI_clamp (by omega)]
set_option maxRecDepth 100000 in
set_option maxHeartbeats 4000000 in
theorem qs_99 {V : Nat → Nat → Value} {I : Nat → Nat → Int32} {L : Nat → Nat → Int64} {R : Nat → Nat → Option Nat} {tl : am_H} {k : Nat} {x : Int32} (hk : k < 60) (hx : am_afit 2 x = true) : am_pS 2 (.ref 99) (nI k) x (fx V I L R ++ tl) = some (fx V (iup I 99 (upd (I 99) k x)) L R ++ tl) := ev_s (f := I 99) (n := 60) rfl (am_inb_n hk (by omega)) hx (by rw [nI_clamp (by omega)]; rfl)
set_option maxRecDepth 100000 in
set_option maxHeartbeats 4000000 in
theorem qa_100 {V : Nat → Nat → Value} {I : Nat → Nat → Int32} {L : Nat → Nat → Int64} {R : Nat → Nat → Option Nat} {tl : am_H} {k : Nat} (hk : k < 60) : am_pA 2 (.ref 100) (nI k) (fx V I L R ++ tl) = some (I 100 k) := by rw [ev_a (f := I 100) (n := 60) rfl (am_inb_n hk (by omega)), nI_clamp (by omega)]
set_option maxRecDepth 100000 in
set_option maxHeartbeats 4000000 in
theorem qs_100 {V : Nat → Nat → Value} {I : Nat → Nat → Int32} {L : Nat → Nat → Int64} {R : Nat → Nat → Option Nat} {tl : am_H} {k : Nat} {x : Int32} (hk : k < 60) (hx : am_afit 2 x = true) : am_pS 2 (.ref 100) (nI k) x (fx V I L R ++ tl) = some (fx V (iup I 100 (upd (I 100) k x)) L R ++ tl) := ev_s (f := I 100) (n := 60) rfl (am_inb_n hk (by omega)) hx (by rw [nI_clamp (by omega)]; rfl)
set_option maxRecDepth 100000 in
set_option maxHeartbeats 4000000 in
theorem qa_101 {V : Nat → Nat → Value} {I : Nat → Nat → Int32} {L : Nat → Nat → Int64} {R : Nat → Nat → Option Nat} {tl : am_H} {k : Nat} (hk : k < 61) : am_pA 0 (.ref 101) (nI k) (fx V I L R ++ tl) = some (I 101 k) := by rw [ev_a (f := I 101) (n := 61) rfl (am_inb_n hk (by omega)), nI_clamp (by omega)]
set_option maxRecDepth 100000 in
set_option maxHeartbeats 4000000 in
theorem qs_101 {V : Nat → Nat → Value} {I : Nat → Nat → Int32} {L : Nat → Nat → Int64} {R : Nat → Nat → Option Nat} {tl : am_H} {k : Nat} {x : Int32} (hk : k < 61) : am_pS 0 (.ref 101) (nI k) x (fx V I L R ++ tl) = some (fx V (iup I 101 (upd (I 101) k x)) L R ++ tl) := ev_s (f := I 101) (n := 61) rfl (am_inb_n hk (by omega)) rfl (by rw [nI_clamp (by omega)]; rfl)
set_option maxRecDepth 100000 in
set_option maxHeartbeats 4000000 in
theorem qr_102_0 {V : Nat → Nat → Value} {I : Nat → Nat → Int32} {L : Nat → Nat → Int64} {R : Nat → Nat → Option Nat} {tl : am_H} : am_pG 1792 (.ref 102) (fx V I L R ++ tl) = some (.ref 103) := rfl
set_option maxRecDepth 100000 in
set_option maxHeartbeats 4000000 in
theorem qr_102_1 {V : Nat → Nat → Value} {I : Nat → Nat → Int32} {L : Nat → Nat → Int64} {R : Nat → Nat → Option Nat} {tl : am_H} : am_pG 1793 (.ref 102) (fx V I L R ++ tl) = some (.ref 104) := rfl
set_option maxRecDepth 100000 in
set_option maxHeartbeats 4000000 in
theorem qr_102_2 {V : Nat → Nat → Value} {I : Nat → Nat → Int32} {L : Nat → Nat → Int64} {R : Nat → Nat → Option Nat} {tl : am_H} : am_pG 1794 (.ref 102) (fx V I L R ++ tl) = some (.ref 105) := rfl
set_option maxRecDepth 100000 in
set_option maxHeartbeats 4000000 in
theorem qr_102_3 {V : Nat → Nat → Value} {I : Nat → Nat → Int32} {L : Nat → Nat → Int64} {R : Nat → Nat → Option Nat} {tl : am_H} : am_pG 1795 (.ref 102) (fx V I L R ++ tl) = some (.ref 106) := rfl
set_option maxRecDepth 100000 in
set_option maxHeartbeats 4000000 in
theorem qr_102_4 {V : Nat → Nat → Value} {I : Nat → Nat → Int32} {L : Nat → Nat → Int64} {R : Nat → Nat → Option Nat} {tl : am_H} : am_pG 1796 (.ref 102) (fx V I L R ++ tl) = some (.ref 107) := rfl
set_option maxRecDepth 100000 in
set_option maxHeartbeats 4000000 in
theorem qr_102_5 {V : Nat → Nat → Value} {I : Nat → Nat → Int32} {L : Nat → Nat → Int64} {R : Nat → Nat → Option Nat} {tl : am_H} : am_pG 1797 (.ref 102) (fx V I L R ++ tl) = some (.ref 108) := rfl
set_option maxRecDepth 100000 in
set_option maxHeartbeats 4000000 in
theorem qr_102_6 {V : Nat → Nat → Value} {I : Nat → Nat → Int32} {L : Nat → Nat → Int64} {R : Nat → Nat → Option Nat} {tl : am_H} : am_pG 1798 (.ref 102) (fx V I L R ++ tl) = some (.ref 109) := rfl
set_option maxRecDepth 100000 in
set_option maxHeartbeats 4000000 in
theorem qv_102_7 {V : Nat → Nat → Value} {I : Nat → Nat → Int32} {L : Nat → Nat → Int64} {R : Nat → Nat → Option Nat} {tl : am_H} : am_pG 1799 (.ref 102) (fx V I L R ++ tl) = some (V 102 7) := rfl
set_option maxRecDepth 100000 in
set_option maxHeartbeats 4000000 in
theorem qp_102_7 {V : Nat → Nat → Value} {I : Nat → Nat → Int32} {L : Nat → Nat → Int64} {R : Nat → Nat → Option Nat} {tl : am_H} {x : Int32} : am_pP 1799 (.ref 102) (.int x) (fx V I L R ++ tl) = some (fx (vup V 102 7 (.int x)) I L R ++ tl) := ev_p rfl rfl rfl rfl
set_option maxRecDepth 100000 in
set_option maxHeartbeats 4000000 in
theorem qa_103 {V : Nat → Nat → Value} {I : Nat → Nat → Int32} {L : Nat → Nat → Int64} {R : Nat → Nat → Option Nat} {tl : am_H} {k : Nat} (hk : k < 60) : am_pA 0 (.ref 103) (nI k) (fx V I L R ++ tl) = some (I 103 k) := by rw [ev_a (f := I 103) (n := 60) rfl (am_inb_n hk (by omega)), nI_clamp (by omega)]
set_option maxRecDepth 100000 in
set_option maxHeartbeats 4000000 in
theorem qs_103 {V : Nat → Nat → Value} {I : Nat → Nat → Int32} {L : Nat → Nat → Int64} {R : Nat → Nat → Option Nat} {tl : am_H} {k : Nat} {x : Int32} (hk : k < 60) : am_pS 0 (.ref 103) (nI k) x (fx V I L R ++ tl) = some (fx V (iup I 103 (upd (I 103) k x)) L R ++ tl) := ev_s (f := I 103) (n := 60) rfl (am_inb_n hk (by omega)) rfl (by rw [nI_clamp (by omega)]; rfl)
set_option maxRecDepth 100000 in
set_option maxHeartbeats 4000000 in
theorem qa_104 {V : Nat → Nat → Value} {I : Nat → Nat → Int32} {L : Nat → Nat → Int64} {R : Nat → Nat → Option Nat} {tl : am_H} {k : Nat} (hk : k < 60) : am_pA 0 (.ref 104) (nI k) (fx V I L R ++ tl) = some (I 104 k) := by rw [ev_a (f := I 104) (n := 60) rfl (am_inb_n hk (by omega)), nI_clamp (by omega)]
set_option maxRecDepth 100000 in
set_option maxHeartbeats 4000000 in
theorem qs_104 {V : Nat → Nat → Value} {I : Nat → Nat → Int32} {L : Nat → Nat → Int64} {R : Nat → Nat → Option Nat} {tl : am_H} {k : Nat} {x : Int32} (hk : k < 60) : am_pS 0 (.ref 104) (nI k) x (fx V I L R ++ tl) = some (fx V (iup I 104 (upd (I 104) k x)) L R ++ tl) := ev_s (f := I 104) (n := 60) rfl (am_inb_n hk (by omega)) rfl (by rw [nI_clamp (by omega)]; rfl)
set_option maxRecDepth 100000 in
set_option maxHeartbeats 4000000 in
theorem qa_105 {V : Nat → Nat → Value} {I : Nat → Nat → Int32} {L : Nat → Nat → Int64} {R : Nat → Nat → Option Nat} {tl : am_H} {k : Nat} (hk : k < 60) : am_pA 0 (.ref 105) (nI k) (fx V I L R ++ tl) = some (I 105 k) := by rw [ev_a (f := I 105) (n := 60) rfl (am_inb_n hk (by omega)), nI_clamp (by omega)]
set_option maxRecDepth 100000 in
set_option maxHeartbeats 4000000 in
theorem qs_105 {V : Nat → Nat → Value} {I : Nat → Nat → Int32} {L : Nat → Nat → Int64} {R : Nat → Nat → Option Nat} {tl : am_H} {k : Nat} {x : Int32} (hk : k < 60) : am_pS 0 (.ref 105) (nI k) x (fx V I L R ++ tl) = some (fx V (iup I 105 (upd (I 105) k x)) L R ++ tl) := ev_s (f := I 105) (n := 60) rfl (am_inb_n hk (by omega)) rfl (by rw [nI_clamp (by omega)]; rfl)
set_option maxRecDepth 100000 in
set_option maxHeartbeats 4000000 in
theorem qa_106 {V : Nat → Nat → Value} {I : Nat → Nat → Int32} {L : Nat → Nat → Int64} {R : Nat → Nat → Option Nat} {tl : am_H} {k : Nat} (hk : k < 60) : am_pA 2 (.ref 106) (nI k) (fx V I L R ++ tl) = some (I 106 k) := by rw [ev_a (f := I 106) (n := 60) rfl (am_inb_n hk (by omega)), nI_clamp (by omega)]
set_option maxRecDepth 100000 in
set_option maxHeartbeats 4000000 in
theorem qs_106 {V : Nat → Nat → Value} {I : Nat → Nat → Int32} {L : Nat → Nat → Int64} {R : Nat → Nat → Option Nat} {tl : am_H} {k : Nat} {x : Int32} (hk : k < 60) (hx : am_afit 2 x = true) : am_pS 2 (.ref 106) (nI k) x (fx V I L R ++ tl) = some (fx V (iup I 106 (upd (I 106) k x)) L R ++ tl) := ev_s (f := I 106) (n := 60) rfl (am_inb_n hk (by omega)) hx (by rw [nI_clamp (by omega)]; rfl)
set_option maxRecDepth 100000 in
set_option maxHeartbeats 4000000 in
theorem qa_107 {V : Nat → Nat → Value} {I : Nat → Nat → Int32} {L : Nat → Nat → Int64} {R : Nat → Nat → Option Nat} {tl : am_H} {k : Nat} (hk : k < 60) : am_pA 2 (.ref 107) (nI k) (fx V I L R ++ tl) = some (I 107 k) := by rw [ev_a (f := I 107) (n := 60) rfl (am_inb_n hk (by omega)), nI_clamp (by omega)]
set_option maxRecDepth 100000 in
set_option maxHeartbeats 4000000 in
theorem qs_107 {V : Nat → Nat → Value} {I : Nat → Nat → Int32} {L : Nat → Nat → Int64} {R : Nat → Nat → Option Nat} {tl : am_H} {k : Nat} {x : Int32} (hk : k < 60) (hx : am_afit 2 x = true) : am_pS 2 (.ref 107) (nI k) x (fx V I L R ++ tl) = some (fx V (iup I 107 (upd (I 107) k x)) L R ++ tl) := ev_s (f := I 107) (n := 60) rfl (am_inb_n hk (by omega)) hx (by rw [nI_clamp (by omega)]; rfl)
set_option maxRecDepth 100000 in
set_option maxHeartbeats 4000000 in
theorem qa_108 {V : Nat → Nat → Value} {I : Nat → Nat → Int32} {L : Nat → Nat → Int64} {R : Nat → Nat → Option Nat} {tl : am_H} {k : Nat} (hk : k < 60) : am_pA 2 (.ref 108) (nI k) (fx V I L R ++ tl) = some (I 108 k) := by rw [ev_a (f := I 108) (n := 60) rfl (am_inb_n hk (by omega)), nI_clamp (by omega)]
set_option maxRecDepth 100000 in
set_option maxHeartbeats 4000000 in
theorem qs_108 {V : Nat → Nat → Value} {I : Nat → Nat → Int32} {L : Nat → Nat → Int64} {R : Nat → Nat → Option Nat} {tl : am_H} {k : Nat} {x : Int32} (hk : k < 60) (hx : am_afit 2 x = true) : am_pS 2 (.ref 108) (nI k) x (fx V I L R ++ tl) = some (fx V (iup I 108 (upd (I 108) k x)) L R ++ tl) := ev_s (f := I 108) (n := 60) rfl (am_inb_n hk (by omega)) hx (by rw [nI_clamp (by omega)]; rfl)
set_option maxRecDepth 100000 in
set_option maxHeartbeats 4000000 in
theorem qa_109 {V : Nat → Nat → Value} {I : Nat → Nat → Int32} {L : Nat → Nat → Int64} {R : Nat → Nat → Option Nat} {tl : am_H} {k : Nat} (hk : k < 61) : am_pA 0 (.ref 109) (nI k) (fx V I L R ++ tl) = some (I 109 k) := by rw [ev_a (f := I 109) (n := 61) rfl (am_inb_n hk (by omega)), nI_clamp (by omega)]
set_option maxRecDepth 100000 in
set_option maxHeartbeats 4000000 in
theorem qs_109 {V : Nat → Nat → Value} {I : Nat → Nat → Int32} {L : Nat → Nat → Int64} {R : Nat → Nat → Option Nat} {tl : am_H} {k : Nat} {x : Int32} (hk : k < 61) : am_pS 0 (.ref 109) (nI k) x (fx V I L R ++ tl) = some (fx V (iup I 109 (upd (I 109) k x)) L R ++ tl) := ev_s (f := I 109) (n := 61) rfl (am_inb_n hk (by omega)) rfl (by rw [nI_clamp (by omega)]; rfl)
set_option maxRecDepth 100000 in
set_option maxHeartbeats 4000000 in
theorem qr_110_0 {V : Nat → Nat → Value} {I : Nat → Nat → Int32} {L : Nat → Nat → Int64} {R : Nat → Nat → Option Nat} {tl : am_H} : am_pG 1792 (.ref 110) (fx V I L R ++ tl) = some (.ref 111) := rfl
set_option maxRecDepth 100000 in
set_option maxHeartbeats 4000000 in
theorem qr_110_1 {V : Nat → Nat → Value} {I : Nat → Nat → Int32} {L : Nat → Nat → Int64} {R : Nat → Nat → Option Nat} {tl : am_H} : am_pG 1793 (.ref 110) (fx V I L R ++ tl) = some (.ref 112) := rfl
set_option maxRecDepth 100000 in
set_option maxHeartbeats 4000000 in
theorem qr_110_2 {V : Nat → Nat → Value} {I : Nat → Nat → Int32} {L : Nat → Nat → Int64} {R : Nat → Nat → Option Nat} {tl : am_H} : am_pG 1794 (.ref 110) (fx V I L R ++ tl) = some (.ref 113) := rfl
set_option maxRecDepth 100000 in
set_option maxHeartbeats 4000000 in
theorem qr_110_3 {V : Nat → Nat → Value} {I : Nat → Nat → Int32} {L : Nat → Nat → Int64} {R : Nat → Nat → Option Nat} {tl : am_H} : am_pG 1795 (.ref 110) (fx V I L R ++ tl) = some (.ref 114) := rfl
set_option maxRecDepth 100000 in
set_option maxHeartbeats 4000000 in
theorem qr_110_4 {V : Nat → Nat → Value} {I : Nat → Nat → Int32} {L : Nat → Nat → Int64} {R : Nat → Nat → Option Nat} {tl : am_H} : am_pG 1796 (.ref 110) (fx V I L R ++ tl) = some (.ref 115) := rfl
set_option maxRecDepth 100000 in
set_option maxHeartbeats 4000000 in
theorem qr_110_5 {V : Nat → Nat → Value} {I : Nat → Nat → Int32} {L : Nat → Nat → Int64} {R : Nat → Nat → Option Nat} {tl : am_H} : am_pG 1797 (.ref 110) (fx V I L R ++ tl) = some (.ref 116) := rfl
set_option maxRecDepth 100000 in
set_option maxHeartbeats 4000000 in
theorem qr_110_6 {V : Nat → Nat → Value} {I : Nat → Nat → Int32} {L : Nat → Nat → Int64} {R : Nat → Nat → Option Nat} {tl : am_H} : am_pG 1798 (.ref 110) (fx V I L R ++ tl) = some (.ref 117) := rfl
set_option maxRecDepth 100000 in
set_option maxHeartbeats 4000000 in
theorem qv_110_7 {V : Nat → Nat → Value} {I : Nat → Nat → Int32} {L : Nat → Nat → Int64} {R : Nat → Nat → Option Nat} {tl : am_H} : am_pG 1799 (.ref 110) (fx V I L R ++ tl) = some (V 110 7) := rfl
set_option maxRecDepth 100000 in
set_option maxHeartbeats 4000000 in
theorem qp_110_7 {V : Nat → Nat → Value} {I : Nat → Nat → Int32} {L : Nat → Nat → Int64} {R : Nat → Nat → Option Nat} {tl : am_H} {x : Int32} : am_pP 1799 (.ref 110) (.int x) (fx V I L R ++ tl) = some (fx (vup V 110 7 (.int x)) I L R ++ tl) := ev_p rfl rfl rfl rfl
set_option maxRecDepth 100000 in
set_option maxHeartbeats 4000000 in
theorem qa_111 {V : Nat → Nat → Value} {I : Nat → Nat → Int32} {L : Nat → Nat → Int64} {R : Nat → Nat → Option Nat} {tl : am_H} {k : Nat} (hk : k < 60) : am_pA 0 (.ref 111) (nI k) (fx V I L R ++ tl) = some (I 111 k) := by rw [ev_a (f := I 111) (n := 60) rfl (am_inb_n hk (by omega)), nI_clamp (by omega)]
set_option maxRecDepth 100000 in
set_option maxHeartbeats 4000000 in
theorem qs_111 {V : Nat → Nat → Value} {I : Nat → Nat → Int32} {L : Nat → Nat → Int64} {R : Nat → Nat → Option Nat} {tl : am_H} {k : Nat} {x : Int32} (hk : k < 60) : am_pS 0 (.ref 111) (nI k) x (fx V I L R ++ tl) = some (fx V (iup I 111 (upd (I 111) k x)) L R ++ tl) := ev_s (f := I 111) (n := 60) rfl (am_inb_n hk (by omega)) rfl (by rw [nI_clamp (by omega)]; rfl)
set_option maxRecDepth 100000 in
set_option maxHeartbeats 4000000 in
theorem qa_112 {V : Nat → Nat → Value} {I : Nat → Nat → Int32} {L : Nat → Nat → Int64} {R : Nat → Nat → Option Nat} {tl : am_H} {k : Nat} (hk : k < 60) : am_pA 0 (.ref 112) (nI k) (fx V I L R ++ tl) = some (I 112 k) := by rw [ev_a (f := I 112) (n := 60) rfl (am_inb_n hk (by omega)), nI_clamp (by omega)]
set_option maxRecDepth 100000 in
set_option maxHeartbeats 4000000 in
theorem qs_112 {V : Nat → Nat → Value} {I : Nat → Nat → Int32} {L : Nat → Nat → Int64} {R : Nat → Nat → Option Nat} {tl : am_H} {k : Nat} {x : Int32} (hk : k < 60) : am_pS 0 (.ref 112) (nI k) x (fx V I L R ++ tl) = some (fx V (iup I 112 (upd (I 112) k x)) L R ++ tl) := ev_s (f := I 112) (n := 60) rfl (am_inb_n hk (by omega)) rfl (by rw [nI_clamp (by omega)]; rfl)
set_option maxRecDepth 100000 in
set_option maxHeartbeats 4000000 in
theorem qa_113 {V : Nat → Nat → Value} {I : Nat → Nat → Int32} {L : Nat → Nat → Int64} {R : Nat → Nat → Option Nat} {tl : am_H} {k : Nat} (hk : k < 60) : am_pA 0 (.ref 113) (nI k) (fx V I L R ++ tl) = some (I 113 k) := by rw [ev_a (f := I 113) (n := 60) rfl (am_inb_n hk (by omega)), nI_clamp (by omega)]
set_option maxRecDepth 100000 in
set_option maxHeartbeats 4000000 in
theorem qs_113 {V : Nat → Nat → Value} {I : Nat → Nat → Int32} {L : Nat → Nat → Int64} {R : Nat → Nat → Option Nat} {tl : am_H} {k : Nat} {x : Int32} (hk : k < 60) : am_pS 0 (.ref 113) (nI k) x (fx V I L R ++ tl) = some (fx V (iup I 113 (upd (I 113) k x)) L R ++ tl) := ev_s (f := I 113) (n := 60) rfl (am_inb_n hk (by omega)) rfl (by rw [nI_clamp (by omega)]; rfl)
set_option maxRecDepth 100000 in
set_option maxHeartbeats 4000000 in
theorem qa_114 {V : Nat → Nat → Value} {I : Nat → Nat → Int32} {L : Nat → Nat → Int64} {R : Nat → Nat → Option Nat} {tl : am_H} {k : Nat} (hk : k < 60) : am_pA 2 (.ref 114) (nI k) (fx V I L R ++ tl) = some (I 114 k) := by rw [ev_a (f := I 114) (n := 60) rfl (am_inb_n hk (by omega)), nI_clamp (by omega)]
set_option maxRecDepth 100000 in
set_option maxHeartbeats 4000000 in
theorem qs_114 {V : Nat → Nat → Value} {I : Nat → Nat → Int32} {L : Nat → Nat → Int64} {R : Nat → Nat → Option Nat} {tl : am_H} {k : Nat} {x : Int32} (hk : k < 60) (hx : am_afit 2 x = true) : am_pS 2 (.ref 114) (nI k) x (fx V I L R ++ tl) = some (fx V (iup I 114 (upd (I 114) k x)) L R ++ tl) := ev_s (f := I 114) (n := 60) rfl (am_inb_n hk (by omega)) hx (by rw [nI_clamp (by omega)]; rfl)
set_option maxRecDepth 100000 in
set_option maxHeartbeats 4000000 in
theorem qa_115 {V : Nat → Nat → Value} {I : Nat → Nat → Int32} {L : Nat → Nat → Int64} {R : Nat → Nat → Option Nat} {tl : am_H} {k : Nat} (hk : k < 60) : am_pA 2 (.ref 115) (nI k) (fx V I L R ++ tl) = some (I 115 k) := by rw [ev_a (f := I 115) (n := 60) rfl (am_inb_n hk (by omega)), nI_clamp (by omega)]
set_option maxRecDepth 100000 in
set_option maxHeartbeats 4000000 in
theorem qs_115 {V : Nat → Nat → Value} {I : Nat → Nat → Int32} {L : Nat → Nat → Int64} {R : Nat → Nat → Option Nat} {tl : am_H} {k : Nat} {x : Int32} (hk : k < 60) (hx : am_afit 2 x = true) : am_pS 2 (.ref 115) (nI k) x (fx V I L R ++ tl) = some (fx V (iup I 115 (upd (I 115) k x)) L R ++ tl) := ev_s (f := I 115) (n := 60) rfl (am_inb_n hk (by omega)) hx (by rw [nI_clamp (by omega)]; rfl)
set_option maxRecDepth 100000 in
set_option maxHeartbeats 4000000 in
theorem qa_116 {V : Nat → Nat → Value} {I : Nat → Nat → Int32} {L : Nat → Nat → Int64} {R : Nat → Nat → Option Nat} {tl : am_H} {k : Nat} (hk : k < 60) : am_pA 2 (.ref 116) (nI k) (fx V I L R ++ tl) = some (I 116 k) := by rw [ev_a (f := I 116) (n := 60) rfl (am_inb_n hk (by omega)), nI_clamp (by omega)]
set_option maxRecDepth 100000 in
set_option maxHeartbeats 4000000 in
theorem qs_116 {V : Nat → Nat → Value} {I : Nat → Nat → Int32} {L : Nat → Nat → Int64} {R : Nat → Nat → Option Nat} {tl : am_H} {k : Nat} {x : Int32} (hk : k < 60) (hx : am_afit 2 x = true) : am_pS 2 (.ref 116) (nI k) x (fx V I L R ++ tl) = some (fx V (iup I 116 (upd (I 116) k x)) L R ++ tl) := ev_s (f := I 116) (n := 60) rfl (am_inb_n hk (by omega)) hx (by rw [nI_clamp (by omega)]; rfl)
set_option maxRecDepth 100000 in
set_option maxHeartbeats 4000000 in
theorem qa_117 {V : Nat → Nat → Value} {I : Nat → Nat → Int32} {L : Nat → Nat → Int64} {R : Nat → Nat → Option Nat} {tl : am_H} {k : Nat} (hk : k < 61) : am_pA 0 (.ref 117) (nI k) (fx V I L R ++ tl) = some (I 117 k) := by rw [ev_a (f := I 117) (n := 61) rfl (am_inb_n hk (by omega)), nI_clamp (by omega)]
set_option maxRecDepth 100000 in
set_option maxHeartbeats 4000000 in
theorem qs_117 {V : Nat → Nat → Value} {I : Nat → Nat → Int32} {L : Nat → Nat → Int64} {R : Nat → Nat → Option Nat} {tl : am_H} {k : Nat} {x : Int32} (hk : k < 61) : am_pS 0 (.ref 117) (nI k) x (fx V I L R ++ tl) = some (fx V (iup I 117 (upd (I 117) k x)) L R ++ tl) := ev_s (f := I 117) (n := 61) rfl (am_inb_n hk (by omega)) rfl (by rw [nI_clamp (by omega)]; rfl)
set_option maxRecDepth 100000 in
set_option maxHeartbeats 4000000 in
theorem qr_118_0 {V : Nat → Nat → Value} {I : Nat → Nat → Int32} {L : Nat → Nat → Int64} {R : Nat → Nat → Option Nat} {tl : am_H} : am_pG 1280 (.ref 118) (fx V I L R ++ tl) = some (.ref 119) := rfl
set_option maxRecDepth 100000 in
set_option maxHeartbeats 4000000 in
theorem qr_118_1 {V : Nat → Nat → Value} {I : Nat → Nat → Int32} {L : Nat → Nat → Int64} {R : Nat → Nat → Option Nat} {tl : am_H} : am_pG 1281 (.ref 118) (fx V I L R ++ tl) = some (.ref 120) := rfl
set_option maxRecDepth 100000 in
set_option maxHeartbeats 4000000 in
theorem qv_118_2 {V : Nat → Nat → Value} {I : Nat → Nat → Int32} {L : Nat → Nat → Int64} {R : Nat → Nat → Option Nat} {tl : am_H} : am_pG 1282 (.ref 118) (fx V I L R ++ tl) = some (V 118 2) := rfl
set_option maxRecDepth 100000 in
set_option maxHeartbeats 4000000 in
theorem qp_118_2 {V : Nat → Nat → Value} {I : Nat → Nat → Int32} {L : Nat → Nat → Int64} {R : Nat → Nat → Option Nat} {tl : am_H} {x : Int32} : am_pP 1282 (.ref 118) (.int x) (fx V I L R ++ tl) = some (fx (vup V 118 2 (.int x)) I L R ++ tl) := ev_p rfl rfl rfl rfl
set_option maxRecDepth 100000 in
set_option maxHeartbeats 4000000 in
theorem qr_118_3 {V : Nat → Nat → Value} {I : Nat → Nat → Int32} {L : Nat → Nat → Int64} {R : Nat → Nat → Option Nat} {tl : am_H} : am_pG 1283 (.ref 118) (fx V I L R ++ tl) = some (.ref 121) := rfl
set_option maxRecDepth 100000 in
set_option maxHeartbeats 4000000 in
theorem qr_118_4 {V : Nat → Nat → Value} {I : Nat → Nat → Int32} {L : Nat → Nat → Int64} {R : Nat → Nat → Option Nat} {tl : am_H} : am_pG 1284 (.ref 118) (fx V I L R ++ tl) = some (.ref 129) := rfl
set_option maxRecDepth 100000 in
set_option maxHeartbeats 4000000 in
theorem qv_118_5 {V : Nat → Nat → Value} {I : Nat → Nat → Int32} {L : Nat → Nat → Int64} {R : Nat → Nat → Option Nat} {tl : am_H} : am_pG 1285 (.ref 118) (fx V I L R ++ tl) = some (V 118 5) := rfl
set_option maxRecDepth 100000 in
set_option maxHeartbeats 4000000 in
theorem qp_118_5 {V : Nat → Nat → Value} {I : Nat → Nat → Int32} {L : Nat → Nat → Int64} {R : Nat → Nat → Option Nat} {tl : am_H} {x : Nat} : am_pP 1285 (.ref 118) (.ref x) (fx V I L R ++ tl) = some (fx (vup V 118 5 (.ref x)) I L R ++ tl) := ev_p rfl rfl rfl rfl
set_option maxRecDepth 100000 in
set_option maxHeartbeats 4000000 in
theorem qv_118_6 {V : Nat → Nat → Value} {I : Nat → Nat → Int32} {L : Nat → Nat → Int64} {R : Nat → Nat → Option Nat} {tl : am_H} : am_pG 1286 (.ref 118) (fx V I L R ++ tl) = some (V 118 6) := rfl
set_option maxRecDepth 100000 in
set_option maxHeartbeats 4000000 in
theorem qp_118_6 {V : Nat → Nat → Value} {I : Nat → Nat → Int32} {L : Nat → Nat → Int64} {R : Nat → Nat → Option Nat} {tl : am_H} {x : Int32} : am_pP 1286 (.ref 118) (.int x) (fx V I L R ++ tl) = some (fx (vup V 118 6 (.int x)) I L R ++ tl) := ev_p rfl rfl rfl rfl
set_option maxRecDepth 100000 in
set_option maxHeartbeats 4000000 in
theorem qa_119 {V : Nat → Nat → Value} {I : Nat → Nat → Int32} {L : Nat → Nat → Int64} {R : Nat → Nat → Option Nat} {tl : am_H} {k : Nat} (hk : k < 60) : am_pA 0 (.ref 119) (nI k) (fx V I L R ++ tl) = some (I 119 k) := by rw [ev_a (f := I 119) (n := 60) rfl (am_inb_n hk (by omega)), nI_clamp (by omega)]
set_option maxRecDepth 100000 in
set_option maxHeartbeats 4000000 in
theorem qs_119 {V : Nat → Nat → Value} {I : Nat → Nat → Int32} {L : Nat → Nat → Int64} {R : Nat → Nat → Option Nat} {tl : am_H} {k : Nat} {x : Int32} (hk : k < 60) : am_pS 0 (.ref 119) (nI k) x (fx V I L R ++ tl) = some (fx V (iup I 119 (upd (I 119) k x)) L R ++ tl) := ev_s (f := I 119) (n := 60) rfl (am_inb_n hk (by omega)) rfl (by rw [nI_clamp (by omega)]; rfl)
set_option maxRecDepth 100000 in
set_option maxHeartbeats 4000000 in
theorem qa_120 {V : Nat → Nat → Value} {I : Nat → Nat → Int32} {L : Nat → Nat → Int64} {R : Nat → Nat → Option Nat} {tl : am_H} {k : Nat} (hk : k < 60) : am_pA 0 (.ref 120) (nI k) (fx V I L R ++ tl) = some (I 120 k) := by rw [ev_a (f := I 120) (n := 60) rfl (am_inb_n hk (by omega)), nI_clamp (by omega)]
set_option maxRecDepth 100000 in
set_option maxHeartbeats 4000000 in
theorem qs_120 {V : Nat → Nat → Value} {I : Nat → Nat → Int32} {L : Nat → Nat → Int64} {R : Nat → Nat → Option Nat} {tl : am_H} {k : Nat} {x : Int32} (hk : k < 60) : am_pS 0 (.ref 120) (nI k) x (fx V I L R ++ tl) = some (fx V (iup I 120 (upd (I 120) k x)) L R ++ tl) := ev_s (f := I 120) (n := 60) rfl (am_inb_n hk (by omega)) rfl (by rw [nI_clamp (by omega)]; rfl)
set_option maxRecDepth 100000 in
set_option maxHeartbeats 4000000 in
theorem qr_121_0 {V : Nat → Nat → Value} {I : Nat → Nat → Int32} {L : Nat → Nat → Int64} {R : Nat → Nat → Option Nat} {tl : am_H} : am_pG 1792 (.ref 121) (fx V I L R ++ tl) = some (.ref 122) := rfl
set_option maxRecDepth 100000 in
set_option maxHeartbeats 4000000 in
theorem qr_121_1 {V : Nat → Nat → Value} {I : Nat → Nat → Int32} {L : Nat → Nat → Int64} {R : Nat → Nat → Option Nat} {tl : am_H} : am_pG 1793 (.ref 121) (fx V I L R ++ tl) = some (.ref 123) := rfl
set_option maxRecDepth 100000 in
set_option maxHeartbeats 4000000 in
theorem qr_121_2 {V : Nat → Nat → Value} {I : Nat → Nat → Int32} {L : Nat → Nat → Int64} {R : Nat → Nat → Option Nat} {tl : am_H} : am_pG 1794 (.ref 121) (fx V I L R ++ tl) = some (.ref 124) := rfl
set_option maxRecDepth 100000 in
set_option maxHeartbeats 4000000 in
theorem qr_121_3 {V : Nat → Nat → Value} {I : Nat → Nat → Int32} {L : Nat → Nat → Int64} {R : Nat → Nat → Option Nat} {tl : am_H} : am_pG 1795 (.ref 121) (fx V I L R ++ tl) = some (.ref 125) := rfl
set_option maxRecDepth 100000 in
set_option maxHeartbeats 4000000 in
theorem qr_121_4 {V : Nat → Nat → Value} {I : Nat → Nat → Int32} {L : Nat → Nat → Int64} {R : Nat → Nat → Option Nat} {tl : am_H} : am_pG 1796 (.ref 121) (fx V I L R ++ tl) = some (.ref 126) := rfl
set_option maxRecDepth 100000 in
set_option maxHeartbeats 4000000 in
theorem qr_121_5 {V : Nat → Nat → Value} {I : Nat → Nat → Int32} {L : Nat → Nat → Int64} {R : Nat → Nat → Option Nat} {tl : am_H} : am_pG 1797 (.ref 121) (fx V I L R ++ tl) = some (.ref 127) := rfl
set_option maxRecDepth 100000 in
set_option maxHeartbeats 4000000 in
theorem qr_121_6 {V : Nat → Nat → Value} {I : Nat → Nat → Int32} {L : Nat → Nat → Int64} {R : Nat → Nat → Option Nat} {tl : am_H} : am_pG 1798 (.ref 121) (fx V I L R ++ tl) = some (.ref 128) := rfl
set_option maxRecDepth 100000 in
set_option maxHeartbeats 4000000 in
theorem qv_121_7 {V : Nat → Nat → Value} {I : Nat → Nat → Int32} {L : Nat → Nat → Int64} {R : Nat → Nat → Option Nat} {tl : am_H} : am_pG 1799 (.ref 121) (fx V I L R ++ tl) = some (V 121 7) := rfl
set_option maxRecDepth 100000 in
set_option maxHeartbeats 4000000 in
theorem qp_121_7 {V : Nat → Nat → Value} {I : Nat → Nat → Int32} {L : Nat → Nat → Int64} {R : Nat → Nat → Option Nat} {tl : am_H} {x : Int32} : am_pP 1799 (.ref 121) (.int x) (fx V I L R ++ tl) = some (fx (vup V 121 7 (.int x)) I L R ++ tl) := ev_p rfl rfl rfl rfl
set_option maxRecDepth 100000 in
set_option maxHeartbeats 4000000 in
theorem qa_122 {V : Nat → Nat → Value} {I : Nat → Nat → Int32} {L : Nat → Nat → Int64} {R : Nat → Nat → Option Nat} {tl : am_H} {k : Nat} (hk : k < 60) : am_pA 0 (.ref 122) (nI k) (fx V I L R ++ tl) = some (I 122 k) := by rw [ev_a (f := I 122) (n := 60) rfl (am_inb_n hk (by omega)), nI_clamp (by omega)]
set_option maxRecDepth 100000 in
set_option maxHeartbeats 4000000 in
theorem qs_122 {V : Nat → Nat → Value} {I : Nat → Nat → Int32} {L : Nat → Nat → Int64} {R : Nat → Nat → Option Nat} {tl : am_H} {k : Nat} {x : Int32} (hk : k < 60) : am_pS 0 (.ref 122) (nI k) x (fx V I L R ++ tl) = some (fx V (iup I 122 (upd (I 122) k x)) L R ++ tl) := ev_s (f := I 122) (n := 60) rfl (am_inb_n hk (by omega)) rfl (by rw [nI_clamp (by omega)]; rfl)
set_option maxRecDepth 100000 in
set_option maxHeartbeats 4000000 in
theorem qa_123 {V : Nat → Nat → Value} {I : Nat → Nat → Int32} {L : Nat → Nat → Int64} {R : Nat → Nat → Option Nat} {tl : am_H} {k : Nat} (hk : k < 60) : am_pA 0 (.ref 123) (nI k) (fx V I L R ++ tl) = some (I 123 k) := by rw [ev_a (f := I 123) (n := 60) rfl (am_inb_n hk (by omega)), nI_clamp (by omega)]
set_option maxRecDepth 100000 in
set_option maxHeartbeats 4000000 in
theorem qs_123 {V : Nat → Nat → Value} {I : Nat → Nat → Int32} {L : Nat → Nat → Int64} {R : Nat → Nat → Option Nat} {tl : am_H} {k : Nat} {x : Int32} (hk : k < 60) : am_pS 0 (.ref 123) (nI k) x (fx V I L R ++ tl) = some (fx V (iup I 123 (upd (I 123) k x)) L R ++ tl) := ev_s (f := I 123) (n := 60) rfl (am_inb_n hk (by omega)) rfl (by rw [nI_clamp (by omega)]; rfl)
set_option maxRecDepth 100000 in
set_option maxHeartbeats 4000000 in
theorem qa_124 {V : Nat → Nat → Value} {I : Nat → Nat → Int32} {L : Nat → Nat → Int64} {R : Nat → Nat → Option Nat} {tl : am_H} {k : Nat} (hk : k < 60) : am_pA 0 (.ref 124) (nI k) (fx V I L R ++ tl) = some (I 124 k) := by rw [ev_a (f := I 124) (n := 60) rfl (am_inb_n hk (by omega)), nI_clamp (by omega)]
set_option maxRecDepth 100000 in
set_option maxHeartbeats 4000000 in
theorem qs_124 {V : Nat → Nat → Value} {I : Nat → Nat → Int32} {L : Nat → Nat → Int64} {R : Nat → Nat → Option Nat} {tl : am_H} {k : Nat} {x : Int32} (hk : k < 60) : am_pS 0 (.ref 124) (nI k) x (fx V I L R ++ tl) = some (fx V (iup I 124 (upd (I 124) k x)) L R ++ tl) := ev_s (f := I 124) (n := 60) rfl (am_inb_n hk (by omega)) rfl (by rw [nI_clamp (by omega)]; rfl)
set_option maxRecDepth 100000 in
set_option maxHeartbeats 4000000 in
theorem qa_125 {V : Nat → Nat → Value} {I : Nat → Nat → Int32} {L : Nat → Nat → Int64} {R : Nat → Nat → Option Nat} {tl : am_H} {k : Nat} (hk : k < 60) : am_pA 2 (.ref 125) (nI k) (fx V I L R ++ tl) = some (I 125 k) := by rw [ev_a (f := I 125) (n := 60) rfl (am_inb_n hk (by omega)), nI_clamp (by omega)]
set_option maxRecDepth 100000 in
set_option maxHeartbeats 4000000 in
theorem qs_125 {V : Nat → Nat → Value} {I : Nat → Nat → Int32} {L : Nat → Nat → Int64} {R : Nat → Nat → Option Nat} {tl : am_H} {k : Nat} {x : Int32} (hk : k < 60) (hx : am_afit 2 x = true) : am_pS 2 (.ref 125) (nI k) x (fx V I L R ++ tl) = some (fx V (iup I 125 (upd (I 125) k x)) L R ++ tl) := ev_s (f := I 125) (n := 60) rfl (am_inb_n hk (by omega)) hx (by rw [nI_clamp (by omega)]; rfl)
set_option maxRecDepth 100000 in
set_option maxHeartbeats 4000000 in
theorem qa_126 {V : Nat → Nat → Value} {I : Nat → Nat → Int32} {L : Nat → Nat → Int64} {R : Nat → Nat → Option Nat} {tl : am_H} {k : Nat} (hk : k < 60) : am_pA 2 (.ref 126) (nI k) (fx V I L R ++ tl) = some (I 126 k) := by rw [ev_a (f := I 126) (n := 60) rfl (am_inb_n hk (by omega)), nI_clamp (by omega)]
set_option maxRecDepth 100000 in
set_option maxHeartbeats 4000000 in
theorem qs_126 {V : Nat → Nat → Value} {I : Nat → Nat → Int32} {L : Nat → Nat → Int64} {R : Nat → Nat → Option Nat} {tl : am_H} {k : Nat} {x : Int32} (hk : k < 60) (hx : am_afit 2 x = true) : am_pS 2 (.ref 126) (nI k) x (fx V I L R ++ tl) = some (fx V (iup I 126 (upd (I 126) k x)) L R ++ tl) := ev_s (f := I 126) (n := 60) rfl (am_inb_n hk (by omega)) hx (by rw [nI_clamp (by omega)]; rfl)
set_option maxRecDepth 100000 in
set_option maxHeartbeats 4000000 in
theorem qa_127 {V : Nat → Nat → Value} {I : Nat → Nat → Int32} {L : Nat → Nat → Int64} {R : Nat → Nat → Option Nat} {tl : am_H} {k : Nat} (hk : k < 60) : am_pA 2 (.ref 127) (nI k) (fx V I L R ++ tl) = some (I 127 k) := by rw [ev_a (f := I 127) (n := 60) rfl (am_inb_n hk (by omega)), nI_clamp (by omega)]
set_option maxRecDepth 100000 in
set_option maxHeartbeats 4000000 in
theorem qs_127 {V : Nat → Nat → Value} {I : Nat → Nat → Int32} {L : Nat → Nat → Int64} {R : Nat → Nat → Option Nat} {tl : am_H} {k : Nat} {x : Int32} (hk : k < 60) (hx : am_afit 2 x = true) : am_pS 2 (.ref 127) (nI k) x (fx V I L R ++ tl) = some (fx V (iup I 127 (upd (I 127) k x)) L R ++ tl) := ev_s (f := I 127) (n := 60) rfl (am_inb_n hk (by omega)) hx (by rw [nI_clamp (by omega)]; rfl)
set_option maxRecDepth 100000 in
set_option maxHeartbeats 4000000 in
theorem qa_128 {V : Nat → Nat → Value} {I : Nat → Nat → Int32} {L : Nat → Nat → Int64} {R : Nat → Nat → Option Nat} {tl : am_H} {k : Nat} (hk : k < 61) : am_pA 0 (.ref 128) (nI k) (fx V I L R ++ tl) = some (I 128 k) := by rw [ev_a (f := I 128) (n := 61) rfl (am_inb_n hk (by omega)), nI_clamp (by omega)]
set_option maxRecDepth 100000 in
set_option maxHeartbeats 4000000 in
theorem qs_128 {V : Nat → Nat → Value} {I : Nat → Nat → Int32} {L : Nat → Nat → Int64} {R : Nat → Nat → Option Nat} {tl : am_H} {k : Nat} {x : Int32} (hk : k < 61) : am_pS 0 (.ref 128) (nI k) x (fx V I L R ++ tl) = some (fx V (iup I 128 (upd (I 128) k x)) L R ++ tl) := ev_s (f := I 128) (n := 61) rfl (am_inb_n hk (by omega)) rfl (by rw [nI_clamp (by omega)]; rfl)
set_option maxRecDepth 100000 in
set_option maxHeartbeats 4000000 in
theorem qr_129_0 {V : Nat → Nat → Value} {I : Nat → Nat → Int32} {L : Nat → Nat → Int64} {R : Nat → Nat → Option Nat} {tl : am_H} : am_pG 768 (.ref 129) (fx V I L R ++ tl) = some (.ref 130) := rfl
set_option maxRecDepth 100000 in
set_option maxHeartbeats 4000000 in
theorem qv_129_1 {V : Nat → Nat → Value} {I : Nat → Nat → Int32} {L : Nat → Nat → Int64} {R : Nat → Nat → Option Nat} {tl : am_H} : am_pG 769 (.ref 129) (fx V I L R ++ tl) = some (V 129 1) := rfl
set_option maxRecDepth 100000 in
set_option maxHeartbeats 4000000 in
theorem qp_129_1 {V : Nat → Nat → Value} {I : Nat → Nat → Int32} {L : Nat → Nat → Int64} {R : Nat → Nat → Option Nat} {tl : am_H} {x : Int32} : am_pP 769 (.ref 129) (.int x) (fx V I L R ++ tl) = some (fx (vup V 129 1 (.int x)) I L R ++ tl) := ev_p rfl rfl rfl rfl
set_option maxRecDepth 100000 in
set_option maxHeartbeats 4000000 in
theorem qv_129_2 {V : Nat → Nat → Value} {I : Nat → Nat → Int32} {L : Nat → Nat → Int64} {R : Nat → Nat → Option Nat} {tl : am_H} : am_pG 770 (.ref 129) (fx V I L R ++ tl) = some (V 129 2) := rfl
set_option maxRecDepth 100000 in
set_option maxHeartbeats 4000000 in
theorem qp_129_2 {V : Nat → Nat → Value} {I : Nat → Nat → Int32} {L : Nat → Nat → Int64} {R : Nat → Nat → Option Nat} {tl : am_H} {x : Int32} : am_pP 770 (.ref 129) (.int x) (fx V I L R ++ tl) = some (fx (vup V 129 2 (.int x)) I L R ++ tl) := ev_p rfl rfl rfl rfl
set_option maxRecDepth 100000 in
set_option maxHeartbeats 4000000 in
theorem qv_129_3 {V : Nat → Nat → Value} {I : Nat → Nat → Int32} {L : Nat → Nat → Int64} {R : Nat → Nat → Option Nat} {tl : am_H} : am_pG 771 (.ref 129) (fx V I L R ++ tl) = some (V 129 3) := rfl
set_option maxRecDepth 100000 in
set_option maxHeartbeats 4000000 in
theorem qp_129_3 {V : Nat → Nat → Value} {I : Nat → Nat → Int32} {L : Nat → Nat → Int64} {R : Nat → Nat → Option Nat} {tl : am_H} {x : Int32} : am_pP 771 (.ref 129) (.int x) (fx V I L R ++ tl) = some (fx (vup V 129 3 (.int x)) I L R ++ tl) := ev_p rfl rfl rfl rfl
set_option maxRecDepth 100000 in
set_option maxHeartbeats 4000000 in
theorem qv_129_4 {V : Nat → Nat → Value} {I : Nat → Nat → Int32} {L : Nat → Nat → Int64} {R : Nat → Nat → Option Nat} {tl : am_H} : am_pG 772 (.ref 129) (fx V I L R ++ tl) = some (V 129 4) := rfl
set_option maxRecDepth 100000 in
set_option maxHeartbeats 4000000 in
theorem qp_129_4 {V : Nat → Nat → Value} {I : Nat → Nat → Int32} {L : Nat → Nat → Int64} {R : Nat → Nat → Option Nat} {tl : am_H} {x : Int32} : am_pP 772 (.ref 129) (.int x) (fx V I L R ++ tl) = some (fx (vup V 129 4 (.int x)) I L R ++ tl) := ev_p rfl rfl rfl rfl
set_option maxRecDepth 100000 in
set_option maxHeartbeats 4000000 in
theorem qv_129_5 {V : Nat → Nat → Value} {I : Nat → Nat → Int32} {L : Nat → Nat → Int64} {R : Nat → Nat → Option Nat} {tl : am_H} : am_pG 773 (.ref 129) (fx V I L R ++ tl) = some (V 129 5) := rfl
set_option maxRecDepth 100000 in
set_option maxHeartbeats 4000000 in
theorem qp_129_5 {V : Nat → Nat → Value} {I : Nat → Nat → Int32} {L : Nat → Nat → Int64} {R : Nat → Nat → Option Nat} {tl : am_H} {x : Int32} : am_pP 773 (.ref 129) (.int x) (fx V I L R ++ tl) = some (fx (vup V 129 5 (.int x)) I L R ++ tl) := ev_p rfl rfl rfl rfl
set_option maxRecDepth 100000 in
set_option maxHeartbeats 4000000 in
theorem qv_129_6 {V : Nat → Nat → Value} {I : Nat → Nat → Int32} {L : Nat → Nat → Int64} {R : Nat → Nat → Option Nat} {tl : am_H} : am_pG 774 (.ref 129) (fx V I L R ++ tl) = some (V 129 6) := rfl
set_option maxRecDepth 100000 in
set_option maxHeartbeats 4000000 in
theorem qp_129_6 {V : Nat → Nat → Value} {I : Nat → Nat → Int32} {L : Nat → Nat → Int64} {R : Nat → Nat → Option Nat} {tl : am_H} {x : Int32} : am_pP 774 (.ref 129) (.int x) (fx V I L R ++ tl) = some (fx (vup V 129 6 (.int x)) I L R ++ tl) := ev_p rfl rfl rfl rfl
set_option maxRecDepth 100000 in
set_option maxHeartbeats 4000000 in
theorem qv_129_7 {V : Nat → Nat → Value} {I : Nat → Nat → Int32} {L : Nat → Nat → Int64} {R : Nat → Nat → Option Nat} {tl : am_H} : am_pG 775 (.ref 129) (fx V I L R ++ tl) = some (V 129 7) := rfl
set_option maxRecDepth 100000 in
set_option maxHeartbeats 4000000 in
theorem qp_129_7 {V : Nat → Nat → Value} {I : Nat → Nat → Int32} {L : Nat → Nat → Int64} {R : Nat → Nat → Option Nat} {tl : am_H} {x : Int32} : am_pP 775 (.ref 129) (.int x) (fx V I L R ++ tl) = some (fx (vup V 129 7 (.int x)) I L R ++ tl) := ev_p rfl rfl rfl rfl
set_option maxRecDepth 100000 in
set_option maxHeartbeats 4000000 in
theorem qv_129_8 {V : Nat → Nat → Value} {I : Nat → Nat → Int32} {L : Nat → Nat → Int64} {R : Nat → Nat → Option Nat} {tl : am_H} : am_pG 776 (.ref 129) (fx V I L R ++ tl) = some (V 129 8) := rfl
set_option maxRecDepth 100000 in
set_option maxHeartbeats 4000000 in
theorem qp_129_8 {V : Nat → Nat → Value} {I : Nat → Nat → Int32} {L : Nat → Nat → Int64} {R : Nat → Nat → Option Nat} {tl : am_H} {x : Int32} : am_pP 776 (.ref 129) (.int x) (fx V I L R ++ tl) = some (fx (vup V 129 8 (.int x)) I L R ++ tl) := ev_p rfl rfl rfl rfl
set_option maxRecDepth 100000 in
set_option maxHeartbeats 4000000 in
theorem qv_129_9 {V : Nat → Nat → Value} {I : Nat → Nat → Int32} {L : Nat → Nat → Int64} {R : Nat → Nat → Option Nat} {tl : am_H} : am_pG 777 (.ref 129) (fx V I L R ++ tl) = some (V 129 9) := rfl
set_option maxRecDepth 100000 in
set_option maxHeartbeats 4000000 in
theorem qp_129_9 {V : Nat → Nat → Value} {I : Nat → Nat → Int32} {L : Nat → Nat → Int64} {R : Nat → Nat → Option Nat} {tl : am_H} {x : Int32} : am_pP 777 (.ref 129) (.int x) (fx V I L R ++ tl) = some (fx (vup V 129 9 (.int x)) I L R ++ tl) := ev_p rfl rfl rfl rfl
set_option maxRecDepth 100000 in
set_option maxHeartbeats 4000000 in
theorem qv_129_10 {V : Nat → Nat → Value} {I : Nat → Nat → Int32} {L : Nat → Nat → Int64} {R : Nat → Nat → Option Nat} {tl : am_H} : am_pG 778 (.ref 129) (fx V I L R ++ tl) = some (V 129 10) := rfl
set_option maxRecDepth 100000 in
set_option maxHeartbeats 4000000 in
theorem qp_129_10 {V : Nat → Nat → Value} {I : Nat → Nat → Int32} {L : Nat → Nat → Int64} {R : Nat → Nat → Option Nat} {tl : am_H} {x : Int64} : am_pP 778 (.ref 129) (.long x) (fx V I L R ++ tl) = some (fx (vup V 129 10 (.long x)) I L R ++ tl) := ev_p rfl rfl rfl rfl
set_option maxRecDepth 100000 in
set_option maxHeartbeats 4000000 in
theorem qa_130 {V : Nat → Nat → Value} {I : Nat → Nat → Int32} {L : Nat → Nat → Int64} {R : Nat → Nat → Option Nat} {tl : am_H} {k : Nat} (hk : k < 120) : am_pA 0 (.ref 130) (nI k) (fx V I L R ++ tl) = some (I 130 k) := by rw [ev_a (f := I 130) (n := 120) rfl (am_inb_n hk (by omega)), nI_clamp (by omega)]
set_option maxRecDepth 100000 in
set_option maxHeartbeats 4000000 in
theorem qs_130 {V : Nat → Nat → Value} {I : Nat → Nat → Int32} {L : Nat → Nat → Int64} {R : Nat → Nat → Option Nat} {tl : am_H} {k : Nat} {x : Int32} (hk : k < 120) : am_pS 0 (.ref 130) (nI k) x (fx V I L R ++ tl) = some (fx V (iup I 130 (upd (I 130) k x)) L R ++ tl) := ev_s (f := I 130) (n := 120) rfl (am_inb_n hk (by omega)) rfl (by rw [nI_clamp (by omega)]; rfl)
set_option maxRecDepth 100000 in
set_option maxHeartbeats 4000000 in
theorem qr_131_0 {V : Nat → Nat → Value} {I : Nat → Nat → Int32} {L : Nat → Nat → Int64} {R : Nat → Nat → Option Nat} {tl : am_H} : am_pG 2560 (.ref 131) (fx V I L R ++ tl) = some (.ref 132) := rfl
set_option maxRecDepth 100000 in
set_option maxHeartbeats 4000000 in
theorem qr_131_1 {V : Nat → Nat → Value} {I : Nat → Nat → Int32} {L : Nat → Nat → Int64} {R : Nat → Nat → Option Nat} {tl : am_H} : am_pG 2561 (.ref 131) (fx V I L R ++ tl) = some (.ref 140) := rfl
set_option maxRecDepth 100000 in
set_option maxHeartbeats 4000000 in
theorem qr_131_2 {V : Nat → Nat → Value} {I : Nat → Nat → Int32} {L : Nat → Nat → Int64} {R : Nat → Nat → Option Nat} {tl : am_H} : am_pG 2562 (.ref 131) (fx V I L R ++ tl) = some (.ref 141) := rfl
set_option maxRecDepth 100000 in
set_option maxHeartbeats 4000000 in
theorem qv_131_3 {V : Nat → Nat → Value} {I : Nat → Nat → Int32} {L : Nat → Nat → Int64} {R : Nat → Nat → Option Nat} {tl : am_H} : am_pG 2563 (.ref 131) (fx V I L R ++ tl) = some (V 131 3) := rfl
set_option maxRecDepth 100000 in
set_option maxHeartbeats 4000000 in
theorem qp_131_3 {V : Nat → Nat → Value} {I : Nat → Nat → Int32} {L : Nat → Nat → Int64} {R : Nat → Nat → Option Nat} {tl : am_H} {x : Int32} : am_pP 2563 (.ref 131) (.int x) (fx V I L R ++ tl) = some (fx (vup V 131 3 (.int x)) I L R ++ tl) := ev_p rfl rfl rfl rfl
set_option maxRecDepth 100000 in
set_option maxHeartbeats 4000000 in
theorem qv_131_4 {V : Nat → Nat → Value} {I : Nat → Nat → Int32} {L : Nat → Nat → Int64} {R : Nat → Nat → Option Nat} {tl : am_H} : am_pG 2564 (.ref 131) (fx V I L R ++ tl) = some (V 131 4) := rfl
set_option maxRecDepth 100000 in
set_option maxHeartbeats 4000000 in
theorem qp_131_4 {V : Nat → Nat → Value} {I : Nat → Nat → Int32} {L : Nat → Nat → Int64} {R : Nat → Nat → Option Nat} {tl : am_H} {x : Nat} : am_pP 2564 (.ref 131) (.ref x) (fx V I L R ++ tl) = some (fx (vup V 131 4 (.ref x)) I L R ++ tl) := ev_p rfl rfl rfl rfl
set_option maxRecDepth 100000 in
set_option maxHeartbeats 4000000 in
theorem qv_131_5 {V : Nat → Nat → Value} {I : Nat → Nat → Int32} {L : Nat → Nat → Int64} {R : Nat → Nat → Option Nat} {tl : am_H} : am_pG 2565 (.ref 131) (fx V I L R ++ tl) = some (V 131 5) := rfl
set_option maxRecDepth 100000 in
set_option maxHeartbeats 4000000 in
theorem qp_131_5 {V : Nat → Nat → Value} {I : Nat → Nat → Int32} {L : Nat → Nat → Int64} {R : Nat → Nat → Option Nat} {tl : am_H} {x : Nat} : am_pP 2565 (.ref 131) (.ref x) (fx V I L R ++ tl) = some (fx (vup V 131 5 (.ref x)) I L R ++ tl) := ev_p rfl rfl rfl rfl
set_option maxRecDepth 100000 in
set_option maxHeartbeats 4000000 in
theorem qr_131_6 {V : Nat → Nat → Value} {I : Nat → Nat → Int32} {L : Nat → Nat → Int64} {R : Nat → Nat → Option Nat} {tl : am_H} : am_pG 2566 (.ref 131) (fx V I L R ++ tl) = some (.ref 143) := rfl
set_option maxRecDepth 100000 in
set_option maxHeartbeats 4000000 in
theorem qr_131_7 {V : Nat → Nat → Value} {I : Nat → Nat → Int32} {L : Nat → Nat → Int64} {R : Nat → Nat → Option Nat} {tl : am_H} : am_pG 2567 (.ref 131) (fx V I L R ++ tl) = some (.ref 144) := rfl
set_option maxRecDepth 100000 in
set_option maxHeartbeats 4000000 in
theorem qr_131_8 {V : Nat → Nat → Value} {I : Nat → Nat → Int32} {L : Nat → Nat → Int64} {R : Nat → Nat → Option Nat} {tl : am_H} : am_pG 2568 (.ref 131) (fx V I L R ++ tl) = some (.ref 145) := rfl
set_option maxRecDepth 100000 in
set_option maxHeartbeats 4000000 in
theorem qr_131_9 {V : Nat → Nat → Value} {I : Nat → Nat → Int32} {L : Nat → Nat → Int64} {R : Nat → Nat → Option Nat} {tl : am_H} : am_pG 2569 (.ref 131) (fx V I L R ++ tl) = some (.ref 146) := rfl
set_option maxRecDepth 100000 in
set_option maxHeartbeats 4000000 in
theorem qr_131_10 {V : Nat → Nat → Value} {I : Nat → Nat → Int32} {L : Nat → Nat → Int64} {R : Nat → Nat → Option Nat} {tl : am_H} : am_pG 2570 (.ref 131) (fx V I L R ++ tl) = some (.ref 147) := rfl
set_option maxRecDepth 100000 in
set_option maxHeartbeats 4000000 in
theorem qr_132_0 {V : Nat → Nat → Value} {I : Nat → Nat → Int32} {L : Nat → Nat → Int64} {R : Nat → Nat → Option Nat} {tl : am_H} : am_pG 1792 (.ref 132) (fx V I L R ++ tl) = some (.ref 133) := rfl
set_option maxRecDepth 100000 in
set_option maxHeartbeats 4000000 in
theorem qr_132_1 {V : Nat → Nat → Value} {I : Nat → Nat → Int32} {L : Nat → Nat → Int64} {R : Nat → Nat → Option Nat} {tl : am_H} : am_pG 1793 (.ref 132) (fx V I L R ++ tl) = some (.ref 134) := rfl
set_option maxRecDepth 100000 in
set_option maxHeartbeats 4000000 in
theorem qr_132_2 {V : Nat → Nat → Value} {I : Nat → Nat → Int32} {L : Nat → Nat → Int64} {R : Nat → Nat → Option Nat} {tl : am_H} : am_pG 1794 (.ref 132) (fx V I L R ++ tl) = some (.ref 135) := rfl
set_option maxRecDepth 100000 in
set_option maxHeartbeats 4000000 in
theorem qr_132_3 {V : Nat → Nat → Value} {I : Nat → Nat → Int32} {L : Nat → Nat → Int64} {R : Nat → Nat → Option Nat} {tl : am_H} : am_pG 1795 (.ref 132) (fx V I L R ++ tl) = some (.ref 136) := rfl
set_option maxRecDepth 100000 in
set_option maxHeartbeats 4000000 in
theorem qr_132_4 {V : Nat → Nat → Value} {I : Nat → Nat → Int32} {L : Nat → Nat → Int64} {R : Nat → Nat → Option Nat} {tl : am_H} : am_pG 1796 (.ref 132) (fx V I L R ++ tl) = some (.ref 137) := rfl
set_option maxRecDepth 100000 in
set_option maxHeartbeats 4000000 in
theorem qr_132_5 {V : Nat → Nat → Value} {I : Nat → Nat → Int32} {L : Nat → Nat → Int64} {R : Nat → Nat → Option Nat} {tl : am_H} : am_pG 1797 (.ref 132) (fx V I L R ++ tl) = some (.ref 138) := rfl
set_option maxRecDepth 100000 in
set_option maxHeartbeats 4000000 in
theorem qr_132_6 {V : Nat → Nat → Value} {I : Nat → Nat → Int32} {L : Nat → Nat → Int64} {R : Nat → Nat → Option Nat} {tl : am_H} : am_pG 1798 (.ref 132) (fx V I L R ++ tl) = some (.ref 139) := rfl
set_option maxRecDepth 100000 in
set_option maxHeartbeats 4000000 in
theorem qv_132_7 {V : Nat → Nat → Value} {I : Nat → Nat → Int32} {L : Nat → Nat → Int64} {R : Nat → Nat → Option Nat} {tl : am_H} : am_pG 1799 (.ref 132) (fx V I L R ++ tl) = some (V 132 7) := rfl
set_option maxRecDepth 100000 in
set_option maxHeartbeats 4000000 in
theorem qp_132_7 {V : Nat → Nat → Value} {I : Nat → Nat → Int32} {L : Nat → Nat → Int64} {R : Nat → Nat → Option Nat} {tl : am_H} {x : Int32} : am_pP 1799 (.ref 132) (.int x) (fx V I L R ++ tl) = some (fx (vup V 132 7 (.int x)) I L R ++ tl) := ev_p rfl rfl rfl rfl
set_option maxRecDepth 100000 in
set_option maxHeartbeats 4000000 in
theorem qa_133 {V : Nat → Nat → Value} {I : Nat → Nat → Int32} {L : Nat → Nat → Int64} {R : Nat → Nat → Option Nat} {tl : am_H} {k : Nat} (hk : k < 60) : am_pA 0 (.ref 133) (nI k) (fx V I L R ++ tl) = some (I 133 k) := by rw [ev_a (f := I 133) (n := 60) rfl (am_inb_n hk (by omega)), nI_clamp (by omega)]
set_option maxRecDepth 100000 in
set_option maxHeartbeats 4000000 in
theorem qs_133 {V : Nat → Nat → Value} {I : Nat → Nat → Int32} {L : Nat → Nat → Int64} {R : Nat → Nat → Option Nat} {tl : am_H} {k : Nat} {x : Int32} (hk : k < 60) : am_pS 0 (.ref 133) (nI k) x (fx V I L R ++ tl) = some (fx V (iup I 133 (upd (I 133) k x)) L R ++ tl) := ev_s (f := I 133) (n := 60) rfl (am_inb_n hk (by omega)) rfl (by rw [nI_clamp (by omega)]; rfl)
set_option maxRecDepth 100000 in
set_option maxHeartbeats 4000000 in
theorem qa_134 {V : Nat → Nat → Value} {I : Nat → Nat → Int32} {L : Nat → Nat → Int64} {R : Nat → Nat → Option Nat} {tl : am_H} {k : Nat} (hk : k < 60) : am_pA 0 (.ref 134) (nI k) (fx V I L R ++ tl) = some (I 134 k) := by rw [ev_a (f := I 134) (n := 60) rfl (am_inb_n hk (by omega)), nI_clamp (by omega)]
set_option maxRecDepth 100000 in
set_option maxHeartbeats 4000000 in
theorem qs_134 {V : Nat → Nat → Value} {I : Nat → Nat → Int32} {L : Nat → Nat → Int64} {R : Nat → Nat → Option Nat} {tl : am_H} {k : Nat} {x : Int32} (hk : k < 60) : am_pS 0 (.ref 134) (nI k) x (fx V I L R ++ tl) = some (fx V (iup I 134 (upd (I 134) k x)) L R ++ tl) := ev_s (f := I 134) (n := 60) rfl (am_inb_n hk (by omega)) rfl (by rw [nI_clamp (by omega)]; rfl)
set_option maxRecDepth 100000 in
set_option maxHeartbeats 4000000 in
theorem qa_135 {V : Nat → Nat → Value} {I : Nat → Nat → Int32} {L : Nat → Nat → Int64} {R : Nat → Nat → Option Nat} {tl : am_H} {k : Nat} (hk : k < 60) : am_pA 0 (.ref 135) (nI k) (fx V I L R ++ tl) = some (I 135 k) := by rw [ev_a (f := I 135) (n := 60) rfl (am_inb_n hk (by omega)), nI_clamp (by omega)]
set_option maxRecDepth 100000 in
set_option maxHeartbeats 4000000 in
theorem qs_135 {V : Nat → Nat → Value} {I : Nat → Nat → Int32} {L : Nat → Nat → Int64} {R : Nat → Nat → Option Nat} {tl : am_H} {k : Nat} {x : Int32} (hk : k < 60) : am_pS 0 (.ref 135) (nI k) x (fx V I L R ++ tl) = some (fx V (iup I 135 (upd (I 135) k x)) L R ++ tl) := ev_s (f := I 135) (n := 60) rfl (am_inb_n hk (by omega)) rfl (by rw [nI_clamp (by omega)]; rfl)
set_option maxRecDepth 100000 in
set_option maxHeartbeats 4000000 in
theorem qa_136 {V : Nat → Nat → Value} {I : Nat → Nat → Int32} {L : Nat → Nat → Int64} {R : Nat → Nat → Option Nat} {tl : am_H} {k : Nat} (hk : k < 60) : am_pA 2 (.ref 136) (nI k) (fx V I L R ++ tl) = some (I 136 k) := by rw [ev_a (f := I 136) (n := 60) rfl (am_inb_n hk (by omega)), nI_clamp (by omega)]
set_option maxRecDepth 100000 in
set_option maxHeartbeats 4000000 in
theorem qs_136 {V : Nat → Nat → Value} {I : Nat → Nat → Int32} {L : Nat → Nat → Int64} {R : Nat → Nat → Option Nat} {tl : am_H} {k : Nat} {x : Int32} (hk : k < 60) (hx : am_afit 2 x = true) : am_pS 2 (.ref 136) (nI k) x (fx V I L R ++ tl) = some (fx V (iup I 136 (upd (I 136) k x)) L R ++ tl) := ev_s (f := I 136) (n := 60) rfl (am_inb_n hk (by omega)) hx (by rw [nI_clamp (by omega)]; rfl)
set_option maxRecDepth 100000 in
set_option maxHeartbeats 4000000 in
theorem qa_137 {V : Nat → Nat → Value} {I : Nat → Nat → Int32} {L : Nat → Nat → Int64} {R : Nat → Nat → Option Nat} {tl : am_H} {k : Nat} (hk : k < 60) : am_pA 2 (.ref 137) (nI k) (fx V I L R ++ tl) = some (I 137 k) := by rw [ev_a (f := I 137) (n := 60) rfl (am_inb_n hk (by omega)), nI_clamp (by omega)]
set_option maxRecDepth 100000 in
set_option maxHeartbeats 4000000 in
theorem qs_137 {V : Nat → Nat → Value} {I : Nat → Nat → Int32} {L : Nat → Nat → Int64} {R : Nat → Nat → Option Nat} {tl : am_H} {k : Nat} {x : Int32} (hk : k < 60) (hx : am_afit 2 x = true) : am_pS 2 (.ref 137) (nI k) x (fx V I L R ++ tl) = some (fx V (iup I 137 (upd (I 137) k x)) L R ++ tl) := ev_s (f := I 137) (n := 60) rfl (am_inb_n hk (by omega)) hx (by rw [nI_clamp (by omega)]; rfl)
set_option maxRecDepth 100000 in
set_option maxHeartbeats 4000000 in
theorem qa_138 {V : Nat → Nat → Value} {I : Nat → Nat → Int32} {L : Nat → Nat → Int64} {R : Nat → Nat → Option Nat} {tl : am_H} {k : Nat} (hk : k < 60) : am_pA 2 (.ref 138) (nI k) (fx V I L R ++ tl) = some (I 138 k) := by rw [ev_a (f := I 138) (n := 60) rfl (am_inb_n hk (by omega)), nI_clamp (by omega)]
set_option maxRecDepth 100000 in
set_option maxHeartbeats 4000000 in
theorem qs_138 {V : Nat → Nat → Value} {I : Nat → Nat → Int32} {L : Nat → Nat → Int64} {R : Nat → Nat → Option Nat} {tl : am_H} {k : Nat} {x : Int32} (hk : k < 60) (hx : am_afit 2 x = true) : am_pS 2 (.ref 138) (nI k) x (fx V I L R ++ tl) = some (fx V (iup I 138 (upd (I 138) k x)) L R ++ tl) := ev_s (f := I 138) (n := 60) rfl (am_inb_n hk (by omega)) hx (by rw [nI_clamp (by omega)]; rfl)
set_option maxRecDepth 100000 in
set_option maxHeartbeats 4000000 in
theorem qa_139 {V : Nat → Nat → Value} {I : Nat → Nat → Int32} {L : Nat → Nat → Int64} {R : Nat → Nat → Option Nat} {tl : am_H} {k : Nat} (hk : k < 61) : am_pA 0 (.ref 139) (nI k) (fx V I L R ++ tl) = some (I 139 k) := by rw [ev_a (f := I 139) (n := 61) rfl (am_inb_n hk (by omega)), nI_clamp (by omega)]
set_option maxRecDepth 100000 in
set_option maxHeartbeats 4000000 in
theorem qs_139 {V : Nat → Nat → Value} {I : Nat → Nat → Int32} {L : Nat → Nat → Int64} {R : Nat → Nat → Option Nat} {tl : am_H} {k : Nat} {x : Int32} (hk : k < 61) : am_pS 0 (.ref 139) (nI k) x (fx V I L R ++ tl) = some (fx V (iup I 139 (upd (I 139) k x)) L R ++ tl) := ev_s (f := I 139) (n := 61) rfl (am_inb_n hk (by omega)) rfl (by rw [nI_clamp (by omega)]; rfl)
set_option maxRecDepth 100000 in
set_option maxHeartbeats 4000000 in
theorem qr_141_0 {V : Nat → Nat → Value} {I : Nat → Nat → Int32} {L : Nat → Nat → Int64} {R : Nat → Nat → Option Nat} {tl : am_H} : am_pG 768 (.ref 141) (fx V I L R ++ tl) = some (.ref 142) := rfl
set_option maxRecDepth 100000 in
set_option maxHeartbeats 4000000 in
theorem qv_141_1 {V : Nat → Nat → Value} {I : Nat → Nat → Int32} {L : Nat → Nat → Int64} {R : Nat → Nat → Option Nat} {tl : am_H} : am_pG 769 (.ref 141) (fx V I L R ++ tl) = some (V 141 1) := rfl
set_option maxRecDepth 100000 in
set_option maxHeartbeats 4000000 in
theorem qp_141_1 {V : Nat → Nat → Value} {I : Nat → Nat → Int32} {L : Nat → Nat → Int64} {R : Nat → Nat → Option Nat} {tl : am_H} {x : Int32} : am_pP 769 (.ref 141) (.int x) (fx V I L R ++ tl) = some (fx (vup V 141 1 (.int x)) I L R ++ tl) := ev_p rfl rfl rfl rfl
set_option maxRecDepth 100000 in
set_option maxHeartbeats 4000000 in
theorem qv_141_2 {V : Nat → Nat → Value} {I : Nat → Nat → Int32} {L : Nat → Nat → Int64} {R : Nat → Nat → Option Nat} {tl : am_H} : am_pG 770 (.ref 141) (fx V I L R ++ tl) = some (V 141 2) := rfl
set_option maxRecDepth 100000 in
set_option maxHeartbeats 4000000 in
theorem qp_141_2 {V : Nat → Nat → Value} {I : Nat → Nat → Int32} {L : Nat → Nat → Int64} {R : Nat → Nat → Option Nat} {tl : am_H} {x : Int32} : am_pP 770 (.ref 141) (.int x) (fx V I L R ++ tl) = some (fx (vup V 141 2 (.int x)) I L R ++ tl) := ev_p rfl rfl rfl rfl
set_option maxRecDepth 100000 in
set_option maxHeartbeats 4000000 in
theorem qv_141_3 {V : Nat → Nat → Value} {I : Nat → Nat → Int32} {L : Nat → Nat → Int64} {R : Nat → Nat → Option Nat} {tl : am_H} : am_pG 771 (.ref 141) (fx V I L R ++ tl) = some (V 141 3) := rfl
set_option maxRecDepth 100000 in
set_option maxHeartbeats 4000000 in
theorem qp_141_3 {V : Nat → Nat → Value} {I : Nat → Nat → Int32} {L : Nat → Nat → Int64} {R : Nat → Nat → Option Nat} {tl : am_H} {x : Int32} : am_pP 771 (.ref 141) (.int x) (fx V I L R ++ tl) = some (fx (vup V 141 3 (.int x)) I L R ++ tl) := ev_p rfl rfl rfl rfl
set_option maxRecDepth 100000 in
set_option maxHeartbeats 4000000 in
theorem qv_141_4 {V : Nat → Nat → Value} {I : Nat → Nat → Int32} {L : Nat → Nat → Int64} {R : Nat → Nat → Option Nat} {tl : am_H} : am_pG 772 (.ref 141) (fx V I L R ++ tl) = some (V 141 4) := rfl
set_option maxRecDepth 100000 in
set_option maxHeartbeats 4000000 in
theorem qp_141_4 {V : Nat → Nat → Value} {I : Nat → Nat → Int32} {L : Nat → Nat → Int64} {R : Nat → Nat → Option Nat} {tl : am_H} {x : Int32} : am_pP 772 (.ref 141) (.int x) (fx V I L R ++ tl) = some (fx (vup V 141 4 (.int x)) I L R ++ tl) := ev_p rfl rfl rfl rfl
set_option maxRecDepth 100000 in
set_option maxHeartbeats 4000000 in
theorem qv_141_5 {V : Nat → Nat → Value} {I : Nat → Nat → Int32} {L : Nat → Nat → Int64} {R : Nat → Nat → Option Nat} {tl : am_H} : am_pG 773 (.ref 141) (fx V I L R ++ tl) = some (V 141 5) := rfl
set_option maxRecDepth 100000 in
set_option maxHeartbeats 4000000 in
theorem qp_141_5 {V : Nat → Nat → Value} {I : Nat → Nat → Int32} {L : Nat → Nat → Int64} {R : Nat → Nat → Option Nat} {tl : am_H} {x : Int32} : am_pP 773 (.ref 141) (.int x) (fx V I L R ++ tl) = some (fx (vup V 141 5 (.int x)) I L R ++ tl) := ev_p rfl rfl rfl rfl
set_option maxRecDepth 100000 in
set_option maxHeartbeats 4000000 in
theorem qv_141_6 {V : Nat → Nat → Value} {I : Nat → Nat → Int32} {L : Nat → Nat → Int64} {R : Nat → Nat → Option Nat} {tl : am_H} : am_pG 774 (.ref 141) (fx V I L R ++ tl) = some (V 141 6) := rfl
set_option maxRecDepth 100000 in
set_option maxHeartbeats 4000000 in
theorem qp_141_6 {V : Nat → Nat → Value} {I : Nat → Nat → Int32} {L : Nat → Nat → Int64} {R : Nat → Nat → Option Nat} {tl : am_H} {x : Int32} : am_pP 774 (.ref 141) (.int x) (fx V I L R ++ tl) = some (fx (vup V 141 6 (.int x)) I L R ++ tl) := ev_p rfl rfl rfl rfl
set_option maxRecDepth 100000 in
set_option maxHeartbeats 4000000 in
theorem qv_141_7 {V : Nat → Nat → Value} {I : Nat → Nat → Int32} {L : Nat → Nat → Int64} {R : Nat → Nat → Option Nat} {tl : am_H} : am_pG 775 (.ref 141) (fx V I L R ++ tl) = some (V 141 7) := rfl
set_option maxRecDepth 100000 in
set_option maxHeartbeats 4000000 in
theorem qp_141_7 {V : Nat → Nat → Value} {I : Nat → Nat → Int32} {L : Nat → Nat → Int64} {R : Nat → Nat → Option Nat} {tl : am_H} {x : Int32} : am_pP 775 (.ref 141) (.int x) (fx V I L R ++ tl) = some (fx (vup V 141 7 (.int x)) I L R ++ tl) := ev_p rfl rfl rfl rfl
set_option maxRecDepth 100000 in
set_option maxHeartbeats 4000000 in
theorem qv_141_8 {V : Nat → Nat → Value} {I : Nat → Nat → Int32} {L : Nat → Nat → Int64} {R : Nat → Nat → Option Nat} {tl : am_H} : am_pG 776 (.ref 141) (fx V I L R ++ tl) = some (V 141 8) := rfl
set_option maxRecDepth 100000 in
set_option maxHeartbeats 4000000 in
theorem qp_141_8 {V : Nat → Nat → Value} {I : Nat → Nat → Int32} {L : Nat → Nat → Int64} {R : Nat → Nat → Option Nat} {tl : am_H} {x : Int32} : am_pP 776 (.ref 141) (.int x) (fx V I L R ++ tl) = some (fx (vup V 141 8 (.int x)) I L R ++ tl) := ev_p rfl rfl rfl rfl
set_option maxRecDepth 100000 in
set_option maxHeartbeats 4000000 in
theorem qv_141_9 {V : Nat → Nat → Value} {I : Nat → Nat → Int32} {L : Nat → Nat → Int64} {R : Nat → Nat → Option Nat} {tl : am_H} : am_pG 777 (.ref 141) (fx V I L R ++ tl) = some (V 141 9) := rfl
set_option maxRecDepth 100000 in
set_option maxHeartbeats 4000000 in
theorem qp_141_9 {V : Nat → Nat → Value} {I : Nat → Nat → Int32} {L : Nat → Nat → Int64} {R : Nat → Nat → Option Nat} {tl : am_H} {x : Int32} : am_pP 777 (.ref 141) (.int x) (fx V I L R ++ tl) = some (fx (vup V 141 9 (.int x)) I L R ++ tl) := ev_p rfl rfl rfl rfl
set_option maxRecDepth 100000 in
set_option maxHeartbeats 4000000 in
theorem qv_141_10 {V : Nat → Nat → Value} {I : Nat → Nat → Int32} {L : Nat → Nat → Int64} {R : Nat → Nat → Option Nat} {tl : am_H} : am_pG 778 (.ref 141) (fx V I L R ++ tl) = some (V 141 10) := rfl
set_option maxRecDepth 100000 in
set_option maxHeartbeats 4000000 in
theorem qp_141_10 {V : Nat → Nat → Value} {I : Nat → Nat → Int32} {L : Nat → Nat → Int64} {R : Nat → Nat → Option Nat} {tl : am_H} {x : Int64} : am_pP 778 (.ref 141) (.long x) (fx V I L R ++ tl) = some (fx (vup V 141 10 (.long x)) I L R ++ tl) := ev_p rfl rfl rfl rfl
set_option maxRecDepth 100000 in
set_option maxHeartbeats 4000000 in
theorem qa_142 {V : Nat → Nat → Value} {I : Nat → Nat → Int32} {L : Nat → Nat → Int64} {R : Nat → Nat → Option Nat} {tl : am_H} {k : Nat} (hk : k < 120) : am_pA 0 (.ref 142) (nI k) (fx V I L R ++ tl) = some (I 142 k) := by rw [ev_a (f := I 142) (n := 120) rfl (am_inb_n hk (by omega)), nI_clamp (by omega)]
set_option maxRecDepth 100000 in
set_option maxHeartbeats 4000000 in
theorem qs_142 {V : Nat → Nat → Value} {I : Nat → Nat → Int32} {L : Nat → Nat → Int64} {R : Nat → Nat → Option Nat} {tl : am_H} {k : Nat} {x : Int32} (hk : k < 120) : am_pS 0 (.ref 142) (nI k) x (fx V I L R ++ tl) = some (fx V (iup I 142 (upd (I 142) k x)) L R ++ tl) := ev_s (f := I 142) (n := 120) rfl (am_inb_n hk (by omega)) rfl (by rw [nI_clamp (by omega)]; rfl)
set_option maxRecDepth 100000 in
set_option maxHeartbeats 4000000 in
theorem qa_143 {V : Nat → Nat → Value} {I : Nat → Nat → Int32} {L : Nat → Nat → Int64} {R : Nat → Nat → Option Nat} {tl : am_H} {k : Nat} (hk : k < 36) : am_pA 2 (.ref 143) (nI k) (fx V I L R ++ tl) = some (I 143 k) := by rw [ev_a (f := I 143) (n := 36) rfl (am_inb_n hk (by omega)), nI_clamp (by omega)]
set_option maxRecDepth 100000 in
set_option maxHeartbeats 4000000 in
theorem qs_143 {V : Nat → Nat → Value} {I : Nat → Nat → Int32} {L : Nat → Nat → Int64} {R : Nat → Nat → Option Nat} {tl : am_H} {k : Nat} {x : Int32} (hk : k < 36) (hx : am_afit 2 x = true) : am_pS 2 (.ref 143) (nI k) x (fx V I L R ++ tl) = some (fx V (iup I 143 (upd (I 143) k x)) L R ++ tl) := ev_s (f := I 143) (n := 36) rfl (am_inb_n hk (by omega)) hx (by rw [nI_clamp (by omega)]; rfl)
set_option maxRecDepth 100000 in
set_option maxHeartbeats 4000000 in
theorem qa_144 {V : Nat → Nat → Value} {I : Nat → Nat → Int32} {L : Nat → Nat → Int64} {R : Nat → Nat → Option Nat} {tl : am_H} {k : Nat} (hk : k < 6) : am_pA 0 (.ref 144) (nI k) (fx V I L R ++ tl) = some (I 144 k) := by rw [ev_a (f := I 144) (n := 6) rfl (am_inb_n hk (by omega)), nI_clamp (by omega)]
set_option maxRecDepth 100000 in
set_option maxHeartbeats 4000000 in
theorem qs_144 {V : Nat → Nat → Value} {I : Nat → Nat → Int32} {L : Nat → Nat → Int64} {R : Nat → Nat → Option Nat} {tl : am_H} {k : Nat} {x : Int32} (hk : k < 6) : am_pS 0 (.ref 144) (nI k) x (fx V I L R ++ tl) = some (fx V (iup I 144 (upd (I 144) k x)) L R ++ tl) := ev_s (f := I 144) (n := 6) rfl (am_inb_n hk (by omega)) rfl (by rw [nI_clamp (by omega)]; rfl)
set_option maxRecDepth 100000 in
set_option maxHeartbeats 4000000 in
theorem qa_145 {V : Nat → Nat → Value} {I : Nat → Nat → Int32} {L : Nat → Nat → Int64} {R : Nat → Nat → Option Nat} {tl : am_H} {k : Nat} (hk : k < 36) : am_pA 0 (.ref 145) (nI k) (fx V I L R ++ tl) = some (I 145 k) := by rw [ev_a (f := I 145) (n := 36) rfl (am_inb_n hk (by omega)), nI_clamp (by omega)]
set_option maxRecDepth 100000 in
set_option maxHeartbeats 4000000 in
theorem qs_145 {V : Nat → Nat → Value} {I : Nat → Nat → Int32} {L : Nat → Nat → Int64} {R : Nat → Nat → Option Nat} {tl : am_H} {k : Nat} {x : Int32} (hk : k < 36) : am_pS 0 (.ref 145) (nI k) x (fx V I L R ++ tl) = some (fx V (iup I 145 (upd (I 145) k x)) L R ++ tl) := ev_s (f := I 145) (n := 36) rfl (am_inb_n hk (by omega)) rfl (by rw [nI_clamp (by omega)]; rfl)
set_option maxRecDepth 100000 in
set_option maxHeartbeats 4000000 in
theorem qa_146 {V : Nat → Nat → Value} {I : Nat → Nat → Int32} {L : Nat → Nat → Int64} {R : Nat → Nat → Option Nat} {tl : am_H} {k : Nat} (hk : k < 36) : am_pA 0 (.ref 146) (nI k) (fx V I L R ++ tl) = some (I 146 k) := by rw [ev_a (f := I 146) (n := 36) rfl (am_inb_n hk (by omega)), nI_clamp (by omega)]
set_option maxRecDepth 100000 in
set_option maxHeartbeats 4000000 in
theorem qs_146 {V : Nat → Nat → Value} {I : Nat → Nat → Int32} {L : Nat → Nat → Int64} {R : Nat → Nat → Option Nat} {tl : am_H} {k : Nat} {x : Int32} (hk : k < 36) : am_pS 0 (.ref 146) (nI k) x (fx V I L R ++ tl) = some (fx V (iup I 146 (upd (I 146) k x)) L R ++ tl) := ev_s (f := I 146) (n := 36) rfl (am_inb_n hk (by omega)) rfl (by rw [nI_clamp (by omega)]; rfl)
set_option maxRecDepth 100000 in
set_option maxHeartbeats 4000000 in
theorem qa_147 {V : Nat → Nat → Value} {I : Nat → Nat → Int32} {L : Nat → Nat → Int64} {R : Nat → Nat → Option Nat} {tl : am_H} {k : Nat} (hk : k < 8) : am_pA 0 (.ref 147) (nI k) (fx V I L R ++ tl) = some (I 147 k) := by rw [ev_a (f := I 147) (n := 8) rfl (am_inb_n hk (by omega)), nI_clamp (by omega)]
set_option maxRecDepth 100000 in
set_option maxHeartbeats 4000000 in
theorem qs_147 {V : Nat → Nat → Value} {I : Nat → Nat → Int32} {L : Nat → Nat → Int64} {R : Nat → Nat → Option Nat} {tl : am_H} {k : Nat} {x : Int32} (hk : k < 8) : am_pS 0 (.ref 147) (nI k) x (fx V I L R ++ tl) = some (fx V (iup I 147 (upd (I 147) k x)) L R ++ tl) := ev_s (f := I 147) (n := 8) rfl (am_inb_n hk (by omega)) rfl (by rw [nI_clamp (by omega)]; rfl)
set_option maxRecDepth 100000 in
set_option maxHeartbeats 4000000 in
theorem qr_148_0 {V : Nat → Nat → Value} {I : Nat → Nat → Int32} {L : Nat → Nat → Int64} {R : Nat → Nat → Option Nat} {tl : am_H} : am_pG 768 (.ref 148) (fx V I L R ++ tl) = some (.ref 149) := rfl
set_option maxRecDepth 100000 in
set_option maxHeartbeats 4000000 in
theorem qv_148_1 {V : Nat → Nat → Value} {I : Nat → Nat → Int32} {L : Nat → Nat → Int64} {R : Nat → Nat → Option Nat} {tl : am_H} : am_pG 769 (.ref 148) (fx V I L R ++ tl) = some (V 148 1) := rfl
set_option maxRecDepth 100000 in
set_option maxHeartbeats 4000000 in
theorem qp_148_1 {V : Nat → Nat → Value} {I : Nat → Nat → Int32} {L : Nat → Nat → Int64} {R : Nat → Nat → Option Nat} {tl : am_H} {x : Int32} : am_pP 769 (.ref 148) (.int x) (fx V I L R ++ tl) = some (fx (vup V 148 1 (.int x)) I L R ++ tl) := ev_p rfl rfl rfl rfl
set_option maxRecDepth 100000 in
set_option maxHeartbeats 4000000 in
theorem qv_148_2 {V : Nat → Nat → Value} {I : Nat → Nat → Int32} {L : Nat → Nat → Int64} {R : Nat → Nat → Option Nat} {tl : am_H} : am_pG 770 (.ref 148) (fx V I L R ++ tl) = some (V 148 2) := rfl
set_option maxRecDepth 100000 in
set_option maxHeartbeats 4000000 in
theorem qp_148_2 {V : Nat → Nat → Value} {I : Nat → Nat → Int32} {L : Nat → Nat → Int64} {R : Nat → Nat → Option Nat} {tl : am_H} {x : Int32} : am_pP 770 (.ref 148) (.int x) (fx V I L R ++ tl) = some (fx (vup V 148 2 (.int x)) I L R ++ tl) := ev_p rfl rfl rfl rfl
set_option maxRecDepth 100000 in
set_option maxHeartbeats 4000000 in
theorem qv_148_3 {V : Nat → Nat → Value} {I : Nat → Nat → Int32} {L : Nat → Nat → Int64} {R : Nat → Nat → Option Nat} {tl : am_H} : am_pG 771 (.ref 148) (fx V I L R ++ tl) = some (V 148 3) := rfl
set_option maxRecDepth 100000 in
set_option maxHeartbeats 4000000 in
theorem qp_148_3 {V : Nat → Nat → Value} {I : Nat → Nat → Int32} {L : Nat → Nat → Int64} {R : Nat → Nat → Option Nat} {tl : am_H} {x : Int32} : am_pP 771 (.ref 148) (.int x) (fx V I L R ++ tl) = some (fx (vup V 148 3 (.int x)) I L R ++ tl) := ev_p rfl rfl rfl rfl
set_option maxRecDepth 100000 in
set_option maxHeartbeats 4000000 in
theorem qv_148_4 {V : Nat → Nat → Value} {I : Nat → Nat → Int32} {L : Nat → Nat → Int64} {R : Nat → Nat → Option Nat} {tl : am_H} : am_pG 772 (.ref 148) (fx V I L R ++ tl) = some (V 148 4) := rfl
set_option maxRecDepth 100000 in
set_option maxHeartbeats 4000000 in
theorem qp_148_4 {V : Nat → Nat → Value} {I : Nat → Nat → Int32} {L : Nat → Nat → Int64} {R : Nat → Nat → Option Nat} {tl : am_H} {x : Int32} : am_pP 772 (.ref 148) (.int x) (fx V I L R ++ tl) = some (fx (vup V 148 4 (.int x)) I L R ++ tl) := ev_p rfl rfl rfl rfl
set_option maxRecDepth 100000 in
set_option maxHeartbeats 4000000 in
theorem qv_148_5 {V : Nat → Nat → Value} {I : Nat → Nat → Int32} {L : Nat → Nat → Int64} {R : Nat → Nat → Option Nat} {tl : am_H} : am_pG 773 (.ref 148) (fx V I L R ++ tl) = some (V 148 5) := rfl
set_option maxRecDepth 100000 in
set_option maxHeartbeats 4000000 in
theorem qp_148_5 {V : Nat → Nat → Value} {I : Nat → Nat → Int32} {L : Nat → Nat → Int64} {R : Nat → Nat → Option Nat} {tl : am_H} {x : Int32} : am_pP 773 (.ref 148) (.int x) (fx V I L R ++ tl) = some (fx (vup V 148 5 (.int x)) I L R ++ tl) := ev_p rfl rfl rfl rfl
set_option maxRecDepth 100000 in
set_option maxHeartbeats 4000000 in
theorem qv_148_6 {V : Nat → Nat → Value} {I : Nat → Nat → Int32} {L : Nat → Nat → Int64} {R : Nat → Nat → Option Nat} {tl : am_H} : am_pG 774 (.ref 148) (fx V I L R ++ tl) = some (V 148 6) := rfl
set_option maxRecDepth 100000 in
set_option maxHeartbeats 4000000 in
theorem qp_148_6 {V : Nat → Nat → Value} {I : Nat → Nat → Int32} {L : Nat → Nat → Int64} {R : Nat → Nat → Option Nat} {tl : am_H} {x : Int32} : am_pP 774 (.ref 148) (.int x) (fx V I L R ++ tl) = some (fx (vup V 148 6 (.int x)) I L R ++ tl) := ev_p rfl rfl rfl rfl
set_option maxRecDepth 100000 in
set_option maxHeartbeats 4000000 in
theorem qv_148_7 {V : Nat → Nat → Value} {I : Nat → Nat → Int32} {L : Nat → Nat → Int64} {R : Nat → Nat → Option Nat} {tl : am_H} : am_pG 775 (.ref 148) (fx V I L R ++ tl) = some (V 148 7) := rfl
set_option maxRecDepth 100000 in
set_option maxHeartbeats 4000000 in
theorem qp_148_7 {V : Nat → Nat → Value} {I : Nat → Nat → Int32} {L : Nat → Nat → Int64} {R : Nat → Nat → Option Nat} {tl : am_H} {x : Int32} : am_pP 775 (.ref 148) (.int x) (fx V I L R ++ tl) = some (fx (vup V 148 7 (.int x)) I L R ++ tl) := ev_p rfl rfl rfl rfl
set_option maxRecDepth 100000 in
set_option maxHeartbeats 4000000 in
theorem qv_148_8 {V : Nat → Nat → Value} {I : Nat → Nat → Int32} {L : Nat → Nat → Int64} {R : Nat → Nat → Option Nat} {tl : am_H} : am_pG 776 (.ref 148) (fx V I L R ++ tl) = some (V 148 8) := rfl
set_option maxRecDepth 100000 in
set_option maxHeartbeats 4000000 in
theorem qp_148_8 {V : Nat → Nat → Value} {I : Nat → Nat → Int32} {L : Nat → Nat → Int64} {R : Nat → Nat → Option Nat} {tl : am_H} {x : Int32} : am_pP 776 (.ref 148) (.int x) (fx V I L R ++ tl) = some (fx (vup V 148 8 (.int x)) I L R ++ tl) := ev_p rfl rfl rfl rfl
set_option maxRecDepth 100000 in
set_option maxHeartbeats 4000000 in
theorem qv_148_9 {V : Nat → Nat → Value} {I : Nat → Nat → Int32} {L : Nat → Nat → Int64} {R : Nat → Nat → Option Nat} {tl : am_H} : am_pG 777 (.ref 148) (fx V I L R ++ tl) = some (V 148 9) := rfl
set_option maxRecDepth 100000 in
set_option maxHeartbeats 4000000 in
theorem qp_148_9 {V : Nat → Nat → Value} {I : Nat → Nat → Int32} {L : Nat → Nat → Int64} {R : Nat → Nat → Option Nat} {tl : am_H} {x : Int32} : am_pP 777 (.ref 148) (.int x) (fx V I L R ++ tl) = some (fx (vup V 148 9 (.int x)) I L R ++ tl) := ev_p rfl rfl rfl rfl
set_option maxRecDepth 100000 in
set_option maxHeartbeats 4000000 in
theorem qv_148_10 {V : Nat → Nat → Value} {I : Nat → Nat → Int32} {L : Nat → Nat → Int64} {R : Nat → Nat → Option Nat} {tl : am_H} : am_pG 778 (.ref 148) (fx V I L R ++ tl) = some (V 148 10) := rfl
set_option maxRecDepth 100000 in
set_option maxHeartbeats 4000000 in
theorem qp_148_10 {V : Nat → Nat → Value} {I : Nat → Nat → Int32} {L : Nat → Nat → Int64} {R : Nat → Nat → Option Nat} {tl : am_H} {x : Int64} : am_pP 778 (.ref 148) (.long x) (fx V I L R ++ tl) = some (fx (vup V 148 10 (.long x)) I L R ++ tl) := ev_p rfl rfl rfl rfl
set_option maxRecDepth 100000 in
set_option maxHeartbeats 4000000 in
theorem qa_149 {V : Nat → Nat → Value} {I : Nat → Nat → Int32} {L : Nat → Nat → Int64} {R : Nat → Nat → Option Nat} {tl : am_H} {k : Nat} (hk : k < 120) : am_pA 0 (.ref 149) (nI k) (fx V I L R ++ tl) = some (I 149 k) := by rw [ev_a (f := I 149) (n := 120) rfl (am_inb_n hk (by omega)), nI_clamp (by omega)]
set_option maxRecDepth 100000 in
set_option maxHeartbeats 4000000 in
theorem qs_149 {V : Nat → Nat → Value} {I : Nat → Nat → Int32} {L : Nat → Nat → Int64} {R : Nat → Nat → Option Nat} {tl : am_H} {k : Nat} {x : Int32} (hk : k < 120) : am_pS 0 (.ref 149) (nI k) x (fx V I L R ++ tl) = some (fx V (iup I 149 (upd (I 149) k x)) L R ++ tl) := ev_s (f := I 149) (n := 120) rfl (am_inb_n hk (by omega)) rfl (by rw [nI_clamp (by omega)]; rfl)
set_option maxRecDepth 100000 in
set_option maxHeartbeats 4000000 in
theorem qr_150_0 {V : Nat → Nat → Value} {I : Nat → Nat → Int32} {L : Nat → Nat → Int64} {R : Nat → Nat → Option Nat} {tl : am_H} : am_pG 768 (.ref 150) (fx V I L R ++ tl) = some (.ref 151) := rfl
set_option maxRecDepth 100000 in
set_option maxHeartbeats 4000000 in
theorem qv_150_1 {V : Nat → Nat → Value} {I : Nat → Nat → Int32} {L : Nat → Nat → Int64} {R : Nat → Nat → Option Nat} {tl : am_H} : am_pG 769 (.ref 150) (fx V I L R ++ tl) = some (V 150 1) := rfl
set_option maxRecDepth 100000 in
set_option maxHeartbeats 4000000 in
theorem qp_150_1 {V : Nat → Nat → Value} {I : Nat → Nat → Int32} {L : Nat → Nat → Int64} {R : Nat → Nat → Option Nat} {tl : am_H} {x : Int32} : am_pP 769 (.ref 150) (.int x) (fx V I L R ++ tl) = some (fx (vup V 150 1 (.int x)) I L R ++ tl) := ev_p rfl rfl rfl rfl
set_option maxRecDepth 100000 in
set_option maxHeartbeats 4000000 in
theorem qv_150_2 {V : Nat → Nat → Value} {I : Nat → Nat → Int32} {L : Nat → Nat → Int64} {R : Nat → Nat → Option Nat} {tl : am_H} : am_pG 770 (.ref 150) (fx V I L R ++ tl) = some (V 150 2) := rfl
set_option maxRecDepth 100000 in
set_option maxHeartbeats 4000000 in
theorem qp_150_2 {V : Nat → Nat → Value} {I : Nat → Nat → Int32} {L : Nat → Nat → Int64} {R : Nat → Nat → Option Nat} {tl : am_H} {x : Int32} : am_pP 770 (.ref 150) (.int x) (fx V I L R ++ tl) = some (fx (vup V 150 2 (.int x)) I L R ++ tl) := ev_p rfl rfl rfl rfl
set_option maxRecDepth 100000 in
set_option maxHeartbeats 4000000 in
theorem qv_150_3 {V : Nat → Nat → Value} {I : Nat → Nat → Int32} {L : Nat → Nat → Int64} {R : Nat → Nat → Option Nat} {tl : am_H} : am_pG 771 (.ref 150) (fx V I L R ++ tl) = some (V 150 3) := rfl
set_option maxRecDepth 100000 in
set_option maxHeartbeats 4000000 in
theorem qp_150_3 {V : Nat → Nat → Value} {I : Nat → Nat → Int32} {L : Nat → Nat → Int64} {R : Nat → Nat → Option Nat} {tl : am_H} {x : Int32} : am_pP 771 (.ref 150) (.int x) (fx V I L R ++ tl) = some (fx (vup V 150 3 (.int x)) I L R ++ tl) := ev_p rfl rfl rfl rfl
set_option maxRecDepth 100000 in
set_option maxHeartbeats 4000000 in
theorem qv_150_4 {V : Nat → Nat → Value} {I : Nat → Nat → Int32} {L : Nat → Nat → Int64} {R : Nat → Nat → Option Nat} {tl : am_H} : am_pG 772 (.ref 150) (fx V I L R ++ tl) = some (V 150 4) := rfl
set_option maxRecDepth 100000 in
set_option maxHeartbeats 4000000 in
theorem qp_150_4 {V : Nat → Nat → Value} {I : Nat → Nat → Int32} {L : Nat → Nat → Int64} {R : Nat → Nat → Option Nat} {tl : am_H} {x : Int32} : am_pP 772 (.ref 150) (.int x) (fx V I L R ++ tl) = some (fx (vup V 150 4 (.int x)) I L R ++ tl) := ev_p rfl rfl rfl rfl
set_option maxRecDepth 100000 in
set_option maxHeartbeats 4000000 in
theorem qv_150_5 {V : Nat → Nat → Value} {I : Nat → Nat → Int32} {L : Nat → Nat → Int64} {R : Nat → Nat → Option Nat} {tl : am_H} : am_pG 773 (.ref 150) (fx V I L R ++ tl) = some (V 150 5) := rfl
set_option maxRecDepth 100000 in
set_option maxHeartbeats 4000000 in
theorem qp_150_5 {V : Nat → Nat → Value} {I : Nat → Nat → Int32} {L : Nat → Nat → Int64} {R : Nat → Nat → Option Nat} {tl : am_H} {x : Int32} : am_pP 773 (.ref 150) (.int x) (fx V I L R ++ tl) = some (fx (vup V 150 5 (.int x)) I L R ++ tl) := ev_p rfl rfl rfl rfl
set_option maxRecDepth 100000 in
set_option maxHeartbeats 4000000 in
theorem qv_150_6 {V : Nat → Nat → Value} {I : Nat → Nat → Int32} {L : Nat → Nat → Int64} {R : Nat → Nat → Option Nat} {tl : am_H} : am_pG 774 (.ref 150) (fx V I L R ++ tl) = some (V 150 6) := rfl
set_option maxRecDepth 100000 in
set_option maxHeartbeats 4000000 in
theorem qp_150_6 {V : Nat → Nat → Value} {I : Nat → Nat → Int32} {L : Nat → Nat → Int64} {R : Nat → Nat → Option Nat} {tl : am_H} {x : Int32} : am_pP 774 (.ref 150) (.int x) (fx V I L R ++ tl) = some (fx (vup V 150 6 (.int x)) I L R ++ tl) := ev_p rfl rfl rfl rfl
set_option maxRecDepth 100000 in
set_option maxHeartbeats 4000000 in
theorem qv_150_7 {V : Nat → Nat → Value} {I : Nat → Nat → Int32} {L : Nat → Nat → Int64} {R : Nat → Nat → Option Nat} {tl : am_H} : am_pG 775 (.ref 150) (fx V I L R ++ tl) = some (V 150 7) := rfl
set_option maxRecDepth 100000 in
set_option maxHeartbeats 4000000 in
theorem qp_150_7 {V : Nat → Nat → Value} {I : Nat → Nat → Int32} {L : Nat → Nat → Int64} {R : Nat → Nat → Option Nat} {tl : am_H} {x : Int32} : am_pP 775 (.ref 150) (.int x) (fx V I L R ++ tl) = some (fx (vup V 150 7 (.int x)) I L R ++ tl) := ev_p rfl rfl rfl rfl
set_option maxRecDepth 100000 in
set_option maxHeartbeats 4000000 in
theorem qv_150_8 {V : Nat → Nat → Value} {I : Nat → Nat → Int32} {L : Nat → Nat → Int64} {R : Nat → Nat → Option Nat} {tl : am_H} : am_pG 776 (.ref 150) (fx V I L R ++ tl) = some (V 150 8) := rfl
set_option maxRecDepth 100000 in
set_option maxHeartbeats 4000000 in
theorem qp_150_8 {V : Nat → Nat → Value} {I : Nat → Nat → Int32} {L : Nat → Nat → Int64} {R : Nat → Nat → Option Nat} {tl : am_H} {x : Int32} : am_pP 776 (.ref 150) (.int x) (fx V I L R ++ tl) = some (fx (vup V 150 8 (.int x)) I L R ++ tl) := ev_p rfl rfl rfl rfl
set_option maxRecDepth 100000 in
set_option maxHeartbeats 4000000 in
theorem qv_150_9 {V : Nat → Nat → Value} {I : Nat → Nat → Int32} {L : Nat → Nat → Int64} {R : Nat → Nat → Option Nat} {tl : am_H} : am_pG 777 (.ref 150) (fx V I L R ++ tl) = some (V 150 9) := rfl
set_option maxRecDepth 100000 in
set_option maxHeartbeats 4000000 in
theorem qp_150_9 {V : Nat → Nat → Value} {I : Nat → Nat → Int32} {L : Nat → Nat → Int64} {R : Nat → Nat → Option Nat} {tl : am_H} {x : Int32} : am_pP 777 (.ref 150) (.int x) (fx V I L R ++ tl) = some (fx (vup V 150 9 (.int x)) I L R ++ tl) := ev_p rfl rfl rfl rfl
set_option maxRecDepth 100000 in
set_option maxHeartbeats 4000000 in
theorem qv_150_10 {V : Nat → Nat → Value} {I : Nat → Nat → Int32} {L : Nat → Nat → Int64} {R : Nat → Nat → Option Nat} {tl : am_H} : am_pG 778 (.ref 150) (fx V I L R ++ tl) = some (V 150 10) := rfl
set_option maxRecDepth 100000 in
set_option maxHeartbeats 4000000 in
theorem qp_150_10 {V : Nat → Nat → Value} {I : Nat → Nat → Int32} {L : Nat → Nat → Int64} {R : Nat → Nat → Option Nat} {tl : am_H} {x : Int64} : am_pP 778 (.ref 150) (.long x) (fx V I L R ++ tl) = some (fx (vup V 150 10 (.long x)) I L R ++ tl) := ev_p rfl rfl rfl rfl
set_option maxRecDepth 100000 in
set_option maxHeartbeats 4000000 in
theorem qa_151 {V : Nat → Nat → Value} {I : Nat → Nat → Int32} {L : Nat → Nat → Int64} {R : Nat → Nat → Option Nat} {tl : am_H} {k : Nat} (hk : k < 120) : am_pA 0 (.ref 151) (nI k) (fx V I L R ++ tl) = some (I 151 k) := by rw [ev_a (f := I 151) (n := 120) rfl (am_inb_n hk (by omega)), nI_clamp (by omega)]
set_option maxRecDepth 100000 in
set_option maxHeartbeats 4000000 in
theorem qs_151 {V : Nat → Nat → Value} {I : Nat → Nat → Int32} {L : Nat → Nat → Int64} {R : Nat → Nat → Option Nat} {tl : am_H} {k : Nat} {x : Int32} (hk : k < 120) : am_pS 0 (.ref 151) (nI k) x (fx V I L R ++ tl) = some (fx V (iup I 151 (upd (I 151) k x)) L R ++ tl) := ev_s (f := I 151) (n := 120) rfl (am_inb_n hk (by omega)) rfl (by rw [nI_clamp (by omega)]; rfl)
set_option maxRecDepth 100000 in
set_option maxHeartbeats 4000000 in
theorem qr_152_0 {V : Nat → Nat → Value} {I : Nat → Nat → Int32} {L : Nat → Nat → Int64} {R : Nat → Nat → Option Nat} {tl : am_H} : am_pG 768 (.ref 152) (fx V I L R ++ tl) = some (.ref 153) := rfl
set_option maxRecDepth 100000 in
set_option maxHeartbeats 4000000 in
theorem qv_152_1 {V : Nat → Nat → Value} {I : Nat → Nat → Int32} {L : Nat → Nat → Int64} {R : Nat → Nat → Option Nat} {tl : am_H} : am_pG 769 (.ref 152) (fx V I L R ++ tl) = some (V 152 1) := rfl
set_option maxRecDepth 100000 in
set_option maxHeartbeats 4000000 in
theorem qp_152_1 {V : Nat → Nat → Value} {I : Nat → Nat → Int32} {L : Nat → Nat → Int64} {R : Nat → Nat → Option Nat} {tl : am_H} {x : Int32} : am_pP 769 (.ref 152) (.int x) (fx V I L R ++ tl) = some (fx (vup V 152 1 (.int x)) I L R ++ tl) := ev_p rfl rfl rfl rfl
set_option maxRecDepth 100000 in
set_option maxHeartbeats 4000000 in
theorem qv_152_2 {V : Nat → Nat → Value} {I : Nat → Nat → Int32} {L : Nat → Nat → Int64} {R : Nat → Nat → Option Nat} {tl : am_H} : am_pG 770 (.ref 152) (fx V I L R ++ tl) = some (V 152 2) := rfl
set_option maxRecDepth 100000 in
set_option maxHeartbeats 4000000 in
theorem qp_152_2 {V : Nat → Nat → Value} {I : Nat → Nat → Int32} {L : Nat → Nat → Int64} {R : Nat → Nat → Option Nat} {tl : am_H} {x : Int32} : am_pP 770 (.ref 152) (.int x) (fx V I L R ++ tl) = some (fx (vup V 152 2 (.int x)) I L R ++ tl) := ev_p rfl rfl rfl rfl
set_option maxRecDepth 100000 in
set_option maxHeartbeats 4000000 in
theorem qv_152_3 {V : Nat → Nat → Value} {I : Nat → Nat → Int32} {L : Nat → Nat → Int64} {R : Nat → Nat → Option Nat} {tl : am_H} : am_pG 771 (.ref 152) (fx V I L R ++ tl) = some (V 152 3) := rfl
set_option maxRecDepth 100000 in
set_option maxHeartbeats 4000000 in
theorem qp_152_3 {V : Nat → Nat → Value} {I : Nat → Nat → Int32} {L : Nat → Nat → Int64} {R : Nat → Nat → Option Nat} {tl : am_H} {x : Int32} : am_pP 771 (.ref 152) (.int x) (fx V I L R ++ tl) = some (fx (vup V 152 3 (.int x)) I L R ++ tl) := ev_p rfl rfl rfl rfl
set_option maxRecDepth 100000 in
set_option maxHeartbeats 4000000 in
theorem qv_152_4 {V : Nat → Nat → Value} {I : Nat → Nat → Int32} {L : Nat → Nat → Int64} {R : Nat → Nat → Option Nat} {tl : am_H} : am_pG 772 (.ref 152) (fx V I L R ++ tl) = some (V 152 4) := rfl
set_option maxRecDepth 100000 in
set_option maxHeartbeats 4000000 in
theorem qp_152_4 {V : Nat → Nat → Value} {I : Nat → Nat → Int32} {L : Nat → Nat → Int64} {R : Nat → Nat → Option Nat} {tl : am_H} {x : Int32} : am_pP 772 (.ref 152) (.int x) (fx V I L R ++ tl) = some (fx (vup V 152 4 (.int x)) I L R ++ tl) := ev_p rfl rfl rfl rfl
set_option maxRecDepth 100000 in
set_option maxHeartbeats 4000000 in
theorem qv_152_5 {V : Nat → Nat → Value} {I : Nat → Nat → Int32} {L : Nat → Nat → Int64} {R : Nat → Nat → Option Nat} {tl : am_H} : am_pG 773 (.ref 152) (fx V I L R ++ tl) = some (V 152 5) := rfl
set_option maxRecDepth 100000 in
set_option maxHeartbeats 4000000 in
theorem qp_152_5 {V : Nat → Nat → Value} {I : Nat → Nat → Int32} {L : Nat → Nat → Int64} {R : Nat → Nat → Option Nat} {tl : am_H} {x : Int32} : am_pP 773 (.ref 152) (.int x) (fx V I L R ++ tl) = some (fx (vup V 152 5 (.int x)) I L R ++ tl) := ev_p rfl rfl rfl rfl
set_option maxRecDepth 100000 in
set_option maxHeartbeats 4000000 in
theorem qv_152_6 {V : Nat → Nat → Value} {I : Nat → Nat → Int32} {L : Nat → Nat → Int64} {R : Nat → Nat → Option Nat} {tl : am_H} : am_pG 774 (.ref 152) (fx V I L R ++ tl) = some (V 152 6) := rfl
set_option maxRecDepth 100000 in
set_option maxHeartbeats 4000000 in
theorem qp_152_6 {V : Nat → Nat → Value} {I : Nat → Nat → Int32} {L : Nat → Nat → Int64} {R : Nat → Nat → Option Nat} {tl : am_H} {x : Int32} : am_pP 774 (.ref 152) (.int x) (fx V I L R ++ tl) = some (fx (vup V 152 6 (.int x)) I L R ++ tl) := ev_p rfl rfl rfl rfl
set_option maxRecDepth 100000 in
set_option maxHeartbeats 4000000 in
theorem qv_152_7 {V : Nat → Nat → Value} {I : Nat → Nat → Int32} {L : Nat → Nat → Int64} {R : Nat → Nat → Option Nat} {tl : am_H} : am_pG 775 (.ref 152) (fx V I L R ++ tl) = some (V 152 7) := rfl
set_option maxRecDepth 100000 in
set_option maxHeartbeats 4000000 in
theorem qp_152_7 {V : Nat → Nat → Value} {I : Nat → Nat → Int32} {L : Nat → Nat → Int64} {R : Nat → Nat → Option Nat} {tl : am_H} {x : Int32} : am_pP 775 (.ref 152) (.int x) (fx V I L R ++ tl) = some (fx (vup V 152 7 (.int x)) I L R ++ tl) := ev_p rfl rfl rfl rfl
set_option maxRecDepth 100000 in
set_option maxHeartbeats 4000000 in
theorem qv_152_8 {V : Nat → Nat → Value} {I : Nat → Nat → Int32} {L : Nat → Nat → Int64} {R : Nat → Nat → Option Nat} {tl : am_H} : am_pG 776 (.ref 152) (fx V I L R ++ tl) = some (V 152 8) := rfl
set_option maxRecDepth 100000 in
set_option maxHeartbeats 4000000 in
theorem qp_152_8 {V : Nat → Nat → Value} {I : Nat → Nat → Int32} {L : Nat → Nat → Int64} {R : Nat → Nat → Option Nat} {tl : am_H} {x : Int32} : am_pP 776 (.ref 152) (.int x) (fx V I L R ++ tl) = some (fx (vup V 152 8 (.int x)) I L R ++ tl) := ev_p rfl rfl rfl rfl
set_option maxRecDepth 100000 in
set_option maxHeartbeats 4000000 in
theorem qv_152_9 {V : Nat → Nat → Value} {I : Nat → Nat → Int32} {L : Nat → Nat → Int64} {R : Nat → Nat → Option Nat} {tl : am_H} : am_pG 777 (.ref 152) (fx V I L R ++ tl) = some (V 152 9) := rfl
set_option maxRecDepth 100000 in
set_option maxHeartbeats 4000000 in
theorem qp_152_9 {V : Nat → Nat → Value} {I : Nat → Nat → Int32} {L : Nat → Nat → Int64} {R : Nat → Nat → Option Nat} {tl : am_H} {x : Int32} : am_pP 777 (.ref 152) (.int x) (fx V I L R ++ tl) = some (fx (vup V 152 9 (.int x)) I L R ++ tl) := ev_p rfl rfl rfl rfl
set_option maxRecDepth 100000 in
set_option maxHeartbeats 4000000 in
theorem qv_152_10 {V : Nat → Nat → Value} {I : Nat → Nat → Int32} {L : Nat → Nat → Int64} {R : Nat → Nat → Option Nat} {tl : am_H} : am_pG 778 (.ref 152) (fx V I L R ++ tl) = some (V 152 10) := rfl
set_option maxRecDepth 100000 in
set_option maxHeartbeats 4000000 in
theorem qp_152_10 {V : Nat → Nat → Value} {I : Nat → Nat → Int32} {L : Nat → Nat → Int64} {R : Nat → Nat → Option Nat} {tl : am_H} {x : Int64} : am_pP 778 (.ref 152) (.long x) (fx V I L R ++ tl) = some (fx (vup V 152 10 (.long x)) I L R ++ tl) := ev_p rfl rfl rfl rfl
set_option maxRecDepth 100000 in
set_option maxHeartbeats 4000000 in
theorem qa_153 {V : Nat → Nat → Value} {I : Nat → Nat → Int32} {L : Nat → Nat → Int64} {R : Nat → Nat → Option Nat} {tl : am_H} {k : Nat} (hk : k < 120) : am_pA 0 (.ref 153) (nI k) (fx V I L R ++ tl) = some (I 153 k) := by rw [ev_a (f := I 153) (n := 120) rfl (am_inb_n hk (by omega)), nI_clamp (by omega)]
set_option maxRecDepth 100000 in
set_option maxHeartbeats 4000000 in
theorem qs_153 {V : Nat → Nat → Value} {I : Nat → Nat → Int32} {L : Nat → Nat → Int64} {R : Nat → Nat → Option Nat} {tl : am_H} {k : Nat} {x : Int32} (hk : k < 120) : am_pS 0 (.ref 153) (nI k) x (fx V I L R ++ tl) = some (fx V (iup I 153 (upd (I 153) k x)) L R ++ tl) := ev_s (f := I 153) (n := 120) rfl (am_inb_n hk (by omega)) rfl (by rw [nI_clamp (by omega)]; rfl)
set_option maxRecDepth 100000 in
set_option maxHeartbeats 4000000 in
theorem qr_154_0 {V : Nat → Nat → Value} {I : Nat → Nat → Int32} {L : Nat → Nat → Int64} {R : Nat → Nat → Option Nat} {tl : am_H} : am_pG 768 (.ref 154) (fx V I L R ++ tl) = some (.ref 155) := rfl
set_option maxRecDepth 100000 in
set_option maxHeartbeats 4000000 in
theorem qv_154_1 {V : Nat → Nat → Value} {I : Nat → Nat → Int32} {L : Nat → Nat → Int64} {R : Nat → Nat → Option Nat} {tl : am_H} : am_pG 769 (.ref 154) (fx V I L R ++ tl) = some (V 154 1) := rfl
set_option maxRecDepth 100000 in
set_option maxHeartbeats 4000000 in
theorem qp_154_1 {V : Nat → Nat → Value} {I : Nat → Nat → Int32} {L : Nat → Nat → Int64} {R : Nat → Nat → Option Nat} {tl : am_H} {x : Int32} : am_pP 769 (.ref 154) (.int x) (fx V I L R ++ tl) = some (fx (vup V 154 1 (.int x)) I L R ++ tl) := ev_p rfl rfl rfl rfl
set_option maxRecDepth 100000 in
set_option maxHeartbeats 4000000 in
theorem qv_154_2 {V : Nat → Nat → Value} {I : Nat → Nat → Int32} {L : Nat → Nat → Int64} {R : Nat → Nat → Option Nat} {tl : am_H} : am_pG 770 (.ref 154) (fx V I L R ++ tl) = some (V 154 2) := rfl
set_option maxRecDepth 100000 in
set_option maxHeartbeats 4000000 in
theorem qp_154_2 {V : Nat → Nat → Value} {I : Nat → Nat → Int32} {L : Nat → Nat → Int64} {R : Nat → Nat → Option Nat} {tl : am_H} {x : Int32} : am_pP 770 (.ref 154) (.int x) (fx V I L R ++ tl) = some (fx (vup V 154 2 (.int x)) I L R ++ tl) := ev_p rfl rfl rfl rfl
set_option maxRecDepth 100000 in
set_option maxHeartbeats 4000000 in
theorem qv_154_3 {V : Nat → Nat → Value} {I : Nat → Nat → Int32} {L : Nat → Nat → Int64} {R : Nat → Nat → Option Nat} {tl : am_H} : am_pG 771 (.ref 154) (fx V I L R ++ tl) = some (V 154 3) := rfl
set_option maxRecDepth 100000 in
set_option maxHeartbeats 4000000 in
theorem qp_154_3 {V : Nat → Nat → Value} {I : Nat → Nat → Int32} {L : Nat → Nat → Int64} {R : Nat → Nat → Option Nat} {tl : am_H} {x : Int32} : am_pP 771 (.ref 154) (.int x) (fx V I L R ++ tl) = some (fx (vup V 154 3 (.int x)) I L R ++ tl) := ev_p rfl rfl rfl rfl
set_option maxRecDepth 100000 in
set_option maxHeartbeats 4000000 in
theorem qv_154_4 {V : Nat → Nat → Value} {I : Nat → Nat → Int32} {L : Nat → Nat → Int64} {R : Nat → Nat → Option Nat} {tl : am_H} : am_pG 772 (.ref 154) (fx V I L R ++ tl) = some (V 154 4) := rfl
set_option maxRecDepth 100000 in
set_option maxHeartbeats 4000000 in
theorem qp_154_4 {V : Nat → Nat → Value} {I : Nat → Nat → Int32} {L : Nat → Nat → Int64} {R : Nat → Nat → Option Nat} {tl : am_H} {x : Int32} : am_pP 772 (.ref 154) (.int x) (fx V I L R ++ tl) = some (fx (vup V 154 4 (.int x)) I L R ++ tl) := ev_p rfl rfl rfl rfl
set_option maxRecDepth 100000 in
set_option maxHeartbeats 4000000 in
theorem qv_154_5 {V : Nat → Nat → Value} {I : Nat → Nat → Int32} {L : Nat → Nat → Int64} {R : Nat → Nat → Option Nat} {tl : am_H} : am_pG 773 (.ref 154) (fx V I L R ++ tl) = some (V 154 5) := rfl
set_option maxRecDepth 100000 in
set_option maxHeartbeats 4000000 in
theorem qp_154_5 {V : Nat → Nat → Value} {I : Nat → Nat → Int32} {L : Nat → Nat → Int64} {R : Nat → Nat → Option Nat} {tl : am_H} {x : Int32} : am_pP 773 (.ref 154) (.int x) (fx V I L R ++ tl) = some (fx (vup V 154 5 (.int x)) I L R ++ tl) := ev_p rfl rfl rfl rfl
set_option maxRecDepth 100000 in
set_option maxHeartbeats 4000000 in
theorem qv_154_6 {V : Nat → Nat → Value} {I : Nat → Nat → Int32} {L : Nat → Nat → Int64} {R : Nat → Nat → Option Nat} {tl : am_H} : am_pG 774 (.ref 154) (fx V I L R ++ tl) = some (V 154 6) := rfl
set_option maxRecDepth 100000 in
set_option maxHeartbeats 4000000 in
theorem qp_154_6 {V : Nat → Nat → Value} {I : Nat → Nat → Int32} {L : Nat → Nat → Int64} {R : Nat → Nat → Option Nat} {tl : am_H} {x : Int32} : am_pP 774 (.ref 154) (.int x) (fx V I L R ++ tl) = some (fx (vup V 154 6 (.int x)) I L R ++ tl) := ev_p rfl rfl rfl rfl
set_option maxRecDepth 100000 in
set_option maxHeartbeats 4000000 in
theorem qv_154_7 {V : Nat → Nat → Value} {I : Nat → Nat → Int32} {L : Nat → Nat → Int64} {R : Nat → Nat → Option Nat} {tl : am_H} : am_pG 775 (.ref 154) (fx V I L R ++ tl) = some (V 154 7) := rfl
set_option maxRecDepth 100000 in
set_option maxHeartbeats 4000000 in
theorem qp_154_7 {V : Nat → Nat → Value} {I : Nat → Nat → Int32} {L : Nat → Nat → Int64} {R : Nat → Nat → Option Nat} {tl : am_H} {x : Int32} : am_pP 775 (.ref 154) (.int x) (fx V I L R ++ tl) = some (fx (vup V 154 7 (.int x)) I L R ++ tl) := ev_p rfl rfl rfl rfl
set_option maxRecDepth 100000 in
set_option maxHeartbeats 4000000 in
theorem qv_154_8 {V : Nat → Nat → Value} {I : Nat → Nat → Int32} {L : Nat → Nat → Int64} {R : Nat → Nat → Option Nat} {tl : am_H} : am_pG 776 (.ref 154) (fx V I L R ++ tl) = some (V 154 8) := rfl
set_option maxRecDepth 100000 in
set_option maxHeartbeats 4000000 in
theorem qp_154_8 {V : Nat → Nat → Value} {I : Nat → Nat → Int32} {L : Nat → Nat → Int64} {R : Nat → Nat → Option Nat} {tl : am_H} {x : Int32} : am_pP 776 (.ref 154) (.int x) (fx V I L R ++ tl) = some (fx (vup V 154 8 (.int x)) I L R ++ tl) := ev_p rfl rfl rfl rfl
set_option maxRecDepth 100000 in
set_option maxHeartbeats 4000000 in
theorem qv_154_9 {V : Nat → Nat → Value} {I : Nat → Nat → Int32} {L : Nat → Nat → Int64} {R : Nat → Nat → Option Nat} {tl : am_H} : am_pG 777 (.ref 154) (fx V I L R ++ tl) = some (V 154 9) := rfl
set_option maxRecDepth 100000 in
set_option maxHeartbeats 4000000 in
theorem qp_154_9 {V : Nat → Nat → Value} {I : Nat → Nat → Int32} {L : Nat → Nat → Int64} {R : Nat → Nat → Option Nat} {tl : am_H} {x : Int32} : am_pP 777 (.ref 154) (.int x) (fx V I L R ++ tl) = some (fx (vup V 154 9 (.int x)) I L R ++ tl) := ev_p rfl rfl rfl rfl
set_option maxRecDepth 100000 in
set_option maxHeartbeats 4000000 in
theorem qv_154_10 {V : Nat → Nat → Value} {I : Nat → Nat → Int32} {L : Nat → Nat → Int64} {R : Nat → Nat → Option Nat} {tl : am_H} : am_pG 778 (.ref 154) (fx V I L R ++ tl) = some (V 154 10) := rfl
set_option maxRecDepth 100000 in
set_option maxHeartbeats 4000000 in
theorem qp_154_10 {V : Nat → Nat → Value} {I : Nat → Nat → Int32} {L : Nat → Nat → Int64} {R : Nat → Nat → Option Nat} {tl : am_H} {x : Int64} : am_pP 778 (.ref 154) (.long x) (fx V I L R ++ tl) = some (fx (vup V 154 10 (.long x)) I L R ++ tl) := ev_p rfl rfl rfl rfl
set_option maxRecDepth 100000 in
set_option maxHeartbeats 4000000 in
theorem qa_155 {V : Nat → Nat → Value} {I : Nat → Nat → Int32} {L : Nat → Nat → Int64} {R : Nat → Nat → Option Nat} {tl : am_H} {k : Nat} (hk : k < 120) : am_pA 0 (.ref 155) (nI k) (fx V I L R ++ tl) = some (I 155 k) := by rw [ev_a (f := I 155) (n := 120) rfl (am_inb_n hk (by omega)), nI_clamp (by omega)]
set_option maxRecDepth 100000 in
set_option maxHeartbeats 4000000 in
theorem qs_155 {V : Nat → Nat → Value} {I : Nat → Nat → Int32} {L : Nat → Nat → Int64} {R : Nat → Nat → Option Nat} {tl : am_H} {k : Nat} {x : Int32} (hk : k < 120) : am_pS 0 (.ref 155) (nI k) x (fx V I L R ++ tl) = some (fx V (iup I 155 (upd (I 155) k x)) L R ++ tl) := ev_s (f := I 155) (n := 120) rfl (am_inb_n hk (by omega)) rfl (by rw [nI_clamp (by omega)]; rfl)
set_option maxRecDepth 100000 in
set_option maxHeartbeats 4000000 in
theorem qr_156_0 {V : Nat → Nat → Value} {I : Nat → Nat → Int32} {L : Nat → Nat → Int64} {R : Nat → Nat → Option Nat} {tl : am_H} : am_pG 768 (.ref 156) (fx V I L R ++ tl) = some (.ref 157) := rfl
set_option maxRecDepth 100000 in
set_option maxHeartbeats 4000000 in
theorem qv_156_1 {V : Nat → Nat → Value} {I : Nat → Nat → Int32} {L : Nat → Nat → Int64} {R : Nat → Nat → Option Nat} {tl : am_H} : am_pG 769 (.ref 156) (fx V I L R ++ tl) = some (V 156 1) := rfl
set_option maxRecDepth 100000 in
set_option maxHeartbeats 4000000 in
theorem qp_156_1 {V : Nat → Nat → Value} {I : Nat → Nat → Int32} {L : Nat → Nat → Int64} {R : Nat → Nat → Option Nat} {tl : am_H} {x : Int32} : am_pP 769 (.ref 156) (.int x) (fx V I L R ++ tl) = some (fx (vup V 156 1 (.int x)) I L R ++ tl) := ev_p rfl rfl rfl rfl
set_option maxRecDepth 100000 in
set_option maxHeartbeats 4000000 in
theorem qv_156_2 {V : Nat → Nat → Value} {I : Nat → Nat → Int32} {L : Nat → Nat → Int64} {R : Nat → Nat → Option Nat} {tl : am_H} : am_pG 770 (.ref 156) (fx V I L R ++ tl) = some (V 156 2) := rfl
set_option maxRecDepth 100000 in
set_option maxHeartbeats 4000000 in
theorem qp_156_2 {V : Nat → Nat → Value} {I : Nat → Nat → Int32} {L : Nat → Nat → Int64} {R : Nat → Nat → Option Nat} {tl : am_H} {x : Int32} : am_pP 770 (.ref 156) (.int x) (fx V I L R ++ tl) = some (fx (vup V 156 2 (.int x)) I L R ++ tl) := ev_p rfl rfl rfl rfl
set_option maxRecDepth 100000 in
set_option maxHeartbeats 4000000 in
theorem qv_156_3 {V : Nat → Nat → Value} {I : Nat → Nat → Int32} {L : Nat → Nat → Int64} {R : Nat → Nat → Option Nat} {tl : am_H} : am_pG 771 (.ref 156) (fx V I L R ++ tl) = some (V 156 3) := rfl
set_option maxRecDepth 100000 in
set_option maxHeartbeats 4000000 in
theorem qp_156_3 {V : Nat → Nat → Value} {I : Nat → Nat → Int32} {L : Nat → Nat → Int64} {R : Nat → Nat → Option Nat} {tl : am_H} {x : Int32} : am_pP 771 (.ref 156) (.int x) (fx V I L R ++ tl) = some (fx (vup V 156 3 (.int x)) I L R ++ tl) := ev_p rfl rfl rfl rfl
set_option maxRecDepth 100000 in
set_option maxHeartbeats 4000000 in
theorem qv_156_4 {V : Nat → Nat → Value} {I : Nat → Nat → Int32} {L : Nat → Nat → Int64} {R : Nat → Nat → Option Nat} {tl : am_H} : am_pG 772 (.ref 156) (fx V I L R ++ tl) = some (V 156 4) := rfl
set_option maxRecDepth 100000 in
set_option maxHeartbeats 4000000 in
theorem qp_156_4 {V : Nat → Nat → Value} {I : Nat → Nat → Int32} {L : Nat → Nat → Int64} {R : Nat → Nat → Option Nat} {tl : am_H} {x : Int32} : am_pP 772 (.ref 156) (.int x) (fx V I L R ++ tl) = some (fx (vup V 156 4 (.int x)) I L R ++ tl) := ev_p rfl rfl rfl rfl
set_option maxRecDepth 100000 in
set_option maxHeartbeats 4000000 in
theorem qv_156_5 {V : Nat → Nat → Value} {I : Nat → Nat → Int32} {L : Nat → Nat → Int64} {R : Nat → Nat → Option Nat} {tl : am_H} : am_pG 773 (.ref 156) (fx V I L R ++ tl) = some (V 156 5) := rfl
set_option maxRecDepth 100000 in
set_option maxHeartbeats 4000000 in
theorem qp_156_5 {V : Nat → Nat → Value} {I : Nat → Nat → Int32} {L : Nat → Nat → Int64} {R : Nat → Nat → Option Nat} {tl : am_H} {x : Int32} : am_pP 773 (.ref 156) (.int x) (fx V I L R ++ tl) = some (fx (vup V 156 5 (.int x)) I L R ++ tl) := ev_p rfl rfl rfl rfl
set_option maxRecDepth 100000 in
set_option maxHeartbeats 4000000 in
theorem qv_156_6 {V : Nat → Nat → Value} {I : Nat → Nat → Int32} {L : Nat → Nat → Int64} {R : Nat → Nat → Option Nat} {tl : am_H} : am_pG 774 (.ref 156) (fx V I L R ++ tl) = some (V 156 6) := rfl
set_option maxRecDepth 100000 in
set_option maxHeartbeats 4000000 in
theorem qp_156_6 {V : Nat → Nat → Value} {I : Nat → Nat → Int32} {L : Nat → Nat → Int64} {R : Nat → Nat → Option Nat} {tl : am_H} {x : Int32} : am_pP 774 (.ref 156) (.int x) (fx V I L R ++ tl) = some (fx (vup V 156 6 (.int x)) I L R ++ tl) := ev_p rfl rfl rfl rfl
set_option maxRecDepth 100000 in
set_option maxHeartbeats 4000000 in
theorem qv_156_7 {V : Nat → Nat → Value} {I : Nat → Nat → Int32} {L : Nat → Nat → Int64} {R : Nat → Nat → Option Nat} {tl : am_H} : am_pG 775 (.ref 156) (fx V I L R ++ tl) = some (V 156 7) := rfl
set_option maxRecDepth 100000 in
set_option maxHeartbeats 4000000 in
theorem qp_156_7 {V : Nat → Nat → Value} {I : Nat → Nat → Int32} {L : Nat → Nat → Int64} {R : Nat → Nat → Option Nat} {tl : am_H} {x : Int32} : am_pP 775 (.ref 156) (.int x) (fx V I L R ++ tl) = some (fx (vup V 156 7 (.int x)) I L R ++ tl) := ev_p rfl rfl rfl rfl
set_option maxRecDepth 100000 in
set_option maxHeartbeats 4000000 in
theorem qv_156_8 {V : Nat → Nat → Value} {I : Nat → Nat → Int32} {L : Nat → Nat → Int64} {R : Nat → Nat → Option Nat} {tl : am_H} : am_pG 776 (.ref 156) (fx V I L R ++ tl) = some (V 156 8) := rfl
set_option maxRecDepth 100000 in
set_option maxHeartbeats 4000000 in
theorem qp_156_8 {V : Nat → Nat → Value} {I : Nat → Nat → Int32} {L : Nat → Nat → Int64} {R : Nat → Nat → Option Nat} {tl : am_H} {x : Int32} : am_pP 776 (.ref 156) (.int x) (fx V I L R ++ tl) = some (fx (vup V 156 8 (.int x)) I L R ++ tl) := ev_p rfl rfl rfl rfl
set_option maxRecDepth 100000 in
set_option maxHeartbeats 4000000 in
theorem qv_156_9 {V : Nat → Nat → Value} {I : Nat → Nat → Int32} {L : Nat → Nat → Int64} {R : Nat → Nat → Option Nat} {tl : am_H} : am_pG 777 (.ref 156) (fx V I L R ++ tl) = some (V 156 9) := rfl
set_option maxRecDepth 100000 in
set_option maxHeartbeats 4000000 in
theorem qp_156_9 {V : Nat → Nat → Value} {I : Nat → Nat → Int32} {L : Nat → Nat → Int64} {R : Nat → Nat → Option Nat} {tl : am_H} {x : Int32} : am_pP 777 (.ref 156) (.int x) (fx V I L R ++ tl) = some (fx (vup V 156 9 (.int x)) I L R ++ tl) := ev_p rfl rfl rfl rfl
set_option maxRecDepth 100000 in
set_option maxHeartbeats 4000000 in
theorem qv_156_10 {V : Nat → Nat → Value} {I : Nat → Nat → Int32} {L : Nat → Nat → Int64} {R : Nat → Nat → Option Nat} {tl : am_H} : am_pG 778 (.ref 156) (fx V I L R ++ tl) = some (V 156 10) := rfl
set_option maxRecDepth 100000 in
set_option maxHeartbeats 4000000 in
theorem qp_156_10 {V : Nat → Nat → Value} {I : Nat → Nat → Int32} {L : Nat → Nat → Int64} {R : Nat → Nat → Option Nat} {tl : am_H} {x : Int64} : am_pP 778 (.ref 156) (.long x) (fx V I L R ++ tl) = some (fx (vup V 156 10 (.long x)) I L R ++ tl) := ev_p rfl rfl rfl rfl
set_option maxRecDepth 100000 in
set_option maxHeartbeats 4000000 in
theorem qa_157 {V : Nat → Nat → Value} {I : Nat → Nat → Int32} {L : Nat → Nat → Int64} {R : Nat → Nat → Option Nat} {tl : am_H} {k : Nat} (hk : k < 120) : am_pA 0 (.ref 157) (nI k) (fx V I L R ++ tl) = some (I 157 k) := by rw [ev_a (f := I 157) (n := 120) rfl (am_inb_n hk (by omega)), nI_clamp (by omega)]
set_option maxRecDepth 100000 in
set_option maxHeartbeats 4000000 in
theorem qs_157 {V : Nat → Nat → Value} {I : Nat → Nat → Int32} {L : Nat → Nat → Int64} {R : Nat → Nat → Option Nat} {tl : am_H} {k : Nat} {x : Int32} (hk : k < 120) : am_pS 0 (.ref 157) (nI k) x (fx V I L R ++ tl) = some (fx V (iup I 157 (upd (I 157) k x)) L R ++ tl) := ev_s (f := I 157) (n := 120) rfl (am_inb_n hk (by omega)) rfl (by rw [nI_clamp (by omega)]; rfl)
set_option maxRecDepth 100000 in
set_option maxHeartbeats 4000000 in
theorem qr_158_0 {V : Nat → Nat → Value} {I : Nat → Nat → Int32} {L : Nat → Nat → Int64} {R : Nat → Nat → Option Nat} {tl : am_H} : am_pG 768 (.ref 158) (fx V I L R ++ tl) = some (.ref 159) := rfl
set_option maxRecDepth 100000 in
set_option maxHeartbeats 4000000 in
theorem qv_158_1 {V : Nat → Nat → Value} {I : Nat → Nat → Int32} {L : Nat → Nat → Int64} {R : Nat → Nat → Option Nat} {tl : am_H} : am_pG 769 (.ref 158) (fx V I L R ++ tl) = some (V 158 1) := rfl
set_option maxRecDepth 100000 in
set_option maxHeartbeats 4000000 in
theorem qp_158_1 {V : Nat → Nat → Value} {I : Nat → Nat → Int32} {L : Nat → Nat → Int64} {R : Nat → Nat → Option Nat} {tl : am_H} {x : Int32} : am_pP 769 (.ref 158) (.int x) (fx V I L R ++ tl) = some (fx (vup V 158 1 (.int x)) I L R ++ tl) := ev_p rfl rfl rfl rfl
set_option maxRecDepth 100000 in
set_option maxHeartbeats 4000000 in
theorem qv_158_2 {V : Nat → Nat → Value} {I : Nat → Nat → Int32} {L : Nat → Nat → Int64} {R : Nat → Nat → Option Nat} {tl : am_H} : am_pG 770 (.ref 158) (fx V I L R ++ tl) = some (V 158 2) := rfl
set_option maxRecDepth 100000 in
set_option maxHeartbeats 4000000 in
theorem qp_158_2 {V : Nat → Nat → Value} {I : Nat → Nat → Int32} {L : Nat → Nat → Int64} {R : Nat → Nat → Option Nat} {tl : am_H} {x : Int32} : am_pP 770 (.ref 158) (.int x) (fx V I L R ++ tl) = some (fx (vup V 158 2 (.int x)) I L R ++ tl) := ev_p rfl rfl rfl rfl
set_option maxRecDepth 100000 in
set_option maxHeartbeats 4000000 in
theorem qv_158_3 {V : Nat → Nat → Value} {I : Nat → Nat → Int32} {L : Nat → Nat → Int64} {R : Nat → Nat → Option Nat} {tl : am_H} : am_pG 771 (.ref 158) (fx V I L R ++ tl) = some (V 158 3) := rfl
set_option maxRecDepth 100000 in
set_option maxHeartbeats 4000000 in
theorem qp_158_3 {V : Nat → Nat → Value} {I : Nat → Nat → Int32} {L : Nat → Nat → Int64} {R : Nat → Nat → Option Nat} {tl : am_H} {x : Int32} : am_pP 771 (.ref 158) (.int x) (fx V I L R ++ tl) = some (fx (vup V 158 3 (.int x)) I L R ++ tl) := ev_p rfl rfl rfl rfl
set_option maxRecDepth 100000 in
set_option maxHeartbeats 4000000 in
theorem qv_158_4 {V : Nat → Nat → Value} {I : Nat → Nat → Int32} {L : Nat → Nat → Int64} {R : Nat → Nat → Option Nat} {tl : am_H} : am_pG 772 (.ref 158) (fx V I L R ++ tl) = some (V 158 4) := rfl
set_option maxRecDepth 100000 in
set_option maxHeartbeats 4000000 in
theorem qp_158_4 {V : Nat → Nat → Value} {I : Nat → Nat → Int32} {L : Nat → Nat → Int64} {R : Nat → Nat → Option Nat} {tl : am_H} {x : Int32} : am_pP 772 (.ref 158) (.int x) (fx V I L R ++ tl) = some (fx (vup V 158 4 (.int x)) I L R ++ tl) := ev_p rfl rfl rfl rfl
set_option maxRecDepth 100000 in
set_option maxHeartbeats 4000000 in
theorem qv_158_5 {V : Nat → Nat → Value} {I : Nat → Nat → Int32} {L : Nat → Nat → Int64} {R : Nat → Nat → Option Nat} {tl : am_H} : am_pG 773 (.ref 158) (fx V I L R ++ tl) = some (V 158 5) := rfl
set_option maxRecDepth 100000 in
set_option maxHeartbeats 4000000 in
theorem qp_158_5 {V : Nat → Nat → Value} {I : Nat → Nat → Int32} {L : Nat → Nat → Int64} {R : Nat → Nat → Option Nat} {tl : am_H} {x : Int32} : am_pP 773 (.ref 158) (.int x) (fx V I L R ++ tl) = some (fx (vup V 158 5 (.int x)) I L R ++ tl) := ev_p rfl rfl rfl rfl
set_option maxRecDepth 100000 in
set_option maxHeartbeats 4000000 in
theorem qv_158_6 {V : Nat → Nat → Value} {I : Nat → Nat → Int32} {L : Nat → Nat → Int64} {R : Nat → Nat → Option Nat} {tl : am_H} : am_pG 774 (.ref 158) (fx V I L R ++ tl) = some (V 158 6) := rfl
set_option maxRecDepth 100000 in
set_option maxHeartbeats 4000000 in
theorem qp_158_6 {V : Nat → Nat → Value} {I : Nat → Nat → Int32} {L : Nat → Nat → Int64} {R : Nat → Nat → Option Nat} {tl : am_H} {x : Int32} : am_pP 774 (.ref 158) (.int x) (fx V I L R ++ tl) = some (fx (vup V 158 6 (.int x)) I L R ++ tl) := ev_p rfl rfl rfl rfl
set_option maxRecDepth 100000 in
set_option maxHeartbeats 4000000 in
theorem qv_158_7 {V : Nat → Nat → Value} {I : Nat → Nat → Int32} {L : Nat → Nat → Int64} {R : Nat → Nat → Option Nat} {tl : am_H} : am_pG 775 (.ref 158) (fx V I L R ++ tl) = some (V 158 7) := rfl
set_option maxRecDepth 100000 in
set_option maxHeartbeats 4000000 in
theorem qp_158_7 {V : Nat → Nat → Value} {I : Nat → Nat → Int32} {L : Nat → Nat → Int64} {R : Nat → Nat → Option Nat} {tl : am_H} {x : Int32} : am_pP 775 (.ref 158) (.int x) (fx V I L R ++ tl) = some (fx (vup V 158 7 (.int x)) I L R ++ tl) := ev_p rfl rfl rfl rfl
set_option maxRecDepth 100000 in
set_option maxHeartbeats 4000000 in
theorem qv_158_8 {V : Nat → Nat → Value} {I : Nat → Nat → Int32} {L : Nat → Nat → Int64} {R : Nat → Nat → Option Nat} {tl : am_H} : am_pG 776 (.ref 158) (fx V I L R ++ tl) = some (V 158 8) := rfl
set_option maxRecDepth 100000 in
set_option maxHeartbeats 4000000 in
theorem qp_158_8 {V : Nat → Nat → Value} {I : Nat → Nat → Int32} {L : Nat → Nat → Int64} {R : Nat → Nat → Option Nat} {tl : am_H} {x : Int32} : am_pP 776 (.ref 158) (.int x) (fx V I L R ++ tl) = some (fx (vup V 158 8 (.int x)) I L R ++ tl) := ev_p rfl rfl rfl rfl
set_option maxRecDepth 100000 in
set_option maxHeartbeats 4000000 in
theorem qv_158_9 {V : Nat → Nat → Value} {I : Nat → Nat → Int32} {L : Nat → Nat → Int64} {R : Nat → Nat → Option Nat} {tl : am_H} : am_pG 777 (.ref 158) (fx V I L R ++ tl) = some (V 158 9) := rfl
set_option maxRecDepth 100000 in
set_option maxHeartbeats 4000000 in
theorem qp_158_9 {V : Nat → Nat → Value} {I : Nat → Nat → Int32} {L : Nat → Nat → Int64} {R : Nat → Nat → Option Nat} {tl : am_H} {x : Int32} : am_pP 777 (.ref 158) (.int x) (fx V I L R ++ tl) = some (fx (vup V 158 9 (.int x)) I L R ++ tl) := ev_p rfl rfl rfl rfl
set_option maxRecDepth 100000 in
set_option maxHeartbeats 4000000 in
theorem qv_158_10 {V : Nat → Nat → Value} {I : Nat → Nat → Int32} {L : Nat → Nat → Int64} {R : Nat → Nat → Option Nat} {tl : am_H} : am_pG 778 (.ref 158) (fx V I L R ++ tl) = some (V 158 10) := rfl
set_option maxRecDepth 100000 in
set_option maxHeartbeats 4000000 in
theorem qp_158_10 {V : Nat → Nat → Value} {I : Nat → Nat → Int32} {L : Nat → Nat → Int64} {R : Nat → Nat → Option Nat} {tl : am_H} {x : Int64} : am_pP 778 (.ref 158) (.long x) (fx V I L R ++ tl) = some (fx (vup V 158 10 (.long x)) I L R ++ tl) := ev_p rfl rfl rfl rfl
set_option maxRecDepth 100000 in
set_option maxHeartbeats 4000000 in
theorem qa_159 {V : Nat → Nat → Value} {I : Nat → Nat → Int32} {L : Nat → Nat → Int64} {R : Nat → Nat → Option Nat} {tl : am_H} {k : Nat} (hk : k < 120) : am_pA 0 (.ref 159) (nI k) (fx V I L R ++ tl) = some (I 159 k) := by rw [ev_a (f := I 159) (n := 120) rfl (am_inb_n hk (by omega)), nI_clamp (by omega)]
set_option maxRecDepth 100000 in
set_option maxHeartbeats 4000000 in
theorem qs_159 {V : Nat → Nat → Value} {I : Nat → Nat → Int32} {L : Nat → Nat → Int64} {R : Nat → Nat → Option Nat} {tl : am_H} {k : Nat} {x : Int32} (hk : k < 120) : am_pS 0 (.ref 159) (nI k) x (fx V I L R ++ tl) = some (fx V (iup I 159 (upd (I 159) k x)) L R ++ tl) := ev_s (f := I 159) (n := 120) rfl (am_inb_n hk (by omega)) rfl (by rw [nI_clamp (by omega)]; rfl)
set_option maxRecDepth 100000 in
set_option maxHeartbeats 4000000 in
theorem qr_160_0 {V : Nat → Nat → Value} {I : Nat → Nat → Int32} {L : Nat → Nat → Int64} {R : Nat → Nat → Option Nat} {tl : am_H} : am_pG 768 (.ref 160) (fx V I L R ++ tl) = some (.ref 161) := rfl
set_option maxRecDepth 100000 in
set_option maxHeartbeats 4000000 in
theorem qv_160_1 {V : Nat → Nat → Value} {I : Nat → Nat → Int32} {L : Nat → Nat → Int64} {R : Nat → Nat → Option Nat} {tl : am_H} : am_pG 769 (.ref 160) (fx V I L R ++ tl) = some (V 160 1) := rfl
set_option maxRecDepth 100000 in
set_option maxHeartbeats 4000000 in
theorem qp_160_1 {V : Nat → Nat → Value} {I : Nat → Nat → Int32} {L : Nat → Nat → Int64} {R : Nat → Nat → Option Nat} {tl : am_H} {x : Int32} : am_pP 769 (.ref 160) (.int x) (fx V I L R ++ tl) = some (fx (vup V 160 1 (.int x)) I L R ++ tl) := ev_p rfl rfl rfl rfl
set_option maxRecDepth 100000 in
set_option maxHeartbeats 4000000 in
theorem qv_160_2 {V : Nat → Nat → Value} {I : Nat → Nat → Int32} {L : Nat → Nat → Int64} {R : Nat → Nat → Option Nat} {tl : am_H} : am_pG 770 (.ref 160) (fx V I L R ++ tl) = some (V 160 2) := rfl
set_option maxRecDepth 100000 in
set_option maxHeartbeats 4000000 in
theorem qp_160_2 {V : Nat → Nat → Value} {I : Nat → Nat → Int32} {L : Nat → Nat → Int64} {R : Nat → Nat → Option Nat} {tl : am_H} {x : Int32} : am_pP 770 (.ref 160) (.int x) (fx V I L R ++ tl) = some (fx (vup V 160 2 (.int x)) I L R ++ tl) := ev_p rfl rfl rfl rfl
set_option maxRecDepth 100000 in
set_option maxHeartbeats 4000000 in
theorem qv_160_3 {V : Nat → Nat → Value} {I : Nat → Nat → Int32} {L : Nat → Nat → Int64} {R : Nat → Nat → Option Nat} {tl : am_H} : am_pG 771 (.ref 160) (fx V I L R ++ tl) = some (V 160 3) := rfl
set_option maxRecDepth 100000 in
set_option maxHeartbeats 4000000 in
theorem qp_160_3 {V : Nat → Nat → Value} {I : Nat → Nat → Int32} {L : Nat → Nat → Int64} {R : Nat → Nat → Option Nat} {tl : am_H} {x : Int32} : am_pP 771 (.ref 160) (.int x) (fx V I L R ++ tl) = some (fx (vup V 160 3 (.int x)) I L R ++ tl) := ev_p rfl rfl rfl rfl
set_option maxRecDepth 100000 in
set_option maxHeartbeats 4000000 in
theorem qv_160_4 {V : Nat → Nat → Value} {I : Nat → Nat → Int32} {L : Nat → Nat → Int64} {R : Nat → Nat → Option Nat} {tl : am_H} : am_pG 772 (.ref 160) (fx V I L R ++ tl) = some (V 160 4) := rfl
set_option maxRecDepth 100000 in
set_option maxHeartbeats 4000000 in
theorem qp_160_4 {V : Nat → Nat → Value} {I : Nat → Nat → Int32} {L : Nat → Nat → Int64} {R : Nat → Nat → Option Nat} {tl : am_H} {x : Int32} : am_pP 772 (.ref 160) (.int x) (fx V I L R ++ tl) = some (fx (vup V 160 4 (.int x)) I L R ++ tl) := ev_p rfl rfl rfl rfl
set_option maxRecDepth 100000 in
set_option maxHeartbeats 4000000 in
theorem qv_160_5 {V : Nat → Nat → Value} {I : Nat → Nat → Int32} {L : Nat → Nat → Int64} {R : Nat → Nat → Option Nat} {tl : am_H} : am_pG 773 (.ref 160) (fx V I L R ++ tl) = some (V 160 5) := rfl
set_option maxRecDepth 100000 in
set_option maxHeartbeats 4000000 in
theorem qp_160_5 {V : Nat → Nat → Value} {I : Nat → Nat → Int32} {L : Nat → Nat → Int64} {R : Nat → Nat → Option Nat} {tl : am_H} {x : Int32} : am_pP 773 (.ref 160) (.int x) (fx V I L R ++ tl) = some (fx (vup V 160 5 (.int x)) I L R ++ tl) := ev_p rfl rfl rfl rfl
set_option maxRecDepth 100000 in
set_option maxHeartbeats 4000000 in
theorem qv_160_6 {V : Nat → Nat → Value} {I : Nat → Nat → Int32} {L : Nat → Nat → Int64} {R : Nat → Nat → Option Nat} {tl : am_H} : am_pG 774 (.ref 160) (fx V I L R ++ tl) = some (V 160 6) := rfl
set_option maxRecDepth 100000 in
set_option maxHeartbeats 4000000 in
theorem qp_160_6 {V : Nat → Nat → Value} {I : Nat → Nat → Int32} {L : Nat → Nat → Int64} {R : Nat → Nat → Option Nat} {tl : am_H} {x : Int32} : am_pP 774 (.ref 160) (.int x) (fx V I L R ++ tl) = some (fx (vup V 160 6 (.int x)) I L R ++ tl) := ev_p rfl rfl rfl rfl
set_option maxRecDepth 100000 in
set_option maxHeartbeats 4000000 in
theorem qv_160_7 {V : Nat → Nat → Value} {I : Nat → Nat → Int32} {L : Nat → Nat → Int64} {R : Nat → Nat → Option Nat} {tl : am_H} : am_pG 775 (.ref 160) (fx V I L R ++ tl) = some (V 160 7) := rfl
set_option maxRecDepth 100000 in
set_option maxHeartbeats 4000000 in
theorem qp_160_7 {V : Nat → Nat → Value} {I : Nat → Nat → Int32} {L : Nat → Nat → Int64} {R : Nat → Nat → Option Nat} {tl : am_H} {x : Int32} : am_pP 775 (.ref 160) (.int x) (fx V I L R ++ tl) = some (fx (vup V 160 7 (.int x)) I L R ++ tl) := ev_p rfl rfl rfl rfl
set_option maxRecDepth 100000 in
set_option maxHeartbeats 4000000 in
theorem qv_160_8 {V : Nat → Nat → Value} {I : Nat → Nat → Int32} {L : Nat → Nat → Int64} {R : Nat → Nat → Option Nat} {tl : am_H} : am_pG 776 (.ref 160) (fx V I L R ++ tl) = some (V 160 8) := rfl
set_option maxRecDepth 100000 in
set_option maxHeartbeats 4000000 in
theorem qp_160_8 {V : Nat → Nat → Value} {I : Nat → Nat → Int32} {L : Nat → Nat → Int64} {R : Nat → Nat → Option Nat} {tl : am_H} {x : Int32} : am_pP 776 (.ref 160) (.int x) (fx V I L R ++ tl) = some (fx (vup V 160 8 (.int x)) I L R ++ tl) := ev_p rfl rfl rfl rfl
set_option maxRecDepth 100000 in
set_option maxHeartbeats 4000000 in
theorem qv_160_9 {V : Nat → Nat → Value} {I : Nat → Nat → Int32} {L : Nat → Nat → Int64} {R : Nat → Nat → Option Nat} {tl : am_H} : am_pG 777 (.ref 160) (fx V I L R ++ tl) = some (V 160 9) := rfl
set_option maxRecDepth 100000 in
set_option maxHeartbeats 4000000 in
theorem qp_160_9 {V : Nat → Nat → Value} {I : Nat → Nat → Int32} {L : Nat → Nat → Int64} {R : Nat → Nat → Option Nat} {tl : am_H} {x : Int32} : am_pP 777 (.ref 160) (.int x) (fx V I L R ++ tl) = some (fx (vup V 160 9 (.int x)) I L R ++ tl) := ev_p rfl rfl rfl rfl
set_option maxRecDepth 100000 in
set_option maxHeartbeats 4000000 in
theorem qv_160_10 {V : Nat → Nat → Value} {I : Nat → Nat → Int32} {L : Nat → Nat → Int64} {R : Nat → Nat → Option Nat} {tl : am_H} : am_pG 778 (.ref 160) (fx V I L R ++ tl) = some (V 160 10) := rfl
set_option maxRecDepth 100000 in
set_option maxHeartbeats 4000000 in
theorem qp_160_10 {V : Nat → Nat → Value} {I : Nat → Nat → Int32} {L : Nat → Nat → Int64} {R : Nat → Nat → Option Nat} {tl : am_H} {x : Int64} : am_pP 778 (.ref 160) (.long x) (fx V I L R ++ tl) = some (fx (vup V 160 10 (.long x)) I L R ++ tl) := ev_p rfl rfl rfl rfl
set_option maxRecDepth 100000 in
set_option maxHeartbeats 4000000 in
theorem qa_161 {V : Nat → Nat → Value} {I : Nat → Nat → Int32} {L : Nat → Nat → Int64} {R : Nat → Nat → Option Nat} {tl : am_H} {k : Nat} (hk : k < 120) : am_pA 0 (.ref 161) (nI k) (fx V I L R ++ tl) = some (I 161 k) := by rw [ev_a (f := I 161) (n := 120) rfl (am_inb_n hk (by omega)), nI_clamp (by omega)]
set_option maxRecDepth 100000 in
set_option maxHeartbeats 4000000 in
theorem qs_161 {V : Nat → Nat → Value} {I : Nat → Nat → Int32} {L : Nat → Nat → Int64} {R : Nat → Nat → Option Nat} {tl : am_H} {k : Nat} {x : Int32} (hk : k < 120) : am_pS 0 (.ref 161) (nI k) x (fx V I L R ++ tl) = some (fx V (iup I 161 (upd (I 161) k x)) L R ++ tl) := ev_s (f := I 161) (n := 120) rfl (am_inb_n hk (by omega)) rfl (by rw [nI_clamp (by omega)]; rfl)
set_option maxRecDepth 100000 in
set_option maxHeartbeats 4000000 in
theorem qr_162_0 {V : Nat → Nat → Value} {I : Nat → Nat → Int32} {L : Nat → Nat → Int64} {R : Nat → Nat → Option Nat} {tl : am_H} : am_pG 768 (.ref 162) (fx V I L R ++ tl) = some (.ref 163) := rfl
set_option maxRecDepth 100000 in
set_option maxHeartbeats 4000000 in
theorem qv_162_1 {V : Nat → Nat → Value} {I : Nat → Nat → Int32} {L : Nat → Nat → Int64} {R : Nat → Nat → Option Nat} {tl : am_H} : am_pG 769 (.ref 162) (fx V I L R ++ tl) = some (V 162 1) := rfl
set_option maxRecDepth 100000 in
set_option maxHeartbeats 4000000 in
theorem qp_162_1 {V : Nat → Nat → Value} {I : Nat → Nat → Int32} {L : Nat → Nat → Int64} {R : Nat → Nat → Option Nat} {tl : am_H} {x : Int32} : am_pP 769 (.ref 162) (.int x) (fx V I L R ++ tl) = some (fx (vup V 162 1 (.int x)) I L R ++ tl) := ev_p rfl rfl rfl rfl
set_option maxRecDepth 100000 in
set_option maxHeartbeats 4000000 in
theorem qv_162_2 {V : Nat → Nat → Value} {I : Nat → Nat → Int32} {L : Nat → Nat → Int64} {R : Nat → Nat → Option Nat} {tl : am_H} : am_pG 770 (.ref 162) (fx V I L R ++ tl) = some (V 162 2) := rfl
set_option maxRecDepth 100000 in
set_option maxHeartbeats 4000000 in
theorem qp_162_2 {V : Nat → Nat → Value} {I : Nat → Nat → Int32} {L : Nat → Nat → Int64} {R : Nat → Nat → Option Nat} {tl : am_H} {x : Int32} : am_pP 770 (.ref 162) (.int x) (fx V I L R ++ tl) = some (fx (vup V 162 2 (.int x)) I L R ++ tl) := ev_p rfl rfl rfl rfl
set_option maxRecDepth 100000 in
set_option maxHeartbeats 4000000 in
theorem qv_162_3 {V : Nat → Nat → Value} {I : Nat → Nat → Int32} {L : Nat → Nat → Int64} {R : Nat → Nat → Option Nat} {tl : am_H} : am_pG 771 (.ref 162) (fx V I L R ++ tl) = some (V 162 3) := rfl
set_option maxRecDepth 100000 in
set_option maxHeartbeats 4000000 in
theorem qp_162_3 {V : Nat → Nat → Value} {I : Nat → Nat → Int32} {L : Nat → Nat → Int64} {R : Nat → Nat → Option Nat} {tl : am_H} {x : Int32} : am_pP 771 (.ref 162) (.int x) (fx V I L R ++ tl) = some (fx (vup V 162 3 (.int x)) I L R ++ tl) := ev_p rfl rfl rfl rfl
set_option maxRecDepth 100000 in
set_option maxHeartbeats 4000000 in
theorem qv_162_4 {V : Nat → Nat → Value} {I : Nat → Nat → Int32} {L : Nat → Nat → Int64} {R : Nat → Nat → Option Nat} {tl : am_H} : am_pG 772 (.ref 162) (fx V I L R ++ tl) = some (V 162 4) := rfl
set_option maxRecDepth 100000 in
set_option maxHeartbeats 4000000 in
theorem qp_162_4 {V : Nat → Nat → Value} {I : Nat → Nat → Int32} {L : Nat → Nat → Int64} {R : Nat → Nat → Option Nat} {tl : am_H} {x : Int32} : am_pP 772 (.ref 162) (.int x) (fx V I L R ++ tl) = some (fx (vup V 162 4 (.int x)) I L R ++ tl) := ev_p rfl rfl rfl rfl
set_option maxRecDepth 100000 in
set_option maxHeartbeats 4000000 in
theorem qv_162_5 {V : Nat → Nat → Value} {I : Nat → Nat → Int32} {L : Nat → Nat → Int64} {R : Nat → Nat → Option Nat} {tl : am_H} : am_pG 773 (.ref 162) (fx V I L R ++ tl) = some (V 162 5) := rfl
set_option maxRecDepth 100000 in
set_option maxHeartbeats 4000000 in
theorem qp_162_5 {V : Nat → Nat → Value} {I : Nat → Nat → Int32} {L : Nat → Nat → Int64} {R : Nat → Nat → Option Nat} {tl : am_H} {x : Int32} : am_pP 773 (.ref 162) (.int x) (fx V I L R ++ tl) = some (fx (vup V 162 5 (.int x)) I L R ++ tl) := ev_p rfl rfl rfl rfl
set_option maxRecDepth 100000 in
set_option maxHeartbeats 4000000 in
theorem qv_162_6 {V : Nat → Nat → Value} {I : Nat → Nat → Int32} {L : Nat → Nat → Int64} {R : Nat → Nat → Option Nat} {tl : am_H} : am_pG 774 (.ref 162) (fx V I L R ++ tl) = some (V 162 6) := rfl
set_option maxRecDepth 100000 in
set_option maxHeartbeats 4000000 in
theorem qp_162_6 {V : Nat → Nat → Value} {I : Nat → Nat → Int32} {L : Nat → Nat → Int64} {R : Nat → Nat → Option Nat} {tl : am_H} {x : Int32} : am_pP 774 (.ref 162) (.int x) (fx V I L R ++ tl) = some (fx (vup V 162 6 (.int x)) I L R ++ tl) := ev_p rfl rfl rfl rfl
set_option maxRecDepth 100000 in
set_option maxHeartbeats 4000000 in
theorem qv_162_7 {V : Nat → Nat → Value} {I : Nat → Nat → Int32} {L : Nat → Nat → Int64} {R : Nat → Nat → Option Nat} {tl : am_H} : am_pG 775 (.ref 162) (fx V I L R ++ tl) = some (V 162 7) := rfl
set_option maxRecDepth 100000 in
set_option maxHeartbeats 4000000 in
theorem qp_162_7 {V : Nat → Nat → Value} {I : Nat → Nat → Int32} {L : Nat → Nat → Int64} {R : Nat → Nat → Option Nat} {tl : am_H} {x : Int32} : am_pP 775 (.ref 162) (.int x) (fx V I L R ++ tl) = some (fx (vup V 162 7 (.int x)) I L R ++ tl) := ev_p rfl rfl rfl rfl
set_option maxRecDepth 100000 in
set_option maxHeartbeats 4000000 in
theorem qv_162_8 {V : Nat → Nat → Value} {I : Nat → Nat → Int32} {L : Nat → Nat → Int64} {R : Nat → Nat → Option Nat} {tl : am_H} : am_pG 776 (.ref 162) (fx V I L R ++ tl) = some (V 162 8) := rfl
set_option maxRecDepth 100000 in
set_option maxHeartbeats 4000000 in
theorem qp_162_8 {V : Nat → Nat → Value} {I : Nat → Nat → Int32} {L : Nat → Nat → Int64} {R : Nat → Nat → Option Nat} {tl : am_H} {x : Int32} : am_pP 776 (.ref 162) (.int x) (fx V I L R ++ tl) = some (fx (vup V 162 8 (.int x)) I L R ++ tl) := ev_p rfl rfl rfl rfl
set_option maxRecDepth 100000 in
set_option maxHeartbeats 4000000 in
theorem qv_162_9 {V : Nat → Nat → Value} {I : Nat → Nat → Int32} {L : Nat → Nat → Int64} {R : Nat → Nat → Option Nat} {tl : am_H} : am_pG 777 (.ref 162) (fx V I L R ++ tl) = some (V 162 9) := rfl
set_option maxRecDepth 100000 in
set_option maxHeartbeats 4000000 in
theorem qp_162_9 {V : Nat → Nat → Value} {I : Nat → Nat → Int32} {L : Nat → Nat → Int64} {R : Nat → Nat → Option Nat} {tl : am_H} {x : Int32} : am_pP 777 (.ref 162) (.int x) (fx V I L R ++ tl) = some (fx (vup V 162 9 (.int x)) I L R ++ tl) := ev_p rfl rfl rfl rfl
set_option maxRecDepth 100000 in
set_option maxHeartbeats 4000000 in
theorem qv_162_10 {V : Nat → Nat → Value} {I : Nat → Nat → Int32} {L : Nat → Nat → Int64} {R : Nat → Nat → Option Nat} {tl : am_H} : am_pG 778 (.ref 162) (fx V I L R ++ tl) = some (V 162 10) := rfl
set_option maxRecDepth 100000 in
set_option maxHeartbeats 4000000 in
theorem qp_162_10 {V : Nat → Nat → Value} {I : Nat → Nat → Int32} {L : Nat → Nat → Int64} {R : Nat → Nat → Option Nat} {tl : am_H} {x : Int64} : am_pP 778 (.ref 162) (.long x) (fx V I L R ++ tl) = some (fx (vup V 162 10 (.long x)) I L R ++ tl) := ev_p rfl rfl rfl rfl
set_option maxRecDepth 100000 in
set_option maxHeartbeats 4000000 in
theorem qa_163 {V : Nat → Nat → Value} {I : Nat → Nat → Int32} {L : Nat → Nat → Int64} {R : Nat → Nat → Option Nat} {tl : am_H} {k : Nat} (hk : k < 120) : am_pA 0 (.ref 163) (nI k) (fx V I L R ++ tl) = some (I 163 k) := by rw [ev_a (f := I 163) (n := 120) rfl (am_inb_n hk (by omega)), nI_clamp (by omega)]
set_option maxRecDepth 100000 in
set_option maxHeartbeats 4000000 in
theorem qs_163 {V : Nat → Nat → Value} {I : Nat → Nat → Int32} {L : Nat → Nat → Int64} {R : Nat → Nat → Option Nat} {tl : am_H} {k : Nat} {x : Int32} (hk : k < 120) : am_pS 0 (.ref 163) (nI k) x (fx V I L R ++ tl) = some (fx V (iup I 163 (upd (I 163) k x)) L R ++ tl) := ev_s (f := I 163) (n := 120) rfl (am_inb_n hk (by omega)) rfl (by rw [nI_clamp (by omega)]; rfl)
set_option maxRecDepth 100000 in
set_option maxHeartbeats 4000000 in
theorem qa_164 {V : Nat → Nat → Value} {I : Nat → Nat → Int32} {L : Nat → Nat → Int64} {R : Nat → Nat → Option Nat} {tl : am_H} {k : Nat} (hk : k < 15) : am_pA 0 (.ref 164) (nI k) (fx V I L R ++ tl) = some (I 164 k) := by rw [ev_a (f := I 164) (n := 15) rfl (am_inb_n hk (by omega)), nI_clamp (by omega)]
set_option maxRecDepth 100000 in
set_option maxHeartbeats 4000000 in
theorem qs_164 {V : Nat → Nat → Value} {I : Nat → Nat → Int32} {L : Nat → Nat → Int64} {R : Nat → Nat → Option Nat} {tl : am_H} {k : Nat} {x : Int32} (hk : k < 15) : am_pS 0 (.ref 164) (nI k) x (fx V I L R ++ tl) = some (fx V (iup I 164 (upd (I 164) k x)) L R ++ tl) := ev_s (f := I 164) (n := 15) rfl (am_inb_n hk (by omega)) rfl (by rw [nI_clamp (by omega)]; rfl)
set_option maxRecDepth 100000 in
set_option maxHeartbeats 4000000 in
theorem qa_165 {V : Nat → Nat → Value} {I : Nat → Nat → Int32} {L : Nat → Nat → Int64} {R : Nat → Nat → Option Nat} {tl : am_H} {k : Nat} (hk : k < 15) : am_pA 0 (.ref 165) (nI k) (fx V I L R ++ tl) = some (I 165 k) := by rw [ev_a (f := I 165) (n := 15) rfl (am_inb_n hk (by omega)), nI_clamp (by omega)]
set_option maxRecDepth 100000 in
set_option maxHeartbeats 4000000 in
theorem qs_165 {V : Nat → Nat → Value} {I : Nat → Nat → Int32} {L : Nat → Nat → Int64} {R : Nat → Nat → Option Nat} {tl : am_H} {k : Nat} {x : Int32} (hk : k < 15) : am_pS 0 (.ref 165) (nI k) x (fx V I L R ++ tl) = some (fx V (iup I 165 (upd (I 165) k x)) L R ++ tl) := ev_s (f := I 165) (n := 15) rfl (am_inb_n hk (by omega)) rfl (by rw [nI_clamp (by omega)]; rfl)
set_option maxRecDepth 100000 in
set_option maxHeartbeats 4000000 in
theorem qa_166 {V : Nat → Nat → Value} {I : Nat → Nat → Int32} {L : Nat → Nat → Int64} {R : Nat → Nat → Option Nat} {tl : am_H} {k : Nat} (hk : k < 15) : am_pA 0 (.ref 166) (nI k) (fx V I L R ++ tl) = some (I 166 k) := by rw [ev_a (f := I 166) (n := 15) rfl (am_inb_n hk (by omega)), nI_clamp (by omega)]
set_option maxRecDepth 100000 in
set_option maxHeartbeats 4000000 in
theorem qs_166 {V : Nat → Nat → Value} {I : Nat → Nat → Int32} {L : Nat → Nat → Int64} {R : Nat → Nat → Option Nat} {tl : am_H} {k : Nat} {x : Int32} (hk : k < 15) : am_pS 0 (.ref 166) (nI k) x (fx V I L R ++ tl) = some (fx V (iup I 166 (upd (I 166) k x)) L R ++ tl) := ev_s (f := I 166) (n := 15) rfl (am_inb_n hk (by omega)) rfl (by rw [nI_clamp (by omega)]; rfl)
set_option maxRecDepth 100000 in
set_option maxHeartbeats 4000000 in
theorem qr_167_0 {V : Nat → Nat → Value} {I : Nat → Nat → Int32} {L : Nat → Nat → Int64} {R : Nat → Nat → Option Nat} {tl : am_H} : am_pG 768 (.ref 167) (fx V I L R ++ tl) = some (.ref 168) := rfl
set_option maxRecDepth 100000 in
set_option maxHeartbeats 4000000 in
theorem qv_167_1 {V : Nat → Nat → Value} {I : Nat → Nat → Int32} {L : Nat → Nat → Int64} {R : Nat → Nat → Option Nat} {tl : am_H} : am_pG 769 (.ref 167) (fx V I L R ++ tl) = some (V 167 1) := rfl
set_option maxRecDepth 100000 in
set_option maxHeartbeats 4000000 in
theorem qp_167_1 {V : Nat → Nat → Value} {I : Nat → Nat → Int32} {L : Nat → Nat → Int64} {R : Nat → Nat → Option Nat} {tl : am_H} {x : Int32} : am_pP 769 (.ref 167) (.int x) (fx V I L R ++ tl) = some (fx (vup V 167 1 (.int x)) I L R ++ tl) := ev_p rfl rfl rfl rfl
set_option maxRecDepth 100000 in
set_option maxHeartbeats 4000000 in
theorem qv_167_2 {V : Nat → Nat → Value} {I : Nat → Nat → Int32} {L : Nat → Nat → Int64} {R : Nat → Nat → Option Nat} {tl : am_H} : am_pG 770 (.ref 167) (fx V I L R ++ tl) = some (V 167 2) := rfl
set_option maxRecDepth 100000 in
set_option maxHeartbeats 4000000 in
theorem qp_167_2 {V : Nat → Nat → Value} {I : Nat → Nat → Int32} {L : Nat → Nat → Int64} {R : Nat → Nat → Option Nat} {tl : am_H} {x : Int32} : am_pP 770 (.ref 167) (.int x) (fx V I L R ++ tl) = some (fx (vup V 167 2 (.int x)) I L R ++ tl) := ev_p rfl rfl rfl rfl
set_option maxRecDepth 100000 in
set_option maxHeartbeats 4000000 in
theorem qv_167_3 {V : Nat → Nat → Value} {I : Nat → Nat → Int32} {L : Nat → Nat → Int64} {R : Nat → Nat → Option Nat} {tl : am_H} : am_pG 771 (.ref 167) (fx V I L R ++ tl) = some (V 167 3) := rfl
set_option maxRecDepth 100000 in
set_option maxHeartbeats 4000000 in
theorem qp_167_3 {V : Nat → Nat → Value} {I : Nat → Nat → Int32} {L : Nat → Nat → Int64} {R : Nat → Nat → Option Nat} {tl : am_H} {x : Int32} : am_pP 771 (.ref 167) (.int x) (fx V I L R ++ tl) = some (fx (vup V 167 3 (.int x)) I L R ++ tl) := ev_p rfl rfl rfl rfl
set_option maxRecDepth 100000 in
set_option maxHeartbeats 4000000 in
theorem qv_167_4 {V : Nat → Nat → Value} {I : Nat → Nat → Int32} {L : Nat → Nat → Int64} {R : Nat → Nat → Option Nat} {tl : am_H} : am_pG 772 (.ref 167) (fx V I L R ++ tl) = some (V 167 4) := rfl
set_option maxRecDepth 100000 in
set_option maxHeartbeats 4000000 in
theorem qp_167_4 {V : Nat → Nat → Value} {I : Nat → Nat → Int32} {L : Nat → Nat → Int64} {R : Nat → Nat → Option Nat} {tl : am_H} {x : Int32} : am_pP 772 (.ref 167) (.int x) (fx V I L R ++ tl) = some (fx (vup V 167 4 (.int x)) I L R ++ tl) := ev_p rfl rfl rfl rfl
set_option maxRecDepth 100000 in
set_option maxHeartbeats 4000000 in
theorem qv_167_5 {V : Nat → Nat → Value} {I : Nat → Nat → Int32} {L : Nat → Nat → Int64} {R : Nat → Nat → Option Nat} {tl : am_H} : am_pG 773 (.ref 167) (fx V I L R ++ tl) = some (V 167 5) := rfl
set_option maxRecDepth 100000 in
set_option maxHeartbeats 4000000 in
theorem qp_167_5 {V : Nat → Nat → Value} {I : Nat → Nat → Int32} {L : Nat → Nat → Int64} {R : Nat → Nat → Option Nat} {tl : am_H} {x : Int32} : am_pP 773 (.ref 167) (.int x) (fx V I L R ++ tl) = some (fx (vup V 167 5 (.int x)) I L R ++ tl) := ev_p rfl rfl rfl rfl
set_option maxRecDepth 100000 in
set_option maxHeartbeats 4000000 in
theorem qv_167_6 {V : Nat → Nat → Value} {I : Nat → Nat → Int32} {L : Nat → Nat → Int64} {R : Nat → Nat → Option Nat} {tl : am_H} : am_pG 774 (.ref 167) (fx V I L R ++ tl) = some (V 167 6) := rfl
set_option maxRecDepth 100000 in
set_option maxHeartbeats 4000000 in
theorem qp_167_6 {V : Nat → Nat → Value} {I : Nat → Nat → Int32} {L : Nat → Nat → Int64} {R : Nat → Nat → Option Nat} {tl : am_H} {x : Int32} : am_pP 774 (.ref 167) (.int x) (fx V I L R ++ tl) = some (fx (vup V 167 6 (.int x)) I L R ++ tl) := ev_p rfl rfl rfl rfl
set_option maxRecDepth 100000 in
set_option maxHeartbeats 4000000 in
theorem qv_167_7 {V : Nat → Nat → Value} {I : Nat → Nat → Int32} {L : Nat → Nat → Int64} {R : Nat → Nat → Option Nat} {tl : am_H} : am_pG 775 (.ref 167) (fx V I L R ++ tl) = some (V 167 7) := rfl
set_option maxRecDepth 100000 in
set_option maxHeartbeats 4000000 in
theorem qp_167_7 {V : Nat → Nat → Value} {I : Nat → Nat → Int32} {L : Nat → Nat → Int64} {R : Nat → Nat → Option Nat} {tl : am_H} {x : Int32} : am_pP 775 (.ref 167) (.int x) (fx V I L R ++ tl) = some (fx (vup V 167 7 (.int x)) I L R ++ tl) := ev_p rfl rfl rfl rfl
set_option maxRecDepth 100000 in
set_option maxHeartbeats 4000000 in
theorem qv_167_8 {V : Nat → Nat → Value} {I : Nat → Nat → Int32} {L : Nat → Nat → Int64} {R : Nat → Nat → Option Nat} {tl : am_H} : am_pG 776 (.ref 167) (fx V I L R ++ tl) = some (V 167 8) := rfl
