/-! ===== reads and writes of the fixed cells (3) ===== -/
set_option maxRecDepth 100000 in
set_option maxHeartbeats 4000000 in
theorem qp_167_8 {V : Nat → Nat → Value} {I : Nat → Nat → Int32} {L : Nat → Nat → Int64} {R : Nat → Nat → Option Nat} {tl : am_H} {x : Int32} : am_pP 776 (.ref 167) (.int x) (fx V I L R ++ tl) = some (fx (vup V 167 8 (.int x)) I L R ++ tl) := ev_p rfl rfl rfl rfl
set_option maxRecDepth 100000 in
set_option maxHeartbeats 4000000 in
theorem qv_167_9 {V : Nat → Nat → Value} {I : Nat → Nat → Int32} {L : Nat → Nat → Int64} {R : Nat → Nat → Option Nat} {tl : am_H} : am_pG 777 (.ref 167) (fx V I L R ++ tl) = some (V 167 9) := rfl
set_option maxRecDepth 100000 in
set_option maxHeartbeats 4000000 in
theorem qp_167_9 {V : Nat → Nat → Value} {I : Nat → Nat → Int32} {L : Nat → Nat → Int64} {R : Nat → Nat → Option Nat} {tl : am_H} {x : Int32} : am_pP 777 (.ref 167) (.int x) (fx V I L R ++ tl) = some (fx (vup V 167 9 (.int x)) I L R ++ tl) := ev_p rfl rfl rfl rfl
set_option maxRecDepth 100000 in
set_option maxHeartbeats 4000000 in
theorem qv_167_10 {V : Nat → Nat → Value} {I : Nat → Nat → Int32} {L : Nat → Nat → Int64} {R : Nat → Nat → Option Nat} {tl : am_H} : am_pG 778 (.ref 167) (fx V I L R ++ tl) = some (V 167 10) := rfl
set_option maxRecDepth 100000 in
set_option maxHeartbeats 4000000 in
theorem qp_167_10 {V : Nat → Nat → Value} {I : Nat → Nat → Int32} {L : Nat → Nat → Int64} {R : Nat → Nat → Option Nat} {tl : am_H} {x : Int64} : am_pP 778 (.ref 167) (.long x) (fx V I L R ++ tl) = some (fx (vup V 167 10 (.long x)) I L R ++ tl) := ev_p rfl rfl rfl rfl
set_option maxRecDepth 100000 in
set_option maxHeartbeats 4000000 in
theorem qa_168 {V : Nat → Nat → Value} {I : Nat → Nat → Int32} {L : Nat → Nat → Int64} {R : Nat → Nat → Option Nat} {tl : am_H} {k : Nat} (hk : k < 120) : am_pA 0 (.ref 168) (nI k) (fx V I L R ++ tl) = some (I 168 k) := by rw [ev_a (f := I 168) (n := 120) rfl (am_inb_n hk (by omega)), nI_clamp (by omega)]
set_option maxRecDepth 100000 in
set_option maxHeartbeats 4000000 in
theorem qs_168 {V : Nat → Nat → Value} {I : Nat → Nat → Int32} {L : Nat → Nat → Int64} {R : Nat → Nat → Option Nat} {tl : am_H} {k : Nat} {x : Int32} (hk : k < 120) : am_pS 0 (.ref 168) (nI k) x (fx V I L R ++ tl) = some (fx V (iup I 168 (upd (I 168) k x)) L R ++ tl) := ev_s (f := I 168) (n := 120) rfl (am_inb_n hk (by omega)) rfl (by rw [nI_clamp (by omega)]; rfl)
set_option maxRecDepth 100000 in
set_option maxHeartbeats 4000000 in
theorem qr_169_0 {V : Nat → Nat → Value} {I : Nat → Nat → Int32} {L : Nat → Nat → Int64} {R : Nat → Nat → Option Nat} {tl : am_H} : am_pG 768 (.ref 169) (fx V I L R ++ tl) = some (.ref 170) := rfl
set_option maxRecDepth 100000 in
set_option maxHeartbeats 4000000 in
theorem qv_169_1 {V : Nat → Nat → Value} {I : Nat → Nat → Int32} {L : Nat → Nat → Int64} {R : Nat → Nat → Option Nat} {tl : am_H} : am_pG 769 (.ref 169) (fx V I L R ++ tl) = some (V 169 1) := rfl
set_option maxRecDepth 100000 in
set_option maxHeartbeats 4000000 in
theorem qp_169_1 {V : Nat → Nat → Value} {I : Nat → Nat → Int32} {L : Nat → Nat → Int64} {R : Nat → Nat → Option Nat} {tl : am_H} {x : Int32} : am_pP 769 (.ref 169) (.int x) (fx V I L R ++ tl) = some (fx (vup V 169 1 (.int x)) I L R ++ tl) := ev_p rfl rfl rfl rfl
set_option maxRecDepth 100000 in
set_option maxHeartbeats 4000000 in
theorem qv_169_2 {V : Nat → Nat → Value} {I : Nat → Nat → Int32} {L : Nat → Nat → Int64} {R : Nat → Nat → Option Nat} {tl : am_H} : am_pG 770 (.ref 169) (fx V I L R ++ tl) = some (V 169 2) := rfl
set_option maxRecDepth 100000 in
set_option maxHeartbeats 4000000 in
theorem qp_169_2 {V : Nat → Nat → Value} {I : Nat → Nat → Int32} {L : Nat → Nat → Int64} {R : Nat → Nat → Option Nat} {tl : am_H} {x : Int32} : am_pP 770 (.ref 169) (.int x) (fx V I L R ++ tl) = some (fx (vup V 169 2 (.int x)) I L R ++ tl) := ev_p rfl rfl rfl rfl
set_option maxRecDepth 100000 in
set_option maxHeartbeats 4000000 in
theorem qv_169_3 {V : Nat → Nat → Value} {I : Nat → Nat → Int32} {L : Nat → Nat → Int64} {R : Nat → Nat → Option Nat} {tl : am_H} : am_pG 771 (.ref 169) (fx V I L R ++ tl) = some (V 169 3) := rfl
set_option maxRecDepth 100000 in
set_option maxHeartbeats 4000000 in
theorem qp_169_3 {V : Nat → Nat → Value} {I : Nat → Nat → Int32} {L : Nat → Nat → Int64} {R : Nat → Nat → Option Nat} {tl : am_H} {x : Int32} : am_pP 771 (.ref 169) (.int x) (fx V I L R ++ tl) = some (fx (vup V 169 3 (.int x)) I L R ++ tl) := ev_p rfl rfl rfl rfl
set_option maxRecDepth 100000 in
set_option maxHeartbeats 4000000 in
theorem qv_169_4 {V : Nat → Nat → Value} {I : Nat → Nat → Int32} {L : Nat → Nat → Int64} {R : Nat → Nat → Option Nat} {tl : am_H} : am_pG 772 (.ref 169) (fx V I L R ++ tl) = some (V 169 4) := rfl
set_option maxRecDepth 100000 in
set_option maxHeartbeats 4000000 in
theorem qp_169_4 {V : Nat → Nat → Value} {I : Nat → Nat → Int32} {L : Nat → Nat → Int64} {R : Nat → Nat → Option Nat} {tl : am_H} {x : Int32} : am_pP 772 (.ref 169) (.int x) (fx V I L R ++ tl) = some (fx (vup V 169 4 (.int x)) I L R ++ tl) := ev_p rfl rfl rfl rfl
set_option maxRecDepth 100000 in
set_option maxHeartbeats 4000000 in
theorem qv_169_5 {V : Nat → Nat → Value} {I : Nat → Nat → Int32} {L : Nat → Nat → Int64} {R : Nat → Nat → Option Nat} {tl : am_H} : am_pG 773 (.ref 169) (fx V I L R ++ tl) = some (V 169 5) := rfl
set_option maxRecDepth 100000 in
set_option maxHeartbeats 4000000 in
theorem qp_169_5 {V : Nat → Nat → Value} {I : Nat → Nat → Int32} {L : Nat → Nat → Int64} {R : Nat → Nat → Option Nat} {tl : am_H} {x : Int32} : am_pP 773 (.ref 169) (.int x) (fx V I L R ++ tl) = some (fx (vup V 169 5 (.int x)) I L R ++ tl) := ev_p rfl rfl rfl rfl
set_option maxRecDepth 100000 in
set_option maxHeartbeats 4000000 in
theorem qv_169_6 {V : Nat → Nat → Value} {I : Nat → Nat → Int32} {L : Nat → Nat → Int64} {R : Nat → Nat → Option Nat} {tl : am_H} : am_pG 774 (.ref 169) (fx V I L R ++ tl) = some (V 169 6) := rfl
set_option maxRecDepth 100000 in
set_option maxHeartbeats 4000000 in
theorem qp_169_6 {V : Nat → Nat → Value} {I : Nat → Nat → Int32} {L : Nat → Nat → Int64} {R : Nat → Nat → Option Nat} {tl : am_H} {x : Int32} : am_pP 774 (.ref 169) (.int x) (fx V I L R ++ tl) = some (fx (vup V 169 6 (.int x)) I L R ++ tl) := ev_p rfl rfl rfl rfl
set_option maxRecDepth 100000 in
set_option maxHeartbeats 4000000 in
theorem qv_169_7 {V : Nat → Nat → Value} {I : Nat → Nat → Int32} {L : Nat → Nat → Int64} {R : Nat → Nat → Option Nat} {tl : am_H} : am_pG 775 (.ref 169) (fx V I L R ++ tl) = some (V 169 7) := rfl
set_option maxRecDepth 100000 in
set_option maxHeartbeats 4000000 in
theorem qp_169_7 {V : Nat → Nat → Value} {I : Nat → Nat → Int32} {L : Nat → Nat → Int64} {R : Nat → Nat → Option Nat} {tl : am_H} {x : Int32} : am_pP 775 (.ref 169) (.int x) (fx V I L R ++ tl) = some (fx (vup V 169 7 (.int x)) I L R ++ tl) := ev_p rfl rfl rfl rfl
set_option maxRecDepth 100000 in
set_option maxHeartbeats 4000000 in
theorem qv_169_8 {V : Nat → Nat → Value} {I : Nat → Nat → Int32} {L : Nat → Nat → Int64} {R : Nat → Nat → Option Nat} {tl : am_H} : am_pG 776 (.ref 169) (fx V I L R ++ tl) = some (V 169 8) := rfl
set_option maxRecDepth 100000 in
set_option maxHeartbeats 4000000 in
theorem qp_169_8 {V : Nat → Nat → Value} {I : Nat → Nat → Int32} {L : Nat → Nat → Int64} {R : Nat → Nat → Option Nat} {tl : am_H} {x : Int32} : am_pP 776 (.ref 169) (.int x) (fx V I L R ++ tl) = some (fx (vup V 169 8 (.int x)) I L R ++ tl) := ev_p rfl rfl rfl rfl
set_option maxRecDepth 100000 in
set_option maxHeartbeats 4000000 in
theorem qv_169_9 {V : Nat → Nat → Value} {I : Nat → Nat → Int32} {L : Nat → Nat → Int64} {R : Nat → Nat → Option Nat} {tl : am_H} : am_pG 777 (.ref 169) (fx V I L R ++ tl) = some (V 169 9) := rfl
set_option maxRecDepth 100000 in
set_option maxHeartbeats 4000000 in
theorem qp_169_9 {V : Nat → Nat → Value} {I : Nat → Nat → Int32} {L : Nat → Nat → Int64} {R : Nat → Nat → Option Nat} {tl : am_H} {x : Int32} : am_pP 777 (.ref 169) (.int x) (fx V I L R ++ tl) = some (fx (vup V 169 9 (.int x)) I L R ++ tl) := ev_p rfl rfl rfl rfl
set_option maxRecDepth 100000 in
set_option maxHeartbeats 4000000 in
theorem qv_169_10 {V : Nat → Nat → Value} {I : Nat → Nat → Int32} {L : Nat → Nat → Int64} {R : Nat → Nat → Option Nat} {tl : am_H} : am_pG 778 (.ref 169) (fx V I L R ++ tl) = some (V 169 10) := rfl
set_option maxRecDepth 100000 in
set_option maxHeartbeats 4000000 in
theorem qp_169_10 {V : Nat → Nat → Value} {I : Nat → Nat → Int32} {L : Nat → Nat → Int64} {R : Nat → Nat → Option Nat} {tl : am_H} {x : Int64} : am_pP 778 (.ref 169) (.long x) (fx V I L R ++ tl) = some (fx (vup V 169 10 (.long x)) I L R ++ tl) := ev_p rfl rfl rfl rfl
set_option maxRecDepth 100000 in
set_option maxHeartbeats 4000000 in
theorem qa_170 {V : Nat → Nat → Value} {I : Nat → Nat → Int32} {L : Nat → Nat → Int64} {R : Nat → Nat → Option Nat} {tl : am_H} {k : Nat} (hk : k < 120) : am_pA 0 (.ref 170) (nI k) (fx V I L R ++ tl) = some (I 170 k) := by rw [ev_a (f := I 170) (n := 120) rfl (am_inb_n hk (by omega)), nI_clamp (by omega)]
set_option maxRecDepth 100000 in
set_option maxHeartbeats 4000000 in
theorem qs_170 {V : Nat → Nat → Value} {I : Nat → Nat → Int32} {L : Nat → Nat → Int64} {R : Nat → Nat → Option Nat} {tl : am_H} {k : Nat} {x : Int32} (hk : k < 120) : am_pS 0 (.ref 170) (nI k) x (fx V I L R ++ tl) = some (fx V (iup I 170 (upd (I 170) k x)) L R ++ tl) := ev_s (f := I 170) (n := 120) rfl (am_inb_n hk (by omega)) rfl (by rw [nI_clamp (by omega)]; rfl)
set_option maxRecDepth 100000 in
set_option maxHeartbeats 4000000 in
theorem qa_171 {V : Nat → Nat → Value} {I : Nat → Nat → Int32} {L : Nat → Nat → Int64} {R : Nat → Nat → Option Nat} {tl : am_H} {k : Nat} (hk : k < 600) : am_pA 0 (.ref 171) (nI k) (fx V I L R ++ tl) = some (I 171 k) := by rw [ev_a (f := I 171) (n := 600) rfl (am_inb_n hk (by omega)), nI_clamp (by omega)]
set_option maxRecDepth 100000 in
set_option maxHeartbeats 4000000 in
theorem qs_171 {V : Nat → Nat → Value} {I : Nat → Nat → Int32} {L : Nat → Nat → Int64} {R : Nat → Nat → Option Nat} {tl : am_H} {k : Nat} {x : Int32} (hk : k < 600) : am_pS 0 (.ref 171) (nI k) x (fx V I L R ++ tl) = some (fx V (iup I 171 (upd (I 171) k x)) L R ++ tl) := ev_s (f := I 171) (n := 600) rfl (am_inb_n hk (by omega)) rfl (by rw [nI_clamp (by omega)]; rfl)
set_option maxRecDepth 100000 in
set_option maxHeartbeats 4000000 in
theorem qa_172 {V : Nat → Nat → Value} {I : Nat → Nat → Int32} {L : Nat → Nat → Int64} {R : Nat → Nat → Option Nat} {tl : am_H} {k : Nat} (hk : k < 16) : am_pA 0 (.ref 172) (nI k) (fx V I L R ++ tl) = some (I 172 k) := by rw [ev_a (f := I 172) (n := 16) rfl (am_inb_n hk (by omega)), nI_clamp (by omega)]
set_option maxRecDepth 100000 in
set_option maxHeartbeats 4000000 in
theorem qs_172 {V : Nat → Nat → Value} {I : Nat → Nat → Int32} {L : Nat → Nat → Int64} {R : Nat → Nat → Option Nat} {tl : am_H} {k : Nat} {x : Int32} (hk : k < 16) : am_pS 0 (.ref 172) (nI k) x (fx V I L R ++ tl) = some (fx V (iup I 172 (upd (I 172) k x)) L R ++ tl) := ev_s (f := I 172) (n := 16) rfl (am_inb_n hk (by omega)) rfl (by rw [nI_clamp (by omega)]; rfl)
set_option maxRecDepth 100000 in
set_option maxHeartbeats 4000000 in
theorem qv_173_0 {V : Nat → Nat → Value} {I : Nat → Nat → Int32} {L : Nat → Nat → Int64} {R : Nat → Nat → Option Nat} {tl : am_H} : am_pG 2048 (.ref 173) (fx V I L R ++ tl) = some (V 173 0) := rfl
set_option maxRecDepth 100000 in
set_option maxHeartbeats 4000000 in
theorem qp_173_0 {V : Nat → Nat → Value} {I : Nat → Nat → Int32} {L : Nat → Nat → Int64} {R : Nat → Nat → Option Nat} {tl : am_H} {x : Int64} : am_pP 2048 (.ref 173) (.long x) (fx V I L R ++ tl) = some (fx (vup V 173 0 (.long x)) I L R ++ tl) := ev_p rfl rfl rfl rfl
set_option maxRecDepth 100000 in
set_option maxHeartbeats 4000000 in
theorem qv_174_0 {V : Nat → Nat → Value} {I : Nat → Nat → Int32} {L : Nat → Nat → Int64} {R : Nat → Nat → Option Nat} {tl : am_H} : am_pG 3072 (.ref 174) (fx V I L R ++ tl) = some (V 174 0) := rfl
set_option maxRecDepth 100000 in
set_option maxHeartbeats 4000000 in
theorem qp_174_0 {V : Nat → Nat → Value} {I : Nat → Nat → Int32} {L : Nat → Nat → Int64} {R : Nat → Nat → Option Nat} {tl : am_H} {x : Int32} : am_pP 3072 (.ref 174) (.int x) (fx V I L R ++ tl) = some (fx (vup V 174 0 (.int x)) I L R ++ tl) := ev_p rfl rfl rfl rfl
set_option maxRecDepth 100000 in
set_option maxHeartbeats 4000000 in
theorem qv_174_1 {V : Nat → Nat → Value} {I : Nat → Nat → Int32} {L : Nat → Nat → Int64} {R : Nat → Nat → Option Nat} {tl : am_H} : am_pG 3073 (.ref 174) (fx V I L R ++ tl) = some (V 174 1) := rfl
set_option maxRecDepth 100000 in
set_option maxHeartbeats 4000000 in
theorem qp_174_1 {V : Nat → Nat → Value} {I : Nat → Nat → Int32} {L : Nat → Nat → Int64} {R : Nat → Nat → Option Nat} {tl : am_H} {x : Int32} : am_pP 3073 (.ref 174) (.int x) (fx V I L R ++ tl) = some (fx (vup V 174 1 (.int x)) I L R ++ tl) := ev_p rfl rfl rfl rfl
set_option maxRecDepth 100000 in
set_option maxHeartbeats 4000000 in
theorem qr_174_2 {V : Nat → Nat → Value} {I : Nat → Nat → Int32} {L : Nat → Nat → Int64} {R : Nat → Nat → Option Nat} {tl : am_H} : am_pG 3074 (.ref 174) (fx V I L R ++ tl) = some (.ref 175) := rfl
set_option maxRecDepth 100000 in
set_option maxHeartbeats 4000000 in
theorem qr_174_3 {V : Nat → Nat → Value} {I : Nat → Nat → Int32} {L : Nat → Nat → Int64} {R : Nat → Nat → Option Nat} {tl : am_H} : am_pG 3075 (.ref 174) (fx V I L R ++ tl) = some (.ref 176) := rfl
set_option maxRecDepth 100000 in
set_option maxHeartbeats 4000000 in
theorem qr_174_4 {V : Nat → Nat → Value} {I : Nat → Nat → Int32} {L : Nat → Nat → Int64} {R : Nat → Nat → Option Nat} {tl : am_H} : am_pG 3076 (.ref 174) (fx V I L R ++ tl) = some (.ref 177) := rfl
set_option maxRecDepth 100000 in
set_option maxHeartbeats 4000000 in
theorem qr_174_5 {V : Nat → Nat → Value} {I : Nat → Nat → Int32} {L : Nat → Nat → Int64} {R : Nat → Nat → Option Nat} {tl : am_H} : am_pG 3077 (.ref 174) (fx V I L R ++ tl) = some (.ref 178) := rfl
set_option maxRecDepth 100000 in
set_option maxHeartbeats 4000000 in
theorem qr_174_6 {V : Nat → Nat → Value} {I : Nat → Nat → Int32} {L : Nat → Nat → Int64} {R : Nat → Nat → Option Nat} {tl : am_H} : am_pG 3078 (.ref 174) (fx V I L R ++ tl) = some (.ref 179) := rfl
set_option maxRecDepth 100000 in
set_option maxHeartbeats 4000000 in
theorem qr_174_7 {V : Nat → Nat → Value} {I : Nat → Nat → Int32} {L : Nat → Nat → Int64} {R : Nat → Nat → Option Nat} {tl : am_H} : am_pG 3079 (.ref 174) (fx V I L R ++ tl) = some (.ref 180) := rfl
set_option maxRecDepth 100000 in
set_option maxHeartbeats 4000000 in
theorem qr_174_8 {V : Nat → Nat → Value} {I : Nat → Nat → Int32} {L : Nat → Nat → Int64} {R : Nat → Nat → Option Nat} {tl : am_H} : am_pG 3080 (.ref 174) (fx V I L R ++ tl) = some (.ref 181) := rfl
set_option maxRecDepth 100000 in
set_option maxHeartbeats 4000000 in
theorem qr_174_9 {V : Nat → Nat → Value} {I : Nat → Nat → Int32} {L : Nat → Nat → Int64} {R : Nat → Nat → Option Nat} {tl : am_H} : am_pG 3081 (.ref 174) (fx V I L R ++ tl) = some (.ref 182) := rfl
set_option maxRecDepth 100000 in
set_option maxHeartbeats 4000000 in
theorem qr_174_10 {V : Nat → Nat → Value} {I : Nat → Nat → Int32} {L : Nat → Nat → Int64} {R : Nat → Nat → Option Nat} {tl : am_H} : am_pG 3082 (.ref 174) (fx V I L R ++ tl) = some (.ref 183) := rfl
set_option maxRecDepth 100000 in
set_option maxHeartbeats 4000000 in
theorem qr_174_11 {V : Nat → Nat → Value} {I : Nat → Nat → Int32} {L : Nat → Nat → Int64} {R : Nat → Nat → Option Nat} {tl : am_H} : am_pG 3083 (.ref 174) (fx V I L R ++ tl) = some (.ref 184) := rfl
set_option maxRecDepth 100000 in
set_option maxHeartbeats 4000000 in
theorem qr_174_12 {V : Nat → Nat → Value} {I : Nat → Nat → Int32} {L : Nat → Nat → Int64} {R : Nat → Nat → Option Nat} {tl : am_H} : am_pG 3084 (.ref 174) (fx V I L R ++ tl) = some (.ref 185) := rfl
set_option maxRecDepth 100000 in
set_option maxHeartbeats 4000000 in
theorem qv_174_13 {V : Nat → Nat → Value} {I : Nat → Nat → Int32} {L : Nat → Nat → Int64} {R : Nat → Nat → Option Nat} {tl : am_H} : am_pG 3085 (.ref 174) (fx V I L R ++ tl) = some (V 174 13) := rfl
set_option maxRecDepth 100000 in
set_option maxHeartbeats 4000000 in
theorem qp_174_13 {V : Nat → Nat → Value} {I : Nat → Nat → Int32} {L : Nat → Nat → Int64} {R : Nat → Nat → Option Nat} {tl : am_H} {x : Int32} : am_pP 3085 (.ref 174) (.int x) (fx V I L R ++ tl) = some (fx (vup V 174 13 (.int x)) I L R ++ tl) := ev_p rfl rfl rfl rfl
set_option maxRecDepth 100000 in
set_option maxHeartbeats 4000000 in
theorem qv_174_14 {V : Nat → Nat → Value} {I : Nat → Nat → Int32} {L : Nat → Nat → Int64} {R : Nat → Nat → Option Nat} {tl : am_H} : am_pG 3086 (.ref 174) (fx V I L R ++ tl) = some (V 174 14) := rfl
set_option maxRecDepth 100000 in
set_option maxHeartbeats 4000000 in
theorem qp_174_14 {V : Nat → Nat → Value} {I : Nat → Nat → Int32} {L : Nat → Nat → Int64} {R : Nat → Nat → Option Nat} {tl : am_H} {x : Int32} : am_pP 3086 (.ref 174) (.int x) (fx V I L R ++ tl) = some (fx (vup V 174 14 (.int x)) I L R ++ tl) := ev_p rfl rfl rfl rfl
set_option maxRecDepth 100000 in
set_option maxHeartbeats 4000000 in
theorem qv_174_15 {V : Nat → Nat → Value} {I : Nat → Nat → Int32} {L : Nat → Nat → Int64} {R : Nat → Nat → Option Nat} {tl : am_H} : am_pG 3087 (.ref 174) (fx V I L R ++ tl) = some (V 174 15) := rfl
set_option maxRecDepth 100000 in
set_option maxHeartbeats 4000000 in
theorem qp_174_15 {V : Nat → Nat → Value} {I : Nat → Nat → Int32} {L : Nat → Nat → Int64} {R : Nat → Nat → Option Nat} {tl : am_H} {x : Int32} : am_pP 3087 (.ref 174) (.int x) (fx V I L R ++ tl) = some (fx (vup V 174 15 (.int x)) I L R ++ tl) := ev_p rfl rfl rfl rfl
set_option maxRecDepth 100000 in
set_option maxHeartbeats 4000000 in
theorem qr_174_16 {V : Nat → Nat → Value} {I : Nat → Nat → Int32} {L : Nat → Nat → Int64} {R : Nat → Nat → Option Nat} {tl : am_H} : am_pG 3088 (.ref 174) (fx V I L R ++ tl) = some (.ref 186) := rfl
set_option maxRecDepth 100000 in
set_option maxHeartbeats 4000000 in
theorem qr_174_17 {V : Nat → Nat → Value} {I : Nat → Nat → Int32} {L : Nat → Nat → Int64} {R : Nat → Nat → Option Nat} {tl : am_H} : am_pG 3089 (.ref 174) (fx V I L R ++ tl) = some (.ref 187) := rfl
set_option maxRecDepth 100000 in
set_option maxHeartbeats 4000000 in
theorem qv_174_18 {V : Nat → Nat → Value} {I : Nat → Nat → Int32} {L : Nat → Nat → Int64} {R : Nat → Nat → Option Nat} {tl : am_H} : am_pG 3090 (.ref 174) (fx V I L R ++ tl) = some (V 174 18) := rfl
set_option maxRecDepth 100000 in
set_option maxHeartbeats 4000000 in
theorem qp_174_18 {V : Nat → Nat → Value} {I : Nat → Nat → Int32} {L : Nat → Nat → Int64} {R : Nat → Nat → Option Nat} {tl : am_H} {x : Int32} : am_pP 3090 (.ref 174) (.int x) (fx V I L R ++ tl) = some (fx (vup V 174 18 (.int x)) I L R ++ tl) := ev_p rfl rfl rfl rfl
set_option maxRecDepth 100000 in
set_option maxHeartbeats 4000000 in
theorem qv_174_19 {V : Nat → Nat → Value} {I : Nat → Nat → Int32} {L : Nat → Nat → Int64} {R : Nat → Nat → Option Nat} {tl : am_H} : am_pG 3091 (.ref 174) (fx V I L R ++ tl) = some (V 174 19) := rfl
set_option maxRecDepth 100000 in
set_option maxHeartbeats 4000000 in
theorem qp_174_19 {V : Nat → Nat → Value} {I : Nat → Nat → Int32} {L : Nat → Nat → Int64} {R : Nat → Nat → Option Nat} {tl : am_H} {x : Int32} : am_pP 3091 (.ref 174) (.int x) (fx V I L R ++ tl) = some (fx (vup V 174 19 (.int x)) I L R ++ tl) := ev_p rfl rfl rfl rfl
set_option maxRecDepth 100000 in
set_option maxHeartbeats 4000000 in
theorem qv_174_20 {V : Nat → Nat → Value} {I : Nat → Nat → Int32} {L : Nat → Nat → Int64} {R : Nat → Nat → Option Nat} {tl : am_H} : am_pG 3092 (.ref 174) (fx V I L R ++ tl) = some (V 174 20) := rfl
set_option maxRecDepth 100000 in
set_option maxHeartbeats 4000000 in
theorem qp_174_20 {V : Nat → Nat → Value} {I : Nat → Nat → Int32} {L : Nat → Nat → Int64} {R : Nat → Nat → Option Nat} {tl : am_H} {x : Int32} : am_pP 3092 (.ref 174) (.int x) (fx V I L R ++ tl) = some (fx (vup V 174 20 (.int x)) I L R ++ tl) := ev_p rfl rfl rfl rfl
set_option maxRecDepth 100000 in
set_option maxHeartbeats 4000000 in
theorem qr_174_21 {V : Nat → Nat → Value} {I : Nat → Nat → Int32} {L : Nat → Nat → Int64} {R : Nat → Nat → Option Nat} {tl : am_H} : am_pG 3093 (.ref 174) (fx V I L R ++ tl) = some (.ref 188) := rfl
set_option maxRecDepth 100000 in
set_option maxHeartbeats 4000000 in
theorem qr_174_22 {V : Nat → Nat → Value} {I : Nat → Nat → Int32} {L : Nat → Nat → Int64} {R : Nat → Nat → Option Nat} {tl : am_H} : am_pG 3094 (.ref 174) (fx V I L R ++ tl) = some (.ref 189) := rfl
set_option maxRecDepth 100000 in
set_option maxHeartbeats 4000000 in
theorem qv_174_23 {V : Nat → Nat → Value} {I : Nat → Nat → Int32} {L : Nat → Nat → Int64} {R : Nat → Nat → Option Nat} {tl : am_H} : am_pG 3095 (.ref 174) (fx V I L R ++ tl) = some (V 174 23) := rfl
set_option maxRecDepth 100000 in
set_option maxHeartbeats 4000000 in
theorem qp_174_23 {V : Nat → Nat → Value} {I : Nat → Nat → Int32} {L : Nat → Nat → Int64} {R : Nat → Nat → Option Nat} {tl : am_H} {x : Int32} : am_pP 3095 (.ref 174) (.int x) (fx V I L R ++ tl) = some (fx (vup V 174 23 (.int x)) I L R ++ tl) := ev_p rfl rfl rfl rfl
set_option maxRecDepth 100000 in
set_option maxHeartbeats 4000000 in
theorem qr_174_24 {V : Nat → Nat → Value} {I : Nat → Nat → Int32} {L : Nat → Nat → Int64} {R : Nat → Nat → Option Nat} {tl : am_H} : am_pG 3096 (.ref 174) (fx V I L R ++ tl) = some (.ref 190) := rfl
set_option maxRecDepth 100000 in
set_option maxHeartbeats 4000000 in
theorem qr_174_25 {V : Nat → Nat → Value} {I : Nat → Nat → Int32} {L : Nat → Nat → Int64} {R : Nat → Nat → Option Nat} {tl : am_H} : am_pG 3097 (.ref 174) (fx V I L R ++ tl) = some (.ref 191) := rfl
set_option maxRecDepth 100000 in
set_option maxHeartbeats 4000000 in
theorem qr_174_26 {V : Nat → Nat → Value} {I : Nat → Nat → Int32} {L : Nat → Nat → Int64} {R : Nat → Nat → Option Nat} {tl : am_H} : am_pG 3098 (.ref 174) (fx V I L R ++ tl) = some (.ref 192) := rfl
set_option maxRecDepth 100000 in
set_option maxHeartbeats 4000000 in
theorem qr_174_27 {V : Nat → Nat → Value} {I : Nat → Nat → Int32} {L : Nat → Nat → Int64} {R : Nat → Nat → Option Nat} {tl : am_H} : am_pG 3099 (.ref 174) (fx V I L R ++ tl) = some (.ref 193) := rfl
set_option maxRecDepth 100000 in
set_option maxHeartbeats 4000000 in
theorem qr_174_28 {V : Nat → Nat → Value} {I : Nat → Nat → Int32} {L : Nat → Nat → Int64} {R : Nat → Nat → Option Nat} {tl : am_H} : am_pG 3100 (.ref 174) (fx V I L R ++ tl) = some (.ref 194) := rfl
set_option maxRecDepth 100000 in
set_option maxHeartbeats 4000000 in
theorem qr_174_29 {V : Nat → Nat → Value} {I : Nat → Nat → Int32} {L : Nat → Nat → Int64} {R : Nat → Nat → Option Nat} {tl : am_H} : am_pG 3101 (.ref 174) (fx V I L R ++ tl) = some (.ref 195) := rfl
set_option maxRecDepth 100000 in
set_option maxHeartbeats 4000000 in
theorem qr_174_30 {V : Nat → Nat → Value} {I : Nat → Nat → Int32} {L : Nat → Nat → Int64} {R : Nat → Nat → Option Nat} {tl : am_H} : am_pG 3102 (.ref 174) (fx V I L R ++ tl) = some (.ref 196) := rfl
set_option maxRecDepth 100000 in
set_option maxHeartbeats 4000000 in
theorem qv_174_31 {V : Nat → Nat → Value} {I : Nat → Nat → Int32} {L : Nat → Nat → Int64} {R : Nat → Nat → Option Nat} {tl : am_H} : am_pG 3103 (.ref 174) (fx V I L R ++ tl) = some (V 174 31) := rfl
set_option maxRecDepth 100000 in
set_option maxHeartbeats 4000000 in
theorem qp_174_31 {V : Nat → Nat → Value} {I : Nat → Nat → Int32} {L : Nat → Nat → Int64} {R : Nat → Nat → Option Nat} {tl : am_H} {x : Int32} : am_pP 3103 (.ref 174) (.int x) (fx V I L R ++ tl) = some (fx (vup V 174 31 (.int x)) I L R ++ tl) := ev_p rfl rfl rfl rfl
set_option maxRecDepth 100000 in
set_option maxHeartbeats 4000000 in
theorem qr_174_32 {V : Nat → Nat → Value} {I : Nat → Nat → Int32} {L : Nat → Nat → Int64} {R : Nat → Nat → Option Nat} {tl : am_H} : am_pG 3104 (.ref 174) (fx V I L R ++ tl) = some (.ref 197) := rfl
set_option maxRecDepth 100000 in
set_option maxHeartbeats 4000000 in
theorem qr_174_33 {V : Nat → Nat → Value} {I : Nat → Nat → Int32} {L : Nat → Nat → Int64} {R : Nat → Nat → Option Nat} {tl : am_H} : am_pG 3105 (.ref 174) (fx V I L R ++ tl) = some (.ref 198) := rfl
set_option maxRecDepth 100000 in
set_option maxHeartbeats 4000000 in
theorem qr_174_34 {V : Nat → Nat → Value} {I : Nat → Nat → Int32} {L : Nat → Nat → Int64} {R : Nat → Nat → Option Nat} {tl : am_H} : am_pG 3106 (.ref 174) (fx V I L R ++ tl) = some (.ref 199) := rfl
set_option maxRecDepth 100000 in
set_option maxHeartbeats 4000000 in
theorem qr_174_35 {V : Nat → Nat → Value} {I : Nat → Nat → Int32} {L : Nat → Nat → Int64} {R : Nat → Nat → Option Nat} {tl : am_H} : am_pG 3107 (.ref 174) (fx V I L R ++ tl) = some (.ref 200) := rfl
set_option maxRecDepth 100000 in
set_option maxHeartbeats 4000000 in
theorem qr_174_36 {V : Nat → Nat → Value} {I : Nat → Nat → Int32} {L : Nat → Nat → Int64} {R : Nat → Nat → Option Nat} {tl : am_H} : am_pG 3108 (.ref 174) (fx V I L R ++ tl) = some (.ref 201) := rfl
set_option maxRecDepth 100000 in
set_option maxHeartbeats 4000000 in
theorem qr_174_37 {V : Nat → Nat → Value} {I : Nat → Nat → Int32} {L : Nat → Nat → Int64} {R : Nat → Nat → Option Nat} {tl : am_H} : am_pG 3109 (.ref 174) (fx V I L R ++ tl) = some (.ref 202) := rfl
set_option maxRecDepth 100000 in
set_option maxHeartbeats 4000000 in
theorem qr_174_38 {V : Nat → Nat → Value} {I : Nat → Nat → Int32} {L : Nat → Nat → Int64} {R : Nat → Nat → Option Nat} {tl : am_H} : am_pG 3110 (.ref 174) (fx V I L R ++ tl) = some (.ref 203) := rfl
set_option maxRecDepth 100000 in
set_option maxHeartbeats 4000000 in
theorem qr_174_39 {V : Nat → Nat → Value} {I : Nat → Nat → Int32} {L : Nat → Nat → Int64} {R : Nat → Nat → Option Nat} {tl : am_H} : am_pG 3111 (.ref 174) (fx V I L R ++ tl) = some (.ref 204) := rfl
set_option maxRecDepth 100000 in
set_option maxHeartbeats 4000000 in
theorem qv_174_40 {V : Nat → Nat → Value} {I : Nat → Nat → Int32} {L : Nat → Nat → Int64} {R : Nat → Nat → Option Nat} {tl : am_H} : am_pG 3112 (.ref 174) (fx V I L R ++ tl) = some (V 174 40) := rfl
set_option maxRecDepth 100000 in
set_option maxHeartbeats 4000000 in
theorem qp_174_40 {V : Nat → Nat → Value} {I : Nat → Nat → Int32} {L : Nat → Nat → Int64} {R : Nat → Nat → Option Nat} {tl : am_H} {x : Int32} : am_pP 3112 (.ref 174) (.int x) (fx V I L R ++ tl) = some (fx (vup V 174 40 (.int x)) I L R ++ tl) := ev_p rfl rfl rfl rfl
set_option maxRecDepth 100000 in
set_option maxHeartbeats 4000000 in
theorem qr_174_41 {V : Nat → Nat → Value} {I : Nat → Nat → Int32} {L : Nat → Nat → Int64} {R : Nat → Nat → Option Nat} {tl : am_H} : am_pG 3113 (.ref 174) (fx V I L R ++ tl) = some (.ref 205) := rfl
set_option maxRecDepth 100000 in
set_option maxHeartbeats 4000000 in
theorem qr_174_42 {V : Nat → Nat → Value} {I : Nat → Nat → Int32} {L : Nat → Nat → Int64} {R : Nat → Nat → Option Nat} {tl : am_H} : am_pG 3114 (.ref 174) (fx V I L R ++ tl) = some (.ref 206) := rfl
set_option maxRecDepth 100000 in
set_option maxHeartbeats 4000000 in
theorem qr_174_43 {V : Nat → Nat → Value} {I : Nat → Nat → Int32} {L : Nat → Nat → Int64} {R : Nat → Nat → Option Nat} {tl : am_H} : am_pG 3115 (.ref 174) (fx V I L R ++ tl) = some (.ref 207) := rfl
set_option maxRecDepth 100000 in
set_option maxHeartbeats 4000000 in
theorem qr_174_44 {V : Nat → Nat → Value} {I : Nat → Nat → Int32} {L : Nat → Nat → Int64} {R : Nat → Nat → Option Nat} {tl : am_H} : am_pG 3116 (.ref 174) (fx V I L R ++ tl) = some (.ref 208) := rfl
set_option maxRecDepth 100000 in
set_option maxHeartbeats 4000000 in
theorem qr_174_45 {V : Nat → Nat → Value} {I : Nat → Nat → Int32} {L : Nat → Nat → Int64} {R : Nat → Nat → Option Nat} {tl : am_H} : am_pG 3117 (.ref 174) (fx V I L R ++ tl) = some (.ref 209) := rfl
set_option maxRecDepth 100000 in
set_option maxHeartbeats 4000000 in
theorem qr_174_46 {V : Nat → Nat → Value} {I : Nat → Nat → Int32} {L : Nat → Nat → Int64} {R : Nat → Nat → Option Nat} {tl : am_H} : am_pG 3118 (.ref 174) (fx V I L R ++ tl) = some (.ref 210) := rfl
set_option maxRecDepth 100000 in
set_option maxHeartbeats 4000000 in
theorem qr_174_47 {V : Nat → Nat → Value} {I : Nat → Nat → Int32} {L : Nat → Nat → Int64} {R : Nat → Nat → Option Nat} {tl : am_H} : am_pG 3119 (.ref 174) (fx V I L R ++ tl) = some (.ref 211) := rfl
set_option maxRecDepth 100000 in
set_option maxHeartbeats 4000000 in
theorem qv_174_48 {V : Nat → Nat → Value} {I : Nat → Nat → Int32} {L : Nat → Nat → Int64} {R : Nat → Nat → Option Nat} {tl : am_H} : am_pG 3120 (.ref 174) (fx V I L R ++ tl) = some (V 174 48) := rfl
set_option maxRecDepth 100000 in
set_option maxHeartbeats 4000000 in
theorem qp_174_48 {V : Nat → Nat → Value} {I : Nat → Nat → Int32} {L : Nat → Nat → Int64} {R : Nat → Nat → Option Nat} {tl : am_H} {x : Int32} : am_pP 3120 (.ref 174) (.int x) (fx V I L R ++ tl) = some (fx (vup V 174 48 (.int x)) I L R ++ tl) := ev_p rfl rfl rfl rfl
set_option maxRecDepth 100000 in
set_option maxHeartbeats 4000000 in
theorem qv_174_49 {V : Nat → Nat → Value} {I : Nat → Nat → Int32} {L : Nat → Nat → Int64} {R : Nat → Nat → Option Nat} {tl : am_H} : am_pG 3121 (.ref 174) (fx V I L R ++ tl) = some (V 174 49) := rfl
set_option maxRecDepth 100000 in
set_option maxHeartbeats 4000000 in
theorem qp_174_49 {V : Nat → Nat → Value} {I : Nat → Nat → Int32} {L : Nat → Nat → Int64} {R : Nat → Nat → Option Nat} {tl : am_H} {x : Int32} : am_pP 3121 (.ref 174) (.int x) (fx V I L R ++ tl) = some (fx (vup V 174 49 (.int x)) I L R ++ tl) := ev_p rfl rfl rfl rfl
set_option maxRecDepth 100000 in
set_option maxHeartbeats 4000000 in
theorem qv_174_50 {V : Nat → Nat → Value} {I : Nat → Nat → Int32} {L : Nat → Nat → Int64} {R : Nat → Nat → Option Nat} {tl : am_H} : am_pG 3122 (.ref 174) (fx V I L R ++ tl) = some (V 174 50) := rfl
set_option maxRecDepth 100000 in
set_option maxHeartbeats 4000000 in
theorem qp_174_50 {V : Nat → Nat → Value} {I : Nat → Nat → Int32} {L : Nat → Nat → Int64} {R : Nat → Nat → Option Nat} {tl : am_H} {x : Int32} : am_pP 3122 (.ref 174) (.int x) (fx V I L R ++ tl) = some (fx (vup V 174 50 (.int x)) I L R ++ tl) := ev_p rfl rfl rfl rfl
set_option maxRecDepth 100000 in
set_option maxHeartbeats 4000000 in
theorem qv_174_51 {V : Nat → Nat → Value} {I : Nat → Nat → Int32} {L : Nat → Nat → Int64} {R : Nat → Nat → Option Nat} {tl : am_H} : am_pG 3123 (.ref 174) (fx V I L R ++ tl) = some (V 174 51) := rfl
set_option maxRecDepth 100000 in
set_option maxHeartbeats 4000000 in
theorem qp_174_51 {V : Nat → Nat → Value} {I : Nat → Nat → Int32} {L : Nat → Nat → Int64} {R : Nat → Nat → Option Nat} {tl : am_H} {x : Int32} : am_pP 3123 (.ref 174) (.int x) (fx V I L R ++ tl) = some (fx (vup V 174 51 (.int x)) I L R ++ tl) := ev_p rfl rfl rfl rfl
set_option maxRecDepth 100000 in
set_option maxHeartbeats 4000000 in
theorem qv_174_52 {V : Nat → Nat → Value} {I : Nat → Nat → Int32} {L : Nat → Nat → Int64} {R : Nat → Nat → Option Nat} {tl : am_H} : am_pG 3124 (.ref 174) (fx V I L R ++ tl) = some (V 174 52) := rfl
set_option maxRecDepth 100000 in
set_option maxHeartbeats 4000000 in
theorem qp_174_52 {V : Nat → Nat → Value} {I : Nat → Nat → Int32} {L : Nat → Nat → Int64} {R : Nat → Nat → Option Nat} {tl : am_H} {x : Int32} : am_pP 3124 (.ref 174) (.int x) (fx V I L R ++ tl) = some (fx (vup V 174 52 (.int x)) I L R ++ tl) := ev_p rfl rfl rfl rfl
set_option maxRecDepth 100000 in
set_option maxHeartbeats 4000000 in
theorem qv_174_53 {V : Nat → Nat → Value} {I : Nat → Nat → Int32} {L : Nat → Nat → Int64} {R : Nat → Nat → Option Nat} {tl : am_H} : am_pG 3125 (.ref 174) (fx V I L R ++ tl) = some (V 174 53) := rfl
set_option maxRecDepth 100000 in
set_option maxHeartbeats 4000000 in
theorem qp_174_53 {V : Nat → Nat → Value} {I : Nat → Nat → Int32} {L : Nat → Nat → Int64} {R : Nat → Nat → Option Nat} {tl : am_H} {x : Int32} : am_pP 3125 (.ref 174) (.int x) (fx V I L R ++ tl) = some (fx (vup V 174 53 (.int x)) I L R ++ tl) := ev_p rfl rfl rfl rfl
set_option maxRecDepth 100000 in
set_option maxHeartbeats 4000000 in
theorem qv_174_54 {V : Nat → Nat → Value} {I : Nat → Nat → Int32} {L : Nat → Nat → Int64} {R : Nat → Nat → Option Nat} {tl : am_H} : am_pG 3126 (.ref 174) (fx V I L R ++ tl) = some (V 174 54) := rfl
set_option maxRecDepth 100000 in
set_option maxHeartbeats 4000000 in
theorem qp_174_54 {V : Nat → Nat → Value} {I : Nat → Nat → Int32} {L : Nat → Nat → Int64} {R : Nat → Nat → Option Nat} {tl : am_H} {x : Int32} : am_pP 3126 (.ref 174) (.int x) (fx V I L R ++ tl) = some (fx (vup V 174 54 (.int x)) I L R ++ tl) := ev_p rfl rfl rfl rfl
set_option maxRecDepth 100000 in
set_option maxHeartbeats 4000000 in
theorem qr_174_55 {V : Nat → Nat → Value} {I : Nat → Nat → Int32} {L : Nat → Nat → Int64} {R : Nat → Nat → Option Nat} {tl : am_H} : am_pG 3127 (.ref 174) (fx V I L R ++ tl) = some (.ref 212) := rfl
set_option maxRecDepth 100000 in
set_option maxHeartbeats 4000000 in
theorem qv_174_56 {V : Nat → Nat → Value} {I : Nat → Nat → Int32} {L : Nat → Nat → Int64} {R : Nat → Nat → Option Nat} {tl : am_H} : am_pG 3128 (.ref 174) (fx V I L R ++ tl) = some (V 174 56) := rfl
set_option maxRecDepth 100000 in
set_option maxHeartbeats 4000000 in
theorem qp_174_56 {V : Nat → Nat → Value} {I : Nat → Nat → Int32} {L : Nat → Nat → Int64} {R : Nat → Nat → Option Nat} {tl : am_H} {x : Int32} : am_pP 3128 (.ref 174) (.int x) (fx V I L R ++ tl) = some (fx (vup V 174 56 (.int x)) I L R ++ tl) := ev_p rfl rfl rfl rfl
set_option maxRecDepth 100000 in
set_option maxHeartbeats 4000000 in
theorem qv_174_57 {V : Nat → Nat → Value} {I : Nat → Nat → Int32} {L : Nat → Nat → Int64} {R : Nat → Nat → Option Nat} {tl : am_H} : am_pG 3129 (.ref 174) (fx V I L R ++ tl) = some (V 174 57) := rfl
set_option maxRecDepth 100000 in
set_option maxHeartbeats 4000000 in
theorem qp_174_57 {V : Nat → Nat → Value} {I : Nat → Nat → Int32} {L : Nat → Nat → Int64} {R : Nat → Nat → Option Nat} {tl : am_H} {x : Int32} : am_pP 3129 (.ref 174) (.int x) (fx V I L R ++ tl) = some (fx (vup V 174 57 (.int x)) I L R ++ tl) := ev_p rfl rfl rfl rfl
set_option maxRecDepth 100000 in
set_option maxHeartbeats 4000000 in
theorem qv_174_58 {V : Nat → Nat → Value} {I : Nat → Nat → Int32} {L : Nat → Nat → Int64} {R : Nat → Nat → Option Nat} {tl : am_H} : am_pG 3130 (.ref 174) (fx V I L R ++ tl) = some (V 174 58) := rfl
set_option maxRecDepth 100000 in
set_option maxHeartbeats 4000000 in
theorem qp_174_58 {V : Nat → Nat → Value} {I : Nat → Nat → Int32} {L : Nat → Nat → Int64} {R : Nat → Nat → Option Nat} {tl : am_H} {x : Int32} : am_pP 3130 (.ref 174) (.int x) (fx V I L R ++ tl) = some (fx (vup V 174 58 (.int x)) I L R ++ tl) := ev_p rfl rfl rfl rfl
set_option maxRecDepth 100000 in
set_option maxHeartbeats 4000000 in
theorem qv_174_59 {V : Nat → Nat → Value} {I : Nat → Nat → Int32} {L : Nat → Nat → Int64} {R : Nat → Nat → Option Nat} {tl : am_H} : am_pG 3131 (.ref 174) (fx V I L R ++ tl) = some (V 174 59) := rfl
set_option maxRecDepth 100000 in
set_option maxHeartbeats 4000000 in
theorem qp_174_59 {V : Nat → Nat → Value} {I : Nat → Nat → Int32} {L : Nat → Nat → Int64} {R : Nat → Nat → Option Nat} {tl : am_H} {x : Int32} : am_pP 3131 (.ref 174) (.int x) (fx V I L R ++ tl) = some (fx (vup V 174 59 (.int x)) I L R ++ tl) := ev_p rfl rfl rfl rfl
set_option maxRecDepth 100000 in
set_option maxHeartbeats 4000000 in
theorem qr_174_60 {V : Nat → Nat → Value} {I : Nat → Nat → Int32} {L : Nat → Nat → Int64} {R : Nat → Nat → Option Nat} {tl : am_H} : am_pG 3132 (.ref 174) (fx V I L R ++ tl) = some (.ref 213) := rfl
set_option maxRecDepth 100000 in
set_option maxHeartbeats 4000000 in
theorem qr_174_61 {V : Nat → Nat → Value} {I : Nat → Nat → Int32} {L : Nat → Nat → Int64} {R : Nat → Nat → Option Nat} {tl : am_H} : am_pG 3133 (.ref 174) (fx V I L R ++ tl) = some (.ref 214) := rfl
set_option maxRecDepth 100000 in
set_option maxHeartbeats 4000000 in
theorem qr_174_62 {V : Nat → Nat → Value} {I : Nat → Nat → Int32} {L : Nat → Nat → Int64} {R : Nat → Nat → Option Nat} {tl : am_H} : am_pG 3134 (.ref 174) (fx V I L R ++ tl) = some (.ref 215) := rfl
set_option maxRecDepth 100000 in
set_option maxHeartbeats 4000000 in
theorem qr_174_63 {V : Nat → Nat → Value} {I : Nat → Nat → Int32} {L : Nat → Nat → Int64} {R : Nat → Nat → Option Nat} {tl : am_H} : am_pG 3135 (.ref 174) (fx V I L R ++ tl) = some (.ref 216) := rfl
set_option maxRecDepth 100000 in
set_option maxHeartbeats 4000000 in
theorem qr_174_64 {V : Nat → Nat → Value} {I : Nat → Nat → Int32} {L : Nat → Nat → Int64} {R : Nat → Nat → Option Nat} {tl : am_H} : am_pG 3136 (.ref 174) (fx V I L R ++ tl) = some (.ref 217) := rfl
set_option maxRecDepth 100000 in
set_option maxHeartbeats 4000000 in
theorem qv_174_65 {V : Nat → Nat → Value} {I : Nat → Nat → Int32} {L : Nat → Nat → Int64} {R : Nat → Nat → Option Nat} {tl : am_H} : am_pG 3137 (.ref 174) (fx V I L R ++ tl) = some (V 174 65) := rfl
set_option maxRecDepth 100000 in
set_option maxHeartbeats 4000000 in
theorem qp_174_65 {V : Nat → Nat → Value} {I : Nat → Nat → Int32} {L : Nat → Nat → Int64} {R : Nat → Nat → Option Nat} {tl : am_H} {x : Int32} : am_pP 3137 (.ref 174) (.int x) (fx V I L R ++ tl) = some (fx (vup V 174 65 (.int x)) I L R ++ tl) := ev_p rfl rfl rfl rfl
set_option maxRecDepth 100000 in
set_option maxHeartbeats 4000000 in
theorem qv_174_66 {V : Nat → Nat → Value} {I : Nat → Nat → Int32} {L : Nat → Nat → Int64} {R : Nat → Nat → Option Nat} {tl : am_H} : am_pG 3138 (.ref 174) (fx V I L R ++ tl) = some (V 174 66) := rfl
set_option maxRecDepth 100000 in
set_option maxHeartbeats 4000000 in
theorem qp_174_66 {V : Nat → Nat → Value} {I : Nat → Nat → Int32} {L : Nat → Nat → Int64} {R : Nat → Nat → Option Nat} {tl : am_H} {x : Int32} : am_pP 3138 (.ref 174) (.int x) (fx V I L R ++ tl) = some (fx (vup V 174 66 (.int x)) I L R ++ tl) := ev_p rfl rfl rfl rfl
set_option maxRecDepth 100000 in
set_option maxHeartbeats 4000000 in
theorem qr_174_67 {V : Nat → Nat → Value} {I : Nat → Nat → Int32} {L : Nat → Nat → Int64} {R : Nat → Nat → Option Nat} {tl : am_H} : am_pG 3139 (.ref 174) (fx V I L R ++ tl) = some (.ref 218) := rfl
set_option maxRecDepth 100000 in
set_option maxHeartbeats 4000000 in
theorem qv_174_68 {V : Nat → Nat → Value} {I : Nat → Nat → Int32} {L : Nat → Nat → Int64} {R : Nat → Nat → Option Nat} {tl : am_H} : am_pG 3140 (.ref 174) (fx V I L R ++ tl) = some (V 174 68) := rfl
set_option maxRecDepth 100000 in
set_option maxHeartbeats 4000000 in
theorem qp_174_68 {V : Nat → Nat → Value} {I : Nat → Nat → Int32} {L : Nat → Nat → Int64} {R : Nat → Nat → Option Nat} {tl : am_H} {x : Int32} : am_pP 3140 (.ref 174) (.int x) (fx V I L R ++ tl) = some (fx (vup V 174 68 (.int x)) I L R ++ tl) := ev_p rfl rfl rfl rfl
set_option maxRecDepth 100000 in
set_option maxHeartbeats 4000000 in
theorem qv_174_69 {V : Nat → Nat → Value} {I : Nat → Nat → Int32} {L : Nat → Nat → Int64} {R : Nat → Nat → Option Nat} {tl : am_H} : am_pG 3141 (.ref 174) (fx V I L R ++ tl) = some (V 174 69) := rfl
set_option maxRecDepth 100000 in
set_option maxHeartbeats 4000000 in
theorem qp_174_69 {V : Nat → Nat → Value} {I : Nat → Nat → Int32} {L : Nat → Nat → Int64} {R : Nat → Nat → Option Nat} {tl : am_H} {x : Int32} : am_pP 3141 (.ref 174) (.int x) (fx V I L R ++ tl) = some (fx (vup V 174 69 (.int x)) I L R ++ tl) := ev_p rfl rfl rfl rfl
set_option maxRecDepth 100000 in
set_option maxHeartbeats 4000000 in
theorem qv_174_70 {V : Nat → Nat → Value} {I : Nat → Nat → Int32} {L : Nat → Nat → Int64} {R : Nat → Nat → Option Nat} {tl : am_H} : am_pG 3142 (.ref 174) (fx V I L R ++ tl) = some (V 174 70) := rfl
set_option maxRecDepth 100000 in
set_option maxHeartbeats 4000000 in
theorem qp_174_70 {V : Nat → Nat → Value} {I : Nat → Nat → Int32} {L : Nat → Nat → Int64} {R : Nat → Nat → Option Nat} {tl : am_H} {x : Int32} : am_pP 3142 (.ref 174) (.int x) (fx V I L R ++ tl) = some (fx (vup V 174 70 (.int x)) I L R ++ tl) := ev_p rfl rfl rfl rfl
set_option maxRecDepth 100000 in
set_option maxHeartbeats 4000000 in
theorem qr_174_71 {V : Nat → Nat → Value} {I : Nat → Nat → Int32} {L : Nat → Nat → Int64} {R : Nat → Nat → Option Nat} {tl : am_H} : am_pG 3143 (.ref 174) (fx V I L R ++ tl) = some (.ref 219) := rfl
set_option maxRecDepth 100000 in
set_option maxHeartbeats 4000000 in
theorem qv_174_72 {V : Nat → Nat → Value} {I : Nat → Nat → Int32} {L : Nat → Nat → Int64} {R : Nat → Nat → Option Nat} {tl : am_H} : am_pG 3144 (.ref 174) (fx V I L R ++ tl) = some (V 174 72) := rfl
set_option maxRecDepth 100000 in
set_option maxHeartbeats 4000000 in
theorem qp_174_72 {V : Nat → Nat → Value} {I : Nat → Nat → Int32} {L : Nat → Nat → Int64} {R : Nat → Nat → Option Nat} {tl : am_H} {x : Int32} : am_pP 3144 (.ref 174) (.int x) (fx V I L R ++ tl) = some (fx (vup V 174 72 (.int x)) I L R ++ tl) := ev_p rfl rfl rfl rfl
set_option maxRecDepth 100000 in
set_option maxHeartbeats 4000000 in
theorem qv_174_73 {V : Nat → Nat → Value} {I : Nat → Nat → Int32} {L : Nat → Nat → Int64} {R : Nat → Nat → Option Nat} {tl : am_H} : am_pG 3145 (.ref 174) (fx V I L R ++ tl) = some (V 174 73) := rfl
set_option maxRecDepth 100000 in
set_option maxHeartbeats 4000000 in
theorem qp_174_73 {V : Nat → Nat → Value} {I : Nat → Nat → Int32} {L : Nat → Nat → Int64} {R : Nat → Nat → Option Nat} {tl : am_H} {x : Int32} : am_pP 3145 (.ref 174) (.int x) (fx V I L R ++ tl) = some (fx (vup V 174 73 (.int x)) I L R ++ tl) := ev_p rfl rfl rfl rfl
set_option maxRecDepth 100000 in
set_option maxHeartbeats 4000000 in
theorem qr_174_74 {V : Nat → Nat → Value} {I : Nat → Nat → Int32} {L : Nat → Nat → Int64} {R : Nat → Nat → Option Nat} {tl : am_H} : am_pG 3146 (.ref 174) (fx V I L R ++ tl) = some (.ref 220) := rfl
set_option maxRecDepth 100000 in
set_option maxHeartbeats 4000000 in
theorem qr_174_75 {V : Nat → Nat → Value} {I : Nat → Nat → Int32} {L : Nat → Nat → Int64} {R : Nat → Nat → Option Nat} {tl : am_H} : am_pG 3147 (.ref 174) (fx V I L R ++ tl) = some (.ref 221) := rfl
set_option maxRecDepth 100000 in
set_option maxHeartbeats 4000000 in
theorem qr_174_76 {V : Nat → Nat → Value} {I : Nat → Nat → Int32} {L : Nat → Nat → Int64} {R : Nat → Nat → Option Nat} {tl : am_H} : am_pG 3148 (.ref 174) (fx V I L R ++ tl) = some (.ref 222) := rfl
set_option maxRecDepth 100000 in
set_option maxHeartbeats 4000000 in
theorem qv_174_77 {V : Nat → Nat → Value} {I : Nat → Nat → Int32} {L : Nat → Nat → Int64} {R : Nat → Nat → Option Nat} {tl : am_H} : am_pG 3149 (.ref 174) (fx V I L R ++ tl) = some (V 174 77) := rfl
set_option maxRecDepth 100000 in
set_option maxHeartbeats 4000000 in
theorem qp_174_77 {V : Nat → Nat → Value} {I : Nat → Nat → Int32} {L : Nat → Nat → Int64} {R : Nat → Nat → Option Nat} {tl : am_H} {x : Int32} (hx : (x == 0 || x == 1) = true) : am_pP 3149 (.ref 174) (.int x) (fx V I L R ++ tl) = some (fx (vup V 174 77 (.int x)) I L R ++ tl) := ev_p rfl (show (true && (x == 0 || x == 1)) = true from hx) rfl rfl
set_option maxRecDepth 100000 in
set_option maxHeartbeats 4000000 in
theorem qv_174_78 {V : Nat → Nat → Value} {I : Nat → Nat → Int32} {L : Nat → Nat → Int64} {R : Nat → Nat → Option Nat} {tl : am_H} : am_pG 3150 (.ref 174) (fx V I L R ++ tl) = some (V 174 78) := rfl
set_option maxRecDepth 100000 in
set_option maxHeartbeats 4000000 in
theorem qp_174_78 {V : Nat → Nat → Value} {I : Nat → Nat → Int32} {L : Nat → Nat → Int64} {R : Nat → Nat → Option Nat} {tl : am_H} {x : Int32} : am_pP 3150 (.ref 174) (.int x) (fx V I L R ++ tl) = some (fx (vup V 174 78 (.int x)) I L R ++ tl) := ev_p rfl rfl rfl rfl
set_option maxRecDepth 100000 in
set_option maxHeartbeats 4000000 in
theorem qr_174_79 {V : Nat → Nat → Value} {I : Nat → Nat → Int32} {L : Nat → Nat → Int64} {R : Nat → Nat → Option Nat} {tl : am_H} : am_pG 3151 (.ref 174) (fx V I L R ++ tl) = some (.ref 223) := rfl
set_option maxRecDepth 100000 in
set_option maxHeartbeats 4000000 in
theorem qv_174_80 {V : Nat → Nat → Value} {I : Nat → Nat → Int32} {L : Nat → Nat → Int64} {R : Nat → Nat → Option Nat} {tl : am_H} : am_pG 3152 (.ref 174) (fx V I L R ++ tl) = some (V 174 80) := rfl
set_option maxRecDepth 100000 in
set_option maxHeartbeats 4000000 in
theorem qp_174_80 {V : Nat → Nat → Value} {I : Nat → Nat → Int32} {L : Nat → Nat → Int64} {R : Nat → Nat → Option Nat} {tl : am_H} {x : Int32} (hx : (x == 0 || x == 1) = true) : am_pP 3152 (.ref 174) (.int x) (fx V I L R ++ tl) = some (fx (vup V 174 80 (.int x)) I L R ++ tl) := ev_p rfl (show (true && (x == 0 || x == 1)) = true from hx) rfl rfl
set_option maxRecDepth 100000 in
set_option maxHeartbeats 4000000 in
theorem qr_174_81 {V : Nat → Nat → Value} {I : Nat → Nat → Int32} {L : Nat → Nat → Int64} {R : Nat → Nat → Option Nat} {tl : am_H} : am_pG 3153 (.ref 174) (fx V I L R ++ tl) = some (.ref 224) := rfl
set_option maxRecDepth 100000 in
set_option maxHeartbeats 4000000 in
theorem qr_174_82 {V : Nat → Nat → Value} {I : Nat → Nat → Int32} {L : Nat → Nat → Int64} {R : Nat → Nat → Option Nat} {tl : am_H} : am_pG 3154 (.ref 174) (fx V I L R ++ tl) = some (.ref 225) := rfl
set_option maxRecDepth 100000 in
set_option maxHeartbeats 4000000 in
theorem qr_174_83 {V : Nat → Nat → Value} {I : Nat → Nat → Int32} {L : Nat → Nat → Int64} {R : Nat → Nat → Option Nat} {tl : am_H} : am_pG 3155 (.ref 174) (fx V I L R ++ tl) = some (.ref 226) := rfl
set_option maxRecDepth 100000 in
set_option maxHeartbeats 4000000 in
theorem qr_174_84 {V : Nat → Nat → Value} {I : Nat → Nat → Int32} {L : Nat → Nat → Int64} {R : Nat → Nat → Option Nat} {tl : am_H} : am_pG 3156 (.ref 174) (fx V I L R ++ tl) = some (.ref 227) := rfl
set_option maxRecDepth 100000 in
set_option maxHeartbeats 4000000 in
theorem qr_174_85 {V : Nat → Nat → Value} {I : Nat → Nat → Int32} {L : Nat → Nat → Int64} {R : Nat → Nat → Option Nat} {tl : am_H} : am_pG 3157 (.ref 174) (fx V I L R ++ tl) = some (.ref 228) := rfl
set_option maxRecDepth 100000 in
set_option maxHeartbeats 4000000 in
theorem qr_174_86 {V : Nat → Nat → Value} {I : Nat → Nat → Int32} {L : Nat → Nat → Int64} {R : Nat → Nat → Option Nat} {tl : am_H} : am_pG 3158 (.ref 174) (fx V I L R ++ tl) = some (.ref 229) := rfl
set_option maxRecDepth 100000 in
set_option maxHeartbeats 4000000 in
theorem qr_174_87 {V : Nat → Nat → Value} {I : Nat → Nat → Int32} {L : Nat → Nat → Int64} {R : Nat → Nat → Option Nat} {tl : am_H} : am_pG 3159 (.ref 174) (fx V I L R ++ tl) = some (.ref 230) := rfl
set_option maxRecDepth 100000 in
set_option maxHeartbeats 4000000 in
theorem qv_174_88 {V : Nat → Nat → Value} {I : Nat → Nat → Int32} {L : Nat → Nat → Int64} {R : Nat → Nat → Option Nat} {tl : am_H} : am_pG 3160 (.ref 174) (fx V I L R ++ tl) = some (V 174 88) := rfl
set_option maxRecDepth 100000 in
set_option maxHeartbeats 4000000 in
theorem qp_174_88 {V : Nat → Nat → Value} {I : Nat → Nat → Int32} {L : Nat → Nat → Int64} {R : Nat → Nat → Option Nat} {tl : am_H} {x : Int32} : am_pP 3160 (.ref 174) (.int x) (fx V I L R ++ tl) = some (fx (vup V 174 88 (.int x)) I L R ++ tl) := ev_p rfl rfl rfl rfl
set_option maxRecDepth 100000 in
set_option maxHeartbeats 4000000 in
theorem qr_174_89 {V : Nat → Nat → Value} {I : Nat → Nat → Int32} {L : Nat → Nat → Int64} {R : Nat → Nat → Option Nat} {tl : am_H} : am_pG 3161 (.ref 174) (fx V I L R ++ tl) = some (.ref 231) := rfl
set_option maxRecDepth 100000 in
set_option maxHeartbeats 4000000 in
theorem qr_174_90 {V : Nat → Nat → Value} {I : Nat → Nat → Int32} {L : Nat → Nat → Int64} {R : Nat → Nat → Option Nat} {tl : am_H} : am_pG 3162 (.ref 174) (fx V I L R ++ tl) = some (.ref 232) := rfl
set_option maxRecDepth 100000 in
set_option maxHeartbeats 4000000 in
theorem qv_174_91 {V : Nat → Nat → Value} {I : Nat → Nat → Int32} {L : Nat → Nat → Int64} {R : Nat → Nat → Option Nat} {tl : am_H} : am_pG 3163 (.ref 174) (fx V I L R ++ tl) = some (V 174 91) := rfl
set_option maxRecDepth 100000 in
set_option maxHeartbeats 4000000 in
theorem qp_174_91 {V : Nat → Nat → Value} {I : Nat → Nat → Int32} {L : Nat → Nat → Int64} {R : Nat → Nat → Option Nat} {tl : am_H} {x : Int64} : am_pP 3163 (.ref 174) (.long x) (fx V I L R ++ tl) = some (fx (vup V 174 91 (.long x)) I L R ++ tl) := ev_p rfl rfl rfl rfl
set_option maxRecDepth 100000 in
set_option maxHeartbeats 4000000 in
theorem qv_174_92 {V : Nat → Nat → Value} {I : Nat → Nat → Int32} {L : Nat → Nat → Int64} {R : Nat → Nat → Option Nat} {tl : am_H} : am_pG 3164 (.ref 174) (fx V I L R ++ tl) = some (V 174 92) := rfl
set_option maxRecDepth 100000 in
set_option maxHeartbeats 4000000 in
theorem qp_174_92 {V : Nat → Nat → Value} {I : Nat → Nat → Int32} {L : Nat → Nat → Int64} {R : Nat → Nat → Option Nat} {tl : am_H} {x : Int64} : am_pP 3164 (.ref 174) (.long x) (fx V I L R ++ tl) = some (fx (vup V 174 92 (.long x)) I L R ++ tl) := ev_p rfl rfl rfl rfl
set_option maxRecDepth 100000 in
set_option maxHeartbeats 4000000 in
theorem qv_174_93 {V : Nat → Nat → Value} {I : Nat → Nat → Int32} {L : Nat → Nat → Int64} {R : Nat → Nat → Option Nat} {tl : am_H} : am_pG 3165 (.ref 174) (fx V I L R ++ tl) = some (V 174 93) := rfl
set_option maxRecDepth 100000 in
set_option maxHeartbeats 4000000 in
theorem qp_174_93 {V : Nat → Nat → Value} {I : Nat → Nat → Int32} {L : Nat → Nat → Int64} {R : Nat → Nat → Option Nat} {tl : am_H} {x : Int32} : am_pP 3165 (.ref 174) (.int x) (fx V I L R ++ tl) = some (fx (vup V 174 93 (.int x)) I L R ++ tl) := ev_p rfl rfl rfl rfl
set_option maxRecDepth 100000 in
set_option maxHeartbeats 4000000 in
theorem qv_174_94 {V : Nat → Nat → Value} {I : Nat → Nat → Int32} {L : Nat → Nat → Int64} {R : Nat → Nat → Option Nat} {tl : am_H} : am_pG 3166 (.ref 174) (fx V I L R ++ tl) = some (V 174 94) := rfl
set_option maxRecDepth 100000 in
set_option maxHeartbeats 4000000 in
theorem qp_174_94 {V : Nat → Nat → Value} {I : Nat → Nat → Int32} {L : Nat → Nat → Int64} {R : Nat → Nat → Option Nat} {tl : am_H} {x : Int32} : am_pP 3166 (.ref 174) (.int x) (fx V I L R ++ tl) = some (fx (vup V 174 94 (.int x)) I L R ++ tl) := ev_p rfl rfl rfl rfl
set_option maxRecDepth 100000 in
set_option maxHeartbeats 4000000 in
theorem qv_174_95 {V : Nat → Nat → Value} {I : Nat → Nat → Int32} {L : Nat → Nat → Int64} {R : Nat → Nat → Option Nat} {tl : am_H} : am_pG 3167 (.ref 174) (fx V I L R ++ tl) = some (V 174 95) := rfl
set_option maxRecDepth 100000 in
set_option maxHeartbeats 4000000 in
theorem qp_174_95 {V : Nat → Nat → Value} {I : Nat → Nat → Int32} {L : Nat → Nat → Int64} {R : Nat → Nat → Option Nat} {tl : am_H} {x : Int32} (hx : (x == 0 || x == 1) = true) : am_pP 3167 (.ref 174) (.int x) (fx V I L R ++ tl) = some (fx (vup V 174 95 (.int x)) I L R ++ tl) := ev_p rfl (show (true && (x == 0 || x == 1)) = true from hx) rfl rfl
set_option maxRecDepth 100000 in
set_option maxHeartbeats 4000000 in
theorem qv_174_96 {V : Nat → Nat → Value} {I : Nat → Nat → Int32} {L : Nat → Nat → Int64} {R : Nat → Nat → Option Nat} {tl : am_H} : am_pG 3168 (.ref 174) (fx V I L R ++ tl) = some (V 174 96) := rfl
set_option maxRecDepth 100000 in
set_option maxHeartbeats 4000000 in
theorem qp_174_96 {V : Nat → Nat → Value} {I : Nat → Nat → Int32} {L : Nat → Nat → Int64} {R : Nat → Nat → Option Nat} {tl : am_H} {x : Int64} : am_pP 3168 (.ref 174) (.long x) (fx V I L R ++ tl) = some (fx (vup V 174 96 (.long x)) I L R ++ tl) := ev_p rfl rfl rfl rfl
set_option maxRecDepth 100000 in
set_option maxHeartbeats 4000000 in
theorem qv_174_97 {V : Nat → Nat → Value} {I : Nat → Nat → Int32} {L : Nat → Nat → Int64} {R : Nat → Nat → Option Nat} {tl : am_H} : am_pG 3169 (.ref 174) (fx V I L R ++ tl) = some (V 174 97) := rfl
set_option maxRecDepth 100000 in
set_option maxHeartbeats 4000000 in
theorem qp_174_97 {V : Nat → Nat → Value} {I : Nat → Nat → Int32} {L : Nat → Nat → Int64} {R : Nat → Nat → Option Nat} {tl : am_H} {x : Int32} : am_pP 3169 (.ref 174) (.int x) (fx V I L R ++ tl) = some (fx (vup V 174 97 (.int x)) I L R ++ tl) := ev_p rfl rfl rfl rfl
set_option maxRecDepth 100000 in
set_option maxHeartbeats 4000000 in
theorem qr_174_98 {V : Nat → Nat → Value} {I : Nat → Nat → Int32} {L : Nat → Nat → Int64} {R : Nat → Nat → Option Nat} {tl : am_H} : am_pG 3170 (.ref 174) (fx V I L R ++ tl) = some (.ref 233) := rfl
set_option maxRecDepth 100000 in
set_option maxHeartbeats 4000000 in
theorem qr_174_99 {V : Nat → Nat → Value} {I : Nat → Nat → Int32} {L : Nat → Nat → Int64} {R : Nat → Nat → Option Nat} {tl : am_H} : am_pG 3171 (.ref 174) (fx V I L R ++ tl) = some (.ref 234) := rfl
set_option maxRecDepth 100000 in
set_option maxHeartbeats 4000000 in
theorem qr_174_100 {V : Nat → Nat → Value} {I : Nat → Nat → Int32} {L : Nat → Nat → Int64} {R : Nat → Nat → Option Nat} {tl : am_H} : am_pG 3172 (.ref 174) (fx V I L R ++ tl) = some (.ref 235) := rfl
set_option maxRecDepth 100000 in
set_option maxHeartbeats 4000000 in
theorem qr_174_101 {V : Nat → Nat → Value} {I : Nat → Nat → Int32} {L : Nat → Nat → Int64} {R : Nat → Nat → Option Nat} {tl : am_H} : am_pG 3173 (.ref 174) (fx V I L R ++ tl) = some (.ref 236) := rfl
set_option maxRecDepth 100000 in
set_option maxHeartbeats 4000000 in
theorem qr_174_102 {V : Nat → Nat → Value} {I : Nat → Nat → Int32} {L : Nat → Nat → Int64} {R : Nat → Nat → Option Nat} {tl : am_H} : am_pG 3174 (.ref 174) (fx V I L R ++ tl) = some (.ref 237) := rfl
set_option maxRecDepth 100000 in
set_option maxHeartbeats 4000000 in
theorem qr_174_103 {V : Nat → Nat → Value} {I : Nat → Nat → Int32} {L : Nat → Nat → Int64} {R : Nat → Nat → Option Nat} {tl : am_H} : am_pG 3175 (.ref 174) (fx V I L R ++ tl) = some (.ref 238) := rfl
set_option maxRecDepth 100000 in
set_option maxHeartbeats 4000000 in
theorem qr_174_104 {V : Nat → Nat → Value} {I : Nat → Nat → Int32} {L : Nat → Nat → Int64} {R : Nat → Nat → Option Nat} {tl : am_H} : am_pG 3176 (.ref 174) (fx V I L R ++ tl) = some (.ref 239) := rfl
set_option maxRecDepth 100000 in
set_option maxHeartbeats 4000000 in
theorem qv_174_105 {V : Nat → Nat → Value} {I : Nat → Nat → Int32} {L : Nat → Nat → Int64} {R : Nat → Nat → Option Nat} {tl : am_H} : am_pG 3177 (.ref 174) (fx V I L R ++ tl) = some (V 174 105) := rfl
set_option maxRecDepth 100000 in
set_option maxHeartbeats 4000000 in
theorem qp_174_105 {V : Nat → Nat → Value} {I : Nat → Nat → Int32} {L : Nat → Nat → Int64} {R : Nat → Nat → Option Nat} {tl : am_H} {x : Int32} : am_pP 3177 (.ref 174) (.int x) (fx V I L R ++ tl) = some (fx (vup V 174 105 (.int x)) I L R ++ tl) := ev_p rfl rfl rfl rfl
set_option maxRecDepth 100000 in
set_option maxHeartbeats 4000000 in
theorem qr_174_106 {V : Nat → Nat → Value} {I : Nat → Nat → Int32} {L : Nat → Nat → Int64} {R : Nat → Nat → Option Nat} {tl : am_H} : am_pG 3178 (.ref 174) (fx V I L R ++ tl) = some (.ref 240) := rfl
set_option maxRecDepth 100000 in
set_option maxHeartbeats 4000000 in
theorem qr_174_107 {V : Nat → Nat → Value} {I : Nat → Nat → Int32} {L : Nat → Nat → Int64} {R : Nat → Nat → Option Nat} {tl : am_H} : am_pG 3179 (.ref 174) (fx V I L R ++ tl) = some (.ref 241) := rfl
set_option maxRecDepth 100000 in
set_option maxHeartbeats 4000000 in
theorem qv_174_108 {V : Nat → Nat → Value} {I : Nat → Nat → Int32} {L : Nat → Nat → Int64} {R : Nat → Nat → Option Nat} {tl : am_H} : am_pG 3180 (.ref 174) (fx V I L R ++ tl) = some (V 174 108) := rfl
set_option maxRecDepth 100000 in
set_option maxHeartbeats 4000000 in
theorem qp_174_108 {V : Nat → Nat → Value} {I : Nat → Nat → Int32} {L : Nat → Nat → Int64} {R : Nat → Nat → Option Nat} {tl : am_H} {x : Int32} : am_pP 3180 (.ref 174) (.int x) (fx V I L R ++ tl) = some (fx (vup V 174 108 (.int x)) I L R ++ tl) := ev_p rfl rfl rfl rfl
set_option maxRecDepth 100000 in
set_option maxHeartbeats 4000000 in
theorem qr_174_109 {V : Nat → Nat → Value} {I : Nat → Nat → Int32} {L : Nat → Nat → Int64} {R : Nat → Nat → Option Nat} {tl : am_H} : am_pG 3181 (.ref 174) (fx V I L R ++ tl) = some (.ref 242) := rfl
set_option maxRecDepth 100000 in
set_option maxHeartbeats 4000000 in
theorem qr_174_110 {V : Nat → Nat → Value} {I : Nat → Nat → Int32} {L : Nat → Nat → Int64} {R : Nat → Nat → Option Nat} {tl : am_H} : am_pG 3182 (.ref 174) (fx V I L R ++ tl) = some (.ref 243) := rfl
set_option maxRecDepth 100000 in
set_option maxHeartbeats 4000000 in
theorem qr_174_111 {V : Nat → Nat → Value} {I : Nat → Nat → Int32} {L : Nat → Nat → Int64} {R : Nat → Nat → Option Nat} {tl : am_H} : am_pG 3183 (.ref 174) (fx V I L R ++ tl) = some (.ref 244) := rfl
set_option maxRecDepth 100000 in
set_option maxHeartbeats 4000000 in
theorem qr_174_112 {V : Nat → Nat → Value} {I : Nat → Nat → Int32} {L : Nat → Nat → Int64} {R : Nat → Nat → Option Nat} {tl : am_H} : am_pG 3184 (.ref 174) (fx V I L R ++ tl) = some (.ref 245) := rfl
set_option maxRecDepth 100000 in
set_option maxHeartbeats 4000000 in
theorem qr_174_113 {V : Nat → Nat → Value} {I : Nat → Nat → Int32} {L : Nat → Nat → Int64} {R : Nat → Nat → Option Nat} {tl : am_H} : am_pG 3185 (.ref 174) (fx V I L R ++ tl) = some (.ref 246) := rfl
set_option maxRecDepth 100000 in
set_option maxHeartbeats 4000000 in
theorem qr_174_114 {V : Nat → Nat → Value} {I : Nat → Nat → Int32} {L : Nat → Nat → Int64} {R : Nat → Nat → Option Nat} {tl : am_H} : am_pG 3186 (.ref 174) (fx V I L R ++ tl) = some (.ref 247) := rfl
set_option maxRecDepth 100000 in
set_option maxHeartbeats 4000000 in
theorem qv_174_115 {V : Nat → Nat → Value} {I : Nat → Nat → Int32} {L : Nat → Nat → Int64} {R : Nat → Nat → Option Nat} {tl : am_H} : am_pG 3187 (.ref 174) (fx V I L R ++ tl) = some (V 174 115) := rfl
set_option maxRecDepth 100000 in
set_option maxHeartbeats 4000000 in
theorem qp_174_115 {V : Nat → Nat → Value} {I : Nat → Nat → Int32} {L : Nat → Nat → Int64} {R : Nat → Nat → Option Nat} {tl : am_H} {x : Int32} : am_pP 3187 (.ref 174) (.int x) (fx V I L R ++ tl) = some (fx (vup V 174 115 (.int x)) I L R ++ tl) := ev_p rfl rfl rfl rfl
set_option maxRecDepth 100000 in
set_option maxHeartbeats 4000000 in
theorem qr_174_116 {V : Nat → Nat → Value} {I : Nat → Nat → Int32} {L : Nat → Nat → Int64} {R : Nat → Nat → Option Nat} {tl : am_H} : am_pG 3188 (.ref 174) (fx V I L R ++ tl) = some (.ref 248) := rfl
set_option maxRecDepth 100000 in
set_option maxHeartbeats 4000000 in
theorem qr_174_117 {V : Nat → Nat → Value} {I : Nat → Nat → Int32} {L : Nat → Nat → Int64} {R : Nat → Nat → Option Nat} {tl : am_H} : am_pG 3189 (.ref 174) (fx V I L R ++ tl) = some (.ref 249) := rfl
set_option maxRecDepth 100000 in
set_option maxHeartbeats 4000000 in
theorem qr_174_118 {V : Nat → Nat → Value} {I : Nat → Nat → Int32} {L : Nat → Nat → Int64} {R : Nat → Nat → Option Nat} {tl : am_H} : am_pG 3190 (.ref 174) (fx V I L R ++ tl) = some (.ref 250) := rfl
set_option maxRecDepth 100000 in
set_option maxHeartbeats 4000000 in
theorem qr_174_119 {V : Nat → Nat → Value} {I : Nat → Nat → Int32} {L : Nat → Nat → Int64} {R : Nat → Nat → Option Nat} {tl : am_H} : am_pG 3191 (.ref 174) (fx V I L R ++ tl) = some (.ref 251) := rfl
set_option maxRecDepth 100000 in
set_option maxHeartbeats 4000000 in
theorem qr_174_120 {V : Nat → Nat → Value} {I : Nat → Nat → Int32} {L : Nat → Nat → Int64} {R : Nat → Nat → Option Nat} {tl : am_H} : am_pG 3192 (.ref 174) (fx V I L R ++ tl) = some (.ref 252) := rfl
set_option maxRecDepth 100000 in
set_option maxHeartbeats 4000000 in
theorem qv_174_121 {V : Nat → Nat → Value} {I : Nat → Nat → Int32} {L : Nat → Nat → Int64} {R : Nat → Nat → Option Nat} {tl : am_H} : am_pG 3193 (.ref 174) (fx V I L R ++ tl) = some (V 174 121) := rfl
set_option maxRecDepth 100000 in
set_option maxHeartbeats 4000000 in
theorem qp_174_121 {V : Nat → Nat → Value} {I : Nat → Nat → Int32} {L : Nat → Nat → Int64} {R : Nat → Nat → Option Nat} {tl : am_H} {x : Int32} : am_pP 3193 (.ref 174) (.int x) (fx V I L R ++ tl) = some (fx (vup V 174 121 (.int x)) I L R ++ tl) := ev_p rfl rfl rfl rfl
set_option maxRecDepth 100000 in
set_option maxHeartbeats 4000000 in
theorem qr_174_122 {V : Nat → Nat → Value} {I : Nat → Nat → Int32} {L : Nat → Nat → Int64} {R : Nat → Nat → Option Nat} {tl : am_H} : am_pG 3194 (.ref 174) (fx V I L R ++ tl) = some (.ref 253) := rfl
set_option maxRecDepth 100000 in
set_option maxHeartbeats 4000000 in
theorem qr_174_123 {V : Nat → Nat → Value} {I : Nat → Nat → Int32} {L : Nat → Nat → Int64} {R : Nat → Nat → Option Nat} {tl : am_H} : am_pG 3195 (.ref 174) (fx V I L R ++ tl) = some (.ref 254) := rfl
set_option maxRecDepth 100000 in
set_option maxHeartbeats 4000000 in
theorem qr_174_124 {V : Nat → Nat → Value} {I : Nat → Nat → Int32} {L : Nat → Nat → Int64} {R : Nat → Nat → Option Nat} {tl : am_H} : am_pG 3196 (.ref 174) (fx V I L R ++ tl) = some (.ref 255) := rfl
set_option maxRecDepth 100000 in
set_option maxHeartbeats 4000000 in
theorem qr_174_125 {V : Nat → Nat → Value} {I : Nat → Nat → Int32} {L : Nat → Nat → Int64} {R : Nat → Nat → Option Nat} {tl : am_H} : am_pG 3197 (.ref 174) (fx V I L R ++ tl) = some (.ref 256) := rfl
set_option maxRecDepth 100000 in
set_option maxHeartbeats 4000000 in
theorem qr_174_126 {V : Nat → Nat → Value} {I : Nat → Nat → Int32} {L : Nat → Nat → Int64} {R : Nat → Nat → Option Nat} {tl : am_H} : am_pG 3198 (.ref 174) (fx V I L R ++ tl) = some (.ref 257) := rfl
set_option maxRecDepth 100000 in
set_option maxHeartbeats 4000000 in
theorem qr_174_127 {V : Nat → Nat → Value} {I : Nat → Nat → Int32} {L : Nat → Nat → Int64} {R : Nat → Nat → Option Nat} {tl : am_H} : am_pG 3199 (.ref 174) (fx V I L R ++ tl) = some (.ref 258) := rfl
set_option maxRecDepth 100000 in
set_option maxHeartbeats 4000000 in
theorem qr_174_128 {V : Nat → Nat → Value} {I : Nat → Nat → Int32} {L : Nat → Nat → Int64} {R : Nat → Nat → Option Nat} {tl : am_H} : am_pG 3200 (.ref 174) (fx V I L R ++ tl) = some (.ref 259) := rfl
set_option maxRecDepth 100000 in
set_option maxHeartbeats 4000000 in
theorem qr_174_129 {V : Nat → Nat → Value} {I : Nat → Nat → Int32} {L : Nat → Nat → Int64} {R : Nat → Nat → Option Nat} {tl : am_H} : am_pG 3201 (.ref 174) (fx V I L R ++ tl) = some (.ref 260) := rfl
set_option maxRecDepth 100000 in
set_option maxHeartbeats 4000000 in
theorem qr_174_130 {V : Nat → Nat → Value} {I : Nat → Nat → Int32} {L : Nat → Nat → Int64} {R : Nat → Nat → Option Nat} {tl : am_H} : am_pG 3202 (.ref 174) (fx V I L R ++ tl) = some (.ref 261) := rfl
set_option maxRecDepth 100000 in
set_option maxHeartbeats 4000000 in
theorem qv_174_131 {V : Nat → Nat → Value} {I : Nat → Nat → Int32} {L : Nat → Nat → Int64} {R : Nat → Nat → Option Nat} {tl : am_H} : am_pG 3203 (.ref 174) (fx V I L R ++ tl) = some (V 174 131) := rfl
set_option maxRecDepth 100000 in
set_option maxHeartbeats 4000000 in
theorem qp_174_131 {V : Nat → Nat → Value} {I : Nat → Nat → Int32} {L : Nat → Nat → Int64} {R : Nat → Nat → Option Nat} {tl : am_H} {x : Int32} : am_pP 3203 (.ref 174) (.int x) (fx V I L R ++ tl) = some (fx (vup V 174 131 (.int x)) I L R ++ tl) := ev_p rfl rfl rfl rfl
set_option maxRecDepth 100000 in
set_option maxHeartbeats 4000000 in
theorem qr_174_132 {V : Nat → Nat → Value} {I : Nat → Nat → Int32} {L : Nat → Nat → Int64} {R : Nat → Nat → Option Nat} {tl : am_H} : am_pG 3204 (.ref 174) (fx V I L R ++ tl) = some (.ref 262) := rfl
set_option maxRecDepth 100000 in
set_option maxHeartbeats 4000000 in
theorem qr_174_133 {V : Nat → Nat → Value} {I : Nat → Nat → Int32} {L : Nat → Nat → Int64} {R : Nat → Nat → Option Nat} {tl : am_H} : am_pG 3205 (.ref 174) (fx V I L R ++ tl) = some (.ref 263) := rfl
set_option maxRecDepth 100000 in
set_option maxHeartbeats 4000000 in
theorem qr_174_134 {V : Nat → Nat → Value} {I : Nat → Nat → Int32} {L : Nat → Nat → Int64} {R : Nat → Nat → Option Nat} {tl : am_H} : am_pG 3206 (.ref 174) (fx V I L R ++ tl) = some (.ref 264) := rfl
set_option maxRecDepth 100000 in
set_option maxHeartbeats 4000000 in
theorem qr_174_135 {V : Nat → Nat → Value} {I : Nat → Nat → Int32} {L : Nat → Nat → Int64} {R : Nat → Nat → Option Nat} {tl : am_H} : am_pG 3207 (.ref 174) (fx V I L R ++ tl) = some (.ref 265) := rfl
set_option maxRecDepth 100000 in
set_option maxHeartbeats 4000000 in
theorem qr_174_136 {V : Nat → Nat → Value} {I : Nat → Nat → Int32} {L : Nat → Nat → Int64} {R : Nat → Nat → Option Nat} {tl : am_H} : am_pG 3208 (.ref 174) (fx V I L R ++ tl) = some (.ref 266) := rfl
set_option maxRecDepth 100000 in
set_option maxHeartbeats 4000000 in
theorem qr_174_137 {V : Nat → Nat → Value} {I : Nat → Nat → Int32} {L : Nat → Nat → Int64} {R : Nat → Nat → Option Nat} {tl : am_H} : am_pG 3209 (.ref 174) (fx V I L R ++ tl) = some (.ref 267) := rfl
set_option maxRecDepth 100000 in
set_option maxHeartbeats 4000000 in
theorem qa_175 {V : Nat → Nat → Value} {I : Nat → Nat → Int32} {L : Nat → Nat → Int64} {R : Nat → Nat → Option Nat} {tl : am_H} {k : Nat} (hk : k < 600) : am_pA 0 (.ref 175) (nI k) (fx V I L R ++ tl) = some (I 175 k) := by rw [ev_a (f := I 175) (n := 600) rfl (am_inb_n hk (by omega)), nI_clamp (by omega)]
set_option maxRecDepth 100000 in
set_option maxHeartbeats 4000000 in
theorem qs_175 {V : Nat → Nat → Value} {I : Nat → Nat → Int32} {L : Nat → Nat → Int64} {R : Nat → Nat → Option Nat} {tl : am_H} {k : Nat} {x : Int32} (hk : k < 600) : am_pS 0 (.ref 175) (nI k) x (fx V I L R ++ tl) = some (fx V (iup I 175 (upd (I 175) k x)) L R ++ tl) := ev_s (f := I 175) (n := 600) rfl (am_inb_n hk (by omega)) rfl (by rw [nI_clamp (by omega)]; rfl)
set_option maxRecDepth 100000 in
set_option maxHeartbeats 4000000 in
theorem qa_176 {V : Nat → Nat → Value} {I : Nat → Nat → Int32} {L : Nat → Nat → Int64} {R : Nat → Nat → Option Nat} {tl : am_H} {k : Nat} (hk : k < 600) : am_pA 0 (.ref 176) (nI k) (fx V I L R ++ tl) = some (I 176 k) := by rw [ev_a (f := I 176) (n := 600) rfl (am_inb_n hk (by omega)), nI_clamp (by omega)]
set_option maxRecDepth 100000 in
set_option maxHeartbeats 4000000 in
theorem qs_176 {V : Nat → Nat → Value} {I : Nat → Nat → Int32} {L : Nat → Nat → Int64} {R : Nat → Nat → Option Nat} {tl : am_H} {k : Nat} {x : Int32} (hk : k < 600) : am_pS 0 (.ref 176) (nI k) x (fx V I L R ++ tl) = some (fx V (iup I 176 (upd (I 176) k x)) L R ++ tl) := ev_s (f := I 176) (n := 600) rfl (am_inb_n hk (by omega)) rfl (by rw [nI_clamp (by omega)]; rfl)
set_option maxRecDepth 100000 in
set_option maxHeartbeats 4000000 in
theorem qa_177 {V : Nat → Nat → Value} {I : Nat → Nat → Int32} {L : Nat → Nat → Int64} {R : Nat → Nat → Option Nat} {tl : am_H} {k : Nat} (hk : k < 600) : am_pA 0 (.ref 177) (nI k) (fx V I L R ++ tl) = some (I 177 k) := by rw [ev_a (f := I 177) (n := 600) rfl (am_inb_n hk (by omega)), nI_clamp (by omega)]
set_option maxRecDepth 100000 in
set_option maxHeartbeats 4000000 in
theorem qs_177 {V : Nat → Nat → Value} {I : Nat → Nat → Int32} {L : Nat → Nat → Int64} {R : Nat → Nat → Option Nat} {tl : am_H} {k : Nat} {x : Int32} (hk : k < 600) : am_pS 0 (.ref 177) (nI k) x (fx V I L R ++ tl) = some (fx V (iup I 177 (upd (I 177) k x)) L R ++ tl) := ev_s (f := I 177) (n := 600) rfl (am_inb_n hk (by omega)) rfl (by rw [nI_clamp (by omega)]; rfl)
set_option maxRecDepth 100000 in
set_option maxHeartbeats 4000000 in
theorem qa_178 {V : Nat → Nat → Value} {I : Nat → Nat → Int32} {L : Nat → Nat → Int64} {R : Nat → Nat → Option Nat} {tl : am_H} {k : Nat} (hk : k < 600) : am_pA 0 (.ref 178) (nI k) (fx V I L R ++ tl) = some (I 178 k) := by rw [ev_a (f := I 178) (n := 600) rfl (am_inb_n hk (by omega)), nI_clamp (by omega)]
set_option maxRecDepth 100000 in
set_option maxHeartbeats 4000000 in
theorem qs_178 {V : Nat → Nat → Value} {I : Nat → Nat → Int32} {L : Nat → Nat → Int64} {R : Nat → Nat → Option Nat} {tl : am_H} {k : Nat} {x : Int32} (hk : k < 600) : am_pS 0 (.ref 178) (nI k) x (fx V I L R ++ tl) = some (fx V (iup I 178 (upd (I 178) k x)) L R ++ tl) := ev_s (f := I 178) (n := 600) rfl (am_inb_n hk (by omega)) rfl (by rw [nI_clamp (by omega)]; rfl)
set_option maxRecDepth 100000 in
set_option maxHeartbeats 4000000 in
theorem qa_179 {V : Nat → Nat → Value} {I : Nat → Nat → Int32} {L : Nat → Nat → Int64} {R : Nat → Nat → Option Nat} {tl : am_H} {k : Nat} (hk : k < 600) : am_pA 0 (.ref 179) (nI k) (fx V I L R ++ tl) = some (I 179 k) := by rw [ev_a (f := I 179) (n := 600) rfl (am_inb_n hk (by omega)), nI_clamp (by omega)]
set_option maxRecDepth 100000 in
set_option maxHeartbeats 4000000 in
theorem qs_179 {V : Nat → Nat → Value} {I : Nat → Nat → Int32} {L : Nat → Nat → Int64} {R : Nat → Nat → Option Nat} {tl : am_H} {k : Nat} {x : Int32} (hk : k < 600) : am_pS 0 (.ref 179) (nI k) x (fx V I L R ++ tl) = some (fx V (iup I 179 (upd (I 179) k x)) L R ++ tl) := ev_s (f := I 179) (n := 600) rfl (am_inb_n hk (by omega)) rfl (by rw [nI_clamp (by omega)]; rfl)
set_option maxRecDepth 100000 in
set_option maxHeartbeats 4000000 in
theorem qa_180 {V : Nat → Nat → Value} {I : Nat → Nat → Int32} {L : Nat → Nat → Int64} {R : Nat → Nat → Option Nat} {tl : am_H} {k : Nat} (hk : k < 600) : am_pA 0 (.ref 180) (nI k) (fx V I L R ++ tl) = some (I 180 k) := by rw [ev_a (f := I 180) (n := 600) rfl (am_inb_n hk (by omega)), nI_clamp (by omega)]
set_option maxRecDepth 100000 in
set_option maxHeartbeats 4000000 in
theorem qs_180 {V : Nat → Nat → Value} {I : Nat → Nat → Int32} {L : Nat → Nat → Int64} {R : Nat → Nat → Option Nat} {tl : am_H} {k : Nat} {x : Int32} (hk : k < 600) : am_pS 0 (.ref 180) (nI k) x (fx V I L R ++ tl) = some (fx V (iup I 180 (upd (I 180) k x)) L R ++ tl) := ev_s (f := I 180) (n := 600) rfl (am_inb_n hk (by omega)) rfl (by rw [nI_clamp (by omega)]; rfl)
set_option maxRecDepth 100000 in
set_option maxHeartbeats 4000000 in
theorem qa_181 {V : Nat → Nat → Value} {I : Nat → Nat → Int32} {L : Nat → Nat → Int64} {R : Nat → Nat → Option Nat} {tl : am_H} {k : Nat} (hk : k < 600) : am_pA 0 (.ref 181) (nI k) (fx V I L R ++ tl) = some (I 181 k) := by rw [ev_a (f := I 181) (n := 600) rfl (am_inb_n hk (by omega)), nI_clamp (by omega)]
set_option maxRecDepth 100000 in
set_option maxHeartbeats 4000000 in
theorem qs_181 {V : Nat → Nat → Value} {I : Nat → Nat → Int32} {L : Nat → Nat → Int64} {R : Nat → Nat → Option Nat} {tl : am_H} {k : Nat} {x : Int32} (hk : k < 600) : am_pS 0 (.ref 181) (nI k) x (fx V I L R ++ tl) = some (fx V (iup I 181 (upd (I 181) k x)) L R ++ tl) := ev_s (f := I 181) (n := 600) rfl (am_inb_n hk (by omega)) rfl (by rw [nI_clamp (by omega)]; rfl)
set_option maxRecDepth 100000 in
set_option maxHeartbeats 4000000 in
theorem qa_182 {V : Nat → Nat → Value} {I : Nat → Nat → Int32} {L : Nat → Nat → Int64} {R : Nat → Nat → Option Nat} {tl : am_H} {k : Nat} (hk : k < 600) : am_pA 0 (.ref 182) (nI k) (fx V I L R ++ tl) = some (I 182 k) := by rw [ev_a (f := I 182) (n := 600) rfl (am_inb_n hk (by omega)), nI_clamp (by omega)]
set_option maxRecDepth 100000 in
set_option maxHeartbeats 4000000 in
theorem qs_182 {V : Nat → Nat → Value} {I : Nat → Nat → Int32} {L : Nat → Nat → Int64} {R : Nat → Nat → Option Nat} {tl : am_H} {k : Nat} {x : Int32} (hk : k < 600) : am_pS 0 (.ref 182) (nI k) x (fx V I L R ++ tl) = some (fx V (iup I 182 (upd (I 182) k x)) L R ++ tl) := ev_s (f := I 182) (n := 600) rfl (am_inb_n hk (by omega)) rfl (by rw [nI_clamp (by omega)]; rfl)
set_option maxRecDepth 100000 in
set_option maxHeartbeats 4000000 in
theorem qa_183 {V : Nat → Nat → Value} {I : Nat → Nat → Int32} {L : Nat → Nat → Int64} {R : Nat → Nat → Option Nat} {tl : am_H} {k : Nat} (hk : k < 600) : am_pAL (.ref 183) (nI k) (fx V I L R ++ tl) = some (L 183 k) := by rw [ev_aL (f := L 183) (n := 600) rfl (am_inb_n hk (by omega)), nI_clamp (by omega)]
set_option maxRecDepth 100000 in
set_option maxHeartbeats 4000000 in
theorem qs_183 {V : Nat → Nat → Value} {I : Nat → Nat → Int32} {L : Nat → Nat → Int64} {R : Nat → Nat → Option Nat} {tl : am_H} {k : Nat} {x : Int64} (hk : k < 600) : am_pSL (.ref 183) (nI k) x (fx V I L R ++ tl) = some (fx V I (lup L 183 (vp_updL (L 183) k x)) R ++ tl) := ev_sL (f := L 183) (n := 600) rfl (am_inb_n hk (by omega)) (by rw [nI_clamp (by omega)]; rfl)
set_option maxRecDepth 100000 in
set_option maxHeartbeats 4000000 in
theorem qa_184 {V : Nat → Nat → Value} {I : Nat → Nat → Int32} {L : Nat → Nat → Int64} {R : Nat → Nat → Option Nat} {tl : am_H} {k : Nat} (hk : k < 36000) : am_pA 0 (.ref 184) (nI k) (fx V I L R ++ tl) = some (I 184 k) := by rw [ev_a (f := I 184) (n := 36000) rfl (am_inb_n hk (by omega)), nI_clamp (by omega)]
set_option maxRecDepth 100000 in
set_option maxHeartbeats 4000000 in
theorem qs_184 {V : Nat → Nat → Value} {I : Nat → Nat → Int32} {L : Nat → Nat → Int64} {R : Nat → Nat → Option Nat} {tl : am_H} {k : Nat} {x : Int32} (hk : k < 36000) : am_pS 0 (.ref 184) (nI k) x (fx V I L R ++ tl) = some (fx V (iup I 184 (upd (I 184) k x)) L R ++ tl) := ev_s (f := I 184) (n := 36000) rfl (am_inb_n hk (by omega)) rfl (by rw [nI_clamp (by omega)]; rfl)
set_option maxRecDepth 100000 in
set_option maxHeartbeats 4000000 in
theorem qa_185 {V : Nat → Nat → Value} {I : Nat → Nat → Int32} {L : Nat → Nat → Int64} {R : Nat → Nat → Option Nat} {tl : am_H} {k : Nat} (hk : k < 36000) : am_pA 0 (.ref 185) (nI k) (fx V I L R ++ tl) = some (I 185 k) := by rw [ev_a (f := I 185) (n := 36000) rfl (am_inb_n hk (by omega)), nI_clamp (by omega)]
set_option maxRecDepth 100000 in
set_option maxHeartbeats 4000000 in
theorem qs_185 {V : Nat → Nat → Value} {I : Nat → Nat → Int32} {L : Nat → Nat → Int64} {R : Nat → Nat → Option Nat} {tl : am_H} {k : Nat} {x : Int32} (hk : k < 36000) : am_pS 0 (.ref 185) (nI k) x (fx V I L R ++ tl) = some (fx V (iup I 185 (upd (I 185) k x)) L R ++ tl) := ev_s (f := I 185) (n := 36000) rfl (am_inb_n hk (by omega)) rfl (by rw [nI_clamp (by omega)]; rfl)
set_option maxRecDepth 100000 in
set_option maxHeartbeats 4000000 in
theorem qa_186 {V : Nat → Nat → Value} {I : Nat → Nat → Int32} {L : Nat → Nat → Int64} {R : Nat → Nat → Option Nat} {tl : am_H} {k : Nat} (hk : k < 400) : am_pA 0 (.ref 186) (nI k) (fx V I L R ++ tl) = some (I 186 k) := by rw [ev_a (f := I 186) (n := 400) rfl (am_inb_n hk (by omega)), nI_clamp (by omega)]
set_option maxRecDepth 100000 in
set_option maxHeartbeats 4000000 in
theorem qs_186 {V : Nat → Nat → Value} {I : Nat → Nat → Int32} {L : Nat → Nat → Int64} {R : Nat → Nat → Option Nat} {tl : am_H} {k : Nat} {x : Int32} (hk : k < 400) : am_pS 0 (.ref 186) (nI k) x (fx V I L R ++ tl) = some (fx V (iup I 186 (upd (I 186) k x)) L R ++ tl) := ev_s (f := I 186) (n := 400) rfl (am_inb_n hk (by omega)) rfl (by rw [nI_clamp (by omega)]; rfl)
set_option maxRecDepth 100000 in
set_option maxHeartbeats 4000000 in
theorem qa_187 {V : Nat → Nat → Value} {I : Nat → Nat → Int32} {L : Nat → Nat → Int64} {R : Nat → Nat → Option Nat} {tl : am_H} {k : Nat} (hk : k < 400) : am_pA 0 (.ref 187) (nI k) (fx V I L R ++ tl) = some (I 187 k) := by rw [ev_a (f := I 187) (n := 400) rfl (am_inb_n hk (by omega)), nI_clamp (by omega)]
set_option maxRecDepth 100000 in
set_option maxHeartbeats 4000000 in
theorem qs_187 {V : Nat → Nat → Value} {I : Nat → Nat → Int32} {L : Nat → Nat → Int64} {R : Nat → Nat → Option Nat} {tl : am_H} {k : Nat} {x : Int32} (hk : k < 400) : am_pS 0 (.ref 187) (nI k) x (fx V I L R ++ tl) = some (fx V (iup I 187 (upd (I 187) k x)) L R ++ tl) := ev_s (f := I 187) (n := 400) rfl (am_inb_n hk (by omega)) rfl (by rw [nI_clamp (by omega)]; rfl)
set_option maxRecDepth 100000 in
set_option maxHeartbeats 4000000 in
theorem qa_188 {V : Nat → Nat → Value} {I : Nat → Nat → Int32} {L : Nat → Nat → Int64} {R : Nat → Nat → Option Nat} {tl : am_H} {k : Nat} (hk : k < 400) : am_pA 0 (.ref 188) (nI k) (fx V I L R ++ tl) = some (I 188 k) := by rw [ev_a (f := I 188) (n := 400) rfl (am_inb_n hk (by omega)), nI_clamp (by omega)]
set_option maxRecDepth 100000 in
set_option maxHeartbeats 4000000 in
theorem qs_188 {V : Nat → Nat → Value} {I : Nat → Nat → Int32} {L : Nat → Nat → Int64} {R : Nat → Nat → Option Nat} {tl : am_H} {k : Nat} {x : Int32} (hk : k < 400) : am_pS 0 (.ref 188) (nI k) x (fx V I L R ++ tl) = some (fx V (iup I 188 (upd (I 188) k x)) L R ++ tl) := ev_s (f := I 188) (n := 400) rfl (am_inb_n hk (by omega)) rfl (by rw [nI_clamp (by omega)]; rfl)
set_option maxRecDepth 100000 in
set_option maxHeartbeats 4000000 in
theorem qa_189 {V : Nat → Nat → Value} {I : Nat → Nat → Int32} {L : Nat → Nat → Int64} {R : Nat → Nat → Option Nat} {tl : am_H} {k : Nat} (hk : k < 400) : am_pA 0 (.ref 189) (nI k) (fx V I L R ++ tl) = some (I 189 k) := by rw [ev_a (f := I 189) (n := 400) rfl (am_inb_n hk (by omega)), nI_clamp (by omega)]
set_option maxRecDepth 100000 in
set_option maxHeartbeats 4000000 in
theorem qs_189 {V : Nat → Nat → Value} {I : Nat → Nat → Int32} {L : Nat → Nat → Int64} {R : Nat → Nat → Option Nat} {tl : am_H} {k : Nat} {x : Int32} (hk : k < 400) : am_pS 0 (.ref 189) (nI k) x (fx V I L R ++ tl) = some (fx V (iup I 189 (upd (I 189) k x)) L R ++ tl) := ev_s (f := I 189) (n := 400) rfl (am_inb_n hk (by omega)) rfl (by rw [nI_clamp (by omega)]; rfl)
set_option maxRecDepth 100000 in
set_option maxHeartbeats 4000000 in
theorem qa_190 {V : Nat → Nat → Value} {I : Nat → Nat → Int32} {L : Nat → Nat → Int64} {R : Nat → Nat → Option Nat} {tl : am_H} {k : Nat} (hk : k < 400) : am_pA 0 (.ref 190) (nI k) (fx V I L R ++ tl) = some (I 190 k) := by rw [ev_a (f := I 190) (n := 400) rfl (am_inb_n hk (by omega)), nI_clamp (by omega)]
set_option maxRecDepth 100000 in
set_option maxHeartbeats 4000000 in
theorem qs_190 {V : Nat → Nat → Value} {I : Nat → Nat → Int32} {L : Nat → Nat → Int64} {R : Nat → Nat → Option Nat} {tl : am_H} {k : Nat} {x : Int32} (hk : k < 400) : am_pS 0 (.ref 190) (nI k) x (fx V I L R ++ tl) = some (fx V (iup I 190 (upd (I 190) k x)) L R ++ tl) := ev_s (f := I 190) (n := 400) rfl (am_inb_n hk (by omega)) rfl (by rw [nI_clamp (by omega)]; rfl)
set_option maxRecDepth 100000 in
set_option maxHeartbeats 4000000 in
theorem qa_191 {V : Nat → Nat → Value} {I : Nat → Nat → Int32} {L : Nat → Nat → Int64} {R : Nat → Nat → Option Nat} {tl : am_H} {k : Nat} (hk : k < 400) : am_pA 0 (.ref 191) (nI k) (fx V I L R ++ tl) = some (I 191 k) := by rw [ev_a (f := I 191) (n := 400) rfl (am_inb_n hk (by omega)), nI_clamp (by omega)]
set_option maxRecDepth 100000 in
set_option maxHeartbeats 4000000 in
theorem qs_191 {V : Nat → Nat → Value} {I : Nat → Nat → Int32} {L : Nat → Nat → Int64} {R : Nat → Nat → Option Nat} {tl : am_H} {k : Nat} {x : Int32} (hk : k < 400) : am_pS 0 (.ref 191) (nI k) x (fx V I L R ++ tl) = some (fx V (iup I 191 (upd (I 191) k x)) L R ++ tl) := ev_s (f := I 191) (n := 400) rfl (am_inb_n hk (by omega)) rfl (by rw [nI_clamp (by omega)]; rfl)
set_option maxRecDepth 100000 in
set_option maxHeartbeats 4000000 in
theorem qa_192 {V : Nat → Nat → Value} {I : Nat → Nat → Int32} {L : Nat → Nat → Int64} {R : Nat → Nat → Option Nat} {tl : am_H} {k : Nat} (hk : k < 400) : am_pA 0 (.ref 192) (nI k) (fx V I L R ++ tl) = some (I 192 k) := by rw [ev_a (f := I 192) (n := 400) rfl (am_inb_n hk (by omega)), nI_clamp (by omega)]
set_option maxRecDepth 100000 in
set_option maxHeartbeats 4000000 in
theorem qs_192 {V : Nat → Nat → Value} {I : Nat → Nat → Int32} {L : Nat → Nat → Int64} {R : Nat → Nat → Option Nat} {tl : am_H} {k : Nat} {x : Int32} (hk : k < 400) : am_pS 0 (.ref 192) (nI k) x (fx V I L R ++ tl) = some (fx V (iup I 192 (upd (I 192) k x)) L R ++ tl) := ev_s (f := I 192) (n := 400) rfl (am_inb_n hk (by omega)) rfl (by rw [nI_clamp (by omega)]; rfl)
set_option maxRecDepth 100000 in
set_option maxHeartbeats 4000000 in
theorem qa_193 {V : Nat → Nat → Value} {I : Nat → Nat → Int32} {L : Nat → Nat → Int64} {R : Nat → Nat → Option Nat} {tl : am_H} {k : Nat} (hk : k < 400) : am_pA 0 (.ref 193) (nI k) (fx V I L R ++ tl) = some (I 193 k) := by rw [ev_a (f := I 193) (n := 400) rfl (am_inb_n hk (by omega)), nI_clamp (by omega)]
set_option maxRecDepth 100000 in
set_option maxHeartbeats 4000000 in
theorem qs_193 {V : Nat → Nat → Value} {I : Nat → Nat → Int32} {L : Nat → Nat → Int64} {R : Nat → Nat → Option Nat} {tl : am_H} {k : Nat} {x : Int32} (hk : k < 400) : am_pS 0 (.ref 193) (nI k) x (fx V I L R ++ tl) = some (fx V (iup I 193 (upd (I 193) k x)) L R ++ tl) := ev_s (f := I 193) (n := 400) rfl (am_inb_n hk (by omega)) rfl (by rw [nI_clamp (by omega)]; rfl)
set_option maxRecDepth 100000 in
set_option maxHeartbeats 4000000 in
theorem qa_194 {V : Nat → Nat → Value} {I : Nat → Nat → Int32} {L : Nat → Nat → Int64} {R : Nat → Nat → Option Nat} {tl : am_H} {k : Nat} (hk : k < 400) : am_pA 0 (.ref 194) (nI k) (fx V I L R ++ tl) = some (I 194 k) := by rw [ev_a (f := I 194) (n := 400) rfl (am_inb_n hk (by omega)), nI_clamp (by omega)]
set_option maxRecDepth 100000 in
set_option maxHeartbeats 4000000 in
theorem qs_194 {V : Nat → Nat → Value} {I : Nat → Nat → Int32} {L : Nat → Nat → Int64} {R : Nat → Nat → Option Nat} {tl : am_H} {k : Nat} {x : Int32} (hk : k < 400) : am_pS 0 (.ref 194) (nI k) x (fx V I L R ++ tl) = some (fx V (iup I 194 (upd (I 194) k x)) L R ++ tl) := ev_s (f := I 194) (n := 400) rfl (am_inb_n hk (by omega)) rfl (by rw [nI_clamp (by omega)]; rfl)
set_option maxRecDepth 100000 in
set_option maxHeartbeats 4000000 in
theorem qa_195 {V : Nat → Nat → Value} {I : Nat → Nat → Int32} {L : Nat → Nat → Int64} {R : Nat → Nat → Option Nat} {tl : am_H} {k : Nat} (hk : k < 400) : am_pA 0 (.ref 195) (nI k) (fx V I L R ++ tl) = some (I 195 k) := by rw [ev_a (f := I 195) (n := 400) rfl (am_inb_n hk (by omega)), nI_clamp (by omega)]
set_option maxRecDepth 100000 in
set_option maxHeartbeats 4000000 in
theorem qs_195 {V : Nat → Nat → Value} {I : Nat → Nat → Int32} {L : Nat → Nat → Int64} {R : Nat → Nat → Option Nat} {tl : am_H} {k : Nat} {x : Int32} (hk : k < 400) : am_pS 0 (.ref 195) (nI k) x (fx V I L R ++ tl) = some (fx V (iup I 195 (upd (I 195) k x)) L R ++ tl) := ev_s (f := I 195) (n := 400) rfl (am_inb_n hk (by omega)) rfl (by rw [nI_clamp (by omega)]; rfl)
set_option maxRecDepth 100000 in
set_option maxHeartbeats 4000000 in
theorem qa_196 {V : Nat → Nat → Value} {I : Nat → Nat → Int32} {L : Nat → Nat → Int64} {R : Nat → Nat → Option Nat} {tl : am_H} {k : Nat} (hk : k < 400) : am_pA 0 (.ref 196) (nI k) (fx V I L R ++ tl) = some (I 196 k) := by rw [ev_a (f := I 196) (n := 400) rfl (am_inb_n hk (by omega)), nI_clamp (by omega)]
set_option maxRecDepth 100000 in
set_option maxHeartbeats 4000000 in
theorem qs_196 {V : Nat → Nat → Value} {I : Nat → Nat → Int32} {L : Nat → Nat → Int64} {R : Nat → Nat → Option Nat} {tl : am_H} {k : Nat} {x : Int32} (hk : k < 400) : am_pS 0 (.ref 196) (nI k) x (fx V I L R ++ tl) = some (fx V (iup I 196 (upd (I 196) k x)) L R ++ tl) := ev_s (f := I 196) (n := 400) rfl (am_inb_n hk (by omega)) rfl (by rw [nI_clamp (by omega)]; rfl)
set_option maxRecDepth 100000 in
set_option maxHeartbeats 4000000 in
theorem qa_197 {V : Nat → Nat → Value} {I : Nat → Nat → Int32} {L : Nat → Nat → Int64} {R : Nat → Nat → Option Nat} {tl : am_H} {k : Nat} (hk : k < 24) : am_pA 0 (.ref 197) (nI k) (fx V I L R ++ tl) = some (I 197 k) := by rw [ev_a (f := I 197) (n := 24) rfl (am_inb_n hk (by omega)), nI_clamp (by omega)]
set_option maxRecDepth 100000 in
set_option maxHeartbeats 4000000 in
theorem qs_197 {V : Nat → Nat → Value} {I : Nat → Nat → Int32} {L : Nat → Nat → Int64} {R : Nat → Nat → Option Nat} {tl : am_H} {k : Nat} {x : Int32} (hk : k < 24) : am_pS 0 (.ref 197) (nI k) x (fx V I L R ++ tl) = some (fx V (iup I 197 (upd (I 197) k x)) L R ++ tl) := ev_s (f := I 197) (n := 24) rfl (am_inb_n hk (by omega)) rfl (by rw [nI_clamp (by omega)]; rfl)
set_option maxRecDepth 100000 in
set_option maxHeartbeats 4000000 in
theorem qa_198 {V : Nat → Nat → Value} {I : Nat → Nat → Int32} {L : Nat → Nat → Int64} {R : Nat → Nat → Option Nat} {tl : am_H} {k : Nat} (hk : k < 24) : am_pA 0 (.ref 198) (nI k) (fx V I L R ++ tl) = some (I 198 k) := by rw [ev_a (f := I 198) (n := 24) rfl (am_inb_n hk (by omega)), nI_clamp (by omega)]
set_option maxRecDepth 100000 in
set_option maxHeartbeats 4000000 in
theorem qs_198 {V : Nat → Nat → Value} {I : Nat → Nat → Int32} {L : Nat → Nat → Int64} {R : Nat → Nat → Option Nat} {tl : am_H} {k : Nat} {x : Int32} (hk : k < 24) : am_pS 0 (.ref 198) (nI k) x (fx V I L R ++ tl) = some (fx V (iup I 198 (upd (I 198) k x)) L R ++ tl) := ev_s (f := I 198) (n := 24) rfl (am_inb_n hk (by omega)) rfl (by rw [nI_clamp (by omega)]; rfl)
set_option maxRecDepth 100000 in
set_option maxHeartbeats 4000000 in
theorem qa_199 {V : Nat → Nat → Value} {I : Nat → Nat → Int32} {L : Nat → Nat → Int64} {R : Nat → Nat → Option Nat} {tl : am_H} {k : Nat} (hk : k < 24) : am_pA 0 (.ref 199) (nI k) (fx V I L R ++ tl) = some (I 199 k) := by rw [ev_a (f := I 199) (n := 24) rfl (am_inb_n hk (by omega)), nI_clamp (by omega)]
set_option maxRecDepth 100000 in
set_option maxHeartbeats 4000000 in
theorem qs_199 {V : Nat → Nat → Value} {I : Nat → Nat → Int32} {L : Nat → Nat → Int64} {R : Nat → Nat → Option Nat} {tl : am_H} {k : Nat} {x : Int32} (hk : k < 24) : am_pS 0 (.ref 199) (nI k) x (fx V I L R ++ tl) = some (fx V (iup I 199 (upd (I 199) k x)) L R ++ tl) := ev_s (f := I 199) (n := 24) rfl (am_inb_n hk (by omega)) rfl (by rw [nI_clamp (by omega)]; rfl)
set_option maxRecDepth 100000 in
set_option maxHeartbeats 4000000 in
theorem qa_200 {V : Nat → Nat → Value} {I : Nat → Nat → Int32} {L : Nat → Nat → Int64} {R : Nat → Nat → Option Nat} {tl : am_H} {k : Nat} (hk : k < 24) : am_pA 0 (.ref 200) (nI k) (fx V I L R ++ tl) = some (I 200 k) := by rw [ev_a (f := I 200) (n := 24) rfl (am_inb_n hk (by omega)), nI_clamp (by omega)]
set_option maxRecDepth 100000 in
set_option maxHeartbeats 4000000 in
theorem qs_200 {V : Nat → Nat → Value} {I : Nat → Nat → Int32} {L : Nat → Nat → Int64} {R : Nat → Nat → Option Nat} {tl : am_H} {k : Nat} {x : Int32} (hk : k < 24) : am_pS 0 (.ref 200) (nI k) x (fx V I L R ++ tl) = some (fx V (iup I 200 (upd (I 200) k x)) L R ++ tl) := ev_s (f := I 200) (n := 24) rfl (am_inb_n hk (by omega)) rfl (by rw [nI_clamp (by omega)]; rfl)
set_option maxRecDepth 100000 in
set_option maxHeartbeats 4000000 in
theorem qa_201 {V : Nat → Nat → Value} {I : Nat → Nat → Int32} {L : Nat → Nat → Int64} {R : Nat → Nat → Option Nat} {tl : am_H} {k : Nat} (hk : k < 24) : am_pA 0 (.ref 201) (nI k) (fx V I L R ++ tl) = some (I 201 k) := by rw [ev_a (f := I 201) (n := 24) rfl (am_inb_n hk (by omega)), nI_clamp (by omega)]
set_option maxRecDepth 100000 in
set_option maxHeartbeats 4000000 in
theorem qs_201 {V : Nat → Nat → Value} {I : Nat → Nat → Int32} {L : Nat → Nat → Int64} {R : Nat → Nat → Option Nat} {tl : am_H} {k : Nat} {x : Int32} (hk : k < 24) : am_pS 0 (.ref 201) (nI k) x (fx V I L R ++ tl) = some (fx V (iup I 201 (upd (I 201) k x)) L R ++ tl) := ev_s (f := I 201) (n := 24) rfl (am_inb_n hk (by omega)) rfl (by rw [nI_clamp (by omega)]; rfl)
set_option maxRecDepth 100000 in
set_option maxHeartbeats 4000000 in
theorem qa_202 {V : Nat → Nat → Value} {I : Nat → Nat → Int32} {L : Nat → Nat → Int64} {R : Nat → Nat → Option Nat} {tl : am_H} {k : Nat} (hk : k < 24) : am_pA 2 (.ref 202) (nI k) (fx V I L R ++ tl) = some (I 202 k) := by rw [ev_a (f := I 202) (n := 24) rfl (am_inb_n hk (by omega)), nI_clamp (by omega)]
set_option maxRecDepth 100000 in
set_option maxHeartbeats 4000000 in
theorem qs_202 {V : Nat → Nat → Value} {I : Nat → Nat → Int32} {L : Nat → Nat → Int64} {R : Nat → Nat → Option Nat} {tl : am_H} {k : Nat} {x : Int32} (hk : k < 24) (hx : am_afit 2 x = true) : am_pS 2 (.ref 202) (nI k) x (fx V I L R ++ tl) = some (fx V (iup I 202 (upd (I 202) k x)) L R ++ tl) := ev_s (f := I 202) (n := 24) rfl (am_inb_n hk (by omega)) hx (by rw [nI_clamp (by omega)]; rfl)
set_option maxRecDepth 100000 in
set_option maxHeartbeats 4000000 in
theorem qa_203 {V : Nat → Nat → Value} {I : Nat → Nat → Int32} {L : Nat → Nat → Int64} {R : Nat → Nat → Option Nat} {tl : am_H} {k : Nat} (hk : k < 24) : am_pA 0 (.ref 203) (nI k) (fx V I L R ++ tl) = some (I 203 k) := by rw [ev_a (f := I 203) (n := 24) rfl (am_inb_n hk (by omega)), nI_clamp (by omega)]
set_option maxRecDepth 100000 in
set_option maxHeartbeats 4000000 in
theorem qs_203 {V : Nat → Nat → Value} {I : Nat → Nat → Int32} {L : Nat → Nat → Int64} {R : Nat → Nat → Option Nat} {tl : am_H} {k : Nat} {x : Int32} (hk : k < 24) : am_pS 0 (.ref 203) (nI k) x (fx V I L R ++ tl) = some (fx V (iup I 203 (upd (I 203) k x)) L R ++ tl) := ev_s (f := I 203) (n := 24) rfl (am_inb_n hk (by omega)) rfl (by rw [nI_clamp (by omega)]; rfl)
set_option maxRecDepth 100000 in
set_option maxHeartbeats 4000000 in
theorem qa_204 {V : Nat → Nat → Value} {I : Nat → Nat → Int32} {L : Nat → Nat → Int64} {R : Nat → Nat → Option Nat} {tl : am_H} {k : Nat} (hk : k < 192) : am_pA 0 (.ref 204) (nI k) (fx V I L R ++ tl) = some (I 204 k) := by rw [ev_a (f := I 204) (n := 192) rfl (am_inb_n hk (by omega)), nI_clamp (by omega)]
set_option maxRecDepth 100000 in
set_option maxHeartbeats 4000000 in
theorem qs_204 {V : Nat → Nat → Value} {I : Nat → Nat → Int32} {L : Nat → Nat → Int64} {R : Nat → Nat → Option Nat} {tl : am_H} {k : Nat} {x : Int32} (hk : k < 192) : am_pS 0 (.ref 204) (nI k) x (fx V I L R ++ tl) = some (fx V (iup I 204 (upd (I 204) k x)) L R ++ tl) := ev_s (f := I 204) (n := 192) rfl (am_inb_n hk (by omega)) rfl (by rw [nI_clamp (by omega)]; rfl)
set_option maxRecDepth 100000 in
set_option maxHeartbeats 4000000 in
theorem qa_205 {V : Nat → Nat → Value} {I : Nat → Nat → Int32} {L : Nat → Nat → Int64} {R : Nat → Nat → Option Nat} {tl : am_H} {k : Nat} (hk : k < 8) : am_pA 0 (.ref 205) (nI k) (fx V I L R ++ tl) = some (I 205 k) := by rw [ev_a (f := I 205) (n := 8) rfl (am_inb_n hk (by omega)), nI_clamp (by omega)]
set_option maxRecDepth 100000 in
set_option maxHeartbeats 4000000 in
theorem qs_205 {V : Nat → Nat → Value} {I : Nat → Nat → Int32} {L : Nat → Nat → Int64} {R : Nat → Nat → Option Nat} {tl : am_H} {k : Nat} {x : Int32} (hk : k < 8) : am_pS 0 (.ref 205) (nI k) x (fx V I L R ++ tl) = some (fx V (iup I 205 (upd (I 205) k x)) L R ++ tl) := ev_s (f := I 205) (n := 8) rfl (am_inb_n hk (by omega)) rfl (by rw [nI_clamp (by omega)]; rfl)
set_option maxRecDepth 100000 in
set_option maxHeartbeats 4000000 in
theorem qa_206 {V : Nat → Nat → Value} {I : Nat → Nat → Int32} {L : Nat → Nat → Int64} {R : Nat → Nat → Option Nat} {tl : am_H} {k : Nat} (hk : k < 5) : am_pA 0 (.ref 206) (nI k) (fx V I L R ++ tl) = some (I 206 k) := by rw [ev_a (f := I 206) (n := 5) rfl (am_inb_n hk (by omega)), nI_clamp (by omega)]
set_option maxRecDepth 100000 in
set_option maxHeartbeats 4000000 in
theorem qs_206 {V : Nat → Nat → Value} {I : Nat → Nat → Int32} {L : Nat → Nat → Int64} {R : Nat → Nat → Option Nat} {tl : am_H} {k : Nat} {x : Int32} (hk : k < 5) : am_pS 0 (.ref 206) (nI k) x (fx V I L R ++ tl) = some (fx V (iup I 206 (upd (I 206) k x)) L R ++ tl) := ev_s (f := I 206) (n := 5) rfl (am_inb_n hk (by omega)) rfl (by rw [nI_clamp (by omega)]; rfl)
set_option maxRecDepth 100000 in
set_option maxHeartbeats 4000000 in
theorem qa_207 {V : Nat → Nat → Value} {I : Nat → Nat → Int32} {L : Nat → Nat → Int64} {R : Nat → Nat → Option Nat} {tl : am_H} {k : Nat} (hk : k < 400) : am_pA 2 (.ref 207) (nI k) (fx V I L R ++ tl) = some (I 207 k) := by rw [ev_a (f := I 207) (n := 400) rfl (am_inb_n hk (by omega)), nI_clamp (by omega)]
set_option maxRecDepth 100000 in
set_option maxHeartbeats 4000000 in
theorem qs_207 {V : Nat → Nat → Value} {I : Nat → Nat → Int32} {L : Nat → Nat → Int64} {R : Nat → Nat → Option Nat} {tl : am_H} {k : Nat} {x : Int32} (hk : k < 400) (hx : am_afit 2 x = true) : am_pS 2 (.ref 207) (nI k) x (fx V I L R ++ tl) = some (fx V (iup I 207 (upd (I 207) k x)) L R ++ tl) := ev_s (f := I 207) (n := 400) rfl (am_inb_n hk (by omega)) hx (by rw [nI_clamp (by omega)]; rfl)
set_option maxRecDepth 100000 in
set_option maxHeartbeats 4000000 in
theorem qa_208 {V : Nat → Nat → Value} {I : Nat → Nat → Int32} {L : Nat → Nat → Int64} {R : Nat → Nat → Option Nat} {tl : am_H} {k : Nat} (hk : k < 400) : am_pA 0 (.ref 208) (nI k) (fx V I L R ++ tl) = some (I 208 k) := by rw [ev_a (f := I 208) (n := 400) rfl (am_inb_n hk (by omega)), nI_clamp (by omega)]
set_option maxRecDepth 100000 in
set_option maxHeartbeats 4000000 in
theorem qs_208 {V : Nat → Nat → Value} {I : Nat → Nat → Int32} {L : Nat → Nat → Int64} {R : Nat → Nat → Option Nat} {tl : am_H} {k : Nat} {x : Int32} (hk : k < 400) : am_pS 0 (.ref 208) (nI k) x (fx V I L R ++ tl) = some (fx V (iup I 208 (upd (I 208) k x)) L R ++ tl) := ev_s (f := I 208) (n := 400) rfl (am_inb_n hk (by omega)) rfl (by rw [nI_clamp (by omega)]; rfl)
set_option maxRecDepth 100000 in
set_option maxHeartbeats 4000000 in
theorem qa_209 {V : Nat → Nat → Value} {I : Nat → Nat → Int32} {L : Nat → Nat → Int64} {R : Nat → Nat → Option Nat} {tl : am_H} {k : Nat} (hk : k < 400) : am_pA 2 (.ref 209) (nI k) (fx V I L R ++ tl) = some (I 209 k) := by rw [ev_a (f := I 209) (n := 400) rfl (am_inb_n hk (by omega)), nI_clamp (by omega)]
set_option maxRecDepth 100000 in
set_option maxHeartbeats 4000000 in
theorem qs_209 {V : Nat → Nat → Value} {I : Nat → Nat → Int32} {L : Nat → Nat → Int64} {R : Nat → Nat → Option Nat} {tl : am_H} {k : Nat} {x : Int32} (hk : k < 400) (hx : am_afit 2 x = true) : am_pS 2 (.ref 209) (nI k) x (fx V I L R ++ tl) = some (fx V (iup I 209 (upd (I 209) k x)) L R ++ tl) := ev_s (f := I 209) (n := 400) rfl (am_inb_n hk (by omega)) hx (by rw [nI_clamp (by omega)]; rfl)
set_option maxRecDepth 100000 in
set_option maxHeartbeats 4000000 in
theorem qa_210 {V : Nat → Nat → Value} {I : Nat → Nat → Int32} {L : Nat → Nat → Int64} {R : Nat → Nat → Option Nat} {tl : am_H} {k : Nat} (hk : k < 400) : am_pA 0 (.ref 210) (nI k) (fx V I L R ++ tl) = some (I 210 k) := by rw [ev_a (f := I 210) (n := 400) rfl (am_inb_n hk (by omega)), nI_clamp (by omega)]
set_option maxRecDepth 100000 in
set_option maxHeartbeats 4000000 in
theorem qs_210 {V : Nat → Nat → Value} {I : Nat → Nat → Int32} {L : Nat → Nat → Int64} {R : Nat → Nat → Option Nat} {tl : am_H} {k : Nat} {x : Int32} (hk : k < 400) : am_pS 0 (.ref 210) (nI k) x (fx V I L R ++ tl) = some (fx V (iup I 210 (upd (I 210) k x)) L R ++ tl) := ev_s (f := I 210) (n := 400) rfl (am_inb_n hk (by omega)) rfl (by rw [nI_clamp (by omega)]; rfl)
set_option maxRecDepth 100000 in
set_option maxHeartbeats 4000000 in
theorem qa_211 {V : Nat → Nat → Value} {I : Nat → Nat → Int32} {L : Nat → Nat → Int64} {R : Nat → Nat → Option Nat} {tl : am_H} {k : Nat} (hk : k < 130) : am_pA 0 (.ref 211) (nI k) (fx V I L R ++ tl) = some (I 211 k) := by rw [ev_a (f := I 211) (n := 130) rfl (am_inb_n hk (by omega)), nI_clamp (by omega)]
set_option maxRecDepth 100000 in
set_option maxHeartbeats 4000000 in
theorem qs_211 {V : Nat → Nat → Value} {I : Nat → Nat → Int32} {L : Nat → Nat → Int64} {R : Nat → Nat → Option Nat} {tl : am_H} {k : Nat} {x : Int32} (hk : k < 130) : am_pS 0 (.ref 211) (nI k) x (fx V I L R ++ tl) = some (fx V (iup I 211 (upd (I 211) k x)) L R ++ tl) := ev_s (f := I 211) (n := 130) rfl (am_inb_n hk (by omega)) rfl (by rw [nI_clamp (by omega)]; rfl)
set_option maxRecDepth 100000 in
set_option maxHeartbeats 4000000 in
theorem qa_212 {V : Nat → Nat → Value} {I : Nat → Nat → Int32} {L : Nat → Nat → Int64} {R : Nat → Nat → Option Nat} {tl : am_H} {k : Nat} (hk : k < 8) : am_pA 0 (.ref 212) (nI k) (fx V I L R ++ tl) = some (I 212 k) := by rw [ev_a (f := I 212) (n := 8) rfl (am_inb_n hk (by omega)), nI_clamp (by omega)]
set_option maxRecDepth 100000 in
set_option maxHeartbeats 4000000 in
theorem qs_212 {V : Nat → Nat → Value} {I : Nat → Nat → Int32} {L : Nat → Nat → Int64} {R : Nat → Nat → Option Nat} {tl : am_H} {k : Nat} {x : Int32} (hk : k < 8) : am_pS 0 (.ref 212) (nI k) x (fx V I L R ++ tl) = some (fx V (iup I 212 (upd (I 212) k x)) L R ++ tl) := ev_s (f := I 212) (n := 8) rfl (am_inb_n hk (by omega)) rfl (by rw [nI_clamp (by omega)]; rfl)
set_option maxRecDepth 100000 in
set_option maxHeartbeats 4000000 in
theorem qa_213 {V : Nat → Nat → Value} {I : Nat → Nat → Int32} {L : Nat → Nat → Int64} {R : Nat → Nat → Option Nat} {tl : am_H} {k : Nat} (hk : k < 130) : am_pA 0 (.ref 213) (nI k) (fx V I L R ++ tl) = some (I 213 k) := by rw [ev_a (f := I 213) (n := 130) rfl (am_inb_n hk (by omega)), nI_clamp (by omega)]
set_option maxRecDepth 100000 in
set_option maxHeartbeats 4000000 in
theorem qs_213 {V : Nat → Nat → Value} {I : Nat → Nat → Int32} {L : Nat → Nat → Int64} {R : Nat → Nat → Option Nat} {tl : am_H} {k : Nat} {x : Int32} (hk : k < 130) : am_pS 0 (.ref 213) (nI k) x (fx V I L R ++ tl) = some (fx V (iup I 213 (upd (I 213) k x)) L R ++ tl) := ev_s (f := I 213) (n := 130) rfl (am_inb_n hk (by omega)) rfl (by rw [nI_clamp (by omega)]; rfl)
set_option maxRecDepth 100000 in
set_option maxHeartbeats 4000000 in
theorem qa_214 {V : Nat → Nat → Value} {I : Nat → Nat → Int32} {L : Nat → Nat → Int64} {R : Nat → Nat → Option Nat} {tl : am_H} {k : Nat} (hk : k < 130) : am_pA 0 (.ref 214) (nI k) (fx V I L R ++ tl) = some (I 214 k) := by rw [ev_a (f := I 214) (n := 130) rfl (am_inb_n hk (by omega)), nI_clamp (by omega)]
set_option maxRecDepth 100000 in
set_option maxHeartbeats 4000000 in
theorem qs_214 {V : Nat → Nat → Value} {I : Nat → Nat → Int32} {L : Nat → Nat → Int64} {R : Nat → Nat → Option Nat} {tl : am_H} {k : Nat} {x : Int32} (hk : k < 130) : am_pS 0 (.ref 214) (nI k) x (fx V I L R ++ tl) = some (fx V (iup I 214 (upd (I 214) k x)) L R ++ tl) := ev_s (f := I 214) (n := 130) rfl (am_inb_n hk (by omega)) rfl (by rw [nI_clamp (by omega)]; rfl)
set_option maxRecDepth 100000 in
set_option maxHeartbeats 4000000 in
theorem qa_215 {V : Nat → Nat → Value} {I : Nat → Nat → Int32} {L : Nat → Nat → Int64} {R : Nat → Nat → Option Nat} {tl : am_H} {k : Nat} (hk : k < 130) : am_pA 0 (.ref 215) (nI k) (fx V I L R ++ tl) = some (I 215 k) := by rw [ev_a (f := I 215) (n := 130) rfl (am_inb_n hk (by omega)), nI_clamp (by omega)]
set_option maxRecDepth 100000 in
set_option maxHeartbeats 4000000 in
theorem qs_215 {V : Nat → Nat → Value} {I : Nat → Nat → Int32} {L : Nat → Nat → Int64} {R : Nat → Nat → Option Nat} {tl : am_H} {k : Nat} {x : Int32} (hk : k < 130) : am_pS 0 (.ref 215) (nI k) x (fx V I L R ++ tl) = some (fx V (iup I 215 (upd (I 215) k x)) L R ++ tl) := ev_s (f := I 215) (n := 130) rfl (am_inb_n hk (by omega)) rfl (by rw [nI_clamp (by omega)]; rfl)
set_option maxRecDepth 100000 in
set_option maxHeartbeats 4000000 in
theorem qa_216 {V : Nat → Nat → Value} {I : Nat → Nat → Int32} {L : Nat → Nat → Int64} {R : Nat → Nat → Option Nat} {tl : am_H} {k : Nat} (hk : k < 130) : am_pA 0 (.ref 216) (nI k) (fx V I L R ++ tl) = some (I 216 k) := by rw [ev_a (f := I 216) (n := 130) rfl (am_inb_n hk (by omega)), nI_clamp (by omega)]
set_option maxRecDepth 100000 in
set_option maxHeartbeats 4000000 in
theorem qs_216 {V : Nat → Nat → Value} {I : Nat → Nat → Int32} {L : Nat → Nat → Int64} {R : Nat → Nat → Option Nat} {tl : am_H} {k : Nat} {x : Int32} (hk : k < 130) : am_pS 0 (.ref 216) (nI k) x (fx V I L R ++ tl) = some (fx V (iup I 216 (upd (I 216) k x)) L R ++ tl) := ev_s (f := I 216) (n := 130) rfl (am_inb_n hk (by omega)) rfl (by rw [nI_clamp (by omega)]; rfl)
set_option maxRecDepth 100000 in
set_option maxHeartbeats 4000000 in
theorem qa_217 {V : Nat → Nat → Value} {I : Nat → Nat → Int32} {L : Nat → Nat → Int64} {R : Nat → Nat → Option Nat} {tl : am_H} {k : Nat} (hk : k < 400) : am_pA 0 (.ref 217) (nI k) (fx V I L R ++ tl) = some (I 217 k) := by rw [ev_a (f := I 217) (n := 400) rfl (am_inb_n hk (by omega)), nI_clamp (by omega)]
set_option maxRecDepth 100000 in
set_option maxHeartbeats 4000000 in
theorem qs_217 {V : Nat → Nat → Value} {I : Nat → Nat → Int32} {L : Nat → Nat → Int64} {R : Nat → Nat → Option Nat} {tl : am_H} {k : Nat} {x : Int32} (hk : k < 400) : am_pS 0 (.ref 217) (nI k) x (fx V I L R ++ tl) = some (fx V (iup I 217 (upd (I 217) k x)) L R ++ tl) := ev_s (f := I 217) (n := 400) rfl (am_inb_n hk (by omega)) rfl (by rw [nI_clamp (by omega)]; rfl)
set_option maxRecDepth 100000 in
set_option maxHeartbeats 4000000 in
theorem qa_218 {V : Nat → Nat → Value} {I : Nat → Nat → Int32} {L : Nat → Nat → Int64} {R : Nat → Nat → Option Nat} {tl : am_H} {k : Nat} (hk : k < 240) : am_pA 0 (.ref 218) (nI k) (fx V I L R ++ tl) = some (I 218 k) := by rw [ev_a (f := I 218) (n := 240) rfl (am_inb_n hk (by omega)), nI_clamp (by omega)]
set_option maxRecDepth 100000 in
set_option maxHeartbeats 4000000 in
theorem qs_218 {V : Nat → Nat → Value} {I : Nat → Nat → Int32} {L : Nat → Nat → Int64} {R : Nat → Nat → Option Nat} {tl : am_H} {k : Nat} {x : Int32} (hk : k < 240) : am_pS 0 (.ref 218) (nI k) x (fx V I L R ++ tl) = some (fx V (iup I 218 (upd (I 218) k x)) L R ++ tl) := ev_s (f := I 218) (n := 240) rfl (am_inb_n hk (by omega)) rfl (by rw [nI_clamp (by omega)]; rfl)
set_option maxRecDepth 100000 in
set_option maxHeartbeats 4000000 in
theorem qa_219 {V : Nat → Nat → Value} {I : Nat → Nat → Int32} {L : Nat → Nat → Int64} {R : Nat → Nat → Option Nat} {tl : am_H} {k : Nat} (hk : k < 61) : am_pA 0 (.ref 219) (nI k) (fx V I L R ++ tl) = some (I 219 k) := by rw [ev_a (f := I 219) (n := 61) rfl (am_inb_n hk (by omega)), nI_clamp (by omega)]
set_option maxRecDepth 100000 in
set_option maxHeartbeats 4000000 in
theorem qs_219 {V : Nat → Nat → Value} {I : Nat → Nat → Int32} {L : Nat → Nat → Int64} {R : Nat → Nat → Option Nat} {tl : am_H} {k : Nat} {x : Int32} (hk : k < 61) : am_pS 0 (.ref 219) (nI k) x (fx V I L R ++ tl) = some (fx V (iup I 219 (upd (I 219) k x)) L R ++ tl) := ev_s (f := I 219) (n := 61) rfl (am_inb_n hk (by omega)) rfl (by rw [nI_clamp (by omega)]; rfl)
set_option maxRecDepth 100000 in
set_option maxHeartbeats 4000000 in
theorem qa_220 {V : Nat → Nat → Value} {I : Nat → Nat → Int32} {L : Nat → Nat → Int64} {R : Nat → Nat → Option Nat} {tl : am_H} {k : Nat} (hk : k < 64) : am_pA 0 (.ref 220) (nI k) (fx V I L R ++ tl) = some (I 220 k) := by rw [ev_a (f := I 220) (n := 64) rfl (am_inb_n hk (by omega)), nI_clamp (by omega)]
set_option maxRecDepth 100000 in
set_option maxHeartbeats 4000000 in
theorem qs_220 {V : Nat → Nat → Value} {I : Nat → Nat → Int32} {L : Nat → Nat → Int64} {R : Nat → Nat → Option Nat} {tl : am_H} {k : Nat} {x : Int32} (hk : k < 64) : am_pS 0 (.ref 220) (nI k) x (fx V I L R ++ tl) = some (fx V (iup I 220 (upd (I 220) k x)) L R ++ tl) := ev_s (f := I 220) (n := 64) rfl (am_inb_n hk (by omega)) rfl (by rw [nI_clamp (by omega)]; rfl)
set_option maxRecDepth 100000 in
set_option maxHeartbeats 4000000 in
theorem qa_221 {V : Nat → Nat → Value} {I : Nat → Nat → Int32} {L : Nat → Nat → Int64} {R : Nat → Nat → Option Nat} {tl : am_H} {k : Nat} (hk : k < 64) : am_pA 0 (.ref 221) (nI k) (fx V I L R ++ tl) = some (I 221 k) := by rw [ev_a (f := I 221) (n := 64) rfl (am_inb_n hk (by omega)), nI_clamp (by omega)]
set_option maxRecDepth 100000 in
set_option maxHeartbeats 4000000 in
theorem qs_221 {V : Nat → Nat → Value} {I : Nat → Nat → Int32} {L : Nat → Nat → Int64} {R : Nat → Nat → Option Nat} {tl : am_H} {k : Nat} {x : Int32} (hk : k < 64) : am_pS 0 (.ref 221) (nI k) x (fx V I L R ++ tl) = some (fx V (iup I 221 (upd (I 221) k x)) L R ++ tl) := ev_s (f := I 221) (n := 64) rfl (am_inb_n hk (by omega)) rfl (by rw [nI_clamp (by omega)]; rfl)
set_option maxRecDepth 100000 in
set_option maxHeartbeats 4000000 in
theorem qa_222 {V : Nat → Nat → Value} {I : Nat → Nat → Int32} {L : Nat → Nat → Int64} {R : Nat → Nat → Option Nat} {tl : am_H} {k : Nat} (hk : k < 64) : am_pA 2 (.ref 222) (nI k) (fx V I L R ++ tl) = some (I 222 k) := by rw [ev_a (f := I 222) (n := 64) rfl (am_inb_n hk (by omega)), nI_clamp (by omega)]
set_option maxRecDepth 100000 in
set_option maxHeartbeats 4000000 in
theorem qs_222 {V : Nat → Nat → Value} {I : Nat → Nat → Int32} {L : Nat → Nat → Int64} {R : Nat → Nat → Option Nat} {tl : am_H} {k : Nat} {x : Int32} (hk : k < 64) (hx : am_afit 2 x = true) : am_pS 2 (.ref 222) (nI k) x (fx V I L R ++ tl) = some (fx V (iup I 222 (upd (I 222) k x)) L R ++ tl) := ev_s (f := I 222) (n := 64) rfl (am_inb_n hk (by omega)) hx (by rw [nI_clamp (by omega)]; rfl)
set_option maxRecDepth 100000 in
set_option maxHeartbeats 4000000 in
theorem qa_223 {V : Nat → Nat → Value} {I : Nat → Nat → Int32} {L : Nat → Nat → Int64} {R : Nat → Nat → Option Nat} {tl : am_H} {k : Nat} (hk : k < 800) : am_pA 0 (.ref 223) (nI k) (fx V I L R ++ tl) = some (I 223 k) := by rw [ev_a (f := I 223) (n := 800) rfl (am_inb_n hk (by omega)), nI_clamp (by omega)]
set_option maxRecDepth 100000 in
set_option maxHeartbeats 4000000 in
theorem qs_223 {V : Nat → Nat → Value} {I : Nat → Nat → Int32} {L : Nat → Nat → Int64} {R : Nat → Nat → Option Nat} {tl : am_H} {k : Nat} {x : Int32} (hk : k < 800) : am_pS 0 (.ref 223) (nI k) x (fx V I L R ++ tl) = some (fx V (iup I 223 (upd (I 223) k x)) L R ++ tl) := ev_s (f := I 223) (n := 800) rfl (am_inb_n hk (by omega)) rfl (by rw [nI_clamp (by omega)]; rfl)
set_option maxRecDepth 100000 in
set_option maxHeartbeats 4000000 in
theorem qa_224 {V : Nat → Nat → Value} {I : Nat → Nat → Int32} {L : Nat → Nat → Int64} {R : Nat → Nat → Option Nat} {tl : am_H} {k : Nat} (hk : k < 84) : am_pAL (.ref 224) (nI k) (fx V I L R ++ tl) = some (L 224 k) := by rw [ev_aL (f := L 224) (n := 84) rfl (am_inb_n hk (by omega)), nI_clamp (by omega)]
set_option maxRecDepth 100000 in
set_option maxHeartbeats 4000000 in
theorem qs_224 {V : Nat → Nat → Value} {I : Nat → Nat → Int32} {L : Nat → Nat → Int64} {R : Nat → Nat → Option Nat} {tl : am_H} {k : Nat} {x : Int64} (hk : k < 84) : am_pSL (.ref 224) (nI k) x (fx V I L R ++ tl) = some (fx V I (lup L 224 (vp_updL (L 224) k x)) R ++ tl) := ev_sL (f := L 224) (n := 84) rfl (am_inb_n hk (by omega)) (by rw [nI_clamp (by omega)]; rfl)
set_option maxRecDepth 100000 in
set_option maxHeartbeats 4000000 in
theorem qa_225 {V : Nat → Nat → Value} {I : Nat → Nat → Int32} {L : Nat → Nat → Int64} {R : Nat → Nat → Option Nat} {tl : am_H} {k : Nat} (hk : k < 819) : am_pAL (.ref 225) (nI k) (fx V I L R ++ tl) = some (L 225 k) := by rw [ev_aL (f := L 225) (n := 819) rfl (am_inb_n hk (by omega)), nI_clamp (by omega)]
set_option maxRecDepth 100000 in
set_option maxHeartbeats 4000000 in
theorem qs_225 {V : Nat → Nat → Value} {I : Nat → Nat → Int32} {L : Nat → Nat → Int64} {R : Nat → Nat → Option Nat} {tl : am_H} {k : Nat} {x : Int64} (hk : k < 819) : am_pSL (.ref 225) (nI k) x (fx V I L R ++ tl) = some (fx V I (lup L 225 (vp_updL (L 225) k x)) R ++ tl) := ev_sL (f := L 225) (n := 819) rfl (am_inb_n hk (by omega)) (by rw [nI_clamp (by omega)]; rfl)
set_option maxRecDepth 100000 in
set_option maxHeartbeats 4000000 in
theorem qa_226 {V : Nat → Nat → Value} {I : Nat → Nat → Int32} {L : Nat → Nat → Int64} {R : Nat → Nat → Option Nat} {tl : am_H} {k : Nat} (hk : k < 6) : am_pAL (.ref 226) (nI k) (fx V I L R ++ tl) = some (L 226 k) := by rw [ev_aL (f := L 226) (n := 6) rfl (am_inb_n hk (by omega)), nI_clamp (by omega)]
set_option maxRecDepth 100000 in
set_option maxHeartbeats 4000000 in
theorem qs_226 {V : Nat → Nat → Value} {I : Nat → Nat → Int32} {L : Nat → Nat → Int64} {R : Nat → Nat → Option Nat} {tl : am_H} {k : Nat} {x : Int64} (hk : k < 6) : am_pSL (.ref 226) (nI k) x (fx V I L R ++ tl) = some (fx V I (lup L 226 (vp_updL (L 226) k x)) R ++ tl) := ev_sL (f := L 226) (n := 6) rfl (am_inb_n hk (by omega)) (by rw [nI_clamp (by omega)]; rfl)
set_option maxRecDepth 100000 in
set_option maxHeartbeats 4000000 in
theorem qa_227 {V : Nat → Nat → Value} {I : Nat → Nat → Int32} {L : Nat → Nat → Int64} {R : Nat → Nat → Option Nat} {tl : am_H} {k : Nat} (hk : k < 40) : am_pA 0 (.ref 227) (nI k) (fx V I L R ++ tl) = some (I 227 k) := by rw [ev_a (f := I 227) (n := 40) rfl (am_inb_n hk (by omega)), nI_clamp (by omega)]
set_option maxRecDepth 100000 in
set_option maxHeartbeats 4000000 in
theorem qs_227 {V : Nat → Nat → Value} {I : Nat → Nat → Int32} {L : Nat → Nat → Int64} {R : Nat → Nat → Option Nat} {tl : am_H} {k : Nat} {x : Int32} (hk : k < 40) : am_pS 0 (.ref 227) (nI k) x (fx V I L R ++ tl) = some (fx V (iup I 227 (upd (I 227) k x)) L R ++ tl) := ev_s (f := I 227) (n := 40) rfl (am_inb_n hk (by omega)) rfl (by rw [nI_clamp (by omega)]; rfl)
set_option maxRecDepth 100000 in
set_option maxHeartbeats 4000000 in
theorem qa_228 {V : Nat → Nat → Value} {I : Nat → Nat → Int32} {L : Nat → Nat → Int64} {R : Nat → Nat → Option Nat} {tl : am_H} {k : Nat} (hk : k < 40) : am_pA 0 (.ref 228) (nI k) (fx V I L R ++ tl) = some (I 228 k) := by rw [ev_a (f := I 228) (n := 40) rfl (am_inb_n hk (by omega)), nI_clamp (by omega)]
set_option maxRecDepth 100000 in
set_option maxHeartbeats 4000000 in
theorem qs_228 {V : Nat → Nat → Value} {I : Nat → Nat → Int32} {L : Nat → Nat → Int64} {R : Nat → Nat → Option Nat} {tl : am_H} {k : Nat} {x : Int32} (hk : k < 40) : am_pS 0 (.ref 228) (nI k) x (fx V I L R ++ tl) = some (fx V (iup I 228 (upd (I 228) k x)) L R ++ tl) := ev_s (f := I 228) (n := 40) rfl (am_inb_n hk (by omega)) rfl (by rw [nI_clamp (by omega)]; rfl)
set_option maxRecDepth 100000 in
set_option maxHeartbeats 4000000 in
theorem qa_229 {V : Nat → Nat → Value} {I : Nat → Nat → Int32} {L : Nat → Nat → Int64} {R : Nat → Nat → Option Nat} {tl : am_H} {k : Nat} (hk : k < 40) : am_pA 0 (.ref 229) (nI k) (fx V I L R ++ tl) = some (I 229 k) := by rw [ev_a (f := I 229) (n := 40) rfl (am_inb_n hk (by omega)), nI_clamp (by omega)]
set_option maxRecDepth 100000 in
set_option maxHeartbeats 4000000 in
theorem qs_229 {V : Nat → Nat → Value} {I : Nat → Nat → Int32} {L : Nat → Nat → Int64} {R : Nat → Nat → Option Nat} {tl : am_H} {k : Nat} {x : Int32} (hk : k < 40) : am_pS 0 (.ref 229) (nI k) x (fx V I L R ++ tl) = some (fx V (iup I 229 (upd (I 229) k x)) L R ++ tl) := ev_s (f := I 229) (n := 40) rfl (am_inb_n hk (by omega)) rfl (by rw [nI_clamp (by omega)]; rfl)
set_option maxRecDepth 100000 in
set_option maxHeartbeats 4000000 in
theorem qa_230 {V : Nat → Nat → Value} {I : Nat → Nat → Int32} {L : Nat → Nat → Int64} {R : Nat → Nat → Option Nat} {tl : am_H} {k : Nat} (hk : k < 40) : am_pAL (.ref 230) (nI k) (fx V I L R ++ tl) = some (L 230 k) := by rw [ev_aL (f := L 230) (n := 40) rfl (am_inb_n hk (by omega)), nI_clamp (by omega)]
set_option maxRecDepth 100000 in
set_option maxHeartbeats 4000000 in
theorem qs_230 {V : Nat → Nat → Value} {I : Nat → Nat → Int32} {L : Nat → Nat → Int64} {R : Nat → Nat → Option Nat} {tl : am_H} {k : Nat} {x : Int64} (hk : k < 40) : am_pSL (.ref 230) (nI k) x (fx V I L R ++ tl) = some (fx V I (lup L 230 (vp_updL (L 230) k x)) R ++ tl) := ev_sL (f := L 230) (n := 40) rfl (am_inb_n hk (by omega)) (by rw [nI_clamp (by omega)]; rfl)
set_option maxRecDepth 100000 in
set_option maxHeartbeats 4000000 in
theorem qa_231 {V : Nat → Nat → Value} {I : Nat → Nat → Int32} {L : Nat → Nat → Int64} {R : Nat → Nat → Option Nat} {tl : am_H} {k : Nat} (hk : k < 13) : am_pAL (.ref 231) (nI k) (fx V I L R ++ tl) = some (L 231 k) := by rw [ev_aL (f := L 231) (n := 13) rfl (am_inb_n hk (by omega)), nI_clamp (by omega)]
set_option maxRecDepth 100000 in
set_option maxHeartbeats 4000000 in
theorem qs_231 {V : Nat → Nat → Value} {I : Nat → Nat → Int32} {L : Nat → Nat → Int64} {R : Nat → Nat → Option Nat} {tl : am_H} {k : Nat} {x : Int64} (hk : k < 13) : am_pSL (.ref 231) (nI k) x (fx V I L R ++ tl) = some (fx V I (lup L 231 (vp_updL (L 231) k x)) R ++ tl) := ev_sL (f := L 231) (n := 13) rfl (am_inb_n hk (by omega)) (by rw [nI_clamp (by omega)]; rfl)
set_option maxRecDepth 100000 in
set_option maxHeartbeats 4000000 in
theorem qa_232 {V : Nat → Nat → Value} {I : Nat → Nat → Int32} {L : Nat → Nat → Int64} {R : Nat → Nat → Option Nat} {tl : am_H} {k : Nat} (hk : k < 13) : am_pA 0 (.ref 232) (nI k) (fx V I L R ++ tl) = some (I 232 k) := by rw [ev_a (f := I 232) (n := 13) rfl (am_inb_n hk (by omega)), nI_clamp (by omega)]
set_option maxRecDepth 100000 in
set_option maxHeartbeats 4000000 in
theorem qs_232 {V : Nat → Nat → Value} {I : Nat → Nat → Int32} {L : Nat → Nat → Int64} {R : Nat → Nat → Option Nat} {tl : am_H} {k : Nat} {x : Int32} (hk : k < 13) : am_pS 0 (.ref 232) (nI k) x (fx V I L R ++ tl) = some (fx V (iup I 232 (upd (I 232) k x)) L R ++ tl) := ev_s (f := I 232) (n := 13) rfl (am_inb_n hk (by omega)) rfl (by rw [nI_clamp (by omega)]; rfl)
set_option maxRecDepth 100000 in
set_option maxHeartbeats 4000000 in
theorem qa_233 {V : Nat → Nat → Value} {I : Nat → Nat → Int32} {L : Nat → Nat → Int64} {R : Nat → Nat → Option Nat} {tl : am_H} {k : Nat} (hk : k < 4) : am_pA 0 (.ref 233) (nI k) (fx V I L R ++ tl) = some (I 233 k) := by rw [ev_a (f := I 233) (n := 4) rfl (am_inb_n hk (by omega)), nI_clamp (by omega)]
set_option maxRecDepth 100000 in
set_option maxHeartbeats 4000000 in
theorem qs_233 {V : Nat → Nat → Value} {I : Nat → Nat → Int32} {L : Nat → Nat → Int64} {R : Nat → Nat → Option Nat} {tl : am_H} {k : Nat} {x : Int32} (hk : k < 4) : am_pS 0 (.ref 233) (nI k) x (fx V I L R ++ tl) = some (fx V (iup I 233 (upd (I 233) k x)) L R ++ tl) := ev_s (f := I 233) (n := 4) rfl (am_inb_n hk (by omega)) rfl (by rw [nI_clamp (by omega)]; rfl)
set_option maxRecDepth 100000 in
set_option maxHeartbeats 4000000 in
theorem qa_234 {V : Nat → Nat → Value} {I : Nat → Nat → Int32} {L : Nat → Nat → Int64} {R : Nat → Nat → Option Nat} {tl : am_H} {k : Nat} (hk : k < 64) : am_pA 0 (.ref 234) (nI k) (fx V I L R ++ tl) = some (I 234 k) := by rw [ev_a (f := I 234) (n := 64) rfl (am_inb_n hk (by omega)), nI_clamp (by omega)]
set_option maxRecDepth 100000 in
set_option maxHeartbeats 4000000 in
theorem qs_234 {V : Nat → Nat → Value} {I : Nat → Nat → Int32} {L : Nat → Nat → Int64} {R : Nat → Nat → Option Nat} {tl : am_H} {k : Nat} {x : Int32} (hk : k < 64) : am_pS 0 (.ref 234) (nI k) x (fx V I L R ++ tl) = some (fx V (iup I 234 (upd (I 234) k x)) L R ++ tl) := ev_s (f := I 234) (n := 64) rfl (am_inb_n hk (by omega)) rfl (by rw [nI_clamp (by omega)]; rfl)
set_option maxRecDepth 100000 in
set_option maxHeartbeats 4000000 in
theorem qa_235 {V : Nat → Nat → Value} {I : Nat → Nat → Int32} {L : Nat → Nat → Int64} {R : Nat → Nat → Option Nat} {tl : am_H} {k : Nat} (hk : k < 4) : am_pAL (.ref 235) (nI k) (fx V I L R ++ tl) = some (L 235 k) := by rw [ev_aL (f := L 235) (n := 4) rfl (am_inb_n hk (by omega)), nI_clamp (by omega)]
set_option maxRecDepth 100000 in
set_option maxHeartbeats 4000000 in
theorem qs_235 {V : Nat → Nat → Value} {I : Nat → Nat → Int32} {L : Nat → Nat → Int64} {R : Nat → Nat → Option Nat} {tl : am_H} {k : Nat} {x : Int64} (hk : k < 4) : am_pSL (.ref 235) (nI k) x (fx V I L R ++ tl) = some (fx V I (lup L 235 (vp_updL (L 235) k x)) R ++ tl) := ev_sL (f := L 235) (n := 4) rfl (am_inb_n hk (by omega)) (by rw [nI_clamp (by omega)]; rfl)
set_option maxRecDepth 100000 in
set_option maxHeartbeats 4000000 in
theorem qa_236 {V : Nat → Nat → Value} {I : Nat → Nat → Int32} {L : Nat → Nat → Int64} {R : Nat → Nat → Option Nat} {tl : am_H} {k : Nat} (hk : k < 16) : am_pAL (.ref 236) (nI k) (fx V I L R ++ tl) = some (L 236 k) := by rw [ev_aL (f := L 236) (n := 16) rfl (am_inb_n hk (by omega)), nI_clamp (by omega)]
set_option maxRecDepth 100000 in
set_option maxHeartbeats 4000000 in
theorem qs_236 {V : Nat → Nat → Value} {I : Nat → Nat → Int32} {L : Nat → Nat → Int64} {R : Nat → Nat → Option Nat} {tl : am_H} {k : Nat} {x : Int64} (hk : k < 16) : am_pSL (.ref 236) (nI k) x (fx V I L R ++ tl) = some (fx V I (lup L 236 (vp_updL (L 236) k x)) R ++ tl) := ev_sL (f := L 236) (n := 16) rfl (am_inb_n hk (by omega)) (by rw [nI_clamp (by omega)]; rfl)
set_option maxRecDepth 100000 in
set_option maxHeartbeats 4000000 in
theorem qa_237 {V : Nat → Nat → Value} {I : Nat → Nat → Int32} {L : Nat → Nat → Int64} {R : Nat → Nat → Option Nat} {tl : am_H} {k : Nat} (hk : k < 16) : am_pAL (.ref 237) (nI k) (fx V I L R ++ tl) = some (L 237 k) := by rw [ev_aL (f := L 237) (n := 16) rfl (am_inb_n hk (by omega)), nI_clamp (by omega)]
set_option maxRecDepth 100000 in
set_option maxHeartbeats 4000000 in
theorem qs_237 {V : Nat → Nat → Value} {I : Nat → Nat → Int32} {L : Nat → Nat → Int64} {R : Nat → Nat → Option Nat} {tl : am_H} {k : Nat} {x : Int64} (hk : k < 16) : am_pSL (.ref 237) (nI k) x (fx V I L R ++ tl) = some (fx V I (lup L 237 (vp_updL (L 237) k x)) R ++ tl) := ev_sL (f := L 237) (n := 16) rfl (am_inb_n hk (by omega)) (by rw [nI_clamp (by omega)]; rfl)
set_option maxRecDepth 100000 in
set_option maxHeartbeats 4000000 in
theorem qa_238 {V : Nat → Nat → Value} {I : Nat → Nat → Int32} {L : Nat → Nat → Int64} {R : Nat → Nat → Option Nat} {tl : am_H} {k : Nat} (hk : k < 16) : am_pA 0 (.ref 238) (nI k) (fx V I L R ++ tl) = some (I 238 k) := by rw [ev_a (f := I 238) (n := 16) rfl (am_inb_n hk (by omega)), nI_clamp (by omega)]
set_option maxRecDepth 100000 in
set_option maxHeartbeats 4000000 in
theorem qs_238 {V : Nat → Nat → Value} {I : Nat → Nat → Int32} {L : Nat → Nat → Int64} {R : Nat → Nat → Option Nat} {tl : am_H} {k : Nat} {x : Int32} (hk : k < 16) : am_pS 0 (.ref 238) (nI k) x (fx V I L R ++ tl) = some (fx V (iup I 238 (upd (I 238) k x)) L R ++ tl) := ev_s (f := I 238) (n := 16) rfl (am_inb_n hk (by omega)) rfl (by rw [nI_clamp (by omega)]; rfl)
set_option maxRecDepth 100000 in
set_option maxHeartbeats 4000000 in
theorem qa_239 {V : Nat → Nat → Value} {I : Nat → Nat → Int32} {L : Nat → Nat → Int64} {R : Nat → Nat → Option Nat} {tl : am_H} {k : Nat} (hk : k < 16) : am_pA 0 (.ref 239) (nI k) (fx V I L R ++ tl) = some (I 239 k) := by rw [ev_a (f := I 239) (n := 16) rfl (am_inb_n hk (by omega)), nI_clamp (by omega)]
set_option maxRecDepth 100000 in
set_option maxHeartbeats 4000000 in
theorem qs_239 {V : Nat → Nat → Value} {I : Nat → Nat → Int32} {L : Nat → Nat → Int64} {R : Nat → Nat → Option Nat} {tl : am_H} {k : Nat} {x : Int32} (hk : k < 16) : am_pS 0 (.ref 239) (nI k) x (fx V I L R ++ tl) = some (fx V (iup I 239 (upd (I 239) k x)) L R ++ tl) := ev_s (f := I 239) (n := 16) rfl (am_inb_n hk (by omega)) rfl (by rw [nI_clamp (by omega)]; rfl)
set_option maxRecDepth 100000 in
set_option maxHeartbeats 4000000 in
theorem qa_240 {V : Nat → Nat → Value} {I : Nat → Nat → Int32} {L : Nat → Nat → Int64} {R : Nat → Nat → Option Nat} {tl : am_H} {k : Nat} (hk : k < 384) : am_pAL (.ref 240) (nI k) (fx V I L R ++ tl) = some (L 240 k) := by rw [ev_aL (f := L 240) (n := 384) rfl (am_inb_n hk (by omega)), nI_clamp (by omega)]
set_option maxRecDepth 100000 in
set_option maxHeartbeats 4000000 in
theorem qs_240 {V : Nat → Nat → Value} {I : Nat → Nat → Int32} {L : Nat → Nat → Int64} {R : Nat → Nat → Option Nat} {tl : am_H} {k : Nat} {x : Int64} (hk : k < 384) : am_pSL (.ref 240) (nI k) x (fx V I L R ++ tl) = some (fx V I (lup L 240 (vp_updL (L 240) k x)) R ++ tl) := ev_sL (f := L 240) (n := 384) rfl (am_inb_n hk (by omega)) (by rw [nI_clamp (by omega)]; rfl)
set_option maxRecDepth 100000 in
set_option maxHeartbeats 4000000 in
theorem qa_241 {V : Nat → Nat → Value} {I : Nat → Nat → Int32} {L : Nat → Nat → Int64} {R : Nat → Nat → Option Nat} {tl : am_H} {k : Nat} (hk : k < 24) : am_pA 0 (.ref 241) (nI k) (fx V I L R ++ tl) = some (I 241 k) := by rw [ev_a (f := I 241) (n := 24) rfl (am_inb_n hk (by omega)), nI_clamp (by omega)]
set_option maxRecDepth 100000 in
set_option maxHeartbeats 4000000 in
theorem qs_241 {V : Nat → Nat → Value} {I : Nat → Nat → Int32} {L : Nat → Nat → Int64} {R : Nat → Nat → Option Nat} {tl : am_H} {k : Nat} {x : Int32} (hk : k < 24) : am_pS 0 (.ref 241) (nI k) x (fx V I L R ++ tl) = some (fx V (iup I 241 (upd (I 241) k x)) L R ++ tl) := ev_s (f := I 241) (n := 24) rfl (am_inb_n hk (by omega)) rfl (by rw [nI_clamp (by omega)]; rfl)
set_option maxRecDepth 100000 in
set_option maxHeartbeats 4000000 in
theorem qa_242 {V : Nat → Nat → Value} {I : Nat → Nat → Int32} {L : Nat → Nat → Int64} {R : Nat → Nat → Option Nat} {tl : am_H} {k : Nat} (hk : k < 16) : am_pA 2 (.ref 242) (nI k) (fx V I L R ++ tl) = some (I 242 k) := by rw [ev_a (f := I 242) (n := 16) rfl (am_inb_n hk (by omega)), nI_clamp (by omega)]
set_option maxRecDepth 100000 in
set_option maxHeartbeats 4000000 in
theorem qs_242 {V : Nat → Nat → Value} {I : Nat → Nat → Int32} {L : Nat → Nat → Int64} {R : Nat → Nat → Option Nat} {tl : am_H} {k : Nat} {x : Int32} (hk : k < 16) (hx : am_afit 2 x = true) : am_pS 2 (.ref 242) (nI k) x (fx V I L R ++ tl) = some (fx V (iup I 242 (upd (I 242) k x)) L R ++ tl) := ev_s (f := I 242) (n := 16) rfl (am_inb_n hk (by omega)) hx (by rw [nI_clamp (by omega)]; rfl)
set_option maxRecDepth 100000 in
set_option maxHeartbeats 4000000 in
theorem qa_243 {V : Nat → Nat → Value} {I : Nat → Nat → Int32} {L : Nat → Nat → Int64} {R : Nat → Nat → Option Nat} {tl : am_H} {k : Nat} (hk : k < 16) : am_pA 0 (.ref 243) (nI k) (fx V I L R ++ tl) = some (I 243 k) := by rw [ev_a (f := I 243) (n := 16) rfl (am_inb_n hk (by omega)), nI_clamp (by omega)]
set_option maxRecDepth 100000 in
set_option maxHeartbeats 4000000 in
theorem qs_243 {V : Nat → Nat → Value} {I : Nat → Nat → Int32} {L : Nat → Nat → Int64} {R : Nat → Nat → Option Nat} {tl : am_H} {k : Nat} {x : Int32} (hk : k < 16) : am_pS 0 (.ref 243) (nI k) x (fx V I L R ++ tl) = some (fx V (iup I 243 (upd (I 243) k x)) L R ++ tl) := ev_s (f := I 243) (n := 16) rfl (am_inb_n hk (by omega)) rfl (by rw [nI_clamp (by omega)]; rfl)
set_option maxRecDepth 100000 in
set_option maxHeartbeats 4000000 in
theorem qa_244 {V : Nat → Nat → Value} {I : Nat → Nat → Int32} {L : Nat → Nat → Int64} {R : Nat → Nat → Option Nat} {tl : am_H} {k : Nat} (hk : k < 16) : am_pA 0 (.ref 244) (nI k) (fx V I L R ++ tl) = some (I 244 k) := by rw [ev_a (f := I 244) (n := 16) rfl (am_inb_n hk (by omega)), nI_clamp (by omega)]
set_option maxRecDepth 100000 in
set_option maxHeartbeats 4000000 in
theorem qs_244 {V : Nat → Nat → Value} {I : Nat → Nat → Int32} {L : Nat → Nat → Int64} {R : Nat → Nat → Option Nat} {tl : am_H} {k : Nat} {x : Int32} (hk : k < 16) : am_pS 0 (.ref 244) (nI k) x (fx V I L R ++ tl) = some (fx V (iup I 244 (upd (I 244) k x)) L R ++ tl) := ev_s (f := I 244) (n := 16) rfl (am_inb_n hk (by omega)) rfl (by rw [nI_clamp (by omega)]; rfl)
set_option maxRecDepth 100000 in
set_option maxHeartbeats 4000000 in
theorem qa_245 {V : Nat → Nat → Value} {I : Nat → Nat → Int32} {L : Nat → Nat → Int64} {R : Nat → Nat → Option Nat} {tl : am_H} {k : Nat} (hk : k < 3) : am_pAL (.ref 245) (nI k) (fx V I L R ++ tl) = some (L 245 k) := by rw [ev_aL (f := L 245) (n := 3) rfl (am_inb_n hk (by omega)), nI_clamp (by omega)]
set_option maxRecDepth 100000 in
set_option maxHeartbeats 4000000 in
theorem qs_245 {V : Nat → Nat → Value} {I : Nat → Nat → Int32} {L : Nat → Nat → Int64} {R : Nat → Nat → Option Nat} {tl : am_H} {k : Nat} {x : Int64} (hk : k < 3) : am_pSL (.ref 245) (nI k) x (fx V I L R ++ tl) = some (fx V I (lup L 245 (vp_updL (L 245) k x)) R ++ tl) := ev_sL (f := L 245) (n := 3) rfl (am_inb_n hk (by omega)) (by rw [nI_clamp (by omega)]; rfl)
set_option maxRecDepth 100000 in
set_option maxHeartbeats 4000000 in
theorem qa_246 {V : Nat → Nat → Value} {I : Nat → Nat → Int32} {L : Nat → Nat → Int64} {R : Nat → Nat → Option Nat} {tl : am_H} {k : Nat} (hk : k < 600) : am_pA 2 (.ref 246) (nI k) (fx V I L R ++ tl) = some (I 246 k) := by rw [ev_a (f := I 246) (n := 600) rfl (am_inb_n hk (by omega)), nI_clamp (by omega)]
set_option maxRecDepth 100000 in
set_option maxHeartbeats 4000000 in
theorem qs_246 {V : Nat → Nat → Value} {I : Nat → Nat → Int32} {L : Nat → Nat → Int64} {R : Nat → Nat → Option Nat} {tl : am_H} {k : Nat} {x : Int32} (hk : k < 600) (hx : am_afit 2 x = true) : am_pS 2 (.ref 246) (nI k) x (fx V I L R ++ tl) = some (fx V (iup I 246 (upd (I 246) k x)) L R ++ tl) := ev_s (f := I 246) (n := 600) rfl (am_inb_n hk (by omega)) hx (by rw [nI_clamp (by omega)]; rfl)
set_option maxRecDepth 100000 in
set_option maxHeartbeats 4000000 in
theorem qa_247 {V : Nat → Nat → Value} {I : Nat → Nat → Int32} {L : Nat → Nat → Int64} {R : Nat → Nat → Option Nat} {tl : am_H} {k : Nat} (hk : k < 600) : am_pA 2 (.ref 247) (nI k) (fx V I L R ++ tl) = some (I 247 k) := by rw [ev_a (f := I 247) (n := 600) rfl (am_inb_n hk (by omega)), nI_clamp (by omega)]
set_option maxRecDepth 100000 in
set_option maxHeartbeats 4000000 in
theorem qs_247 {V : Nat → Nat → Value} {I : Nat → Nat → Int32} {L : Nat → Nat → Int64} {R : Nat → Nat → Option Nat} {tl : am_H} {k : Nat} {x : Int32} (hk : k < 600) (hx : am_afit 2 x = true) : am_pS 2 (.ref 247) (nI k) x (fx V I L R ++ tl) = some (fx V (iup I 247 (upd (I 247) k x)) L R ++ tl) := ev_s (f := I 247) (n := 600) rfl (am_inb_n hk (by omega)) hx (by rw [nI_clamp (by omega)]; rfl)
set_option maxRecDepth 100000 in
set_option maxHeartbeats 4000000 in
theorem qa_248 {V : Nat → Nat → Value} {I : Nat → Nat → Int32} {L : Nat → Nat → Int64} {R : Nat → Nat → Option Nat} {tl : am_H} {k : Nat} (hk : k < 400) : am_pA 0 (.ref 248) (nI k) (fx V I L R ++ tl) = some (I 248 k) := by rw [ev_a (f := I 248) (n := 400) rfl (am_inb_n hk (by omega)), nI_clamp (by omega)]
set_option maxRecDepth 100000 in
set_option maxHeartbeats 4000000 in
theorem qs_248 {V : Nat → Nat → Value} {I : Nat → Nat → Int32} {L : Nat → Nat → Int64} {R : Nat → Nat → Option Nat} {tl : am_H} {k : Nat} {x : Int32} (hk : k < 400) : am_pS 0 (.ref 248) (nI k) x (fx V I L R ++ tl) = some (fx V (iup I 248 (upd (I 248) k x)) L R ++ tl) := ev_s (f := I 248) (n := 400) rfl (am_inb_n hk (by omega)) rfl (by rw [nI_clamp (by omega)]; rfl)
set_option maxRecDepth 100000 in
set_option maxHeartbeats 4000000 in
theorem qa_249 {V : Nat → Nat → Value} {I : Nat → Nat → Int32} {L : Nat → Nat → Int64} {R : Nat → Nat → Option Nat} {tl : am_H} {k : Nat} (hk : k < 400) : am_pA 0 (.ref 249) (nI k) (fx V I L R ++ tl) = some (I 249 k) := by rw [ev_a (f := I 249) (n := 400) rfl (am_inb_n hk (by omega)), nI_clamp (by omega)]
set_option maxRecDepth 100000 in
set_option maxHeartbeats 4000000 in
theorem qs_249 {V : Nat → Nat → Value} {I : Nat → Nat → Int32} {L : Nat → Nat → Int64} {R : Nat → Nat → Option Nat} {tl : am_H} {k : Nat} {x : Int32} (hk : k < 400) : am_pS 0 (.ref 249) (nI k) x (fx V I L R ++ tl) = some (fx V (iup I 249 (upd (I 249) k x)) L R ++ tl) := ev_s (f := I 249) (n := 400) rfl (am_inb_n hk (by omega)) rfl (by rw [nI_clamp (by omega)]; rfl)
set_option maxRecDepth 100000 in
set_option maxHeartbeats 4000000 in
theorem qa_250 {V : Nat → Nat → Value} {I : Nat → Nat → Int32} {L : Nat → Nat → Int64} {R : Nat → Nat → Option Nat} {tl : am_H} {k : Nat} (hk : k < 1152) : am_pA 0 (.ref 250) (nI k) (fx V I L R ++ tl) = some (I 250 k) := by rw [ev_a (f := I 250) (n := 1152) rfl (am_inb_n hk (by omega)), nI_clamp (by omega)]
set_option maxRecDepth 100000 in
set_option maxHeartbeats 4000000 in
theorem qs_250 {V : Nat → Nat → Value} {I : Nat → Nat → Int32} {L : Nat → Nat → Int64} {R : Nat → Nat → Option Nat} {tl : am_H} {k : Nat} {x : Int32} (hk : k < 1152) : am_pS 0 (.ref 250) (nI k) x (fx V I L R ++ tl) = some (fx V (iup I 250 (upd (I 250) k x)) L R ++ tl) := ev_s (f := I 250) (n := 1152) rfl (am_inb_n hk (by omega)) rfl (by rw [nI_clamp (by omega)]; rfl)
set_option maxRecDepth 100000 in
set_option maxHeartbeats 4000000 in
theorem qa_251 {V : Nat → Nat → Value} {I : Nat → Nat → Int32} {L : Nat → Nat → Int64} {R : Nat → Nat → Option Nat} {tl : am_H} {k : Nat} (hk : k < 1152) : am_pA 0 (.ref 251) (nI k) (fx V I L R ++ tl) = some (I 251 k) := by rw [ev_a (f := I 251) (n := 1152) rfl (am_inb_n hk (by omega)), nI_clamp (by omega)]
set_option maxRecDepth 100000 in
set_option maxHeartbeats 4000000 in
theorem qs_251 {V : Nat → Nat → Value} {I : Nat → Nat → Int32} {L : Nat → Nat → Int64} {R : Nat → Nat → Option Nat} {tl : am_H} {k : Nat} {x : Int32} (hk : k < 1152) : am_pS 0 (.ref 251) (nI k) x (fx V I L R ++ tl) = some (fx V (iup I 251 (upd (I 251) k x)) L R ++ tl) := ev_s (f := I 251) (n := 1152) rfl (am_inb_n hk (by omega)) rfl (by rw [nI_clamp (by omega)]; rfl)
set_option maxRecDepth 100000 in
set_option maxHeartbeats 4000000 in
theorem qa_252 {V : Nat → Nat → Value} {I : Nat → Nat → Int32} {L : Nat → Nat → Int64} {R : Nat → Nat → Option Nat} {tl : am_H} {k : Nat} (hk : k < 9) : am_pA 0 (.ref 252) (nI k) (fx V I L R ++ tl) = some (I 252 k) := by rw [ev_a (f := I 252) (n := 9) rfl (am_inb_n hk (by omega)), nI_clamp (by omega)]
set_option maxRecDepth 100000 in
set_option maxHeartbeats 4000000 in
theorem qs_252 {V : Nat → Nat → Value} {I : Nat → Nat → Int32} {L : Nat → Nat → Int64} {R : Nat → Nat → Option Nat} {tl : am_H} {k : Nat} {x : Int32} (hk : k < 9) : am_pS 0 (.ref 252) (nI k) x (fx V I L R ++ tl) = some (fx V (iup I 252 (upd (I 252) k x)) L R ++ tl) := ev_s (f := I 252) (n := 9) rfl (am_inb_n hk (by omega)) rfl (by rw [nI_clamp (by omega)]; rfl)
set_option maxRecDepth 100000 in
set_option maxHeartbeats 4000000 in
theorem qa_253 {V : Nat → Nat → Value} {I : Nat → Nat → Int32} {L : Nat → Nat → Int64} {R : Nat → Nat → Option Nat} {tl : am_H} {k : Nat} (hk : k < 61) : am_pA 0 (.ref 253) (nI k) (fx V I L R ++ tl) = some (I 253 k) := by rw [ev_a (f := I 253) (n := 61) rfl (am_inb_n hk (by omega)), nI_clamp (by omega)]
set_option maxRecDepth 100000 in
set_option maxHeartbeats 4000000 in
theorem qs_253 {V : Nat → Nat → Value} {I : Nat → Nat → Int32} {L : Nat → Nat → Int64} {R : Nat → Nat → Option Nat} {tl : am_H} {k : Nat} {x : Int32} (hk : k < 61) : am_pS 0 (.ref 253) (nI k) x (fx V I L R ++ tl) = some (fx V (iup I 253 (upd (I 253) k x)) L R ++ tl) := ev_s (f := I 253) (n := 61) rfl (am_inb_n hk (by omega)) rfl (by rw [nI_clamp (by omega)]; rfl)
set_option maxRecDepth 100000 in
set_option maxHeartbeats 4000000 in
theorem qa_254 {V : Nat → Nat → Value} {I : Nat → Nat → Int32} {L : Nat → Nat → Int64} {R : Nat → Nat → Option Nat} {tl : am_H} {k : Nat} (hk : k < 15) : am_pA 0 (.ref 254) (nI k) (fx V I L R ++ tl) = some (I 254 k) := by rw [ev_a (f := I 254) (n := 15) rfl (am_inb_n hk (by omega)), nI_clamp (by omega)]
set_option maxRecDepth 100000 in
set_option maxHeartbeats 4000000 in
theorem qs_254 {V : Nat → Nat → Value} {I : Nat → Nat → Int32} {L : Nat → Nat → Int64} {R : Nat → Nat → Option Nat} {tl : am_H} {k : Nat} {x : Int32} (hk : k < 15) : am_pS 0 (.ref 254) (nI k) x (fx V I L R ++ tl) = some (fx V (iup I 254 (upd (I 254) k x)) L R ++ tl) := ev_s (f := I 254) (n := 15) rfl (am_inb_n hk (by omega)) rfl (by rw [nI_clamp (by omega)]; rfl)
set_option maxRecDepth 100000 in
set_option maxHeartbeats 4000000 in
theorem qa_255 {V : Nat → Nat → Value} {I : Nat → Nat → Int32} {L : Nat → Nat → Int64} {R : Nat → Nat → Option Nat} {tl : am_H} {k : Nat} (hk : k < 36) : am_pA 0 (.ref 255) (nI k) (fx V I L R ++ tl) = some (I 255 k) := by rw [ev_a (f := I 255) (n := 36) rfl (am_inb_n hk (by omega)), nI_clamp (by omega)]
set_option maxRecDepth 100000 in
set_option maxHeartbeats 4000000 in
theorem qs_255 {V : Nat → Nat → Value} {I : Nat → Nat → Int32} {L : Nat → Nat → Int64} {R : Nat → Nat → Option Nat} {tl : am_H} {k : Nat} {x : Int32} (hk : k < 36) : am_pS 0 (.ref 255) (nI k) x (fx V I L R ++ tl) = some (fx V (iup I 255 (upd (I 255) k x)) L R ++ tl) := ev_s (f := I 255) (n := 36) rfl (am_inb_n hk (by omega)) rfl (by rw [nI_clamp (by omega)]; rfl)
set_option maxRecDepth 100000 in
set_option maxHeartbeats 4000000 in
theorem qa_256 {V : Nat → Nat → Value} {I : Nat → Nat → Int32} {L : Nat → Nat → Int64} {R : Nat → Nat → Option Nat} {tl : am_H} {k : Nat} (hk : k < 36) : am_pA 0 (.ref 256) (nI k) (fx V I L R ++ tl) = some (I 256 k) := by rw [ev_a (f := I 256) (n := 36) rfl (am_inb_n hk (by omega)), nI_clamp (by omega)]
set_option maxRecDepth 100000 in
set_option maxHeartbeats 4000000 in
theorem qs_256 {V : Nat → Nat → Value} {I : Nat → Nat → Int32} {L : Nat → Nat → Int64} {R : Nat → Nat → Option Nat} {tl : am_H} {k : Nat} {x : Int32} (hk : k < 36) : am_pS 0 (.ref 256) (nI k) x (fx V I L R ++ tl) = some (fx V (iup I 256 (upd (I 256) k x)) L R ++ tl) := ev_s (f := I 256) (n := 36) rfl (am_inb_n hk (by omega)) rfl (by rw [nI_clamp (by omega)]; rfl)
set_option maxRecDepth 100000 in
set_option maxHeartbeats 4000000 in
theorem qa_257 {V : Nat → Nat → Value} {I : Nat → Nat → Int32} {L : Nat → Nat → Int64} {R : Nat → Nat → Option Nat} {tl : am_H} {k : Nat} (hk : k < 36) : am_pA 2 (.ref 257) (nI k) (fx V I L R ++ tl) = some (I 257 k) := by rw [ev_a (f := I 257) (n := 36) rfl (am_inb_n hk (by omega)), nI_clamp (by omega)]
set_option maxRecDepth 100000 in
set_option maxHeartbeats 4000000 in
theorem qs_257 {V : Nat → Nat → Value} {I : Nat → Nat → Int32} {L : Nat → Nat → Int64} {R : Nat → Nat → Option Nat} {tl : am_H} {k : Nat} {x : Int32} (hk : k < 36) (hx : am_afit 2 x = true) : am_pS 2 (.ref 257) (nI k) x (fx V I L R ++ tl) = some (fx V (iup I 257 (upd (I 257) k x)) L R ++ tl) := ev_s (f := I 257) (n := 36) rfl (am_inb_n hk (by omega)) hx (by rw [nI_clamp (by omega)]; rfl)
set_option maxRecDepth 100000 in
set_option maxHeartbeats 4000000 in
theorem qa_258 {V : Nat → Nat → Value} {I : Nat → Nat → Int32} {L : Nat → Nat → Int64} {R : Nat → Nat → Option Nat} {tl : am_H} {k : Nat} (hk : k < 36) : am_pA 0 (.ref 258) (nI k) (fx V I L R ++ tl) = some (I 258 k) := by rw [ev_a (f := I 258) (n := 36) rfl (am_inb_n hk (by omega)), nI_clamp (by omega)]
set_option maxRecDepth 100000 in
set_option maxHeartbeats 4000000 in
theorem qs_258 {V : Nat → Nat → Value} {I : Nat → Nat → Int32} {L : Nat → Nat → Int64} {R : Nat → Nat → Option Nat} {tl : am_H} {k : Nat} {x : Int32} (hk : k < 36) : am_pS 0 (.ref 258) (nI k) x (fx V I L R ++ tl) = some (fx V (iup I 258 (upd (I 258) k x)) L R ++ tl) := ev_s (f := I 258) (n := 36) rfl (am_inb_n hk (by omega)) rfl (by rw [nI_clamp (by omega)]; rfl)
set_option maxRecDepth 100000 in
set_option maxHeartbeats 4000000 in
theorem qa_259 {V : Nat → Nat → Value} {I : Nat → Nat → Int32} {L : Nat → Nat → Int64} {R : Nat → Nat → Option Nat} {tl : am_H} {k : Nat} (hk : k < 40) : am_pA 0 (.ref 259) (nI k) (fx V I L R ++ tl) = some (I 259 k) := by rw [ev_a (f := I 259) (n := 40) rfl (am_inb_n hk (by omega)), nI_clamp (by omega)]
set_option maxRecDepth 100000 in
set_option maxHeartbeats 4000000 in
theorem qs_259 {V : Nat → Nat → Value} {I : Nat → Nat → Int32} {L : Nat → Nat → Int64} {R : Nat → Nat → Option Nat} {tl : am_H} {k : Nat} {x : Int32} (hk : k < 40) : am_pS 0 (.ref 259) (nI k) x (fx V I L R ++ tl) = some (fx V (iup I 259 (upd (I 259) k x)) L R ++ tl) := ev_s (f := I 259) (n := 40) rfl (am_inb_n hk (by omega)) rfl (by rw [nI_clamp (by omega)]; rfl)
set_option maxRecDepth 100000 in
set_option maxHeartbeats 4000000 in
theorem qa_260 {V : Nat → Nat → Value} {I : Nat → Nat → Int32} {L : Nat → Nat → Int64} {R : Nat → Nat → Option Nat} {tl : am_H} {k : Nat} (hk : k < 60) : am_pA 0 (.ref 260) (nI k) (fx V I L R ++ tl) = some (I 260 k) := by rw [ev_a (f := I 260) (n := 60) rfl (am_inb_n hk (by omega)), nI_clamp (by omega)]
set_option maxRecDepth 100000 in
set_option maxHeartbeats 4000000 in
theorem qs_260 {V : Nat → Nat → Value} {I : Nat → Nat → Int32} {L : Nat → Nat → Int64} {R : Nat → Nat → Option Nat} {tl : am_H} {k : Nat} {x : Int32} (hk : k < 60) : am_pS 0 (.ref 260) (nI k) x (fx V I L R ++ tl) = some (fx V (iup I 260 (upd (I 260) k x)) L R ++ tl) := ev_s (f := I 260) (n := 60) rfl (am_inb_n hk (by omega)) rfl (by rw [nI_clamp (by omega)]; rfl)
set_option maxRecDepth 100000 in
set_option maxHeartbeats 4000000 in
theorem qa_261 {V : Nat → Nat → Value} {I : Nat → Nat → Int32} {L : Nat → Nat → Int64} {R : Nat → Nat → Option Nat} {tl : am_H} {k : Nat} (hk : k < 60) : am_pA 0 (.ref 261) (nI k) (fx V I L R ++ tl) = some (I 261 k) := by rw [ev_a (f := I 261) (n := 60) rfl (am_inb_n hk (by omega)), nI_clamp (by omega)]
set_option maxRecDepth 100000 in
set_option maxHeartbeats 4000000 in
theorem qs_261 {V : Nat → Nat → Value} {I : Nat → Nat → Int32} {L : Nat → Nat → Int64} {R : Nat → Nat → Option Nat} {tl : am_H} {k : Nat} {x : Int32} (hk : k < 60) : am_pS 0 (.ref 261) (nI k) x (fx V I L R ++ tl) = some (fx V (iup I 261 (upd (I 261) k x)) L R ++ tl) := ev_s (f := I 261) (n := 60) rfl (am_inb_n hk (by omega)) rfl (by rw [nI_clamp (by omega)]; rfl)
set_option maxRecDepth 100000 in
set_option maxHeartbeats 4000000 in
theorem qa_262 {V : Nat → Nat → Value} {I : Nat → Nat → Int32} {L : Nat → Nat → Int64} {R : Nat → Nat → Option Nat} {tl : am_H} {k : Nat} (hk : k < 6) : am_pA 0 (.ref 262) (nI k) (fx V I L R ++ tl) = some (I 262 k) := by rw [ev_a (f := I 262) (n := 6) rfl (am_inb_n hk (by omega)), nI_clamp (by omega)]
set_option maxRecDepth 100000 in
set_option maxHeartbeats 4000000 in
theorem qs_262 {V : Nat → Nat → Value} {I : Nat → Nat → Int32} {L : Nat → Nat → Int64} {R : Nat → Nat → Option Nat} {tl : am_H} {k : Nat} {x : Int32} (hk : k < 6) : am_pS 0 (.ref 262) (nI k) x (fx V I L R ++ tl) = some (fx V (iup I 262 (upd (I 262) k x)) L R ++ tl) := ev_s (f := I 262) (n := 6) rfl (am_inb_n hk (by omega)) rfl (by rw [nI_clamp (by omega)]; rfl)
set_option maxRecDepth 100000 in
set_option maxHeartbeats 4000000 in
theorem qa_263 {V : Nat → Nat → Value} {I : Nat → Nat → Int32} {L : Nat → Nat → Int64} {R : Nat → Nat → Option Nat} {tl : am_H} {k : Nat} (hk : k < 6) : am_pA 0 (.ref 263) (nI k) (fx V I L R ++ tl) = some (I 263 k) := by rw [ev_a (f := I 263) (n := 6) rfl (am_inb_n hk (by omega)), nI_clamp (by omega)]
set_option maxRecDepth 100000 in
set_option maxHeartbeats 4000000 in
theorem qs_263 {V : Nat → Nat → Value} {I : Nat → Nat → Int32} {L : Nat → Nat → Int64} {R : Nat → Nat → Option Nat} {tl : am_H} {k : Nat} {x : Int32} (hk : k < 6) : am_pS 0 (.ref 263) (nI k) x (fx V I L R ++ tl) = some (fx V (iup I 263 (upd (I 263) k x)) L R ++ tl) := ev_s (f := I 263) (n := 6) rfl (am_inb_n hk (by omega)) rfl (by rw [nI_clamp (by omega)]; rfl)
set_option maxRecDepth 100000 in
set_option maxHeartbeats 4000000 in
theorem qa_264 {V : Nat → Nat → Value} {I : Nat → Nat → Int32} {L : Nat → Nat → Int64} {R : Nat → Nat → Option Nat} {tl : am_H} {k : Nat} (hk : k < 6) : am_pA 0 (.ref 264) (nI k) (fx V I L R ++ tl) = some (I 264 k) := by rw [ev_a (f := I 264) (n := 6) rfl (am_inb_n hk (by omega)), nI_clamp (by omega)]
set_option maxRecDepth 100000 in
set_option maxHeartbeats 4000000 in
theorem qs_264 {V : Nat → Nat → Value} {I : Nat → Nat → Int32} {L : Nat → Nat → Int64} {R : Nat → Nat → Option Nat} {tl : am_H} {k : Nat} {x : Int32} (hk : k < 6) : am_pS 0 (.ref 264) (nI k) x (fx V I L R ++ tl) = some (fx V (iup I 264 (upd (I 264) k x)) L R ++ tl) := ev_s (f := I 264) (n := 6) rfl (am_inb_n hk (by omega)) rfl (by rw [nI_clamp (by omega)]; rfl)
set_option maxRecDepth 100000 in
set_option maxHeartbeats 4000000 in
theorem qa_265 {V : Nat → Nat → Value} {I : Nat → Nat → Int32} {L : Nat → Nat → Int64} {R : Nat → Nat → Option Nat} {tl : am_H} {k : Nat} (hk : k < 6) : am_pA 0 (.ref 265) (nI k) (fx V I L R ++ tl) = some (I 265 k) := by rw [ev_a (f := I 265) (n := 6) rfl (am_inb_n hk (by omega)), nI_clamp (by omega)]
set_option maxRecDepth 100000 in
set_option maxHeartbeats 4000000 in
theorem qs_265 {V : Nat → Nat → Value} {I : Nat → Nat → Int32} {L : Nat → Nat → Int64} {R : Nat → Nat → Option Nat} {tl : am_H} {k : Nat} {x : Int32} (hk : k < 6) : am_pS 0 (.ref 265) (nI k) x (fx V I L R ++ tl) = some (fx V (iup I 265 (upd (I 265) k x)) L R ++ tl) := ev_s (f := I 265) (n := 6) rfl (am_inb_n hk (by omega)) rfl (by rw [nI_clamp (by omega)]; rfl)
set_option maxRecDepth 100000 in
set_option maxHeartbeats 4000000 in
theorem qa_266 {V : Nat → Nat → Value} {I : Nat → Nat → Int32} {L : Nat → Nat → Int64} {R : Nat → Nat → Option Nat} {tl : am_H} {k : Nat} (hk : k < 40) : am_pA 2 (.ref 266) (nI k) (fx V I L R ++ tl) = some (I 266 k) := by rw [ev_a (f := I 266) (n := 40) rfl (am_inb_n hk (by omega)), nI_clamp (by omega)]
set_option maxRecDepth 100000 in
set_option maxHeartbeats 4000000 in
theorem qs_266 {V : Nat → Nat → Value} {I : Nat → Nat → Int32} {L : Nat → Nat → Int64} {R : Nat → Nat → Option Nat} {tl : am_H} {k : Nat} {x : Int32} (hk : k < 40) (hx : am_afit 2 x = true) : am_pS 2 (.ref 266) (nI k) x (fx V I L R ++ tl) = some (fx V (iup I 266 (upd (I 266) k x)) L R ++ tl) := ev_s (f := I 266) (n := 40) rfl (am_inb_n hk (by omega)) hx (by rw [nI_clamp (by omega)]; rfl)
set_option maxRecDepth 100000 in
set_option maxHeartbeats 4000000 in
theorem qa_267 {V : Nat → Nat → Value} {I : Nat → Nat → Int32} {L : Nat → Nat → Int64} {R : Nat → Nat → Option Nat} {tl : am_H} {k : Nat} (hk : k < 8) : am_pA 0 (.ref 267) (nI k) (fx V I L R ++ tl) = some (I 267 k) := by rw [ev_a (f := I 267) (n := 8) rfl (am_inb_n hk (by omega)), nI_clamp (by omega)]
set_option maxRecDepth 100000 in
set_option maxHeartbeats 4000000 in
theorem qs_267 {V : Nat → Nat → Value} {I : Nat → Nat → Int32} {L : Nat → Nat → Int64} {R : Nat → Nat → Option Nat} {tl : am_H} {k : Nat} {x : Int32} (hk : k < 8) : am_pS 0 (.ref 267) (nI k) x (fx V I L R ++ tl) = some (fx V (iup I 267 (upd (I 267) k x)) L R ++ tl) := ev_s (f := I 267) (n := 8) rfl (am_inb_n hk (by omega)) rfl (by rw [nI_clamp (by omega)]; rfl)
set_option maxRecDepth 100000 in
set_option maxHeartbeats 4000000 in
theorem qa_268 {V : Nat → Nat → Value} {I : Nat → Nat → Int32} {L : Nat → Nat → Int64} {R : Nat → Nat → Option Nat} {tl : am_H} {k : Nat} (hk : k < 1) : am_pAL (.ref 268) (nI k) (fx V I L R ++ tl) = some (L 268 k) := by rw [ev_aL (f := L 268) (n := 1) rfl (am_inb_n hk (by omega)), nI_clamp (by omega)]
set_option maxRecDepth 100000 in
set_option maxHeartbeats 4000000 in
theorem qs_268 {V : Nat → Nat → Value} {I : Nat → Nat → Int32} {L : Nat → Nat → Int64} {R : Nat → Nat → Option Nat} {tl : am_H} {k : Nat} {x : Int64} (hk : k < 1) : am_pSL (.ref 268) (nI k) x (fx V I L R ++ tl) = some (fx V I (lup L 268 (vp_updL (L 268) k x)) R ++ tl) := ev_sL (f := L 268) (n := 1) rfl (am_inb_n hk (by omega)) (by rw [nI_clamp (by omega)]; rfl)
/-- the scalar fields that are ints, and those that are longs -/
def fI : Nat → List Nat
  | 0 => [1, 12, 13]
  | 2 => [1, 2, 3, 8]
  | 5 => [7]
  | 14 => [1]
  | 16 => [0, 1, 2, 3, 6, 7, 8, 10, 11, 12, 14]
  | 17 => [7]
  | 27 => [0, 1, 2, 3, 6, 7, 8, 10, 11, 12, 14]
  | 28 => [7]
  | 40 => [0, 3]
  | 49 => [0, 3]
  | 58 => [0, 3]
  | 67 => [0, 3]
  | 76 => [6, 8]
  | 79 => [7]
  | 89 => [7, 8, 9, 11, 12]
  | 90 => [1, 2, 3, 4, 5, 6, 7, 8, 9]
  | 92 => [1, 2, 3, 4, 5, 6, 7, 8, 9]
  | 94 => [7]
  | 102 => [7]
  | 110 => [7]
  | 118 => [2, 6]
  | 121 => [7]
  | 129 => [1, 2, 3, 4, 5, 6, 7, 8, 9]
  | 131 => [3]
  | 132 => [7]
  | 141 => [1, 2, 3, 4, 5, 6, 7, 8, 9]
  | 148 => [1, 2, 3, 4, 5, 6, 7, 8, 9]
  | 150 => [1, 2, 3, 4, 5, 6, 7, 8, 9]
  | 152 => [1, 2, 3, 4, 5, 6, 7, 8, 9]
  | 154 => [1, 2, 3, 4, 5, 6, 7, 8, 9]
  | 156 => [1, 2, 3, 4, 5, 6, 7, 8, 9]
  | 158 => [1, 2, 3, 4, 5, 6, 7, 8, 9]
  | 160 => [1, 2, 3, 4, 5, 6, 7, 8, 9]
  | 162 => [1, 2, 3, 4, 5, 6, 7, 8, 9]
  | 167 => [1, 2, 3, 4, 5, 6, 7, 8, 9]
  | 169 => [1, 2, 3, 4, 5, 6, 7, 8, 9]
  | 174 => [0, 1, 13, 14, 15, 18, 19, 20, 23, 31, 40, 48, 49, 50, 51, 52, 53, 54, 56, 57, 58, 59, 65, 66, 68, 69, 70, 72, 73, 77, 78, 80, 88, 93, 94, 95, 97, 105, 108, 115, 121, 131]
  | _ => []
def fL : Nat → List Nat
  | 14 => [4, 5]
  | 42 => [0]
  | 51 => [0]
  | 60 => [0]
  | 69 => [0]
  | 90 => [10]
  | 92 => [10]
  | 129 => [10]
  | 141 => [10]
  | 148 => [10]
  | 150 => [10]
  | 152 => [10]
  | 154 => [10]
  | 156 => [10]
  | 158 => [10]
  | 160 => [10]
  | 162 => [10]
  | 167 => [10]
  | 169 => [10]
  | 173 => [0]
  | 174 => [91, 92, 96]
  | _ => []
