def am_ms1 : List am_M := am_ms_0.drop 1 ++ (am_ms_1 ++ (am_ms_2 ++ (am_ms_3 ++ (am_ms_4 ++ (am_ms_5 ++ (am_ms_6 ++ (am_ms_7 ++ (am_ms_8 ++ (am_ms_9 ++ (am_ms_10 ++ (am_ms_11)))))))))))
theorem am_ms1_e : am_ms = am_m0 :: am_ms1 := rfl
set_option maxRecDepth 100000 in
theorem am_mw_all : ∀ m ∈ am_ms1, am_mw m := sorry
set_option maxRecDepth 100000 in
theorem am_ms_len : am_ms.length = 589 := sorry
theorem am_m_in {r : Nat} (h : (Nat.ble 1 r && Nat.blt r 589) = true) : am_m r ∈ am_ms1 := sorry