def am_ms1 : List am_M := am_ms_0.drop 1 ++ (am_ms_1 ++ (am_ms_2 ++ (am_ms_3 ++ (am_ms_4 ++ (am_ms_5 ++ (am_ms_6 ++ (am_ms_7 ++ (am_ms_8 ++ (am_ms_9 ++ (am_ms_10 ++ (am_ms_11)))))))))))
theorem am_ms1_e : am_ms = am_m0 :: am_ms1 := rfl
set_option maxRecDepth 100000 in
theorem am_mw_all : ∀ m ∈ am_ms1, am_mw m := by
  intro m hm
  have hms : m ∈ am_ms := by rw [am_ms1_e]; exact List.mem_cons_of_mem _ hm
  have key : ∃ q, am_mwb m q = true := by
    have hm2 := hm
    simp only [am_ms1, List.mem_append] at hm2
    rcases hm2 with h | h | h | h | h | h | h | h | h | h | h | h
    · exact am_zip (f := am_mwb) (by decide) am_mwk_0 m h
    · exact am_zip (f := am_mwb) (by decide) am_mwk_1 m h
    · exact am_zip (f := am_mwb) (by decide) am_mwk_2 m h
    · exact am_zip (f := am_mwb) (by decide) am_mwk_3 m h
    · exact am_zip (f := am_mwb) (by decide) am_mwk_4 m h
    · exact am_zip (f := am_mwb) (by decide) am_mwk_5 m h
    · exact am_zip (f := am_mwb) (by decide) am_mwk_6 m h
    · exact am_zip (f := am_mwb) (by decide) am_mwk_7 m h
    · exact am_zip (f := am_mwb) (by decide) am_mwk_8 m h
    · exact am_zip (f := am_mwb) (by decide) am_mwk_9 m h
    · exact am_zip (f := am_mwb) (by decide) am_mwk_10 m h
    · exact am_zip (f := am_mwb) (by decide) am_mwk_11 m h
  obtain ⟨q, hq⟩ := key
  exact am_mwb_ok hms hq
set_option maxRecDepth 100000 in
theorem am_ms_len : am_ms.length = 589 := by decide +kernel
theorem am_m_in {r : Nat} (h : (Nat.ble 1 r && Nat.blt r 589) = true) : am_m r ∈ am_ms1 := by
  rw [Bool.and_eq_true, Nat.ble_eq, Nat.blt_eq] at h
  have hl := am_ms_len
  rw [am_ms1_e, List.length_cons] at hl
  unfold am_m
  rw [am_ms1_e]
  obtain ⟨k, rfl⟩ : ∃ k, r = k + 1 := ⟨r - 1, by omega⟩
  have hk : k < am_ms1.length := by omega
  rw [List.getD_eq_getElem?_getD, List.getElem?_cons_succ, List.getElem?_eq_getElem hk]
  exact List.getElem_mem hk
