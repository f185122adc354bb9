/-! ===== methods that read and write nothing ===== -/
/-- BreedingHouse.isTruth(I)Z -/
def pv_11 (y0 : Int32) : Int32 := (if y0 = 9 then 1 else (if y0 < 15 then 0 else (if 18 < y0 then 0 else 1)))
theorem pe_11 (y0 : Int32) (h : am_H) : fm_11 y0 h = some (.inl (some (.int (pv_11 y0)), h)) := by
  simp only [fm_11, fg_11_0, fg_11_18, fg_11_22, fg_11_23, pv_11]
  by_cases c1 : y0 = 9
  · rw [if_pos c1, if_pos c1]
    all_goals rfl
  · rw [if_neg c1, if_neg c1]
    by_cases c2 : y0 < 15
    · rw [if_pos c2, if_pos c2]
      all_goals rfl
    · rw [if_neg c2, if_neg c2]
      by_cases c3 : 18 < y0
      · rw [if_pos c3, if_pos c3]
        all_goals rfl
      · rw [if_neg c3, if_neg c3]
        all_goals rfl
/-- BreedingHouse$Ranks.allowed(II)Z -/
def pv_10 (y0 : Int32) (y1 : Int32) : Int32 := (if ¬ (y0 - y0 / 2 * 2) = 1 then (if ¬ (pv_11 y1) = 0 then 0 else (if ((y0 / 2) * 2) = 2 then (if ((y0 / 2) * 2) = 0 then 1 else (if y1 = 19 then 0 else 1)) else (if y1 = 5 then 0 else (if y1 = 6 then 0 else (if ((y0 / 2) * 2) = 0 then 1 else (if y1 = 19 then 0 else 1)))))) else (if ¬ (pv_11 y1) = 1 then 0 else (if ((y0 / 2) * 2) = 2 then (if ((y0 / 2) * 2) = 0 then 1 else (if y1 = 19 then 0 else 1)) else (if y1 = 5 then 0 else (if y1 = 6 then 0 else (if ((y0 / 2) * 2) = 0 then 1 else (if y1 = 19 then 0 else 1)))))))
theorem pe_10 (y0 : Int32) (y1 : Int32) (h : am_H) : fm_10 y0 y1 h = some (.inl (some (.int (pv_10 y0 y1)), h)) := by
  simp only [fm_10, fg_10_0, fg_10_22, fg_10_41, fg_10_51, fg_10_55, fg_10_56, pv_10]
  refine ev_cI (pe_11 y1 h) ?_
  by_cases c1 : ¬ (y0 - y0 / 2 * 2) = 1
  · rw [if_pos c1, if_pos c1]
    by_cases c2 : ¬ (pv_11 y1) = 0
    · rw [if_pos c2, if_pos c2]
      all_goals rfl
    · rw [if_neg c2, if_neg c2]
      by_cases c3 : ((y0 / 2) * 2) = 2
      · rw [if_pos c3, if_pos c3]
        by_cases c4 : ((y0 / 2) * 2) = 0
        · rw [if_pos c4, if_pos c4]
          all_goals rfl
        · rw [if_neg c4, if_neg c4]
          by_cases c5 : y1 = 19
          · rw [if_pos c5, if_pos c5]
            all_goals rfl
          · rw [if_neg c5, if_neg c5]
            all_goals rfl
      · rw [if_neg c3, if_neg c3]
        by_cases c6 : y1 = 5
        · rw [if_pos c6, if_pos c6]
          all_goals rfl
        · rw [if_neg c6, if_neg c6]
          by_cases c7 : y1 = 6
          · rw [if_pos c7, if_pos c7]
            all_goals rfl
          · rw [if_neg c7, if_neg c7]
            by_cases c8 : ((y0 / 2) * 2) = 0
            · rw [if_pos c8, if_pos c8]
              all_goals rfl
            · rw [if_neg c8, if_neg c8]
              by_cases c9 : y1 = 19
              · rw [if_pos c9, if_pos c9]
                all_goals rfl
              · rw [if_neg c9, if_neg c9]
                all_goals rfl
  · rw [if_neg c1, if_neg c1]
    by_cases c10 : ¬ (pv_11 y1) = 1
    · rw [if_pos c10, if_pos c10]
      all_goals rfl
    · rw [if_neg c10, if_neg c10]
      by_cases c11 : ((y0 / 2) * 2) = 2
      · rw [if_pos c11, if_pos c11]
        by_cases c12 : ((y0 / 2) * 2) = 0
        · rw [if_pos c12, if_pos c12]
          all_goals rfl
        · rw [if_neg c12, if_neg c12]
          by_cases c13 : y1 = 19
          · rw [if_pos c13, if_pos c13]
            all_goals rfl
          · rw [if_neg c13, if_neg c13]
            all_goals rfl
      · rw [if_neg c11, if_neg c11]
        by_cases c14 : y1 = 5
        · rw [if_pos c14, if_pos c14]
          all_goals rfl
        · rw [if_neg c14, if_neg c14]
          by_cases c15 : y1 = 6
          · rw [if_pos c15, if_pos c15]
            all_goals rfl
          · rw [if_neg c15, if_neg c15]
            by_cases c16 : ((y0 / 2) * 2) = 0
            · rw [if_pos c16, if_pos c16]
              all_goals rfl
            · rw [if_neg c16, if_neg c16]
              by_cases c17 : y1 = 19
              · rw [if_pos c17, if_pos c17]
                all_goals rfl
              · rw [if_neg c17, if_neg c17]
                all_goals rfl
/-- BreedingHouse.wantsTruth(II)Z -/
def pv_13 (y0 : Int32) (y1 : Int32) : Int32 := (if y0 = 9 then 1 else (if y0 = 17 then 1 else (if y0 = 18 then 1 else (if ¬ y0 = 20 then 0 else (if ¬ y1 = 0 then 0 else 1)))))
theorem pe_13 (y0 : Int32) (y1 : Int32) (h : am_H) : fm_13 y0 y1 h = some (.inl (some (.int (pv_13 y0 y1)), h)) := by
  simp only [fm_13, fg_13_0, fg_13_28, fg_13_32, fg_13_33, pv_13]
  by_cases c1 : y0 = 9
  · rw [if_pos c1, if_pos c1]
    all_goals rfl
  · rw [if_neg c1, if_neg c1]
    by_cases c2 : y0 = 17
    · rw [if_pos c2, if_pos c2]
      all_goals rfl
    · rw [if_neg c2, if_neg c2]
      by_cases c3 : y0 = 18
      · rw [if_pos c3, if_pos c3]
        all_goals rfl
      · rw [if_neg c3, if_neg c3]
        by_cases c4 : ¬ y0 = 20
        · rw [if_pos c4, if_pos c4]
          all_goals rfl
        · rw [if_neg c4, if_neg c4]
          by_cases c5 : ¬ y1 = 0
          · rw [if_pos c5, if_pos c5]
            all_goals rfl
          · rw [if_neg c5, if_neg c5]
            all_goals rfl
/-- BreedingHouse$Ranks.partContext(III)I -/
def pv_12 (y0 : Int32) (y1 : Int32) (y2 : Int32) : Int32 := (if ¬ y1 = 19 then (if (pv_13 y1 y2) = 0 then ((y0 / 2) * 2) else (((y0 / 2) * 2) + 1)) else (if ¬ y2 = 1 then (if (pv_13 y1 y2) = 0 then ((y0 / 2) * 2) else (((y0 / 2) * 2) + 1)) else (if (pv_13 y1 y2) = 0 then 2 else (2 + 1 : Int32))))
theorem pe_12 (y0 : Int32) (y1 : Int32) (y2 : Int32) (h : am_H) : fm_12 y0 y1 y2 h = some (.inl (some (.int (pv_12 y0 y1 y2)), h)) := by
  simp only [fm_12, fg_12_0, fg_12_15, fg_12_20, fg_12_36, pv_12]
  by_cases c1 : ¬ y1 = 19
  · rw [if_pos c1, if_pos c1]
    refine ev_cI (pe_13 y1 y2 h) ?_
    by_cases c2 : (pv_13 y1 y2) = 0
    · rw [if_pos c2, if_pos c2]
      all_goals rfl
    · rw [if_neg c2, if_neg c2]
      all_goals rfl
  · rw [if_neg c1, if_neg c1]
    by_cases c3 : ¬ y2 = 1
    · rw [if_pos c3, if_pos c3]
      refine ev_cI (pe_13 y1 y2 h) ?_
      by_cases c4 : (pv_13 y1 y2) = 0
      · rw [if_pos c4, if_pos c4]
        all_goals rfl
      · rw [if_neg c4, if_neg c4]
        all_goals rfl
    · rw [if_neg c3, if_neg c3]
      refine ev_cI (pe_13 y1 y2 h) ?_
      by_cases c5 : (pv_13 y1 y2) = 0
      · rw [if_pos c5, if_pos c5]
        all_goals rfl
      · rw [if_neg c5, if_neg c5]
        all_goals rfl
/-- BreedingHouse.partsOf(I)I -/
def pv_14 (y0 : Int32) : Int32 := (if 7 ≤ y0 then (if 10 ≤ y0 then (if 20 ≤ y0 then 3 else 2) else 1) else 0)
theorem pe_14 (y0 : Int32) (h : am_H) : fm_14 y0 h = some (.inl (some (.int (pv_14 y0)), h)) := by
  simp only [fm_14, fg_14_0, fg_14_31, pv_14]
  by_cases c1 : 7 ≤ y0
  · rw [if_pos c1, if_pos c1]
    by_cases c2 : 10 ≤ y0
    · rw [if_pos c2, if_pos c2]
      by_cases c3 : 20 ≤ y0
      · rw [if_pos c3, if_pos c3]
        all_goals rfl
      · rw [if_neg c3, if_neg c3]
        all_goals rfl
    · rw [if_neg c2, if_neg c2]
      all_goals rfl
  · rw [if_neg c1, if_neg c1]
    all_goals rfl
/-- BreedingHouse$Texts.isDigit(C)Z -/
def pv_45 (y0 : Int32) : Int32 := (if y0 < 48 then 0 else (if 57 < y0 then 0 else 1))
theorem pe_45 (y0 : Int32) (h : am_H) : fm_45 y0 h = some (.inl (some (.int (pv_45 y0)), h)) := by
  simp only [fm_45, fg_45_0, fg_45_16, fg_45_17, pv_45]
  by_cases c1 : y0 < 48
  · rw [if_pos c1, if_pos c1]
    all_goals rfl
  · rw [if_neg c1, if_neg c1]
    by_cases c2 : 57 < y0
    · rw [if_pos c2, if_pos c2]
      all_goals rfl
    · rw [if_neg c2, if_neg c2]
      all_goals rfl
/-- BreedingHouse$Shape.grows(I)I -/
def pv_55 (y0 : Int32) : Int32 := (if y0 ≤ 4 then 1 else (if ¬ y0 = 14 then (if y0 < 7 then (if y0 = 16 then (-1) else (if ¬ y0 = 18 then 0 else (-1))) else (if y0 ≤ 13 then (-1) else (if y0 = 16 then (-1) else (if ¬ y0 = 18 then 0 else (-1))))) else 1))
theorem pe_55 (y0 : Int32) (h : am_H) : fm_55 y0 h = some (.inl (some (.int (pv_55 y0)), h)) := by
  simp only [fm_55, fg_55_0, fg_55_11, fg_55_25, fg_55_37, fg_55_42, pv_55]
  by_cases c1 : y0 ≤ 4
  · rw [if_pos c1, if_pos c1]
    all_goals rfl
  · rw [if_neg c1, if_neg c1]
    by_cases c2 : ¬ y0 = 14
    · rw [if_pos c2, if_pos c2]
      by_cases c3 : y0 < 7
      · rw [if_pos c3, if_pos c3]
        by_cases c4 : y0 = 16
        · rw [if_pos c4, if_pos c4]
          all_goals rfl
        · rw [if_neg c4, if_neg c4]
          by_cases c5 : ¬ y0 = 18
          · rw [if_pos c5, if_pos c5]
            all_goals rfl
          · rw [if_neg c5, if_neg c5]
            all_goals rfl
      · rw [if_neg c3, if_neg c3]
        by_cases c6 : y0 ≤ 13
        · rw [if_pos c6, if_pos c6]
          all_goals rfl
        · rw [if_neg c6, if_neg c6]
          by_cases c7 : y0 = 16
          · rw [if_pos c7, if_pos c7]
            all_goals rfl
          · rw [if_neg c7, if_neg c7]
            by_cases c8 : ¬ y0 = 18
            · rw [if_pos c8, if_pos c8]
              all_goals rfl
            · rw [if_neg c8, if_neg c8]
              all_goals rfl
    · rw [if_neg c2, if_neg c2]
      all_goals rfl
/-- BreedingHouse$Shape.needs(I)I -/
def pv_56 (y0 : Int32) : Int32 := (if y0 ≤ 4 then 0 else (if ¬ y0 = 17 then (if y0 < 7 then (if ¬ y0 = 15 then 1 else 2) else (if y0 ≤ 13 then 2 else (if ¬ y0 = 15 then 1 else 2))) else 0))
theorem pe_56 (y0 : Int32) (h : am_H) : fm_56 y0 h = some (.inl (some (.int (pv_56 y0)), h)) := by
  simp only [fm_56, fg_56_0, fg_56_11, fg_56_25, fg_56_31, fg_56_36, pv_56]
  by_cases c1 : y0 ≤ 4
  · rw [if_pos c1, if_pos c1]
    all_goals rfl
  · rw [if_neg c1, if_neg c1]
    by_cases c2 : ¬ y0 = 17
    · rw [if_pos c2, if_pos c2]
      by_cases c3 : y0 < 7
      · rw [if_pos c3, if_pos c3]
        by_cases c4 : ¬ y0 = 15
        · rw [if_pos c4, if_pos c4]
          all_goals rfl
        · rw [if_neg c4, if_neg c4]
          all_goals rfl
      · rw [if_neg c3, if_neg c3]
        by_cases c5 : y0 ≤ 13
        · rw [if_pos c5, if_pos c5]
          all_goals rfl
        · rw [if_neg c5, if_neg c5]
          by_cases c6 : ¬ y0 = 15
          · rw [if_pos c6, if_pos c6]
            all_goals rfl
          · rw [if_neg c6, if_neg c6]
            all_goals rfl
    · rw [if_neg c2, if_neg c2]
      all_goals rfl
/-- BreedingHouseModel.in(JJJ)Z -/
def pv_327 (y0 : Int64) (y1 : Int64) (y2 : Int64) : Int32 := (if (lg_cmp y0 y1) < 0 then 0 else (if 0 < (lg_cmp y0 y2) then 0 else 1))
theorem pe_327 (y0 : Int64) (y1 : Int64) (y2 : Int64) (h : am_H) : fm_327 y0 y1 y2 h = some (.inl (some (.int (pv_327 y0 y1 y2)), h)) := by
  simp only [fm_327, fg_327_0, fg_327_17, fg_327_18, pv_327]
  by_cases c1 : (lg_cmp y0 y1) < 0
  · rw [if_pos c1, if_pos c1]
    all_goals rfl
  · rw [if_neg c1, if_neg c1]
    by_cases c2 : 0 < (lg_cmp y0 y2)
    · rw [if_pos c2, if_pos c2]
      all_goals rfl
    · rw [if_neg c2, if_neg c2]
      all_goals rfl
/-- BreedingHouseModel.wantsTruth(II)Z -/
def pv_330 (y0 : Int32) (y1 : Int32) : Int32 := (if y0 = 9 then 1 else (if y0 = 17 then 1 else (if y0 = 18 then 1 else (if ¬ y0 = 20 then 0 else (if ¬ y1 = 0 then 0 else 1)))))
theorem pe_330 (y0 : Int32) (y1 : Int32) (h : am_H) : fm_330 y0 y1 h = some (.inl (some (.int (pv_330 y0 y1)), h)) := by
  simp only [fm_330, fg_330_0, fg_330_28, fg_330_32, fg_330_33, pv_330]
  by_cases c1 : y0 = 9
  · rw [if_pos c1, if_pos c1]
    all_goals rfl
  · rw [if_neg c1, if_neg c1]
    by_cases c2 : y0 = 17
    · rw [if_pos c2, if_pos c2]
      all_goals rfl
    · rw [if_neg c2, if_neg c2]
      by_cases c3 : y0 = 18
      · rw [if_pos c3, if_pos c3]
        all_goals rfl
      · rw [if_neg c3, if_neg c3]
        by_cases c4 : ¬ y0 = 20
        · rw [if_pos c4, if_pos c4]
          all_goals rfl
        · rw [if_neg c4, if_neg c4]
          by_cases c5 : ¬ y1 = 0
          · rw [if_pos c5, if_pos c5]
            all_goals rfl
          · rw [if_neg c5, if_neg c5]
            all_goals rfl
/-- BreedingHouseModel.treeSort(I)I -/
def pv_333 (y0 : Int32) : Int32 := (if y0 = 33 then 9 else (if y0 = 35 then 8 else (if y0 = 37 then 14 else (if y0 = 38 then 17 else (if y0 = 42 then 12 else (if y0 = 43 then 10 else (if y0 = 45 then 11 else (if y0 = 47 then 13 else (if y0 = 60 then 15 else (if y0 = 61 then 16 else (if y0 = 63 then 20 else (if y0 = 64 then 19 else (if y0 = 124 then 18 else (if y0 = 126 then 7 else (-1)))))))))))))))
theorem pe_333 (y0 : Int32) (h : am_H) : fm_333 y0 h = some (.inl (some (.int (pv_333 y0)), h)) := by
  simp only [fm_333, fg_333_0, pv_333]
  by_cases c1 : y0 = 33
  · rw [if_pos c1, if_pos c1]
    all_goals rfl
  · rw [if_neg c1, if_neg c1]
    by_cases c2 : y0 = 35
    · rw [if_pos c2, if_pos c2]
      all_goals rfl
    · rw [if_neg c2, if_neg c2]
      by_cases c3 : y0 = 37
      · rw [if_pos c3, if_pos c3]
        all_goals rfl
      · rw [if_neg c3, if_neg c3]
        by_cases c4 : y0 = 38
        · rw [if_pos c4, if_pos c4]
          all_goals rfl
        · rw [if_neg c4, if_neg c4]
          by_cases c5 : y0 = 42
          · rw [if_pos c5, if_pos c5]
            all_goals rfl
          · rw [if_neg c5, if_neg c5]
            by_cases c6 : y0 = 43
            · rw [if_pos c6, if_pos c6]
              all_goals rfl
            · rw [if_neg c6, if_neg c6]
              by_cases c7 : y0 = 45
              · rw [if_pos c7, if_pos c7]
                all_goals rfl
              · rw [if_neg c7, if_neg c7]
                by_cases c8 : y0 = 47
                · rw [if_pos c8, if_pos c8]
                  all_goals rfl
                · rw [if_neg c8, if_neg c8]
                  by_cases c9 : y0 = 60
                  · rw [if_pos c9, if_pos c9]
                    all_goals rfl
                  · rw [if_neg c9, if_neg c9]
                    by_cases c10 : y0 = 61
                    · rw [if_pos c10, if_pos c10]
                      all_goals rfl
                    · rw [if_neg c10, if_neg c10]
                      by_cases c11 : y0 = 63
                      · rw [if_pos c11, if_pos c11]
                        all_goals rfl
                      · rw [if_neg c11, if_neg c11]
                        by_cases c12 : y0 = 64
                        · rw [if_pos c12, if_pos c12]
                          all_goals rfl
                        · rw [if_neg c12, if_neg c12]
                          by_cases c13 : y0 = 124
                          · rw [if_pos c13, if_pos c13]
                            all_goals rfl
                          · rw [if_neg c13, if_neg c13]
                            by_cases c14 : y0 = 126
                            · rw [if_pos c14, if_pos c14]
                              all_goals rfl
                            · rw [if_neg c14, if_neg c14]
                              all_goals rfl
/-- BreedingHouseModel.isTruth(I)Z -/
def pv_334 (y0 : Int32) : Int32 := (if y0 = 9 then 1 else (if y0 < 15 then 0 else (if 18 < y0 then 0 else 1)))
theorem pe_334 (y0 : Int32) (h : am_H) : fm_334 y0 h = some (.inl (some (.int (pv_334 y0)), h)) := by
  simp only [fm_334, fg_334_0, fg_334_18, fg_334_22, fg_334_23, pv_334]
  by_cases c1 : y0 = 9
  · rw [if_pos c1, if_pos c1]
    all_goals rfl
  · rw [if_neg c1, if_neg c1]
    by_cases c2 : y0 < 15
    · rw [if_pos c2, if_pos c2]
      all_goals rfl
    · rw [if_neg c2, if_neg c2]
      by_cases c3 : 18 < y0
      · rw [if_pos c3, if_pos c3]
        all_goals rfl
      · rw [if_neg c3, if_neg c3]
        all_goals rfl
/-- BreedingHouseModel.leafSort(I)I -/
def pv_338 (y0 : Int32) : Int32 := (if ¬ y0 = 120 then (if ¬ y0 = 121 then (if ¬ y0 = 122 then (if ¬ y0 = 110 then (if ¬ y0 = 115 then (if ¬ y0 = 101 then (-1) else 6) else 5) else 4) else 3) else 2) else 1)
theorem pe_338 (y0 : Int32) (h : am_H) : fm_338 y0 h = some (.inl (some (.int (pv_338 y0)), h)) := by
  simp only [fm_338, fg_338_0, fg_338_62, pv_338]
  by_cases c1 : ¬ y0 = 120
  · rw [if_pos c1, if_pos c1]
    by_cases c2 : ¬ y0 = 121
    · rw [if_pos c2, if_pos c2]
      by_cases c3 : ¬ y0 = 122
      · rw [if_pos c3, if_pos c3]
        by_cases c4 : ¬ y0 = 110
        · rw [if_pos c4, if_pos c4]
          by_cases c5 : ¬ y0 = 115
          · rw [if_pos c5, if_pos c5]
            by_cases c6 : ¬ y0 = 101
            · rw [if_pos c6, if_pos c6]
              all_goals rfl
            · rw [if_neg c6, if_neg c6]
              all_goals rfl
          · rw [if_neg c5, if_neg c5]
            all_goals rfl
        · rw [if_neg c4, if_neg c4]
          all_goals rfl
      · rw [if_neg c3, if_neg c3]
        all_goals rfl
    · rw [if_neg c2, if_neg c2]
      all_goals rfl
  · rw [if_neg c1, if_neg c1]
    all_goals rfl
/-- BreedingHouseModel.arity(I)I -/
def pv_343 (y0 : Int32) : Int32 := (if 7 ≤ y0 then (if 10 ≤ y0 then (if 20 ≤ y0 then 3 else 2) else 1) else 0)
theorem pe_343 (y0 : Int32) (h : am_H) : fm_343 y0 h = some (.inl (some (.int (pv_343 y0)), h)) := by
  simp only [fm_343, fg_343_0, fg_343_31, pv_343]
  by_cases c1 : 7 ≤ y0
  · rw [if_pos c1, if_pos c1]
    by_cases c2 : 10 ≤ y0
    · rw [if_pos c2, if_pos c2]
      by_cases c3 : 20 ≤ y0
      · rw [if_pos c3, if_pos c3]
        all_goals rfl
      · rw [if_neg c3, if_neg c3]
        all_goals rfl
    · rw [if_neg c2, if_neg c2]
      all_goals rfl
  · rw [if_neg c1, if_neg c1]
    all_goals rfl
/-- BreedingHouseModel.codeSort(I)I -/
def pv_346 (y0 : Int32) : Int32 := (if y0 = 35 then 6 else (if y0 = 37 then 11 else (if y0 = 42 then 9 else (if y0 = 43 then 7 else (if y0 = 45 then 8 else (if y0 = 47 then 10 else (if y0 = 60 then 12 else (if y0 = 61 then 13 else (if y0 = 98 then 18 else (if y0 = 100 then 14 else (if y0 = 106 then 17 else (if y0 = 110 then 4 else (if y0 = 111 then 16 else (if y0 = 119 then 15 else (if y0 = 120 then 1 else (if y0 = 121 then 2 else (if y0 = 122 then 3 else (if y0 = 126 then 5 else (-1)))))))))))))))))))
theorem pe_346 (y0 : Int32) (h : am_H) : fm_346 y0 h = some (.inl (some (.int (pv_346 y0)), h)) := by
  simp only [fm_346, fg_346_0, pv_346]
  by_cases c1 : y0 = 35
  · rw [if_pos c1, if_pos c1]
    all_goals rfl
  · rw [if_neg c1, if_neg c1]
    by_cases c2 : y0 = 37
    · rw [if_pos c2, if_pos c2]
      all_goals rfl
    · rw [if_neg c2, if_neg c2]
      by_cases c3 : y0 = 42
      · rw [if_pos c3, if_pos c3]
        all_goals rfl
      · rw [if_neg c3, if_neg c3]
        by_cases c4 : y0 = 43
        · rw [if_pos c4, if_pos c4]
          all_goals rfl
        · rw [if_neg c4, if_neg c4]
          by_cases c5 : y0 = 45
          · rw [if_pos c5, if_pos c5]
            all_goals rfl
          · rw [if_neg c5, if_neg c5]
            by_cases c6 : y0 = 47
            · rw [if_pos c6, if_pos c6]
              all_goals rfl
            · rw [if_neg c6, if_neg c6]
              by_cases c7 : y0 = 60
              · rw [if_pos c7, if_pos c7]
                all_goals rfl
              · rw [if_neg c7, if_neg c7]
                by_cases c8 : y0 = 61
                · rw [if_pos c8, if_pos c8]
                  all_goals rfl
                · rw [if_neg c8, if_neg c8]
                  by_cases c9 : y0 = 98
                  · rw [if_pos c9, if_pos c9]
                    all_goals rfl
                  · rw [if_neg c9, if_neg c9]
                    by_cases c10 : y0 = 100
                    · rw [if_pos c10, if_pos c10]
                      all_goals rfl
                    · rw [if_neg c10, if_neg c10]
                      by_cases c11 : y0 = 106
                      · rw [if_pos c11, if_pos c11]
                        all_goals rfl
                      · rw [if_neg c11, if_neg c11]
                        by_cases c12 : y0 = 110
                        · rw [if_pos c12, if_pos c12]
                          all_goals rfl
                        · rw [if_neg c12, if_neg c12]
                          by_cases c13 : y0 = 111
                          · rw [if_pos c13, if_pos c13]
                            all_goals rfl
                          · rw [if_neg c13, if_neg c13]
                            by_cases c14 : y0 = 119
                            · rw [if_pos c14, if_pos c14]
                              all_goals rfl
                            · rw [if_neg c14, if_neg c14]
                              by_cases c15 : y0 = 120
                              · rw [if_pos c15, if_pos c15]
                                all_goals rfl
                              · rw [if_neg c15, if_neg c15]
                                by_cases c16 : y0 = 121
                                · rw [if_pos c16, if_pos c16]
                                  all_goals rfl
                                · rw [if_neg c16, if_neg c16]
                                  by_cases c17 : y0 = 122
                                  · rw [if_pos c17, if_pos c17]
                                    all_goals rfl
                                  · rw [if_neg c17, if_neg c17]
                                    by_cases c18 : y0 = 126
                                    · rw [if_pos c18, if_pos c18]
                                      all_goals rfl
                                    · rw [if_neg c18, if_neg c18]
                                      all_goals rfl
/-- BreedingHouseModel.takes(I)I -/
def pv_348 (y0 : Int32) : Int32 := (if 5 ≤ y0 then (if 7 ≤ y0 then (if 14 ≤ y0 then (if ¬ y0 = 15 then (if ¬ y0 = 17 then 1 else 0) else 2) else 2) else 1) else 0)
theorem pe_348 (y0 : Int32) (h : am_H) : fm_348 y0 h = some (.inl (some (.int (pv_348 y0)), h)) := by
  simp only [fm_348, fg_348_0, fg_348_50, pv_348]
  by_cases c1 : 5 ≤ y0
  · rw [if_pos c1, if_pos c1]
    by_cases c2 : 7 ≤ y0
    · rw [if_pos c2, if_pos c2]
      by_cases c3 : 14 ≤ y0
      · rw [if_pos c3, if_pos c3]
        by_cases c4 : ¬ y0 = 15
        · rw [if_pos c4, if_pos c4]
          by_cases c5 : ¬ y0 = 17
          · rw [if_pos c5, if_pos c5]
            all_goals rfl
          · rw [if_neg c5, if_neg c5]
            all_goals rfl
        · rw [if_neg c4, if_neg c4]
          all_goals rfl
      · rw [if_neg c3, if_neg c3]
        all_goals rfl
    · rw [if_neg c2, if_neg c2]
      all_goals rfl
  · rw [if_neg c1, if_neg c1]
    all_goals rfl
/-- BreedingHouseModel.puts(I)I -/
def pv_349 (y0 : Int32) : Int32 := (if 14 ≤ y0 then (if 16 ≤ y0 then 0 else 2) else 1)
theorem pe_349 (y0 : Int32) (h : am_H) : fm_349 y0 h = some (.inl (some (.int (pv_349 y0)), h)) := by
  simp only [fm_349, fg_349_0, fg_349_21, pv_349]
  by_cases c1 : 14 ≤ y0
  · rw [if_pos c1, if_pos c1]
    by_cases c2 : 16 ≤ y0
    · rw [if_pos c2, if_pos c2]
      all_goals rfl
    · rw [if_neg c2, if_neg c2]
      all_goals rfl
  · rw [if_neg c1, if_neg c1]
    all_goals rfl
/-- BreedingHouseModel.withEdge(III)I -/
def pv_353 (y0 : Int32) (y1 : Int32) (y2 : Int32) : Int32 := ((y0 &&& ((7 <<< ((3 * y1) &&& 31)) ^^^ (-1))) ||| (y2 <<< ((3 * y1) &&& 31)))
theorem pe_353 (y0 : Int32) (y1 : Int32) (y2 : Int32) (h : am_H) : fm_353 y0 y1 y2 h = some (.inl (some (.int (pv_353 y0 y1 y2)), h)) := by
  simp only [fm_353, fg_353_0, pv_353]
  all_goals rfl
/-- java/lang/Math.abs(I)I -/
def pv_67 (y0 : Int32) : Int32 := (if 0 ≤ y0 then y0 else (-y0))
theorem pe_67 (y0 : Int32) (h : am_H) : fm_67 y0 h = some (.inl (some (.int (pv_67 y0)), h)) := by
  simp only [fm_67, fg_67_0, fg_67_10, pv_67]
  by_cases c1 : 0 ≤ y0
  · rw [if_pos c1, if_pos c1]
    all_goals rfl
  · rw [if_neg c1, if_neg c1]
    all_goals rfl
/-- BreedingHouseModel.treeSign(I)I -/
def pv_364 (y0 : Int32) : Int32 := (if y0 = 1 then 120 else (if y0 = 2 then 121 else (if y0 = 3 then 122 else (if y0 = 4 then 110 else (if y0 = 5 then 115 else (if y0 = 6 then 101 else (if y0 = 7 then 126 else (if y0 = 8 then 35 else (if y0 = 9 then 33 else (if y0 = 10 then 43 else (if y0 = 11 then 45 else (if y0 = 12 then 42 else (if y0 = 13 then 47 else (if y0 = 14 then 37 else (if y0 = 15 then 60 else (if y0 = 16 then 61 else (if y0 = 17 then 38 else (if y0 = 18 then 124 else (if y0 = 19 then 64 else 63)))))))))))))))))))
theorem pe_364 (y0 : Int32) (h : am_H) : fm_364 y0 h = some (.inl (some (.int (pv_364 y0)), h)) := by
  simp only [fm_364, fg_364_0, pv_364]
  by_cases c1 : y0 = 1
  · rw [if_pos c1, if_pos c1]
    all_goals rfl
  · rw [if_neg c1, if_neg c1]
    by_cases c2 : y0 = 2
    · rw [if_pos c2, if_pos c2]
      all_goals rfl
    · rw [if_neg c2, if_neg c2]
      by_cases c3 : y0 = 3
      · rw [if_pos c3, if_pos c3]
        all_goals rfl
      · rw [if_neg c3, if_neg c3]
        by_cases c4 : y0 = 4
        · rw [if_pos c4, if_pos c4]
          all_goals rfl
        · rw [if_neg c4, if_neg c4]
          by_cases c5 : y0 = 5
          · rw [if_pos c5, if_pos c5]
            all_goals rfl
          · rw [if_neg c5, if_neg c5]
            by_cases c6 : y0 = 6
            · rw [if_pos c6, if_pos c6]
              all_goals rfl
            · rw [if_neg c6, if_neg c6]
              by_cases c7 : y0 = 7
              · rw [if_pos c7, if_pos c7]
                all_goals rfl
              · rw [if_neg c7, if_neg c7]
                by_cases c8 : y0 = 8
                · rw [if_pos c8, if_pos c8]
                  all_goals rfl
                · rw [if_neg c8, if_neg c8]
                  by_cases c9 : y0 = 9
                  · rw [if_pos c9, if_pos c9]
                    all_goals rfl
                  · rw [if_neg c9, if_neg c9]
                    by_cases c10 : y0 = 10
                    · rw [if_pos c10, if_pos c10]
                      all_goals rfl
                    · rw [if_neg c10, if_neg c10]
                      by_cases c11 : y0 = 11
                      · rw [if_pos c11, if_pos c11]
                        all_goals rfl
                      · rw [if_neg c11, if_neg c11]
                        by_cases c12 : y0 = 12
                        · rw [if_pos c12, if_pos c12]
                          all_goals rfl
                        · rw [if_neg c12, if_neg c12]
                          by_cases c13 : y0 = 13
                          · rw [if_pos c13, if_pos c13]
                            all_goals rfl
                          · rw [if_neg c13, if_neg c13]
                            by_cases c14 : y0 = 14
                            · rw [if_pos c14, if_pos c14]
                              all_goals rfl
                            · rw [if_neg c14, if_neg c14]
                              by_cases c15 : y0 = 15
                              · rw [if_pos c15, if_pos c15]
                                all_goals rfl
                              · rw [if_neg c15, if_neg c15]
                                by_cases c16 : y0 = 16
                                · rw [if_pos c16, if_pos c16]
                                  all_goals rfl
                                · rw [if_neg c16, if_neg c16]
                                  by_cases c17 : y0 = 17
                                  · rw [if_pos c17, if_pos c17]
                                    all_goals rfl
                                  · rw [if_neg c17, if_neg c17]
                                    by_cases c18 : y0 = 18
                                    · rw [if_pos c18, if_pos c18]
                                      all_goals rfl
                                    · rw [if_neg c18, if_neg c18]
                                      by_cases c19 : y0 = 19
                                      · rw [if_pos c19, if_pos c19]
                                        all_goals rfl
                                      · rw [if_neg c19, if_neg c19]
                                        all_goals rfl
/-- BreedingHouseModel.codeSign(I)I -/
def pv_366 (y0 : Int32) : Int32 := (if y0 = 5 then 126 else (if y0 = 6 then 35 else (if y0 = 14 then 100 else (if y0 = 15 then 119 else (if y0 = 16 then 111 else (if y0 = 17 then 106 else (if y0 = 18 then 98 else (if 5 ≤ y0 then (pv_364 (y0 + 3)) else (pv_364 y0)))))))))
theorem pe_366 (y0 : Int32) (h : am_H) : fm_366 y0 h = some (.inl (some (.int (pv_366 y0)), h)) := by
  simp only [fm_366, fg_366_0, fg_366_93, fg_366_105, pv_366]
  by_cases c1 : y0 = 5
  · rw [if_pos c1, if_pos c1]
    all_goals rfl
  · rw [if_neg c1, if_neg c1]
    by_cases c2 : y0 = 6
    · rw [if_pos c2, if_pos c2]
      all_goals rfl
    · rw [if_neg c2, if_neg c2]
      by_cases c3 : y0 = 14
      · rw [if_pos c3, if_pos c3]
        all_goals rfl
      · rw [if_neg c3, if_neg c3]
        by_cases c4 : y0 = 15
        · rw [if_pos c4, if_pos c4]
          all_goals rfl
        · rw [if_neg c4, if_neg c4]
          by_cases c5 : y0 = 16
          · rw [if_pos c5, if_pos c5]
            all_goals rfl
          · rw [if_neg c5, if_neg c5]
            by_cases c6 : y0 = 17
            · rw [if_pos c6, if_pos c6]
              all_goals rfl
            · rw [if_neg c6, if_neg c6]
              by_cases c7 : y0 = 18
              · rw [if_pos c7, if_pos c7]
                all_goals rfl
              · rw [if_neg c7, if_neg c7]
                by_cases c8 : 5 ≤ y0
                · rw [if_pos c8, if_pos c8]
                  refine ev_cI (pe_364 (y0 + 3) h) ?_
                  all_goals rfl
                · rw [if_neg c8, if_neg c8]
                  refine ev_cI (pe_364 y0 h) ?_
                  all_goals rfl
/-- BreedingHouseModel.edge(II)I -/
def pv_367 (y0 : Int32) (y1 : Int32) : Int32 := ((y0 >>> ((3 * y1) &&& 31)) &&& 7)
theorem pe_367 (y0 : Int32) (y1 : Int32) (h : am_H) : fm_367 y0 y1 h = some (.inl (some (.int (pv_367 y0 y1)), h)) := by
  simp only [fm_367, fg_367_0, pv_367]
  all_goals rfl
/-- java/lang/Math.min(II)I -/
def pv_38 (y0 : Int32) (y1 : Int32) : Int32 := (if y1 < y0 then y1 else y0)
theorem pe_38 (y0 : Int32) (y1 : Int32) (h : am_H) : fm_38 y0 y1 h = some (.inl (some (.int (pv_38 y0 y1)), h)) := by
  simp only [fm_38, fg_38_0, fg_38_10, pv_38]
  by_cases c1 : y1 < y0
  · rw [if_pos c1, if_pos c1]
    all_goals rfl
  · rw [if_neg c1, if_neg c1]
    all_goals rfl
/-- java/lang/Math.max(II)I -/
def pv_37 (y0 : Int32) (y1 : Int32) : Int32 := (if y0 < y1 then y1 else y0)
theorem pe_37 (y0 : Int32) (y1 : Int32) (h : am_H) : fm_37 y0 y1 h = some (.inl (some (.int (pv_37 y0 y1)), h)) := by
  simp only [fm_37, fg_37_0, fg_37_10, pv_37]
  by_cases c1 : y0 < y1
  · rw [if_pos c1, if_pos c1]
    all_goals rfl
  · rw [if_neg c1, if_neg c1]
    all_goals rfl
/-- BreedingHouseModel.isIn(II)Z -/
def pv_379 (y0 : Int32) (y1 : Int32) : Int32 := (if ¬ y0 = 0 then (if ¬ y0 = 1 then (if y1 = 5 then 0 else (if y1 = 6 then 0 else (if y1 = 19 then 0 else 1))) else (if y1 = 19 then 0 else 1)) else (if y1 = 5 then 0 else (if y1 = 6 then 0 else 1)))
theorem pe_379 (y0 : Int32) (y1 : Int32) (h : am_H) : fm_379 y0 y1 h = some (.inl (some (.int (pv_379 y0 y1)), h)) := by
  simp only [fm_379, fg_379_0, fg_379_19, fg_379_63, fg_379_64, pv_379]
  by_cases c1 : ¬ y0 = 0
  · rw [if_pos c1, if_pos c1]
    by_cases c2 : ¬ y0 = 1
    · rw [if_pos c2, if_pos c2]
      by_cases c3 : y1 = 5
      · rw [if_pos c3, if_pos c3]
        all_goals rfl
      · rw [if_neg c3, if_neg c3]
        by_cases c4 : y1 = 6
        · rw [if_pos c4, if_pos c4]
          all_goals rfl
        · rw [if_neg c4, if_neg c4]
          by_cases c5 : y1 = 19
          · rw [if_pos c5, if_pos c5]
            all_goals rfl
          · rw [if_neg c5, if_neg c5]
            all_goals rfl
    · rw [if_neg c2, if_neg c2]
      by_cases c6 : y1 = 19
      · rw [if_pos c6, if_pos c6]
        all_goals rfl
      · rw [if_neg c6, if_neg c6]
        all_goals rfl
  · rw [if_neg c1, if_neg c1]
    by_cases c7 : y1 = 5
    · rw [if_pos c7, if_pos c7]
      all_goals rfl
    · rw [if_neg c7, if_neg c7]
      by_cases c8 : y1 = 6
      · rw [if_pos c8, if_pos c8]
        all_goals rfl
      · rw [if_neg c8, if_neg c8]
        all_goals rfl
/-- BreedingHouseModel.partWay(III)I -/
def pv_381 (y0 : Int32) (y1 : Int32) (y2 : Int32) : Int32 := (if ¬ y1 = 19 then y0 else (if ¬ y2 = 1 then y0 else 1))
theorem pe_381 (y0 : Int32) (y1 : Int32) (y2 : Int32) (h : am_H) : fm_381 y0 y1 y2 h = some (.inl (some (.int (pv_381 y0 y1 y2)), h)) := by
  simp only [fm_381, fg_381_0, fg_381_15, fg_381_16, pv_381]
  by_cases c1 : ¬ y1 = 19
  · rw [if_pos c1, if_pos c1]
    all_goals rfl
  · rw [if_neg c1, if_neg c1]
    by_cases c2 : ¬ y2 = 1
    · rw [if_pos c2, if_pos c2]
      all_goals rfl
    · rw [if_neg c2, if_neg c2]
      all_goals rfl
/-- BreedingHouseModel.truthOf(II)I -/
def pv_382 (y0 : Int32) (y1 : Int32) : Int32 := (if (pv_330 y0 y1) = 0 then 0 else 1)
theorem pe_382 (y0 : Int32) (y1 : Int32) (h : am_H) : fm_382 y0 y1 h = some (.inl (some (.int (pv_382 y0 y1)), h)) := by
  simp only [fm_382, fg_382_0, fg_382_13, pv_382]
  refine ev_cI (pe_330 y0 y1 h) ?_
  by_cases c1 : (pv_330 y0 y1) = 0
  · rw [if_pos c1, if_pos c1]
    all_goals rfl
  · rw [if_neg c1, if_neg c1]
    all_goals rfl
/-- java/lang/Math.abs(J)J -/
def pv_135 (y0 : Int64) : Int64 := (if 0 ≤ (lg_cmp y0 0) then y0 else (-y0))
theorem pe_135 (y0 : Int64) (h : am_H) : fm_135 y0 h = some (.inl (some (.long (pv_135 y0)), h)) := by
  simp only [fm_135, fg_135_0, fg_135_12, pv_135]
  by_cases c1 : 0 ≤ (lg_cmp y0 0)
  · rw [if_pos c1, if_pos c1]
    all_goals rfl
  · rw [if_neg c1, if_neg c1]
    all_goals rfl
/-- java/lang/Math.min(JJ)J -/
def pv_136 (y0 : Int64) (y1 : Int64) : Int64 := (if 0 < (lg_cmp y0 y1) then y1 else y0)
theorem pe_136 (y0 : Int64) (y1 : Int64) (h : am_H) : fm_136 y0 y1 h = some (.inl (some (.long (pv_136 y0 y1)), h)) := by
  simp only [fm_136, fg_136_0, fg_136_11, pv_136]
  by_cases c1 : 0 < (lg_cmp y0 y1)
  · rw [if_pos c1, if_pos c1]
    all_goals rfl
  · rw [if_neg c1, if_neg c1]
    all_goals rfl
/-- BreedingHouse$Judge.gap(II)I -/
def pv_134 (y0 : Int32) (y1 : Int32) : Int32 := (Int64.toInt32 (pv_136 (pv_135 ((Int32.toInt64 y0) - (Int32.toInt64 y1))) 1000000))
theorem pe_134 (y0 : Int32) (y1 : Int32) (h : am_H) : fm_134 y0 y1 h = some (.inl (some (.int (pv_134 y0 y1)), h)) := by
  simp only [fm_134, fg_134_0, pv_134]
  refine ev_cL (pe_135 ((Int32.toInt64 y0) - (Int32.toInt64 y1)) h) ?_
  refine ev_cL (pe_136 (pv_135 ((Int32.toInt64 y0) - (Int32.toInt64 y1))) 1000000 h) ?_
  all_goals rfl
/-- BreedingHouseModel.apart(II)J -/
def pv_426 (y0 : Int32) (y1 : Int32) : Int64 := (if 0 ≤ (lg_cmp ((Int32.toInt64 y0) - (Int32.toInt64 y1)) 0) then (if (lg_cmp ((Int32.toInt64 y0) - (Int32.toInt64 y1)) 1000000) ≤ 0 then ((Int32.toInt64 y0) - (Int32.toInt64 y1)) else 1000000) else (if (lg_cmp (-((Int32.toInt64 y0) - (Int32.toInt64 y1))) 1000000) ≤ 0 then (-((Int32.toInt64 y0) - (Int32.toInt64 y1))) else 1000000))
theorem pe_426 (y0 : Int32) (y1 : Int32) (h : am_H) : fm_426 y0 y1 h = some (.inl (some (.long (pv_426 y0 y1)), h)) := by
  simp only [fm_426, fg_426_0, fg_426_18, fg_426_34, pv_426]
  by_cases c1 : 0 ≤ (lg_cmp ((Int32.toInt64 y0) - (Int32.toInt64 y1)) 0)
  · rw [if_pos c1, if_pos c1]
    by_cases c2 : (lg_cmp ((Int32.toInt64 y0) - (Int32.toInt64 y1)) 1000000) ≤ 0
    · rw [if_pos c2, if_pos c2]
      all_goals rfl
    · rw [if_neg c2, if_neg c2]
      all_goals rfl
  · rw [if_neg c1, if_neg c1]
    by_cases c3 : (lg_cmp (-((Int32.toInt64 y0) - (Int32.toInt64 y1))) 1000000) ≤ 0
    · rw [if_pos c3, if_pos c3]
      all_goals rfl
    · rw [if_neg c3, if_neg c3]
      all_goals rfl
/-- java/lang/Long.compare(JJ)I -/
def pv_151 (y0 : Int64) (y1 : Int64) : Int32 := (if 0 ≤ (lg_cmp y0 y1) then (if ¬ (lg_cmp y0 y1) = 0 then 1 else 0) else (-1))
theorem pe_151 (y0 : Int64) (y1 : Int64) (h : am_H) : fm_151 y0 y1 h = some (.inl (some (.int (pv_151 y0 y1)), h)) := by
  simp only [fm_151, fg_151_0, fg_151_21, pv_151]
  by_cases c1 : 0 ≤ (lg_cmp y0 y1)
  · rw [if_pos c1, if_pos c1]
    by_cases c2 : ¬ (lg_cmp y0 y1) = 0
    · rw [if_pos c2, if_pos c2]
      all_goals rfl
    · rw [if_neg c2, if_neg c2]
      all_goals rfl
  · rw [if_neg c1, if_neg c1]
    all_goals rfl
/-- java/lang/Integer.compare(II)I -/
def pv_152 (y0 : Int32) (y1 : Int32) : Int32 := (if y1 ≤ y0 then (if ¬ y0 = y1 then 1 else 0) else (-1))
theorem pe_152 (y0 : Int32) (y1 : Int32) (h : am_H) : fm_152 y0 y1 h = some (.inl (some (.int (pv_152 y0 y1)), h)) := by
  simp only [fm_152, fg_152_0, fg_152_19, pv_152]
  by_cases c1 : y1 ≤ y0
  · rw [if_pos c1, if_pos c1]
    by_cases c2 : ¬ y0 = y1
    · rw [if_pos c2, if_pos c2]
      all_goals rfl
    · rw [if_neg c2, if_neg c2]
      all_goals rfl
  · rw [if_neg c1, if_neg c1]
    all_goals rfl
/-- BreedingHouse$Changer.family(I)I -/
def pv_174 (y0 : Int32) : Int32 := (if 4 < y0 then (if 6 < y0 then (if 13 < y0 then 3 else 2) else 1) else 0)
theorem pe_174 (y0 : Int32) (h : am_H) : fm_174 y0 h = some (.inl (some (.int (pv_174 y0)), h)) := by
  simp only [fm_174, fg_174_0, fg_174_30, pv_174]
  by_cases c1 : 4 < y0
  · rw [if_pos c1, if_pos c1]
    by_cases c2 : 6 < y0
    · rw [if_pos c2, if_pos c2]
      by_cases c3 : 13 < y0
      · rw [if_pos c3, if_pos c3]
        all_goals rfl
      · rw [if_neg c3, if_neg c3]
        all_goals rfl
    · rw [if_neg c2, if_neg c2]
      all_goals rfl
  · rw [if_neg c1, if_neg c1]
    all_goals rfl
/-- BreedingHouseModel.codeGroup(I)I -/
def pv_454 (y0 : Int32) : Int32 := (if 5 ≤ y0 then (if 7 ≤ y0 then (if 14 ≤ y0 then (3 + y0) else 2) else 1) else 0)
theorem pe_454 (y0 : Int32) (h : am_H) : fm_454 y0 h = some (.inl (some (.int (pv_454 y0)), h)) := by
  simp only [fm_454, fg_454_0, fg_454_32, pv_454]
  by_cases c1 : 5 ≤ y0
  · rw [if_pos c1, if_pos c1]
    by_cases c2 : 7 ≤ y0
    · rw [if_pos c2, if_pos c2]
      by_cases c3 : 14 ≤ y0
      · rw [if_pos c3, if_pos c3]
        all_goals rfl
      · rw [if_neg c3, if_neg c3]
        all_goals rfl
    · rw [if_neg c2, if_neg c2]
      all_goals rfl
  · rw [if_neg c1, if_neg c1]
    all_goals rfl
/-- java/lang/Integer.bitCount(I)I -/
def pv_242 (y0 : Int32) : Int32 := ((((((((y0 - (((Int32.toUInt32 y0 >>> (Int32.toUInt32 1 &&& Int32.toUInt32 31)).toInt32) &&& 1431655765)) &&& 858993459) + (((Int32.toUInt32 (y0 - (((Int32.toUInt32 y0 >>> (Int32.toUInt32 1 &&& Int32.toUInt32 31)).toInt32) &&& 1431655765)) >>> (Int32.toUInt32 2 &&& Int32.toUInt32 31)).toInt32) &&& 858993459)) + ((Int32.toUInt32 (((y0 - (((Int32.toUInt32 y0 >>> (Int32.toUInt32 1 &&& Int32.toUInt32 31)).toInt32) &&& 1431655765)) &&& 858993459) + (((Int32.toUInt32 (y0 - (((Int32.toUInt32 y0 >>> (Int32.toUInt32 1 &&& Int32.toUInt32 31)).toInt32) &&& 1431655765)) >>> (Int32.toUInt32 2 &&& Int32.toUInt32 31)).toInt32) &&& 858993459)) >>> (Int32.toUInt32 4 &&& Int32.toUInt32 31)).toInt32)) &&& 252645135) + ((Int32.toUInt32 (((((y0 - (((Int32.toUInt32 y0 >>> (Int32.toUInt32 1 &&& Int32.toUInt32 31)).toInt32) &&& 1431655765)) &&& 858993459) + (((Int32.toUInt32 (y0 - (((Int32.toUInt32 y0 >>> (Int32.toUInt32 1 &&& Int32.toUInt32 31)).toInt32) &&& 1431655765)) >>> (Int32.toUInt32 2 &&& Int32.toUInt32 31)).toInt32) &&& 858993459)) + ((Int32.toUInt32 (((y0 - (((Int32.toUInt32 y0 >>> (Int32.toUInt32 1 &&& Int32.toUInt32 31)).toInt32) &&& 1431655765)) &&& 858993459) + (((Int32.toUInt32 (y0 - (((Int32.toUInt32 y0 >>> (Int32.toUInt32 1 &&& Int32.toUInt32 31)).toInt32) &&& 1431655765)) >>> (Int32.toUInt32 2 &&& Int32.toUInt32 31)).toInt32) &&& 858993459)) >>> (Int32.toUInt32 4 &&& Int32.toUInt32 31)).toInt32)) &&& 252645135) >>> (Int32.toUInt32 8 &&& Int32.toUInt32 31)).toInt32)) + ((Int32.toUInt32 ((((((y0 - (((Int32.toUInt32 y0 >>> (Int32.toUInt32 1 &&& Int32.toUInt32 31)).toInt32) &&& 1431655765)) &&& 858993459) + (((Int32.toUInt32 (y0 - (((Int32.toUInt32 y0 >>> (Int32.toUInt32 1 &&& Int32.toUInt32 31)).toInt32) &&& 1431655765)) >>> (Int32.toUInt32 2 &&& Int32.toUInt32 31)).toInt32) &&& 858993459)) + ((Int32.toUInt32 (((y0 - (((Int32.toUInt32 y0 >>> (Int32.toUInt32 1 &&& Int32.toUInt32 31)).toInt32) &&& 1431655765)) &&& 858993459) + (((Int32.toUInt32 (y0 - (((Int32.toUInt32 y0 >>> (Int32.toUInt32 1 &&& Int32.toUInt32 31)).toInt32) &&& 1431655765)) >>> (Int32.toUInt32 2 &&& Int32.toUInt32 31)).toInt32) &&& 858993459)) >>> (Int32.toUInt32 4 &&& Int32.toUInt32 31)).toInt32)) &&& 252645135) + ((Int32.toUInt32 (((((y0 - (((Int32.toUInt32 y0 >>> (Int32.toUInt32 1 &&& Int32.toUInt32 31)).toInt32) &&& 1431655765)) &&& 858993459) + (((Int32.toUInt32 (y0 - (((Int32.toUInt32 y0 >>> (Int32.toUInt32 1 &&& Int32.toUInt32 31)).toInt32) &&& 1431655765)) >>> (Int32.toUInt32 2 &&& Int32.toUInt32 31)).toInt32) &&& 858993459)) + ((Int32.toUInt32 (((y0 - (((Int32.toUInt32 y0 >>> (Int32.toUInt32 1 &&& Int32.toUInt32 31)).toInt32) &&& 1431655765)) &&& 858993459) + (((Int32.toUInt32 (y0 - (((Int32.toUInt32 y0 >>> (Int32.toUInt32 1 &&& Int32.toUInt32 31)).toInt32) &&& 1431655765)) >>> (Int32.toUInt32 2 &&& Int32.toUInt32 31)).toInt32) &&& 858993459)) >>> (Int32.toUInt32 4 &&& Int32.toUInt32 31)).toInt32)) &&& 252645135) >>> (Int32.toUInt32 8 &&& Int32.toUInt32 31)).toInt32)) >>> (Int32.toUInt32 16 &&& Int32.toUInt32 31)).toInt32)) &&& 63)
theorem pe_242 (y0 : Int32) (h : am_H) : fm_242 y0 h = some (.inl (some (.int (pv_242 y0)), h)) := by
  simp only [fm_242, fg_242_0, pv_242]
  all_goals rfl
/-- java/lang/Math.max(JJ)J -/
def pv_249 (y0 : Int64) (y1 : Int64) : Int64 := (if (lg_cmp y0 y1) < 0 then y1 else y0)
theorem pe_249 (y0 : Int64) (y1 : Int64) (h : am_H) : fm_249 y0 y1 h = some (.inl (some (.long (pv_249 y0 y1)), h)) := by
  simp only [fm_249, fg_249_0, fg_249_11, pv_249]
  by_cases c1 : (lg_cmp y0 y1) < 0
  · rw [if_pos c1, if_pos c1]
    all_goals rfl
  · rw [if_neg c1, if_neg c1]
    all_goals rfl
/-- BreedingHouse$Turner.exchanged(III)I -/
def pv_292 (y0 : Int32) (y1 : Int32) (y2 : Int32) : Int32 := (if ((y0 >>> (y1 &&& 31)) &&& 1) ≤ ((y0 >>> (y2 &&& 31)) &&& 1) then y0 else (y0 ^^^ ((1 <<< (y1 &&& 31)) ||| (1 <<< (y2 &&& 31)))))
theorem pe_292 (y0 : Int32) (y1 : Int32) (y2 : Int32) (h : am_H) : fm_292 y0 y1 y2 h = some (.inl (some (.int (pv_292 y0 y1 y2)), h)) := by
  simp only [fm_292, fg_292_0, fg_292_26, pv_292]
  by_cases c1 : ((y0 >>> (y1 &&& 31)) &&& 1) ≤ ((y0 >>> (y2 &&& 31)) &&& 1)
  · rw [if_pos c1, if_pos c1]
    all_goals rfl
  · rw [if_neg c1, if_neg c1]
    all_goals rfl
/-- BreedingHouseModel.shorterHow(I)I -/
def pv_579 (y0 : Int32) : Int32 := (if ¬ y0 = 1 then (if ¬ y0 = 3 then 3 else 1) else 2)
theorem pe_579 (y0 : Int32) (h : am_H) : fm_579 y0 h = some (.inl (some (.int (pv_579 y0)), h)) := by
  simp only [fm_579, fg_579_0, fg_579_19, pv_579]
  by_cases c1 : ¬ y0 = 1
  · rw [if_pos c1, if_pos c1]
    by_cases c2 : ¬ y0 = 3
    · rw [if_pos c2, if_pos c2]
      all_goals rfl
    · rw [if_neg c2, if_neg c2]
      all_goals rfl
  · rw [if_neg c1, if_neg c1]
    all_goals rfl
