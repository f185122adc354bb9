/-! ===== methods that read and write nothing ===== -/
/-- BreedingHouse.isTruth(I)Z -/
def pv_11 (y0 : Int32) : Int32 := (if y0 = 9 then 1 else (if y0 < 15 then 0 else (if 18 < y0 then 0 else 1)))
theorem pe_11 (y0 : Int32) (h : am_H) : fm_11 y0 h = some (.inl (some (.int (pv_11 y0)), h)) := sorry
/-- BreedingHouse$Ranks.allowed(II)Z -/
def pv_10 (y0 : Int32) (y1 : Int32) : Int32 := (if ¬ (y0 - y0 / 2 * 2) = 1 then (if ¬ (pv_11 y1) = 0 then 0 else (if ((y0 / 2) * 2) = 2 then (if ((y0 / 2) * 2) = 0 then 1 else (if y1 = 19 then 0 else 1)) else (if y1 = 5 then 0 else (if y1 = 6 then 0 else (if ((y0 / 2) * 2) = 0 then 1 else (if y1 = 19 then 0 else 1)))))) else (if ¬ (pv_11 y1) = 1 then 0 else (if ((y0 / 2) * 2) = 2 then (if ((y0 / 2) * 2) = 0 then 1 else (if y1 = 19 then 0 else 1)) else (if y1 = 5 then 0 else (if y1 = 6 then 0 else (if ((y0 / 2) * 2) = 0 then 1 else (if y1 = 19 then 0 else 1)))))))
theorem pe_10 (y0 : Int32) (y1 : Int32) (h : am_H) : fm_10 y0 y1 h = some (.inl (some (.int (pv_10 y0 y1)), h)) := sorry
/-- BreedingHouse.wantsTruth(II)Z -/
def pv_13 (y0 : Int32) (y1 : Int32) : Int32 := (if y0 = 9 then 1 else (if y0 = 17 then 1 else (if y0 = 18 then 1 else (if ¬ y0 = 20 then 0 else (if ¬ y1 = 0 then 0 else 1)))))
theorem pe_13 (y0 : Int32) (y1 : Int32) (h : am_H) : fm_13 y0 y1 h = some (.inl (some (.int (pv_13 y0 y1)), h)) := sorry
/-- BreedingHouse$Ranks.partContext(III)I -/
def pv_12 (y0 : Int32) (y1 : Int32) (y2 : Int32) : Int32 := (if ¬ y1 = 19 then (if (pv_13 y1 y2) = 0 then ((y0 / 2) * 2) else (((y0 / 2) * 2) + 1)) else (if ¬ y2 = 1 then (if (pv_13 y1 y2) = 0 then ((y0 / 2) * 2) else (((y0 / 2) * 2) + 1)) else (if (pv_13 y1 y2) = 0 then 2 else (2 + 1 : Int32))))
theorem pe_12 (y0 : Int32) (y1 : Int32) (y2 : Int32) (h : am_H) : fm_12 y0 y1 y2 h = some (.inl (some (.int (pv_12 y0 y1 y2)), h)) := sorry
/-- BreedingHouse.partsOf(I)I -/
def pv_14 (y0 : Int32) : Int32 := (if 7 ≤ y0 then (if 10 ≤ y0 then (if 20 ≤ y0 then 3 else 2) else 1) else 0)
theorem pe_14 (y0 : Int32) (h : am_H) : fm_14 y0 h = some (.inl (some (.int (pv_14 y0)), h)) := sorry
/-- BreedingHouse$Texts.isDigit(C)Z -/
def pv_45 (y0 : Int32) : Int32 := (if y0 < 48 then 0 else (if 57 < y0 then 0 else 1))
theorem pe_45 (y0 : Int32) (h : am_H) : fm_45 y0 h = some (.inl (some (.int (pv_45 y0)), h)) := sorry
/-- BreedingHouse$Shape.grows(I)I -/
def pv_55 (y0 : Int32) : Int32 := (if y0 ≤ 4 then 1 else (if ¬ y0 = 14 then (if y0 < 7 then (if y0 = 16 then (-1) else (if ¬ y0 = 18 then 0 else (-1))) else (if y0 ≤ 13 then (-1) else (if y0 = 16 then (-1) else (if ¬ y0 = 18 then 0 else (-1))))) else 1))
theorem pe_55 (y0 : Int32) (h : am_H) : fm_55 y0 h = some (.inl (some (.int (pv_55 y0)), h)) := sorry
/-- BreedingHouse$Shape.needs(I)I -/
def pv_56 (y0 : Int32) : Int32 := (if y0 ≤ 4 then 0 else (if ¬ y0 = 17 then (if y0 < 7 then (if ¬ y0 = 15 then 1 else 2) else (if y0 ≤ 13 then 2 else (if ¬ y0 = 15 then 1 else 2))) else 0))
theorem pe_56 (y0 : Int32) (h : am_H) : fm_56 y0 h = some (.inl (some (.int (pv_56 y0)), h)) := sorry
/-- BreedingHouseModel.in(JJJ)Z -/
def pv_327 (y0 : Int64) (y1 : Int64) (y2 : Int64) : Int32 := (if (lg_cmp y0 y1) < 0 then 0 else (if 0 < (lg_cmp y0 y2) then 0 else 1))
theorem pe_327 (y0 : Int64) (y1 : Int64) (y2 : Int64) (h : am_H) : fm_327 y0 y1 y2 h = some (.inl (some (.int (pv_327 y0 y1 y2)), h)) := sorry
/-- BreedingHouseModel.wantsTruth(II)Z -/
def pv_330 (y0 : Int32) (y1 : Int32) : Int32 := (if y0 = 9 then 1 else (if y0 = 17 then 1 else (if y0 = 18 then 1 else (if ¬ y0 = 20 then 0 else (if ¬ y1 = 0 then 0 else 1)))))
theorem pe_330 (y0 : Int32) (y1 : Int32) (h : am_H) : fm_330 y0 y1 h = some (.inl (some (.int (pv_330 y0 y1)), h)) := sorry
/-- BreedingHouseModel.treeSort(I)I -/
def pv_333 (y0 : Int32) : Int32 := (if y0 = 33 then 9 else (if y0 = 35 then 8 else (if y0 = 37 then 14 else (if y0 = 38 then 17 else (if y0 = 42 then 12 else (if y0 = 43 then 10 else (if y0 = 45 then 11 else (if y0 = 47 then 13 else (if y0 = 60 then 15 else (if y0 = 61 then 16 else (if y0 = 63 then 20 else (if y0 = 64 then 19 else (if y0 = 124 then 18 else (if y0 = 126 then 7 else (-1)))))))))))))))
theorem pe_333 (y0 : Int32) (h : am_H) : fm_333 y0 h = some (.inl (some (.int (pv_333 y0)), h)) := sorry
/-- BreedingHouseModel.isTruth(I)Z -/
def pv_334 (y0 : Int32) : Int32 := (if y0 = 9 then 1 else (if y0 < 15 then 0 else (if 18 < y0 then 0 else 1)))
theorem pe_334 (y0 : Int32) (h : am_H) : fm_334 y0 h = some (.inl (some (.int (pv_334 y0)), h)) := sorry
/-- BreedingHouseModel.leafSort(I)I -/
def pv_338 (y0 : Int32) : Int32 := (if ¬ y0 = 120 then (if ¬ y0 = 121 then (if ¬ y0 = 122 then (if ¬ y0 = 110 then (if ¬ y0 = 115 then (if ¬ y0 = 101 then (-1) else 6) else 5) else 4) else 3) else 2) else 1)
theorem pe_338 (y0 : Int32) (h : am_H) : fm_338 y0 h = some (.inl (some (.int (pv_338 y0)), h)) := sorry
/-- BreedingHouseModel.arity(I)I -/
def pv_343 (y0 : Int32) : Int32 := (if 7 ≤ y0 then (if 10 ≤ y0 then (if 20 ≤ y0 then 3 else 2) else 1) else 0)
theorem pe_343 (y0 : Int32) (h : am_H) : fm_343 y0 h = some (.inl (some (.int (pv_343 y0)), h)) := sorry
/-- BreedingHouseModel.codeSort(I)I -/
def pv_346 (y0 : Int32) : Int32 := (if y0 = 35 then 6 else (if y0 = 37 then 11 else (if y0 = 42 then 9 else (if y0 = 43 then 7 else (if y0 = 45 then 8 else (if y0 = 47 then 10 else (if y0 = 60 then 12 else (if y0 = 61 then 13 else (if y0 = 98 then 18 else (if y0 = 100 then 14 else (if y0 = 106 then 17 else (if y0 = 110 then 4 else (if y0 = 111 then 16 else (if y0 = 119 then 15 else (if y0 = 120 then 1 else (if y0 = 121 then 2 else (if y0 = 122 then 3 else (if y0 = 126 then 5 else (-1)))))))))))))))))))
theorem pe_346 (y0 : Int32) (h : am_H) : fm_346 y0 h = some (.inl (some (.int (pv_346 y0)), h)) := sorry
/-- BreedingHouseModel.takes(I)I -/
def pv_348 (y0 : Int32) : Int32 := (if 5 ≤ y0 then (if 7 ≤ y0 then (if 14 ≤ y0 then (if ¬ y0 = 15 then (if ¬ y0 = 17 then 1 else 0) else 2) else 2) else 1) else 0)
theorem pe_348 (y0 : Int32) (h : am_H) : fm_348 y0 h = some (.inl (some (.int (pv_348 y0)), h)) := sorry
/-- BreedingHouseModel.puts(I)I -/
def pv_349 (y0 : Int32) : Int32 := (if 14 ≤ y0 then (if 16 ≤ y0 then 0 else 2) else 1)
theorem pe_349 (y0 : Int32) (h : am_H) : fm_349 y0 h = some (.inl (some (.int (pv_349 y0)), h)) := sorry
/-- BreedingHouseModel.withEdge(III)I -/
def pv_353 (y0 : Int32) (y1 : Int32) (y2 : Int32) : Int32 := ((y0 &&& ((7 <<< ((3 * y1) &&& 31)) ^^^ (-1))) ||| (y2 <<< ((3 * y1) &&& 31)))
theorem pe_353 (y0 : Int32) (y1 : Int32) (y2 : Int32) (h : am_H) : fm_353 y0 y1 y2 h = some (.inl (some (.int (pv_353 y0 y1 y2)), h)) := sorry
/-- java/lang/Math.abs(I)I -/
def pv_67 (y0 : Int32) : Int32 := (if 0 ≤ y0 then y0 else (-y0))
theorem pe_67 (y0 : Int32) (h : am_H) : fm_67 y0 h = some (.inl (some (.int (pv_67 y0)), h)) := sorry
/-- BreedingHouseModel.treeSign(I)I -/
def pv_364 (y0 : Int32) : Int32 := (if y0 = 1 then 120 else (if y0 = 2 then 121 else (if y0 = 3 then 122 else (if y0 = 4 then 110 else (if y0 = 5 then 115 else (if y0 = 6 then 101 else (if y0 = 7 then 126 else (if y0 = 8 then 35 else (if y0 = 9 then 33 else (if y0 = 10 then 43 else (if y0 = 11 then 45 else (if y0 = 12 then 42 else (if y0 = 13 then 47 else (if y0 = 14 then 37 else (if y0 = 15 then 60 else (if y0 = 16 then 61 else (if y0 = 17 then 38 else (if y0 = 18 then 124 else (if y0 = 19 then 64 else 63)))))))))))))))))))
theorem pe_364 (y0 : Int32) (h : am_H) : fm_364 y0 h = some (.inl (some (.int (pv_364 y0)), h)) := sorry
/-- BreedingHouseModel.codeSign(I)I -/
def pv_366 (y0 : Int32) : Int32 := (if y0 = 5 then 126 else (if y0 = 6 then 35 else (if y0 = 14 then 100 else (if y0 = 15 then 119 else (if y0 = 16 then 111 else (if y0 = 17 then 106 else (if y0 = 18 then 98 else (if 5 ≤ y0 then (pv_364 (y0 + 3)) else (pv_364 y0)))))))))
theorem pe_366 (y0 : Int32) (h : am_H) : fm_366 y0 h = some (.inl (some (.int (pv_366 y0)), h)) := sorry
/-- BreedingHouseModel.edge(II)I -/
def pv_367 (y0 : Int32) (y1 : Int32) : Int32 := ((y0 >>> ((3 * y1) &&& 31)) &&& 7)
theorem pe_367 (y0 : Int32) (y1 : Int32) (h : am_H) : fm_367 y0 y1 h = some (.inl (some (.int (pv_367 y0 y1)), h)) := sorry
/-- java/lang/Math.min(II)I -/
def pv_38 (y0 : Int32) (y1 : Int32) : Int32 := (if y1 < y0 then y1 else y0)
theorem pe_38 (y0 : Int32) (y1 : Int32) (h : am_H) : fm_38 y0 y1 h = some (.inl (some (.int (pv_38 y0 y1)), h)) := sorry
/-- java/lang/Math.max(II)I -/
def pv_37 (y0 : Int32) (y1 : Int32) : Int32 := (if y0 < y1 then y1 else y0)
theorem pe_37 (y0 : Int32) (y1 : Int32) (h : am_H) : fm_37 y0 y1 h = some (.inl (some (.int (pv_37 y0 y1)), h)) := sorry
/-- BreedingHouseModel.isIn(II)Z -/
def pv_379 (y0 : Int32) (y1 : Int32) : Int32 := (if ¬ y0 = 0 then (if ¬ y0 = 1 then (if y1 = 5 then 0 else (if y1 = 6 then 0 else (if y1 = 19 then 0 else 1))) else (if y1 = 19 then 0 else 1)) else (if y1 = 5 then 0 else (if y1 = 6 then 0 else 1)))
theorem pe_379 (y0 : Int32) (y1 : Int32) (h : am_H) : fm_379 y0 y1 h = some (.inl (some (.int (pv_379 y0 y1)), h)) := sorry
/-- BreedingHouseModel.partWay(III)I -/
def pv_381 (y0 : Int32) (y1 : Int32) (y2 : Int32) : Int32 := (if ¬ y1 = 19 then y0 else (if ¬ y2 = 1 then y0 else 1))
theorem pe_381 (y0 : Int32) (y1 : Int32) (y2 : Int32) (h : am_H) : fm_381 y0 y1 y2 h = some (.inl (some (.int (pv_381 y0 y1 y2)), h)) := sorry
/-- BreedingHouseModel.truthOf(II)I -/
def pv_382 (y0 : Int32) (y1 : Int32) : Int32 := (if (pv_330 y0 y1) = 0 then 0 else 1)
theorem pe_382 (y0 : Int32) (y1 : Int32) (h : am_H) : fm_382 y0 y1 h = some (.inl (some (.int (pv_382 y0 y1)), h)) := sorry
/-- java/lang/Math.abs(J)J -/
def pv_135 (y0 : Int64) : Int64 := (if 0 ≤ (lg_cmp y0 0) then y0 else (-y0))
theorem pe_135 (y0 : Int64) (h : am_H) : fm_135 y0 h = some (.inl (some (.long (pv_135 y0)), h)) := sorry
/-- java/lang/Math.min(JJ)J -/
def pv_136 (y0 : Int64) (y1 : Int64) : Int64 := (if 0 < (lg_cmp y0 y1) then y1 else y0)
theorem pe_136 (y0 : Int64) (y1 : Int64) (h : am_H) : fm_136 y0 y1 h = some (.inl (some (.long (pv_136 y0 y1)), h)) := sorry
/-- BreedingHouse$Judge.gap(II)I -/
def pv_134 (y0 : Int32) (y1 : Int32) : Int32 := (Int64.toInt32 (pv_136 (pv_135 ((Int32.toInt64 y0) - (Int32.toInt64 y1))) 1000000))
theorem pe_134 (y0 : Int32) (y1 : Int32) (h : am_H) : fm_134 y0 y1 h = some (.inl (some (.int (pv_134 y0 y1)), h)) := sorry
/-- BreedingHouseModel.apart(II)J -/
def pv_426 (y0 : Int32) (y1 : Int32) : Int64 := (if 0 ≤ (lg_cmp ((Int32.toInt64 y0) - (Int32.toInt64 y1)) 0) then (if (lg_cmp ((Int32.toInt64 y0) - (Int32.toInt64 y1)) 1000000) ≤ 0 then ((Int32.toInt64 y0) - (Int32.toInt64 y1)) else 1000000) else (if (lg_cmp (-((Int32.toInt64 y0) - (Int32.toInt64 y1))) 1000000) ≤ 0 then (-((Int32.toInt64 y0) - (Int32.toInt64 y1))) else 1000000))
theorem pe_426 (y0 : Int32) (y1 : Int32) (h : am_H) : fm_426 y0 y1 h = some (.inl (some (.long (pv_426 y0 y1)), h)) := sorry
/-- java/lang/Long.compare(JJ)I -/
def pv_151 (y0 : Int64) (y1 : Int64) : Int32 := (if 0 ≤ (lg_cmp y0 y1) then (if ¬ (lg_cmp y0 y1) = 0 then 1 else 0) else (-1))
theorem pe_151 (y0 : Int64) (y1 : Int64) (h : am_H) : fm_151 y0 y1 h = some (.inl (some (.int (pv_151 y0 y1)), h)) := sorry
/-- java/lang/Integer.compare(II)I -/
def pv_152 (y0 : Int32) (y1 : Int32) : Int32 := (if y1 ≤ y0 then (if ¬ y0 = y1 then 1 else 0) else (-1))
theorem pe_152 (y0 : Int32) (y1 : Int32) (h : am_H) : fm_152 y0 y1 h = some (.inl (some (.int (pv_152 y0 y1)), h)) := sorry
/-- BreedingHouse$Changer.family(I)I -/
def pv_174 (y0 : Int32) : Int32 := (if 4 < y0 then (if 6 < y0 then (if 13 < y0 then 3 else 2) else 1) else 0)
theorem pe_174 (y0 : Int32) (h : am_H) : fm_174 y0 h = some (.inl (some (.int (pv_174 y0)), h)) := sorry
/-- BreedingHouseModel.codeGroup(I)I -/
def pv_454 (y0 : Int32) : Int32 := (if 5 ≤ y0 then (if 7 ≤ y0 then (if 14 ≤ y0 then (3 + y0) else 2) else 1) else 0)
theorem pe_454 (y0 : Int32) (h : am_H) : fm_454 y0 h = some (.inl (some (.int (pv_454 y0)), h)) := sorry
/-- java/lang/Integer.bitCount(I)I -/
def pv_242 (y0 : Int32) : Int32 := ((((((((y0 - (((Int32.toUInt32 y0 >>> (Int32.toUInt32 1 &&& Int32.toUInt32 31)).toInt32) &&& 1431655765)) &&& 858993459) + (((Int32.toUInt32 (y0 - (((Int32.toUInt32 y0 >>> (Int32.toUInt32 1 &&& Int32.toUInt32 31)).toInt32) &&& 1431655765)) >>> (Int32.toUInt32 2 &&& Int32.toUInt32 31)).toInt32) &&& 858993459)) + ((Int32.toUInt32 (((y0 - (((Int32.toUInt32 y0 >>> (Int32.toUInt32 1 &&& Int32.toUInt32 31)).toInt32) &&& 1431655765)) &&& 858993459) + (((Int32.toUInt32 (y0 - (((Int32.toUInt32 y0 >>> (Int32.toUInt32 1 &&& Int32.toUInt32 31)).toInt32) &&& 1431655765)) >>> (Int32.toUInt32 2 &&& Int32.toUInt32 31)).toInt32) &&& 858993459)) >>> (Int32.toUInt32 4 &&& Int32.toUInt32 31)).toInt32)) &&& 252645135) + ((Int32.toUInt32 (((((y0 - (((Int32.toUInt32 y0 >>> (Int32.toUInt32 1 &&& Int32.toUInt32 31)).toInt32) &&& 1431655765)) &&& 858993459) + (((Int32.toUInt32 (y0 - (((Int32.toUInt32 y0 >>> (Int32.toUInt32 1 &&& Int32.toUInt32 31)).toInt32) &&& 1431655765)) >>> (Int32.toUInt32 2 &&& Int32.toUInt32 31)).toInt32) &&& 858993459)) + ((Int32.toUInt32 (((y0 - (((Int32.toUInt32 y0 >>> (Int32.toUInt32 1 &&& Int32.toUInt32 31)).toInt32) &&& 1431655765)) &&& 858993459) + (((Int32.toUInt32 (y0 - (((Int32.toUInt32 y0 >>> (Int32.toUInt32 1 &&& Int32.toUInt32 31)).toInt32) &&& 1431655765)) >>> (Int32.toUInt32 2 &&& Int32.toUInt32 31)).toInt32) &&& 858993459)) >>> (Int32.toUInt32 4 &&& Int32.toUInt32 31)).toInt32)) &&& 252645135) >>> (Int32.toUInt32 8 &&& Int32.toUInt32 31)).toInt32)) + ((Int32.toUInt32 ((((((y0 - (((Int32.toUInt32 y0 >>> (Int32.toUInt32 1 &&& Int32.toUInt32 31)).toInt32) &&& 1431655765)) &&& 858993459) + (((Int32.toUInt32 (y0 - (((Int32.toUInt32 y0 >>> (Int32.toUInt32 1 &&& Int32.toUInt32 31)).toInt32) &&& 1431655765)) >>> (Int32.toUInt32 2 &&& Int32.toUInt32 31)).toInt32) &&& 858993459)) + ((Int32.toUInt32 (((y0 - (((Int32.toUInt32 y0 >>> (Int32.toUInt32 1 &&& Int32.toUInt32 31)).toInt32) &&& 1431655765)) &&& 858993459) + (((Int32.toUInt32 (y0 - (((Int32.toUInt32 y0 >>> (Int32.toUInt32 1 &&& Int32.toUInt32 31)).toInt32) &&& 1431655765)) >>> (Int32.toUInt32 2 &&& Int32.toUInt32 31)).toInt32) &&& 858993459)) >>> (Int32.toUInt32 4 &&& Int32.toUInt32 31)).toInt32)) &&& 252645135) + ((Int32.toUInt32 (((((y0 - (((Int32.toUInt32 y0 >>> (Int32.toUInt32 1 &&& Int32.toUInt32 31)).toInt32) &&& 1431655765)) &&& 858993459) + (((Int32.toUInt32 (y0 - (((Int32.toUInt32 y0 >>> (Int32.toUInt32 1 &&& Int32.toUInt32 31)).toInt32) &&& 1431655765)) >>> (Int32.toUInt32 2 &&& Int32.toUInt32 31)).toInt32) &&& 858993459)) + ((Int32.toUInt32 (((y0 - (((Int32.toUInt32 y0 >>> (Int32.toUInt32 1 &&& Int32.toUInt32 31)).toInt32) &&& 1431655765)) &&& 858993459) + (((Int32.toUInt32 (y0 - (((Int32.toUInt32 y0 >>> (Int32.toUInt32 1 &&& Int32.toUInt32 31)).toInt32) &&& 1431655765)) >>> (Int32.toUInt32 2 &&& Int32.toUInt32 31)).toInt32) &&& 858993459)) >>> (Int32.toUInt32 4 &&& Int32.toUInt32 31)).toInt32)) &&& 252645135) >>> (Int32.toUInt32 8 &&& Int32.toUInt32 31)).toInt32)) >>> (Int32.toUInt32 16 &&& Int32.toUInt32 31)).toInt32)) &&& 63)
theorem pe_242 (y0 : Int32) (h : am_H) : fm_242 y0 h = some (.inl (some (.int (pv_242 y0)), h)) := sorry
/-- java/lang/Math.max(JJ)J -/
def pv_249 (y0 : Int64) (y1 : Int64) : Int64 := (if (lg_cmp y0 y1) < 0 then y1 else y0)
theorem pe_249 (y0 : Int64) (y1 : Int64) (h : am_H) : fm_249 y0 y1 h = some (.inl (some (.long (pv_249 y0 y1)), h)) := sorry
/-- BreedingHouse$Turner.exchanged(III)I -/
def pv_292 (y0 : Int32) (y1 : Int32) (y2 : Int32) : Int32 := (if ((y0 >>> (y1 &&& 31)) &&& 1) ≤ ((y0 >>> (y2 &&& 31)) &&& 1) then y0 else (y0 ^^^ ((1 <<< (y1 &&& 31)) ||| (1 <<< (y2 &&& 31)))))
theorem pe_292 (y0 : Int32) (y1 : Int32) (y2 : Int32) (h : am_H) : fm_292 y0 y1 y2 h = some (.inl (some (.int (pv_292 y0 y1 y2)), h)) := sorry
/-- BreedingHouseModel.shorterHow(I)I -/
def pv_579 (y0 : Int32) : Int32 := (if ¬ y0 = 1 then (if ¬ y0 = 3 then 3 else 1) else 2)
theorem pe_579 (y0 : Int32) (h : am_H) : fm_579 y0 h = some (.inl (some (.int (pv_579 y0)), h)) := sorry