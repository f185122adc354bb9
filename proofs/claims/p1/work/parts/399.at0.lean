/-! ===== the law's instructions, chunk by chunk ===== -/
theorem am_lks {a b : am_C} {d pc : Nat} (h : a.all (fun q => Nat.blt q.1 d) = true) (hp : d ≤ pc) : (a ++ b).lookup pc = b.lookup pc := by
  induction a with
  | nil => rfl
  | cons x a ih =>
    rw [List.all_cons, Bool.and_eq_true] at h
    have e : (pc == x.1) = false := by
      have := Nat.blt_eq.mp h.1
      rw [beq_eq_false_iff_ne]
      omega
    obtain ⟨k, v⟩ := x
    rw [List.cons_append, List.lookup_cons, e]
    exact ih h.2
def am_t0_64 : am_C := am_c0_64
def am_t0_63 : am_C := am_c0_63 ++ am_t0_64
def am_t0_62 : am_C := am_c0_62 ++ am_t0_63
def am_t0_61 : am_C := am_c0_61 ++ am_t0_62
def am_t0_60 : am_C := am_c0_60 ++ am_t0_61
def am_t0_59 : am_C := am_c0_59 ++ am_t0_60
def am_t0_58 : am_C := am_c0_58 ++ am_t0_59
def am_t0_57 : am_C := am_c0_57 ++ am_t0_58
def am_t0_56 : am_C := am_c0_56 ++ am_t0_57
def am_t0_55 : am_C := am_c0_55 ++ am_t0_56
def am_t0_54 : am_C := am_c0_54 ++ am_t0_55
def am_t0_53 : am_C := am_c0_53 ++ am_t0_54
def am_t0_52 : am_C := am_c0_52 ++ am_t0_53
def am_t0_51 : am_C := am_c0_51 ++ am_t0_52
def am_t0_50 : am_C := am_c0_50 ++ am_t0_51
def am_t0_49 : am_C := am_c0_49 ++ am_t0_50
def am_t0_48 : am_C := am_c0_48 ++ am_t0_49
def am_t0_47 : am_C := am_c0_47 ++ am_t0_48
def am_t0_46 : am_C := am_c0_46 ++ am_t0_47
def am_t0_45 : am_C := am_c0_45 ++ am_t0_46
def am_t0_44 : am_C := am_c0_44 ++ am_t0_45
def am_t0_43 : am_C := am_c0_43 ++ am_t0_44
def am_t0_42 : am_C := am_c0_42 ++ am_t0_43
def am_t0_41 : am_C := am_c0_41 ++ am_t0_42
def am_t0_40 : am_C := am_c0_40 ++ am_t0_41
def am_t0_39 : am_C := am_c0_39 ++ am_t0_40
def am_t0_38 : am_C := am_c0_38 ++ am_t0_39
def am_t0_37 : am_C := am_c0_37 ++ am_t0_38
def am_t0_36 : am_C := am_c0_36 ++ am_t0_37
def am_t0_35 : am_C := am_c0_35 ++ am_t0_36
def am_t0_34 : am_C := am_c0_34 ++ am_t0_35
def am_t0_33 : am_C := am_c0_33 ++ am_t0_34
def am_t0_32 : am_C := am_c0_32 ++ am_t0_33
def am_t0_31 : am_C := am_c0_31 ++ am_t0_32
def am_t0_30 : am_C := am_c0_30 ++ am_t0_31
def am_t0_29 : am_C := am_c0_29 ++ am_t0_30
def am_t0_28 : am_C := am_c0_28 ++ am_t0_29
def am_t0_27 : am_C := am_c0_27 ++ am_t0_28
def am_t0_26 : am_C := am_c0_26 ++ am_t0_27
def am_t0_25 : am_C := am_c0_25 ++ am_t0_26
def am_t0_24 : am_C := am_c0_24 ++ am_t0_25
def am_t0_23 : am_C := am_c0_23 ++ am_t0_24
def am_t0_22 : am_C := am_c0_22 ++ am_t0_23
def am_t0_21 : am_C := am_c0_21 ++ am_t0_22
def am_t0_20 : am_C := am_c0_20 ++ am_t0_21
def am_t0_19 : am_C := am_c0_19 ++ am_t0_20
def am_t0_18 : am_C := am_c0_18 ++ am_t0_19
def am_t0_17 : am_C := am_c0_17 ++ am_t0_18
def am_t0_16 : am_C := am_c0_16 ++ am_t0_17
def am_t0_15 : am_C := am_c0_15 ++ am_t0_16
def am_t0_14 : am_C := am_c0_14 ++ am_t0_15
def am_t0_13 : am_C := am_c0_13 ++ am_t0_14
def am_t0_12 : am_C := am_c0_12 ++ am_t0_13
def am_t0_11 : am_C := am_c0_11 ++ am_t0_12
def am_t0_10 : am_C := am_c0_10 ++ am_t0_11
def am_t0_9 : am_C := am_c0_9 ++ am_t0_10
def am_t0_8 : am_C := am_c0_8 ++ am_t0_9
def am_t0_7 : am_C := am_c0_7 ++ am_t0_8
def am_t0_6 : am_C := am_c0_6 ++ am_t0_7
def am_t0_5 : am_C := am_c0_5 ++ am_t0_6
def am_t0_4 : am_C := am_c0_4 ++ am_t0_5
def am_t0_3 : am_C := am_c0_3 ++ am_t0_4
def am_t0_2 : am_C := am_c0_2 ++ am_t0_3
def am_t0_1 : am_C := am_c0_1 ++ am_t0_2
def am_t0_0 : am_C := am_c0_0 ++ am_t0_1
theorem am_L0_0 (pc : Nat) : am_at (am_m 0) pc = am_t0_0.lookup pc := rfl
theorem am_L0_1 (pc : Nat) (h : 314 ≤ pc) : am_at (am_m 0) pc = am_t0_1.lookup pc := (am_L0_0 pc).trans (am_lks (a := am_c0_0) (b := am_t0_1) (d := 314) (by decide +kernel) h)
theorem am_L0_2 (pc : Nat) (h : 372 ≤ pc) : am_at (am_m 0) pc = am_t0_2.lookup pc := (am_L0_1 pc (by omega)).trans (am_lks (a := am_c0_1) (b := am_t0_2) (d := 372) (by decide +kernel) h)
theorem am_L0_3 (pc : Nat) (h : 438 ≤ pc) : am_at (am_m 0) pc = am_t0_3.lookup pc := (am_L0_2 pc (by omega)).trans (am_lks (a := am_c0_2) (b := am_t0_3) (d := 438) (by decide +kernel) h)
theorem am_L0_4 (pc : Nat) (h : 496 ≤ pc) : am_at (am_m 0) pc = am_t0_4.lookup pc := (am_L0_3 pc (by omega)).trans (am_lks (a := am_c0_3) (b := am_t0_4) (d := 496) (by decide +kernel) h)
theorem am_L0_5 (pc : Nat) (h : 560 ≤ pc) : am_at (am_m 0) pc = am_t0_5.lookup pc := (am_L0_4 pc (by omega)).trans (am_lks (a := am_c0_4) (b := am_t0_5) (d := 560) (by decide +kernel) h)
theorem am_L0_6 (pc : Nat) (h : 622 ≤ pc) : am_at (am_m 0) pc = am_t0_6.lookup pc := (am_L0_5 pc (by omega)).trans (am_lks (a := am_c0_5) (b := am_t0_6) (d := 622) (by decide +kernel) h)
theorem am_L0_7 (pc : Nat) (h : 685 ≤ pc) : am_at (am_m 0) pc = am_t0_7.lookup pc := (am_L0_6 pc (by omega)).trans (am_lks (a := am_c0_6) (b := am_t0_7) (d := 685) (by decide +kernel) h)
theorem am_L0_8 (pc : Nat) (h : 745 ≤ pc) : am_at (am_m 0) pc = am_t0_8.lookup pc := (am_L0_7 pc (by omega)).trans (am_lks (a := am_c0_7) (b := am_t0_8) (d := 745) (by decide +kernel) h)
theorem am_L0_9 (pc : Nat) (h : 805 ≤ pc) : am_at (am_m 0) pc = am_t0_9.lookup pc := (am_L0_8 pc (by omega)).trans (am_lks (a := am_c0_8) (b := am_t0_9) (d := 805) (by decide +kernel) h)
theorem am_L0_10 (pc : Nat) (h : 871 ≤ pc) : am_at (am_m 0) pc = am_t0_10.lookup pc := (am_L0_9 pc (by omega)).trans (am_lks (a := am_c0_9) (b := am_t0_10) (d := 871) (by decide +kernel) h)
theorem am_L0_11 (pc : Nat) (h : 926 ≤ pc) : am_at (am_m 0) pc = am_t0_11.lookup pc := (am_L0_10 pc (by omega)).trans (am_lks (a := am_c0_10) (b := am_t0_11) (d := 926) (by decide +kernel) h)
theorem am_L0_12 (pc : Nat) (h : 987 ≤ pc) : am_at (am_m 0) pc = am_t0_12.lookup pc := (am_L0_11 pc (by omega)).trans (am_lks (a := am_c0_11) (b := am_t0_12) (d := 987) (by decide +kernel) h)
theorem am_L0_13 (pc : Nat) (h : 1051 ≤ pc) : am_at (am_m 0) pc = am_t0_13.lookup pc := (am_L0_12 pc (by omega)).trans (am_lks (a := am_c0_12) (b := am_t0_13) (d := 1051) (by decide +kernel) h)
theorem am_L0_14 (pc : Nat) (h : 1106 ≤ pc) : am_at (am_m 0) pc = am_t0_14.lookup pc := (am_L0_13 pc (by omega)).trans (am_lks (a := am_c0_13) (b := am_t0_14) (d := 1106) (by decide +kernel) h)
theorem am_L0_15 (pc : Nat) (h : 1163 ≤ pc) : am_at (am_m 0) pc = am_t0_15.lookup pc := (am_L0_14 pc (by omega)).trans (am_lks (a := am_c0_14) (b := am_t0_15) (d := 1163) (by decide +kernel) h)
theorem am_L0_16 (pc : Nat) (h : 1229 ≤ pc) : am_at (am_m 0) pc = am_t0_16.lookup pc := (am_L0_15 pc (by omega)).trans (am_lks (a := am_c0_15) (b := am_t0_16) (d := 1229) (by decide +kernel) h)
theorem am_L0_17 (pc : Nat) (h : 1289 ≤ pc) : am_at (am_m 0) pc = am_t0_17.lookup pc := (am_L0_16 pc (by omega)).trans (am_lks (a := am_c0_16) (b := am_t0_17) (d := 1289) (by decide +kernel) h)
theorem am_L0_18 (pc : Nat) (h : 1351 ≤ pc) : am_at (am_m 0) pc = am_t0_18.lookup pc := (am_L0_17 pc (by omega)).trans (am_lks (a := am_c0_17) (b := am_t0_18) (d := 1351) (by decide +kernel) h)
theorem am_L0_19 (pc : Nat) (h : 1411 ≤ pc) : am_at (am_m 0) pc = am_t0_19.lookup pc := (am_L0_18 pc (by omega)).trans (am_lks (a := am_c0_18) (b := am_t0_19) (d := 1411) (by decide +kernel) h)
theorem am_L0_20 (pc : Nat) (h : 1468 ≤ pc) : am_at (am_m 0) pc = am_t0_20.lookup pc := (am_L0_19 pc (by omega)).trans (am_lks (a := am_c0_19) (b := am_t0_20) (d := 1468) (by decide +kernel) h)
theorem am_L0_21 (pc : Nat) (h : 1530 ≤ pc) : am_at (am_m 0) pc = am_t0_21.lookup pc := (am_L0_20 pc (by omega)).trans (am_lks (a := am_c0_20) (b := am_t0_21) (d := 1530) (by decide +kernel) h)
theorem am_L0_22 (pc : Nat) (h : 1592 ≤ pc) : am_at (am_m 0) pc = am_t0_22.lookup pc := (am_L0_21 pc (by omega)).trans (am_lks (a := am_c0_21) (b := am_t0_22) (d := 1592) (by decide +kernel) h)
theorem am_L0_23 (pc : Nat) (h : 1653 ≤ pc) : am_at (am_m 0) pc = am_t0_23.lookup pc := (am_L0_22 pc (by omega)).trans (am_lks (a := am_c0_22) (b := am_t0_23) (d := 1653) (by decide +kernel) h)
theorem am_L0_24 (pc : Nat) (h : 1711 ≤ pc) : am_at (am_m 0) pc = am_t0_24.lookup pc := (am_L0_23 pc (by omega)).trans (am_lks (a := am_c0_23) (b := am_t0_24) (d := 1711) (by decide +kernel) h)
theorem am_L0_25 (pc : Nat) (h : 1777 ≤ pc) : am_at (am_m 0) pc = am_t0_25.lookup pc := (am_L0_24 pc (by omega)).trans (am_lks (a := am_c0_24) (b := am_t0_25) (d := 1777) (by decide +kernel) h)
theorem am_L0_26 (pc : Nat) (h : 1840 ≤ pc) : am_at (am_m 0) pc = am_t0_26.lookup pc := (am_L0_25 pc (by omega)).trans (am_lks (a := am_c0_25) (b := am_t0_26) (d := 1840) (by decide +kernel) h)
theorem am_L0_27 (pc : Nat) (h : 1902 ≤ pc) : am_at (am_m 0) pc = am_t0_27.lookup pc := (am_L0_26 pc (by omega)).trans (am_lks (a := am_c0_26) (b := am_t0_27) (d := 1902) (by decide +kernel) h)
theorem am_L0_28 (pc : Nat) (h : 1962 ≤ pc) : am_at (am_m 0) pc = am_t0_28.lookup pc := (am_L0_27 pc (by omega)).trans (am_lks (a := am_c0_27) (b := am_t0_28) (d := 1962) (by decide +kernel) h)
theorem am_L0_29 (pc : Nat) (h : 2022 ≤ pc) : am_at (am_m 0) pc = am_t0_29.lookup pc := (am_L0_28 pc (by omega)).trans (am_lks (a := am_c0_28) (b := am_t0_29) (d := 2022) (by decide +kernel) h)
theorem am_L0_30 (pc : Nat) (h : 2076 ≤ pc) : am_at (am_m 0) pc = am_t0_30.lookup pc := (am_L0_29 pc (by omega)).trans (am_lks (a := am_c0_29) (b := am_t0_30) (d := 2076) (by decide +kernel) h)
theorem am_L0_31 (pc : Nat) (h : 2136 ≤ pc) : am_at (am_m 0) pc = am_t0_31.lookup pc := (am_L0_30 pc (by omega)).trans (am_lks (a := am_c0_30) (b := am_t0_31) (d := 2136) (by decide +kernel) h)
theorem am_L0_32 (pc : Nat) (h : 2189 ≤ pc) : am_at (am_m 0) pc = am_t0_32.lookup pc := (am_L0_31 pc (by omega)).trans (am_lks (a := am_c0_31) (b := am_t0_32) (d := 2189) (by decide +kernel) h)
theorem am_L0_33 (pc : Nat) (h : 2251 ≤ pc) : am_at (am_m 0) pc = am_t0_33.lookup pc := (am_L0_32 pc (by omega)).trans (am_lks (a := am_c0_32) (b := am_t0_33) (d := 2251) (by decide +kernel) h)
theorem am_L0_34 (pc : Nat) (h : 2311 ≤ pc) : am_at (am_m 0) pc = am_t0_34.lookup pc := (am_L0_33 pc (by omega)).trans (am_lks (a := am_c0_33) (b := am_t0_34) (d := 2311) (by decide +kernel) h)
theorem am_L0_35 (pc : Nat) (h : 2363 ≤ pc) : am_at (am_m 0) pc = am_t0_35.lookup pc := (am_L0_34 pc (by omega)).trans (am_lks (a := am_c0_34) (b := am_t0_35) (d := 2363) (by decide +kernel) h)
theorem am_L0_36 (pc : Nat) (h : 2424 ≤ pc) : am_at (am_m 0) pc = am_t0_36.lookup pc := (am_L0_35 pc (by omega)).trans (am_lks (a := am_c0_35) (b := am_t0_36) (d := 2424) (by decide +kernel) h)
theorem am_L0_37 (pc : Nat) (h : 2477 ≤ pc) : am_at (am_m 0) pc = am_t0_37.lookup pc := (am_L0_36 pc (by omega)).trans (am_lks (a := am_c0_36) (b := am_t0_37) (d := 2477) (by decide +kernel) h)
theorem am_L0_38 (pc : Nat) (h : 2536 ≤ pc) : am_at (am_m 0) pc = am_t0_38.lookup pc := (am_L0_37 pc (by omega)).trans (am_lks (a := am_c0_37) (b := am_t0_38) (d := 2536) (by decide +kernel) h)
theorem am_L0_39 (pc : Nat) (h : 2601 ≤ pc) : am_at (am_m 0) pc = am_t0_39.lookup pc := (am_L0_38 pc (by omega)).trans (am_lks (a := am_c0_38) (b := am_t0_39) (d := 2601) (by decide +kernel) h)
theorem am_L0_40 (pc : Nat) (h : 2660 ≤ pc) : am_at (am_m 0) pc = am_t0_40.lookup pc := (am_L0_39 pc (by omega)).trans (am_lks (a := am_c0_39) (b := am_t0_40) (d := 2660) (by decide +kernel) h)
theorem am_L0_41 (pc : Nat) (h : 2722 ≤ pc) : am_at (am_m 0) pc = am_t0_41.lookup pc := (am_L0_40 pc (by omega)).trans (am_lks (a := am_c0_40) (b := am_t0_41) (d := 2722) (by decide +kernel) h)
theorem am_L0_42 (pc : Nat) (h : 2782 ≤ pc) : am_at (am_m 0) pc = am_t0_42.lookup pc := (am_L0_41 pc (by omega)).trans (am_lks (a := am_c0_41) (b := am_t0_42) (d := 2782) (by decide +kernel) h)
theorem am_L0_43 (pc : Nat) (h : 2847 ≤ pc) : am_at (am_m 0) pc = am_t0_43.lookup pc := (am_L0_42 pc (by omega)).trans (am_lks (a := am_c0_42) (b := am_t0_43) (d := 2847) (by decide +kernel) h)
theorem am_L0_44 (pc : Nat) (h : 2905 ≤ pc) : am_at (am_m 0) pc = am_t0_44.lookup pc := (am_L0_43 pc (by omega)).trans (am_lks (a := am_c0_43) (b := am_t0_44) (d := 2905) (by decide +kernel) h)
theorem am_L0_45 (pc : Nat) (h : 2965 ≤ pc) : am_at (am_m 0) pc = am_t0_45.lookup pc := (am_L0_44 pc (by omega)).trans (am_lks (a := am_c0_44) (b := am_t0_45) (d := 2965) (by decide +kernel) h)
theorem am_L0_46 (pc : Nat) (h : 3025 ≤ pc) : am_at (am_m 0) pc = am_t0_46.lookup pc := (am_L0_45 pc (by omega)).trans (am_lks (a := am_c0_45) (b := am_t0_46) (d := 3025) (by decide +kernel) h)
theorem am_L0_47 (pc : Nat) (h : 3087 ≤ pc) : am_at (am_m 0) pc = am_t0_47.lookup pc := (am_L0_46 pc (by omega)).trans (am_lks (a := am_c0_46) (b := am_t0_47) (d := 3087) (by decide +kernel) h)
theorem am_L0_48 (pc : Nat) (h : 3149 ≤ pc) : am_at (am_m 0) pc = am_t0_48.lookup pc := (am_L0_47 pc (by omega)).trans (am_lks (a := am_c0_47) (b := am_t0_48) (d := 3149) (by decide +kernel) h)
theorem am_L0_49 (pc : Nat) (h : 3211 ≤ pc) : am_at (am_m 0) pc = am_t0_49.lookup pc := (am_L0_48 pc (by omega)).trans (am_lks (a := am_c0_48) (b := am_t0_49) (d := 3211) (by decide +kernel) h)
theorem am_L0_50 (pc : Nat) (h : 3273 ≤ pc) : am_at (am_m 0) pc = am_t0_50.lookup pc := (am_L0_49 pc (by omega)).trans (am_lks (a := am_c0_49) (b := am_t0_50) (d := 3273) (by decide +kernel) h)
theorem am_L0_51 (pc : Nat) (h : 3332 ≤ pc) : am_at (am_m 0) pc = am_t0_51.lookup pc := (am_L0_50 pc (by omega)).trans (am_lks (a := am_c0_50) (b := am_t0_51) (d := 3332) (by decide +kernel) h)
theorem am_L0_52 (pc : Nat) (h : 3399 ≤ pc) : am_at (am_m 0) pc = am_t0_52.lookup pc := (am_L0_51 pc (by omega)).trans (am_lks (a := am_c0_51) (b := am_t0_52) (d := 3399) (by decide +kernel) h)
theorem am_L0_53 (pc : Nat) (h : 3463 ≤ pc) : am_at (am_m 0) pc = am_t0_53.lookup pc := (am_L0_52 pc (by omega)).trans (am_lks (a := am_c0_52) (b := am_t0_53) (d := 3463) (by decide +kernel) h)
theorem am_L0_54 (pc : Nat) (h : 3529 ≤ pc) : am_at (am_m 0) pc = am_t0_54.lookup pc := (am_L0_53 pc (by omega)).trans (am_lks (a := am_c0_53) (b := am_t0_54) (d := 3529) (by decide +kernel) h)
theorem am_L0_55 (pc : Nat) (h : 3584 ≤ pc) : am_at (am_m 0) pc = am_t0_55.lookup pc := (am_L0_54 pc (by omega)).trans (am_lks (a := am_c0_54) (b := am_t0_55) (d := 3584) (by decide +kernel) h)
theorem am_L0_56 (pc : Nat) (h : 3647 ≤ pc) : am_at (am_m 0) pc = am_t0_56.lookup pc := (am_L0_55 pc (by omega)).trans (am_lks (a := am_c0_55) (b := am_t0_56) (d := 3647) (by decide +kernel) h)
theorem am_L0_57 (pc : Nat) (h : 3709 ≤ pc) : am_at (am_m 0) pc = am_t0_57.lookup pc := (am_L0_56 pc (by omega)).trans (am_lks (a := am_c0_56) (b := am_t0_57) (d := 3709) (by decide +kernel) h)
theorem am_L0_58 (pc : Nat) (h : 3771 ≤ pc) : am_at (am_m 0) pc = am_t0_58.lookup pc := (am_L0_57 pc (by omega)).trans (am_lks (a := am_c0_57) (b := am_t0_58) (d := 3771) (by decide +kernel) h)
theorem am_L0_59 (pc : Nat) (h : 3833 ≤ pc) : am_at (am_m 0) pc = am_t0_59.lookup pc := (am_L0_58 pc (by omega)).trans (am_lks (a := am_c0_58) (b := am_t0_59) (d := 3833) (by decide +kernel) h)
theorem am_L0_60 (pc : Nat) (h : 3892 ≤ pc) : am_at (am_m 0) pc = am_t0_60.lookup pc := (am_L0_59 pc (by omega)).trans (am_lks (a := am_c0_59) (b := am_t0_60) (d := 3892) (by decide +kernel) h)
theorem am_L0_61 (pc : Nat) (h : 3954 ≤ pc) : am_at (am_m 0) pc = am_t0_61.lookup pc := (am_L0_60 pc (by omega)).trans (am_lks (a := am_c0_60) (b := am_t0_61) (d := 3954) (by decide +kernel) h)
theorem am_L0_62 (pc : Nat) (h : 4016 ≤ pc) : am_at (am_m 0) pc = am_t0_62.lookup pc := (am_L0_61 pc (by omega)).trans (am_lks (a := am_c0_61) (b := am_t0_62) (d := 4016) (by decide +kernel) h)
theorem am_L0_63 (pc : Nat) (h : 4081 ≤ pc) : am_at (am_m 0) pc = am_t0_63.lookup pc := (am_L0_62 pc (by omega)).trans (am_lks (a := am_c0_62) (b := am_t0_63) (d := 4081) (by decide +kernel) h)
theorem am_L0_64 (pc : Nat) (h : 4143 ≤ pc) : am_at (am_m 0) pc = am_t0_64.lookup pc := (am_L0_63 pc (by omega)).trans (am_lks (a := am_c0_63) (b := am_t0_64) (d := 4143) (by decide +kernel) h)
