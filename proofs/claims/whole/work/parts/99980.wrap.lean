/-! ===== the calls that are shown, as the whole wants them ===== -/
theorem okw_0 {N : Nat} (hN : 200000 < N) : ok_0 N := fun _ _ _ _ _ _ _ _ hr hm _ _ a1 a2 => u_0 hr hm (by omega) _
theorem okw_1 {N : Nat} (hN : 200000 < N) : ok_1 N := fun _ _ _ _ _ _ _ _ hr hm _ _ a1 => u_1 hr hm (by omega) a1
theorem okw_2 {N : Nat} (hN : 200000 < N) : ok_2 N := fun _ _ _ _ _ _ _ _ hr hm _ _ a1 => u_2 hr hm (by omega) a1
theorem okw_3 {N : Nat} (hN : 200000 < N) : ok_3 N := fun _ _ _ _ _ _ _ _ hr hm _ _ a1 a2 => u_3 hr hm (by omega) a1 a2
theorem okw_4 {N : Nat} (hN : 200000 < N) : ok_4 N := fun _ _ _ _ _ _ _ _ hr hm _ _  => u_4 hr hm
theorem okw_5 {N : Nat} (hN : 200000 < N) : ok_5 N := fun _ _ _ _ _ _ _ _ hr hm _ _ a1 a2 => u_5 hr hm (by omega) a1 a2
theorem okw_6 {N : Nat} (hN : 200000 < N) : ok_6 N := fun _ _ _ _ _ _ _ _ hr hm _ _ a1 => u_6 hr hm a1
theorem okw_7 {N : Nat} (hN : 200000 < N) : ok_7 N := fun _ _ _ _ _ _ _ _ hr hm _ _ a1 a2 a3 => u_7 hr hm a1 a2 a3
theorem okw_8 {N : Nat} (hN : 200000 < N) : ok_8 N := fun _ _ _ _ _ _ _ _ hr hm _ _ a1 a2 => u_8 hr hm (by omega) a1 a2
theorem okw_9 {N : Nat} (hN : 200000 < N) : ok_9 N := fun _ _ _ _ _ _ _ _ hr hm _ _ a1 => u_9 hr hm (by omega) a1
theorem okw_10 {N : Nat} (hN : 200000 < N) : ok_10 N := fun _ _ _ _ _ _ _ _ hr hm _ _ a1 a2 a3 => u_10 hr hm (by omega) a1 _
theorem okw_11 {N : Nat} (hN : 200000 < N) : ok_11 N := fun _ _ _ _ _ _ _ _ hr hm _ _ a1 => u_11 hr hm (by omega) a1
theorem okw_12 {N : Nat} (hN : 200000 < N) : ok_12 N := fun _ _ _ _ _ _ _ _ hr hm _ _ a1 => u_12 hr hm a1
theorem okw_13 {N : Nat} (hN : 200000 < N) : ok_13 N := fun _ _ _ _ _ _ _ _ hr hm _ _ a1 a2 a3 a4 a5 a6 => u_13 hr hm (by omega) a1 a2 a3 a4 a5 a6
theorem okw_14 {N : Nat} (hN : 200000 < N) : ok_14 N := fun _ _ _ _ _ _ _ _ hr hm _ _ a1 => u_14 hr hm (by omega) a1
theorem okw_15 {N : Nat} (hN : 200000 < N) : ok_15 N := fun _ _ _ _ _ _ _ _ hr hm _ _  => u_15 hr hm
theorem okw_16 {N : Nat} (hN : 200000 < N) : ok_16 N := fun _ _ _ _ _ _ _ _ hr hm _ _ a1 a2 => u_16 hr hm a1 a2
theorem okw_17 {N : Nat} (hN : 200000 < N) : ok_17 N := fun _ _ _ _ _ _ _ _ hr hm _ _ a1 a2 => u_17 hr hm (by omega) a1 a2
theorem okw_18 {N : Nat} (hN : 200000 < N) : ok_18 N := fun _ _ _ _ _ _ _ _ hr hm _ _ a1 a2 a3 a4 => u_18 hr hm (by omega) a1 a2 a3 a4
theorem okw_19 {N : Nat} (hN : 200000 < N) : ok_19 N := fun _ _ _ _ _ _ _ _ hr hm _ _  => u_19 hr hm
theorem okw_20 {N : Nat} (hN : 200000 < N) : ok_20 N := fun _ _ _ _ _ _ _ _ hr hm _ _  => u_20 hr hm
theorem okw_21 {N : Nat} (hN : 200000 < N) : ok_21 N := fun _ _ _ _ _ _ _ _ hr hm _ _ a1 a2 => u_21 hr hm (by omega) a1 a2
theorem okw_22 {N : Nat} (hN : 200000 < N) : ok_22 N := fun _ _ _ _ _ _ _ _ hr hm _ _ a1 a2 a3 => u_22 hr hm (by omega) a1 _ a3 (h01 a2)
theorem okw_23 {N : Nat} (hN : 200000 < N) : ok_23 N := fun _ _ _ _ _ _ _ _ hr hm _ _ a1 a2 => u_23 hr hm (by omega) a1 a2
theorem okw_24 {N : Nat} (hN : 200000 < N) : ok_24 N := fun _ _ _ _ _ _ _ _ hr hm _ _ a1 a2 => u_24 hr hm (by omega) a1 _ (h01 a2)
theorem okw_25 {N : Nat} (hN : 200000 < N) : ok_25 N := fun _ _ _ _ _ _ _ _ hr hm _ _ a1 a2 => u_25 hr hm (by omega) a1 a2
theorem okw_26 {N : Nat} (hN : 200000 < N) : ok_26 N := fun _ _ _ _ _ _ _ _ hr hm Ln xs a1 a2 => u_26 hr hm Ln xs a1 a2
theorem okw_27 {N : Nat} (hN : 200000 < N) : ok_27 N := fun _ _ _ _ _ _ _ _ hr hm _ _ a1 a2 => u_27 hr hm (by omega) a1 a2
theorem okw_28 {N : Nat} (hN : 200000 < N) : ok_28 N := fun _ _ _ _ _ _ _ _ hr hm _ _ a1 a2 a3 => u_28 hr hm (by omega) a1 a2 a3
theorem okw_29 {N : Nat} (hN : 200000 < N) : ok_29 N := fun _ _ _ _ _ _ _ _ hr hm _ _ a1 a2 a3 a4 => u_29 hr hm (by omega) a1 a2 _
theorem okw_30 {N : Nat} (hN : 200000 < N) : ok_30 N := fun _ _ _ _ _ _ _ _ hr hm _ _ a1 a2 => u_30 hr hm (by omega) a1 a2
theorem okw_31 {N : Nat} (hN : 200000 < N) : ok_31 N := fun _ _ _ _ _ _ _ _ hr hm _ _ a1 a2 a3 a4 => u_31 hr hm (by omega) a1 a2 _
theorem okw_32 {N : Nat} (hN : 200000 < N) : ok_32 N := fun _ _ _ _ _ _ _ _ hr hm _ _ a1 a2 a3 a4 a5 a6 => u_32 hr hm (by omega) a1 a2 a3 a4 _
theorem okw_33 {N : Nat} (hN : 200000 < N) : ok_33 N := fun _ _ _ _ _ _ _ _ hr hm _ _ a1 => u_33 hr hm a1
theorem okw_34 {N : Nat} (hN : 200000 < N) : ok_34 N := fun _ _ _ _ _ _ _ _ hr hm _ _ a1 a2 => u_34 hr hm a1 a2
theorem okw_35 {N : Nat} (hN : 200000 < N) : ok_35 N := fun _ _ _ _ _ _ _ _ hr hm _ _ a1 a2 => u_35 hr hm (by omega) a1 a2
theorem okw_36 {N : Nat} (hN : 200000 < N) : ok_36 N := fun _ _ _ _ _ _ _ _ hr hm _ _ a1 a2 => u_36 hr hm (by omega) a1 a2
theorem okw_37 {N : Nat} (hN : 200000 < N) : ok_37 N := fun _ _ _ _ _ _ _ _ hr hm _ _ a1 => u_37 hr hm (by omega) a1
theorem okw_38 {N : Nat} (hN : 200000 < N) : ok_38 N := fun _ _ _ _ _ _ _ _ hr hm _ _ a1 a2 => u_38 hr hm (by omega) a1 a2
theorem okw_39 {N : Nat} (hN : 200000 < N) : ok_39 N := fun _ _ _ _ _ _ _ _ hr hm _ _ a1 a2 a3 => u_39 hr hm (by omega) a1 a2 a3
theorem okw_40 {N : Nat} (hN : 200000 < N) : ok_40 N := fun _ _ _ _ _ _ _ _ hr hm _ _ a1 a2 => u_40 hr hm (by omega) a1 a2
theorem okw_41 {N : Nat} (hN : 200000 < N) : ok_41 N := fun _ _ _ _ _ _ _ _ hr hm _ _ a1 a2 => u_41 hr hm (by omega) a1 a2
theorem okw_42 {N : Nat} (hN : 200000 < N) : ok_42 N := fun _ _ _ _ _ _ _ _ hr hm _ _ a1 => u_42 hr hm (by omega) a1
theorem okw_43 {N : Nat} (hN : 200000 < N) : ok_43 N := fun _ _ _ _ _ _ _ _ hr hm _ _ a1 a2 => u_43 hr hm (by omega) a1 a2
theorem okw_44 {N : Nat} (hN : 200000 < N) : ok_44 N := fun _ _ _ _ _ _ _ _ hr hm _ _ a1 a2 => u_44 hr hm (by omega) a1 a2
theorem okw_45 {N : Nat} (hN : 200000 < N) : ok_45 N := fun _ _ _ _ _ _ _ _ hr hm _ _ a1 => u_45 hr hm (by omega) a1
theorem okw_46 {N : Nat} (hN : 200000 < N) : ok_46 N := fun _ _ _ _ _ _ _ _ hr hm Ln xs a1 => u_46 hr hm (by omega) Ln xs a1
theorem okw_47 {N : Nat} (hN : 200000 < N) : ok_47 N := fun _ _ _ _ _ _ _ _ hr hm _ _ a1 => u_47 hr hm (by omega) a1
theorem okw_48 {N : Nat} (hN : 200000 < N) : ok_48 N := fun _ _ _ _ _ _ _ _ hr hm _ _  => u_48 hr hm
theorem okw_49 {N : Nat} (hN : 200000 < N) : ok_49 N := fun _ _ _ _ _ _ _ _ hr hm _ _ a1 a2 => u_49 hr hm a1 a2
theorem okw_50 {N : Nat} (hN : 200000 < N) : ok_50 N := fun _ _ _ _ _ _ _ _ hr hm _ _ a1 a2 => u_50 hr hm (by omega) a1 a2
theorem okw_51 {N : Nat} (hN : 200000 < N) : ok_51 N := fun _ _ _ _ _ _ _ _ hr hm _ _ a1 a2 => u_51 hr hm (by omega) a1 a2
theorem okw_52 {N : Nat} (hN : 200000 < N) : ok_52 N := fun _ _ _ _ _ _ _ _ hr hm _ _ a1 => u_52 hr hm a1
theorem okw_53 {N : Nat} (hN : 200000 < N) : ok_53 N := fun _ _ _ _ _ _ _ _ hr hm _ _ a1 => u_53 hr hm (by omega) a1
theorem okw_54 {N : Nat} (hN : 200000 < N) : ok_54 N := fun _ _ _ _ _ _ _ _ hr hm _ _ a1 a2 a3 => u_54 hr hm (by omega) a1 a2 a3
theorem okw_55 {N : Nat} (hN : 200000 < N) : ok_55 N := fun _ _ _ _ _ _ _ _ hr hm _ _ a1 a2 => u_55 hr hm (by omega) a1 a2
theorem okw_56 {N : Nat} (hN : 200000 < N) : ok_56 N := fun _ _ _ _ _ _ _ _ hr hm _ _ a1 => u_56 hr hm (by omega) a1
theorem okw_57 {N : Nat} (hN : 200000 < N) : ok_57 N := fun _ _ _ _ _ _ _ _ hr hm _ _ a1 => u_57 hr hm (by omega) a1
theorem okw_58 {N : Nat} (hN : 200000 < N) : ok_58 N := fun _ _ _ _ _ _ _ _ hr hm _ _ a1 => u_58 hr hm (by omega) a1
theorem okw_59 {N : Nat} (hN : 200000 < N) : ok_59 N := fun _ _ _ _ _ _ _ _ hr hm _ _ a1 => u_59 hr hm (by omega) a1
