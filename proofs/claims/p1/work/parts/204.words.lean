/-! ===== the words of the library's contracts on texts, as the tables have them ===== -/
set_option maxRecDepth 100000 in
theorem tw_c_i1 : (.code ⟨"java/lang/String", "indexOf", "(I)I"⟩ Jvm.Free.StrIndexOf.indexOf1B 2 (some .int) : Cond) ∈ am_tb := am_tix_mem (i := 740) (by decide +kernel)
set_option maxRecDepth 100000 in
theorem tw_c_i2 : (.code ⟨"java/lang/String", "indexOf", "(II)I"⟩ Jvm.Free.StrIndexOf.indexOf2B 3 (some .int) : Cond) ∈ am_tb := am_tix_mem (i := 744) (by decide +kernel)
set_option maxRecDepth 100000 in
theorem tw_c_il : (.code ⟨"java/lang/String", "isLatin1", "()Z"⟩ Jvm.Lib.String.isLatin1.code 1 (some .boolean) : Cond) ∈ am_tb := am_tix_mem (i := 748) (by decide +kernel)
set_option maxRecDepth 100000 in
theorem tw_c_ln : (.code ⟨"java/lang/String", "length", "()I"⟩ Jvm.Lib.String.length.code 1 (some .int) : Cond) ∈ am_tb := am_tix_mem (i := 754) (by decide +kernel)
set_option maxRecDepth 100000 in
theorem tw_c_co : (.code ⟨"java/lang/String", "coder", "()B"⟩ Jvm.Lib.String.coder.code 1 (some .byte) : Cond) ∈ am_tb := am_tix_mem (i := 758) (by decide +kernel)
set_option maxRecDepth 100000 in
theorem tw_c_ix : (.code ⟨"java/lang/StringLatin1", "indexOf", "([BIII)I"⟩ Jvm.Free.SL1IndexOf.indexOfB 4 (some .int) : Cond) ∈ am_tb := am_tix_mem (i := 761) (by decide +kernel)
set_option maxRecDepth 100000 in
theorem tw_c_ce : (.code ⟨"java/lang/StringLatin1", "canEncode", "(I)Z"⟩ Jvm.Free.SL1IndexOf.canEncodeB 1 (some .boolean) : Cond) ∈ am_tb := am_tix_mem (i := 764) (by decide +kernel)
set_option maxRecDepth 100000 in
theorem tw_c_mx : (.code ⟨"java/lang/Math", "max", "(II)I"⟩ Jvm.Lib.Math.max.code 2 (some .int) : Cond) ∈ am_tb := am_tix_mem (i := 767) (by decide +kernel)
set_option maxRecDepth 100000 in
theorem tw_c_mn : (.code ⟨"java/lang/Math", "min", "(II)I"⟩ Jvm.Lib.Math.min.code 2 (some .int) : Cond) ∈ am_tb := am_tix_mem (i := 770) (by decide +kernel)
set_option maxRecDepth 100000 in
theorem tw_c_ic : (.code ⟨"java/lang/StringLatin1", "indexOfChar", "([BIII)I"⟩ Jvm.Free.SL1IndexOf.indexOfCharB 6 (some .int) : Cond) ∈ am_tb := am_tix_mem (i := 773) (by decide +kernel)
set_option maxRecDepth 100000 in
theorem tw_c_ch : (.code ⟨"java/lang/String", "charAt", "(I)C"⟩ Jvm.Free.Fmt.SCh.yB 2 (some .char) : Cond) ∈ am_tb := am_tix_mem (i := 967) (by decide +kernel)
set_option maxRecDepth 100000 in
theorem tw_c_lc : (.code ⟨"java/lang/StringLatin1", "charAt", "([BI)C"⟩ Jvm.Free.Fmt.LCh.yB 2 (some .char) : Cond) ∈ am_tb := am_tix_mem (i := 970) (by decide +kernel)
set_option maxRecDepth 100000 in
theorem tw_c_ck : (.code ⟨"java/lang/String", "checkIndex", "(II)V"⟩ Jvm.Free.Fmt.SCk.yB 2 none : Cond) ∈ am_tb := am_tix_mem (i := 973) (by decide +kernel)
set_option maxRecDepth 100000 in
theorem tw_c_pc : (.code ⟨"jdk/internal/util/Preconditions", "checkIndex", "(IILjava/util/function/BiFunction;)I"⟩ Jvm.Free.Fmt.PCI.yB 3 (some .int) : Cond) ∈ am_tb := am_tix_mem (i := 976) (by decide +kernel)
set_option maxRecDepth 100000 in
theorem tw_i_i1 : (.instanceMethod ⟨"java/lang/String", "indexOf", "(I)I"⟩ : Cond) ∈ am_tb := am_tix_mem (i := 738) (by decide +kernel)
set_option maxRecDepth 100000 in
theorem tw_s_i1 : (.selects "java/lang/String" ⟨"java/lang/String", "indexOf", "(I)I"⟩ ⟨"java/lang/String", "indexOf", "(I)I"⟩ : Cond) ∈ am_tb := am_tix_mem (i := 739) (by decide +kernel)
set_option maxRecDepth 100000 in
theorem tw_i_i2 : (.instanceMethod ⟨"java/lang/String", "indexOf", "(II)I"⟩ : Cond) ∈ am_tb := am_tix_mem (i := 742) (by decide +kernel)
set_option maxRecDepth 100000 in
theorem tw_s_i2 : (.selects "java/lang/String" ⟨"java/lang/String", "indexOf", "(II)I"⟩ ⟨"java/lang/String", "indexOf", "(II)I"⟩ : Cond) ∈ am_tb := am_tix_mem (i := 743) (by decide +kernel)
set_option maxRecDepth 100000 in
theorem tw_i_il : (.instanceMethod ⟨"java/lang/String", "isLatin1", "()Z"⟩ : Cond) ∈ am_tb := am_tix_mem (i := 746) (by decide +kernel)
set_option maxRecDepth 100000 in
theorem tw_s_il : (.selects "java/lang/String" ⟨"java/lang/String", "isLatin1", "()Z"⟩ ⟨"java/lang/String", "isLatin1", "()Z"⟩ : Cond) ∈ am_tb := am_tix_mem (i := 747) (by decide +kernel)
set_option maxRecDepth 100000 in
theorem tw_i_ln : (.instanceMethod ⟨"java/lang/String", "length", "()I"⟩ : Cond) ∈ am_tb := am_tix_mem (i := 752) (by decide +kernel)
set_option maxRecDepth 100000 in
theorem tw_s_ln : (.selects "java/lang/String" ⟨"java/lang/String", "length", "()I"⟩ ⟨"java/lang/String", "length", "()I"⟩ : Cond) ∈ am_tb := am_tix_mem (i := 753) (by decide +kernel)
set_option maxRecDepth 100000 in
theorem tw_i_co : (.instanceMethod ⟨"java/lang/String", "coder", "()B"⟩ : Cond) ∈ am_tb := am_tix_mem (i := 756) (by decide +kernel)
set_option maxRecDepth 100000 in
theorem tw_s_co : (.selects "java/lang/String" ⟨"java/lang/String", "coder", "()B"⟩ ⟨"java/lang/String", "coder", "()B"⟩ : Cond) ∈ am_tb := am_tix_mem (i := 757) (by decide +kernel)
set_option maxRecDepth 100000 in
theorem tw_i_ch : (.instanceMethod ⟨"java/lang/String", "charAt", "(I)C"⟩ : Cond) ∈ am_tb := am_tix_mem (i := 965) (by decide +kernel)
set_option maxRecDepth 100000 in
theorem tw_s_ch : (.selects "java/lang/String" ⟨"java/lang/String", "charAt", "(I)C"⟩ ⟨"java/lang/String", "charAt", "(I)C"⟩ : Cond) ∈ am_tb := am_tix_mem (i := 966) (by decide +kernel)
set_option maxRecDepth 100000 in
theorem tw_t_ix : (.static ⟨"java/lang/StringLatin1", "indexOf", "([BIII)I"⟩ : Cond) ∈ am_tb := am_tix_mem (i := 760) (by decide +kernel)
set_option maxRecDepth 100000 in
theorem tw_t_ce : (.static ⟨"java/lang/StringLatin1", "canEncode", "(I)Z"⟩ : Cond) ∈ am_tb := am_tix_mem (i := 763) (by decide +kernel)
set_option maxRecDepth 100000 in
theorem tw_t_mx : (.static ⟨"java/lang/Math", "max", "(II)I"⟩ : Cond) ∈ am_tb := am_tix_mem (i := 766) (by decide +kernel)
set_option maxRecDepth 100000 in
theorem tw_t_mn : (.static ⟨"java/lang/Math", "min", "(II)I"⟩ : Cond) ∈ am_tb := am_tix_mem (i := 769) (by decide +kernel)
set_option maxRecDepth 100000 in
theorem tw_t_ic : (.static ⟨"java/lang/StringLatin1", "indexOfChar", "([BIII)I"⟩ : Cond) ∈ am_tb := am_tix_mem (i := 772) (by decide +kernel)
set_option maxRecDepth 100000 in
theorem tw_t_lc : (.static ⟨"java/lang/StringLatin1", "charAt", "([BI)C"⟩ : Cond) ∈ am_tb := am_tix_mem (i := 969) (by decide +kernel)
set_option maxRecDepth 100000 in
theorem tw_t_ck : (.static ⟨"java/lang/String", "checkIndex", "(II)V"⟩ : Cond) ∈ am_tb := am_tix_mem (i := 972) (by decide +kernel)
set_option maxRecDepth 100000 in
theorem tw_t_pc : (.static ⟨"jdk/internal/util/Preconditions", "checkIndex", "(IILjava/util/function/BiFunction;)I"⟩ : Cond) ∈ am_tb := am_tix_mem (i := 975) (by decide +kernel)
set_option maxRecDepth 100000 in
theorem tw_l_i1 : (.methodLink "BreedingHouse$Texts" 89 ⟨"java/lang/String", "indexOf", "(I)I"⟩ : Cond) ∈ am_tb := am_tix_mem (i := 737) (by decide +kernel)
set_option maxRecDepth 100000 in
theorem tw_l_ch : (.methodLink "BreedingHouse$Texts" 166 ⟨"java/lang/String", "charAt", "(I)C"⟩ : Cond) ∈ am_tb := am_tix_mem (i := 964) (by decide +kernel)
set_option maxRecDepth 100000 in
theorem tw_l_i2 : (.methodLink "java/lang/String" 633 ⟨"java/lang/String", "indexOf", "(II)I"⟩ : Cond) ∈ am_tb := am_tix_mem (i := 741) (by decide +kernel)
set_option maxRecDepth 100000 in
theorem tw_l_il : (.methodLink "java/lang/String" 492 ⟨"java/lang/String", "isLatin1", "()Z"⟩ : Cond) ∈ am_tb := am_tix_mem (i := 745) (by decide +kernel)
set_option maxRecDepth 100000 in
theorem tw_l_ln : (.methodLink "java/lang/String" 505 ⟨"java/lang/String", "length", "()I"⟩ : Cond) ∈ am_tb := am_tix_mem (i := 751) (by decide +kernel)
set_option maxRecDepth 100000 in
theorem tw_l_co : (.methodLink "java/lang/String" 335 ⟨"java/lang/String", "coder", "()B"⟩ : Cond) ∈ am_tb := am_tix_mem (i := 755) (by decide +kernel)
set_option maxRecDepth 100000 in
theorem tw_l_ix : (.methodLink "java/lang/String" 637 ⟨"java/lang/StringLatin1", "indexOf", "([BIII)I"⟩ : Cond) ∈ am_tb := am_tix_mem (i := 759) (by decide +kernel)
set_option maxRecDepth 100000 in
theorem tw_l_ce : (.methodLink "java/lang/StringLatin1" 88 ⟨"java/lang/StringLatin1", "canEncode", "(I)Z"⟩ : Cond) ∈ am_tb := am_tix_mem (i := 762) (by decide +kernel)
set_option maxRecDepth 100000 in
theorem tw_l_mx : (.methodLink "java/lang/StringLatin1" 92 ⟨"java/lang/Math", "max", "(II)I"⟩ : Cond) ∈ am_tb := am_tix_mem (i := 765) (by decide +kernel)
set_option maxRecDepth 100000 in
theorem tw_l_mn : (.methodLink "java/lang/StringLatin1" 38 ⟨"java/lang/Math", "min", "(II)I"⟩ : Cond) ∈ am_tb := am_tix_mem (i := 768) (by decide +kernel)
set_option maxRecDepth 100000 in
theorem tw_l_ic : (.methodLink "java/lang/StringLatin1" 95 ⟨"java/lang/StringLatin1", "indexOfChar", "([BIII)I"⟩ : Cond) ∈ am_tb := am_tix_mem (i := 771) (by decide +kernel)
set_option maxRecDepth 100000 in
theorem tw_l_lc : (.methodLink "java/lang/String" 495 ⟨"java/lang/StringLatin1", "charAt", "([BI)C"⟩ : Cond) ∈ am_tb := am_tix_mem (i := 968) (by decide +kernel)
set_option maxRecDepth 100000 in
theorem tw_l_ck : (.methodLink "java/lang/StringLatin1" 9 ⟨"java/lang/String", "checkIndex", "(II)V"⟩ : Cond) ∈ am_tb := am_tix_mem (i := 971) (by decide +kernel)
set_option maxRecDepth 100000 in
theorem tw_l_pc : (.methodLink "java/lang/String" 1059 ⟨"jdk/internal/util/Preconditions", "checkIndex", "(IILjava/util/function/BiFunction;)I"⟩ : Cond) ∈ am_tb := am_tix_mem (i := 974) (by decide +kernel)
set_option maxRecDepth 100000 in
theorem tw_f_z : (.fieldLink "java/lang/String" 38 "java/lang/String" "COMPACT_STRINGS" "Z" : Cond) ∈ am_tb := am_tix_mem (i := 749) (by decide +kernel)
set_option maxRecDepth 100000 in
theorem tw_f_c : (.fieldLink "java/lang/String" 15 "java/lang/String" "coder" "B" : Cond) ∈ am_tb := am_tix_mem (i := 3551) (by decide +kernel)
set_option maxRecDepth 100000 in
theorem tw_f_v : (.fieldLink "java/lang/String" 9 "java/lang/String" "value" "[B" : Cond) ∈ am_tb := am_tix_mem (i := 3552) (by decide +kernel)
set_option maxRecDepth 100000 in
theorem tw_f_f : (.fieldLink "java/lang/String" 1053 "jdk/internal/util/Preconditions" "SIOOBE_FORMATTER" "Ljava/util/function/BiFunction;" : Cond) ∈ am_tb := am_tix_mem (i := 792) (by decide +kernel)
set_option maxRecDepth 100000 in
theorem tw_n_S : (.initialized "java/lang/String" : Cond) ∈ am_tb := am_tix_mem (i := 19) (by decide +kernel)
set_option maxRecDepth 100000 in
theorem tw_n_L : (.initialized "java/lang/StringLatin1" : Cond) ∈ am_tb := am_tix_mem (i := 20) (by decide +kernel)
set_option maxRecDepth 100000 in
theorem tw_n_M : (.initialized "java/lang/Math" : Cond) ∈ am_tb := am_tix_mem (i := 21) (by decide +kernel)
set_option maxRecDepth 100000 in
theorem tw_n_P : (.initialized "jdk/internal/util/Preconditions" : Cond) ∈ am_tb := am_tix_mem (i := 23) (by decide +kernel)
/-- a word of the tables that needn't stay true as the machine goes on -/
def am_tiy (i : Nat) (w : Cond) : Bool := decide (tables_1[i]? = some w)
theorem am_tiy_mem {i : Nat} {w : Cond} (h : am_tiy i w = true) : w ∈ lw_tbl := List.mem_append_right _ (List.mem_of_getElem? (of_decide_eq_true h))
set_option maxRecDepth 100000 in
theorem tw_y_z : (.laysStatic "java/lang/String" "COMPACT_STRINGS" "Z" : Cond) ∈ lw_tbl := am_tiy_mem (i := 750) (by decide +kernel)
set_option maxRecDepth 100000 in
theorem tw_y_f : (.laysStatic "jdk/internal/util/Preconditions" "SIOOBE_FORMATTER" "Ljava/util/function/BiFunction;" : Cond) ∈ lw_tbl := am_tiy_mem (i := 793) (by decide +kernel)
