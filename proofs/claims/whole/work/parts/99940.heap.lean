/-! ===== the reference's heaps of trees ===== -/
theorem hd_557_82 {N : Nat} {x0 : Value} {x1 : Int32} {h : am_H} {r_ : Option am_O} (k_ : (if ¬ x1 = 0 then (if am_pOk 12 x0 h then am_cV true (fm_561 N x0 0 h) (fun h4 => (if am_pOk 12 x0 h4 then am_cI true (fm_563 N x0 0 h4) (fun v7 h8 => (if ¬ v7 = 0 then ((am_pP 3087 x0 (.int 0) h8).bind fun h11 => (if am_pOk 12 x0 h11 then am_cV true (fm_495 N x0 h11) (fun h15 => some (.inl (some (.int 1), h15))) else none)) else some (.inl (some (.int 0), h8)))) else none)) else none) else some (.inl (some (.int 0), h))) = r_) : fg_557_82 N x0 x1 h = r_ := k_
theorem hd_557_75 {N : Nat} {rec_28 : Value → Int32 → Int32 → am_H → Option am_O} {x0 : Value} {x2 : Int32} {s0 : Int32} {h : am_H} {r_ : Option am_O} (k_ : (rec_28 x0 s0 ((x2 + 1)) h) = r_) : fg_557_75 N rec_28 x0 x2 s0 h = r_ := k_
theorem hd_557_74 {N : Nat} {rec_28 : Value → Int32 → Int32 → am_H → Option am_O} {x0 : Value} {x2 : Int32} {h : am_H} {r_ : Option am_O} (k_ : (fg_557_75 N rec_28 x0 x2 0 h) = r_) : fg_557_74 N rec_28 x0 x2 h = r_ := k_
theorem hd_557_28 {N : Nat} {K : Nat} {x0 : Value} {x1 : Int32} {x2 : Int32} {h : am_H} {r_ : Option am_O} (k_ : ((am_vI (am_pG 3090 x0 h)).bind fun v1 => (if v1 ≤ x2 then (fg_557_82 N x0 x1 h) else (if x1 = 0 then (fg_557_82 N x0 x1 h) else ((am_vR (am_pG 3093 x0 h)).bind fun v5 => ((am_pA 0 v5 x2 h).bind fun v7 => (if 17 ≤ v7 then (fg_557_74 N (fg_557_28 N K) x0 x2 h) else ((am_vR (am_pG 3093 x0 h)).bind fun v10 => ((am_pA 0 v10 x2 h).bind fun v12 => ((am_vR (am_pG 3094 x0 h)).bind fun v14 => ((am_pA 0 v14 x2 h).bind fun v16 => (if am_pOk 12 x0 h then am_cI true (fm_558 N x0 v12 v16 h) (fun v19 h20 => (if v19 = 0 then (fg_557_74 N (fg_557_28 N K) x0 x2 h20) else (fg_557_75 N (fg_557_28 N K) x0 x2 1 h20))) else none))))))))))) = r_) : fg_557_28 N (K + 1) x0 x1 x2 h = r_ := by rw [fg_557_28]; exact k_
theorem hd_557_0 {N : Nat} {x0 : Value} {h : am_H} {r_ : Option am_O} (k_ : ((am_vI (am_pG 3092 x0 h)).bind fun v1 => (if ¬ v1 = 0 then ((am_vI (am_pG 3092 x0 h)).bind fun v4 => (if v4 = 1 then ((am_pP 3193 x0 (.int 0) h).bind fun h7 => (fg_557_28 N N x0 1 0 h7)) else some (.inl (some (.int 0), h)))) else some (.inl (some (.int 1), h)))) = r_) : fg_557_0 N x0 h = r_ := k_
theorem hm_557 {N : Nat} {y0 : Value} {h : am_H} {r_ : Option am_O} (k_ : fg_557_0 N y0 h = r_) : fm_557 N y0 h = r_ := k_
theorem hd_558_194 {N : Nat} {h : am_H} {r_ : Option am_O} (k_ : some (.inl (some (.int 0), h)) = r_) : fg_558_194 N h = r_ := k_
theorem hd_558_129 {N : Nat} {x0 : Value} {h : am_H} {r_ : Option am_O} (k_ : ((am_vI (am_pG 3193 x0 h)).bind fun v1 => ((am_vI (am_pG 3193 x0 h)).bind fun v3 => (if am_pOk 12 x0 h then am_cV true (fm_564 N x0 ((v1 - 1)) v3 h) (fun h7 => ((am_vI (am_pG 3193 x0 h7)).bind fun v9 => ((am_vI (am_pG 3193 x0 h7)).bind fun v11 => (if am_pOk 12 x0 h7 then am_cV true (fm_564 N x0 ((v9 - 2)) ((v11 - 1)) h7) (fun h15 => ((am_vI (am_pG 3193 x0 h15)).bind fun v17 => ((am_vI (am_pG 3193 x0 h15)).bind fun v19 => (if am_pOk 12 x0 h15 then am_cV true (fm_564 N x0 v17 ((v19 - 2)) h15) (fun h23 => some (.inl (some (.int 1), h23))) else none)))) else none)))) else none))) = r_) : fg_558_129 N x0 h = r_ := k_
theorem hd_558_59 {N : Nat} {s0 : Value} {s1 : Int32} {h : am_H} {r_ : Option am_O} (k_ : (if am_pOk 12 s0 h then am_cI true (fm_560 N s0 s1 h) (fun v2 h3 => (if am_rfit (some FieldType.boolean) v2 then some (.inl (some (.int v2), h3)) else none)) else none) = r_) : fg_558_59 N s0 s1 h = r_ := k_
theorem hd_558_0 {N : Nat} {x0 : Value} {x1 : Int32} {x2 : Int32} {h : am_H} {r_ : Option am_O} (k_ : (if 5 ≤ x1 then (if 14 ≤ x1 then (if ¬ x1 = 14 then (if ¬ x1 = 15 then (if ¬ x1 = 16 then (fg_558_194 N h) else ((am_vI (am_pG 3193 x0 h)).bind fun v6 => (if am_pOk 12 x0 h then am_cI true (fm_565 N x0 ((v6 - 1)) h) (fun v9 h10 => (if ¬ v9 = 0 then ((am_vI (am_pG 3193 x0 h10)).bind fun v13 => ((am_pP 3193 x0 (.int (v13 - 1)) h10).bind fun h15 => some (.inl (some (.int 1), h15)))) else (fg_558_194 N h10))) else none))) else ((am_vI (am_pG 3193 x0 h)).bind fun v17 => (if am_pOk 12 x0 h then am_cI true (fm_565 N x0 ((v17 - 1)) h) (fun v20 h21 => (if ¬ v20 = 0 then (fg_558_129 N x0 h21) else ((am_vI (am_pG 3193 x0 h21)).bind fun v24 => (if am_pOk 12 x0 h21 then am_cI true (fm_565 N x0 ((v24 - 2)) h21) (fun v27 h28 => (if ¬ v27 = 0 then (fg_558_129 N x0 h28) else some (.inl (some (.int 0), h28)))) else none)))) else none))) else ((am_vI (am_pG 3193 x0 h)).bind fun v31 => ((am_vI (am_pG 3193 x0 h)).bind fun v33 => (if am_pOk 12 x0 h then am_cV true (fm_564 N x0 ((v31 - 1)) v33 h) (fun h37 => ((am_vI (am_pG 3193 x0 h37)).bind fun v39 => ((am_pP 3193 x0 (.int (v39 + 1)) h37).bind fun h41 => some (.inl (some (.int 1), h41))))) else none)))) else (if 7 ≤ x1 then (fg_558_59 N x0 ((x1 + 3)) h) else (fg_558_59 N x0 ((x1 + 2)) h))) else ((am_vR (am_pG 3192 x0 h)).bind fun v44 => ((am_vI (am_pG 3193 x0 h)).bind fun v46 => ((am_pS 0 v44 v46 0 h).bind fun h48 => ((am_vI (am_pG 3193 x0 h48)).bind fun v50 => (if am_pOk 12 x0 h48 then am_cV true (fm_559 x0 v50 x1 x2 h48) (fun h54 => ((am_vI (am_pG 3193 x0 h54)).bind fun v56 => ((am_pP 3193 x0 (.int (v56 + 1)) h54).bind fun h58 => some (.inl (some (.int 1), h58))))) else none)))))) = r_) : fg_558_0 N x0 x1 x2 h = r_ := k_
theorem hm_558 {N : Nat} {y0 : Value} {y1 : Int32} {y2 : Int32} {h : am_H} {r_ : Option am_O} (k_ : fg_558_0 N y0 y1 y2 h = r_) : fm_558 N y0 y1 y2 h = r_ := k_
theorem hd_559_0 {x0 : Value} {x1 : Int32} {x2 : Int32} {x3 : Int32} {h : am_H} {r_ : Option am_O} (k_ : ((am_vR (am_pG 3190 x0 h)).bind fun v1 => ((am_vR (am_pG 3192 x0 h)).bind fun v3 => ((am_pA 0 v3 x1 h).bind fun v5 => ((am_pS 0 v1 ((128 * x1) + v5) x2 h).bind fun h7 => ((am_vR (am_pG 3191 x0 h7)).bind fun v9 => ((am_vR (am_pG 3192 x0 h7)).bind fun v11 => ((am_pA 0 v11 x1 h7).bind fun v13 => ((am_pS 0 v9 ((128 * x1) + v13) x3 h7).bind fun h15 => ((am_vR (am_pG 3192 x0 h15)).bind fun v17 => ((am_pA 0 v17 x1 h15).bind fun v19 => ((am_pS 0 v17 x1 (v19 + 1) h15).bind fun h21 => some (.inl (none, h21))))))))))))) = r_) : fg_559_0 x0 x1 x2 x3 h = r_ := k_
theorem hm_559 {y0 : Value} {y1 : Int32} {y2 : Int32} {y3 : Int32} {h : am_H} {r_ : Option am_O} (k_ : fg_559_0 y0 y1 y2 y3 h = r_) : fm_559 y0 y1 y2 y3 h = r_ := k_
theorem hd_560_243 {N : Nat} {x0 : Value} {x3 : Int32} {h : am_H} {r_ : Option am_O} (k_ : ((am_pP 3193 x0 (.int (x3 + 1)) h).bind fun h1 => (if am_pOk 12 x0 h1 then am_cI true (fm_563 N x0 x3 h1) (fun v4 h5 => (if am_rfit (some FieldType.boolean) v4 then some (.inl (some (.int v4), h5)) else none)) else none)) = r_) : fg_560_243 N x0 x3 h = r_ := k_
theorem hd_560_184 {N : Nat} {K : Nat} {x0 : Value} {x2 : Int32} {x3 : Int32} {x4 : Int32} {h : am_H} {r_ : Option am_O} (k_ : (if x2 ≤ 1 then (fg_560_243 N x0 x3 h) else ((am_vR (am_pG 3192 x0 h)).bind fun v2 => ((am_pA 0 v2 (x3 + 1) h).bind fun v4 => (if v4 ≤ x4 then (fg_560_243 N x0 x3 h) else ((am_vR (am_pG 3190 x0 h)).bind fun v7 => ((am_pA 0 v7 ((128 * (x3 + 1)) + x4) h).bind fun v9 => ((am_vR (am_pG 3191 x0 h)).bind fun v11 => ((am_pA 0 v11 ((128 * (x3 + 1)) + x4) h).bind fun v13 => (if am_pOk 12 x0 h then am_cV true (fm_559 x0 x3 v9 v13 h) (fun h17 => (fg_560_184 N K x0 x2 x3 ((x4 + 1)) h17)) else none))))))))) = r_) : fg_560_184 N (K + 1) x0 x2 x3 x4 h = r_ := by rw [fg_560_184]; exact k_
theorem hd_560_82 {N : Nat} {K : Nat} {x0 : Value} {x1 : Int32} {x2 : Int32} {x3 : Int32} {x4 : Int32} {h : am_H} {r_ : Option am_O} (k_ : (if x4 ≤ 0 then ((am_vR (am_pG 3190 x0 h)).bind fun v2 => ((am_pS 0 v2 (128 * x3) x1 h).bind fun h4 => ((am_vR (am_pG 3191 x0 h4)).bind fun v6 => ((am_pS 0 v6 (128 * x3) 0 h4).bind fun h8 => ((am_vR (am_pG 3192 x0 h8)).bind fun v10 => ((am_pA 0 v10 x3 h8).bind fun v12 => ((am_pS 0 v10 x3 (v12 + 1) h8).bind fun h14 => (fg_560_184 N N x0 x2 x3 0 h14)))))))) else ((am_vR (am_pG 3190 x0 h)).bind fun v16 => ((am_vR (am_pG 3190 x0 h)).bind fun v18 => ((am_pA 0 v18 (((128 * x3) + x4) - 1) h).bind fun v20 => ((am_pS 0 v16 ((128 * x3) + x4) v20 h).bind fun h22 => ((am_vR (am_pG 3191 x0 h22)).bind fun v24 => ((am_vR (am_pG 3191 x0 h22)).bind fun v26 => ((am_pA 0 v26 (((128 * x3) + x4) - 1) h22).bind fun v28 => ((am_pS 0 v24 ((128 * x3) + x4) v28 h22).bind fun h30 => (fg_560_82 N K x0 x1 x2 x3 ((x4 + (-1))) h30)))))))))) = r_) : fg_560_82 N (K + 1) x0 x1 x2 x3 x4 h = r_ := by rw [fg_560_82]; exact k_
theorem hd_560_74 {N : Nat} {x0 : Value} {x1 : Int32} {x2 : Int32} {x3 : Int32} {h : am_H} {r_ : Option am_O} (k_ : ((am_vR (am_pG 3192 x0 h)).bind fun v1 => ((am_pA 0 v1 x3 h).bind fun v3 => (fg_560_82 N N x0 x1 x2 x3 v3 h))) = r_) : fg_560_74 N x0 x1 x2 x3 h = r_ := k_
theorem hd_560_15 {N : Nat} {K : Nat} {x0 : Value} {x1 : Int32} {x2 : Int32} {x3 : Int32} {x4 : Int32} {h : am_H} {r_ : Option am_O} (k_ : ((am_vI (am_pG 3193 x0 h)).bind fun v1 => (if v1 ≤ x4 then (if x2 ≤ 1 then (fg_560_74 N x0 x1 x2 x3 h) else ((am_vR (am_pG 3192 x0 h)).bind fun v5 => ((am_pA 0 v5 x3 h).bind fun v7 => ((am_vR (am_pG 3192 x0 h)).bind fun v9 => ((am_pA 0 v9 (x3 + 1) h).bind fun v11 => (if (v7 + v11) ≤ 100 then (fg_560_74 N x0 x1 x2 x3 h) else some (.inl (some (.int 0), h)))))))) else (if am_pOk 12 x0 h then am_cV true (fm_561 N x0 x4 h) (fun h16 => (if am_pOk 12 x0 h16 then am_cI true (fm_563 N x0 x4 h16) (fun v19 h20 => (if ¬ v19 = 0 then (fg_560_15 N K x0 x1 x2 x3 ((x4 + 1)) h20) else some (.inl (some (.int 0), h20)))) else none)) else none))) = r_) : fg_560_15 N (K + 1) x0 x1 x2 x3 x4 h = r_ := by rw [fg_560_15]; exact k_
theorem hd_560_0 {N : Nat} {x0 : Value} {x1 : Int32} {h : am_H} {r_ : Option am_O} (k_ : am_cI false (fm_343 x1 h) (fun v1 h2 => ((am_vI (am_pG 3193 x0 h2)).bind fun v4 => (fg_560_15 N N x0 x1 v1 ((v4 - v1)) ((v4 - v1)) h2))) = r_) : fg_560_0 N x0 x1 h = r_ := k_
theorem hm_560 {N : Nat} {y0 : Value} {y1 : Int32} {h : am_H} {r_ : Option am_O} (k_ : fg_560_0 N y0 y1 h = r_) : fm_560 N y0 y1 h = r_ := k_
theorem hd_561_27 {N : Nat} {K : Nat} {x0 : Value} {x1 : Int32} {x2 : Int32} {h : am_H} {r_ : Option am_O} (k_ : (if x2 ≤ 0 then ((am_vR (am_pG 3190 x0 h)).bind fun v2 => ((am_pS 0 v2 (128 * x1) 20 h).bind fun h4 => ((am_vR (am_pG 3191 x0 h4)).bind fun v6 => ((am_pS 0 v6 (128 * x1) 0 h4).bind fun h8 => ((am_vR (am_pG 3192 x0 h8)).bind fun v10 => ((am_pA 0 v10 x1 h8).bind fun v12 => ((am_pS 0 v10 x1 (v12 + 1) h8).bind fun h14 => (if am_pOk 12 x0 h14 then am_cV true (fm_559 x0 x1 0 1 h14) (fun h18 => (if am_pOk 12 x0 h18 then am_cV true (fm_559 x0 x1 0 0 h18) (fun h22 => some (.inl (none, h22))) else none)) else none)))))))) else ((am_vR (am_pG 3190 x0 h)).bind fun v24 => ((am_vR (am_pG 3190 x0 h)).bind fun v26 => ((am_pA 0 v26 (((128 * x1) + x2) - 1) h).bind fun v28 => ((am_pS 0 v24 ((128 * x1) + x2) v28 h).bind fun h30 => ((am_vR (am_pG 3191 x0 h30)).bind fun v32 => ((am_vR (am_pG 3191 x0 h30)).bind fun v34 => ((am_pA 0 v34 (((128 * x1) + x2) - 1) h30).bind fun v36 => ((am_pS 0 v32 ((128 * x1) + x2) v36 h30).bind fun h38 => (fg_561_27 N K x0 x1 ((x2 + (-1))) h38)))))))))) = r_) : fg_561_27 N (K + 1) x0 x1 x2 h = r_ := by rw [fg_561_27]; exact k_
theorem hd_561_19 {N : Nat} {h : am_H} {r_ : Option am_O} (k_ : some (.inl (none, h)) = r_) : fg_561_19 N h = r_ := k_
theorem hd_561_0 {N : Nat} {x0 : Value} {x1 : Int32} {h : am_H} {r_ : Option am_O} (k_ : (if am_pOk 12 x0 h then am_cI true (fm_562 x0 x1 h) (fun v2 h3 => (if v2 = 0 then (fg_561_19 N h3) else ((am_vR (am_pG 3192 x0 h3)).bind fun v6 => ((am_pA 0 v6 x1 h3).bind fun v8 => (if v8 ≤ 124 then ((am_vR (am_pG 3192 x0 h3)).bind fun v11 => ((am_pA 0 v11 x1 h3).bind fun v13 => (fg_561_27 N N x0 x1 v13 h3))) else (fg_561_19 N h3)))))) else none) = r_) : fg_561_0 N x0 x1 h = r_ := k_
theorem hm_561 {N : Nat} {y0 : Value} {y1 : Int32} {h : am_H} {r_ : Option am_O} (k_ : fg_561_0 N y0 y1 h = r_) : fm_561 N y0 y1 h = r_ := k_
theorem hd_562_0 {x0 : Value} {x1 : Int32} {h : am_H} {r_ : Option am_O} (k_ : ((am_vR (am_pG 3190 x0 h)).bind fun v1 => ((am_pA 0 v1 (128 * x1) h).bind fun v3 => am_cI false (fm_334 v3 h) (fun v5 h6 => (if am_rfit (some FieldType.boolean) v5 then some (.inl (some (.int v5), h6)) else none)))) = r_) : fg_562_0 x0 x1 h = r_ := k_
theorem hm_562 {y0 : Value} {y1 : Int32} {h : am_H} {r_ : Option am_O} (k_ : fg_562_0 y0 y1 h = r_) : fm_562 y0 y1 h = r_ := k_
theorem hd_563_12 {N : Nat} {K : Nat} {x0 : Value} {x1 : Int32} {x2 : Int32} {h : am_H} {r_ : Option am_O} (k_ : ((am_vR (am_pG 3192 x0 h)).bind fun v1 => ((am_pA 0 v1 x1 h).bind fun v3 => (if v3 ≤ x2 then (if am_pOk 12 x0 h then am_cI true (fm_562 x0 x1 h) (fun v7 h8 => (if am_pOk 12 x0 h8 then am_cI true (fm_446 N x0 v7 0 h8) (fun v11 h12 => (if am_rfit (some FieldType.boolean) v11 then some (.inl (some (.int v11), h12)) else none)) else none)) else none) else ((am_vR (am_pG 3190 x0 h)).bind fun v15 => ((am_pA 0 v15 ((128 * x1) + x2) h).bind fun v17 => ((am_vR (am_pG 3191 x0 h)).bind fun v19 => ((am_pA 0 v19 ((128 * x1) + x2) h).bind fun v21 => (if am_pOk 12 x0 h then am_cV true (fm_335 x0 v17 v21 h) (fun h25 => (fg_563_12 N K x0 x1 ((x2 + 1)) h25)) else none)))))))) = r_) : fg_563_12 N (K + 1) x0 x1 x2 h = r_ := by rw [fg_563_12]; exact k_
theorem hd_563_0 {N : Nat} {x0 : Value} {x1 : Int32} {h : am_H} {r_ : Option am_O} (k_ : ((am_pP 3085 x0 (.int 0) h).bind fun h1 => ((am_pP 3086 x0 (.int 0) h1).bind fun h3 => (fg_563_12 N N x0 x1 0 h3))) = r_) : fg_563_0 N x0 x1 h = r_ := k_
theorem hm_563 {N : Nat} {y0 : Value} {y1 : Int32} {h : am_H} {r_ : Option am_O} (k_ : fg_563_0 N y0 y1 h = r_) : fm_563 N y0 y1 h = r_ := k_
theorem hd_564_9 {N : Nat} {K : Nat} {x0 : Value} {x1 : Int32} {x2 : Int32} {x3 : Int32} {h : am_H} {r_ : Option am_O} (k_ : ((am_vR (am_pG 3192 x0 h)).bind fun v1 => ((am_pA 0 v1 x1 h).bind fun v3 => (if v3 ≤ x3 then some (.inl (none, h)) else ((am_vR (am_pG 3190 x0 h)).bind fun v6 => ((am_pA 0 v6 ((128 * x1) + x3) h).bind fun v8 => ((am_vR (am_pG 3191 x0 h)).bind fun v10 => ((am_pA 0 v10 ((128 * x1) + x3) h).bind fun v12 => (if am_pOk 12 x0 h then am_cV true (fm_559 x0 x2 v8 v12 h) (fun h16 => (fg_564_9 N K x0 x1 x2 ((x3 + 1)) h16)) else none)))))))) = r_) : fg_564_9 N (K + 1) x0 x1 x2 x3 h = r_ := by rw [fg_564_9]; exact k_
theorem hd_564_0 {N : Nat} {x0 : Value} {x1 : Int32} {x2 : Int32} {h : am_H} {r_ : Option am_O} (k_ : ((am_vR (am_pG 3192 x0 h)).bind fun v1 => ((am_pS 0 v1 x2 0 h).bind fun h3 => (fg_564_9 N N x0 x1 x2 0 h3))) = r_) : fg_564_0 N x0 x1 x2 h = r_ := k_
theorem hm_564 {N : Nat} {y0 : Value} {y1 : Int32} {y2 : Int32} {h : am_H} {r_ : Option am_O} (k_ : fg_564_0 N y0 y1 y2 h = r_) : fm_564 N y0 y1 y2 h = r_ := k_
theorem hd_565_65 {N : Nat} {rec_4 : Value → Int32 → Int32 → Int32 → am_H → Option am_O} {x0 : Value} {x1 : Int32} {x3 : Int32} {s0 : Int32} {h : am_H} {r_ : Option am_O} (k_ : (rec_4 x0 x1 s0 ((x3 + 1)) h) = r_) : fg_565_65 N rec_4 x0 x1 x3 s0 h = r_ := k_
theorem hd_565_64 {N : Nat} {rec_4 : Value → Int32 → Int32 → Int32 → am_H → Option am_O} {x0 : Value} {x1 : Int32} {x3 : Int32} {h : am_H} {r_ : Option am_O} (k_ : (fg_565_65 N rec_4 x0 x1 x3 0 h) = r_) : fg_565_64 N rec_4 x0 x1 x3 h = r_ := k_
theorem hd_565_4 {N : Nat} {K : Nat} {x0 : Value} {x1 : Int32} {x2 : Int32} {x3 : Int32} {h : am_H} {r_ : Option am_O} (k_ : ((am_vR (am_pG 3192 x0 h)).bind fun v1 => ((am_pA 0 v1 x1 h).bind fun v3 => (if v3 ≤ x3 then (if am_rfit (some FieldType.boolean) x2 then some (.inl (some (.int x2), h)) else none) else ((am_vR (am_pG 3190 x0 h)).bind fun v7 => ((am_pA 0 v7 ((128 * x1) + x3) h).bind fun v9 => (if x2 = 0 then (fg_565_64 N (fg_565_4 N K) x0 x1 x3 h) else (if v9 = 13 then (fg_565_64 N (fg_565_4 N K) x0 x1 x3 h) else (if v9 = 14 then (fg_565_64 N (fg_565_4 N K) x0 x1 x3 h) else (if v9 = 8 then (fg_565_64 N (fg_565_4 N K) x0 x1 x3 h) else (if v9 = 19 then (fg_565_64 N (fg_565_4 N K) x0 x1 x3 h) else (fg_565_65 N (fg_565_4 N K) x0 x1 x3 1 h))))))))))) = r_) : fg_565_4 N (K + 1) x0 x1 x2 x3 h = r_ := by rw [fg_565_4]; exact k_
theorem hd_565_0 {N : Nat} {x0 : Value} {x1 : Int32} {h : am_H} {r_ : Option am_O} (k_ : (fg_565_4 N N x0 x1 1 0 h) = r_) : fg_565_0 N x0 x1 h = r_ := k_
theorem hm_565 {N : Nat} {y0 : Value} {y1 : Int32} {h : am_H} {r_ : Option am_O} (k_ : fg_565_0 N y0 y1 h = r_) : fm_565 N y0 y1 h = r_ := k_

def atR (I : Nat → Nat → Int32) (B : Nat) (T : xT) : Prop := ∀ i x, T[i]? = some x → I 250 (B + i) = nI x.1 ∧ I 251 (B + i) = x.2
def hpL (I : Nat → Nat → Int32) (q : Nat) (T : xT) : Prop := I 252 q = nI T.length ∧ T.length ≤ 128 ∧ atR I (128 * q) T
/-- only level q has changed -/
def hfr (q : Nat) (I J : Nat → Nat → Int32) : Prop := (∀ y, y ≠ 250 → y ≠ 251 → y ≠ 252 → J y = I y) ∧ (∀ i, i ≠ q → J 252 i = I 252 i) ∧ (∀ i, ¬ (128 * q ≤ i ∧ i < 128 * q + 128) → J 250 i = I 250 i ∧ J 251 i = I 251 i)
theorem hfr_r {q : Nat} {I : Nat → Nat → Int32} : hfr q I I := ⟨fun _ _ _ _ => rfl, fun _ _ => rfl, fun _ _ => ⟨rfl, rfl⟩⟩
theorem hfr_t {q : Nat} {I J K : Nat → Nat → Int32} (h : hfr q I J) (g : hfr q J K) : hfr q I K := ⟨fun y a b c => (g.1 y a b c).trans (h.1 y a b c), fun i n => (g.2.1 i n).trans (h.2.1 i n), fun i n => ⟨(g.2.2 i n).1.trans (h.2.2 i n).1, (g.2.2 i n).2.trans (h.2.2 i n).2⟩⟩
theorem hfr_h {q r : Nat} {I J : Nat → Nat → Int32} {T : xT} (f : hfr q I J) (n : r ≠ q) (h : hpL I r T) : hpL J r T := by
  refine ⟨(f.2.1 r n).trans h.1, h.2.1, fun i x e => ?_⟩
  have hi := (List.getElem?_eq_some_iff.mp e).1
  have := h.2.1
  have g := f.2.2 (128 * r + i) (by omega)
  rw [g.1, g.2]
  exact h.2.2 i x e
theorem x128 (q i : Nat) : (128 : Int32) * nI q + nI i = nI (128 * q + i) := by
  rw [show (128 : Int32) = nI 128 from rfl, nI_mm, nI_add]
theorem x128a (q : Nat) : (128 : Int32) * nI q = nI (128 * q) := by
  rw [show (128 : Int32) = nI 128 from rfl, nI_mm]
theorem atR_app {I : Nat → Nat → Int32} {B : Nat} {T : xT} {a : Nat} {b : Int32} (h : atR I B T) : atR (iup (iup I 250 (upd (I 250) (B + T.length) (nI a))) 251 (upd (I 251) (B + T.length) b)) B (T ++ [(a, b)]) := fun i x e => by
  show upd (I 250) (B + T.length) (nI a) (B + i) = _ ∧ upd (I 251) (B + T.length) b (B + i) = _
  by_cases c : i < T.length
  · rw [List.getElem?_append_left c] at e
    rw [upd_ne (by omega), upd_ne (by omega)]
    exact h i x e
  · rw [List.getElem?_append_right (by omega)] at e
    by_cases d : i = T.length
    · subst d
      rw [Nat.sub_self, List.getElem?_cons_zero] at e
      rw [← Option.some.inj e, upd_eq, upd_eq]
      exact ⟨rfl, rfl⟩
    · rw [show i - T.length = (i - T.length - 1) + 1 by omega, List.getElem?_cons_succ] at e
      exact absurd e (by simp)
set_option maxRecDepth 100000 in
set_option maxHeartbeats 4000000 in
theorem h559 {V : Nat → Nat → Value} {I : Nat → Nat → Int32} {L : Nat → Nat → Int64} {R : Nat → Nat → Option Nat} {tl : am_H} {q a : Nat} {b : Int32} {T : xT} (hq : q ≤ 8) (h : hpL I q T) (hl : T.length < 128) (x : Int32) (hx : x = nI a) : ∃ J, fm_559 (.ref 174) (nI q) x b (fx V I L R ++ tl) = some (.inl (none, fx V J L R ++ tl)) ∧ hpL J q (T ++ [(a, b)]) ∧ hfr q I J := by
  subst hx
  obtain ⟨h1, h2, h3⟩ := h
  refine ⟨iup (iup (iup I 250 (upd (I 250) (128 * q + T.length) (nI a))) 251 (upd (I 251) (128 * q + T.length) b)) 252 (upd (I 252) q (nI (T.length + 1))), ?_, ⟨?_, ?_, ?_⟩, ⟨fun y a b c => by rw [iup_na c, iup_na b, iup_na a], fun i n => upd_ne n, fun i n => ⟨?_, ?_⟩⟩⟩
  · apply hm_559
    apply hd_559_0
    have r : ∀ J : Nat → Nat → Int32, J 252 = I 252 → am_pA 0 (.ref 252) (nI q) (fx V J L R ++ tl) = some (nI T.length) := fun J e => (qa_252 (by omega)).trans (congrArg some (by rw [e]; exact h1))
    refine ev_b (rdR rfl) (ev_b (rdR rfl) (ev_b (r _ rfl) ?_))
    rw [x128]
    refine ev_b (qs_250 (by omega)) (ev_b (rdR rfl) (ev_b (rdR rfl) (ev_b (r _ rfl) ?_)))
    rw [x128]
    refine ev_b (qs_251 (by omega)) (ev_b (rdR rfl) (ev_b (r _ rfl) ?_))
    rw [nI_1]
    exact ev_b (qs_252 (by omega)) rfl
  · rw [List.length_append]
    exact upd_eq
  · rw [List.length_append]; show T.length + 1 ≤ 128; omega
  · exact fun i x e => atR_app h3 i x e
  · exact upd_ne (by omega)
  · exact upd_ne (by omega)
set_option maxRecDepth 100000 in
set_option maxHeartbeats 4000000 in
theorem h564l {L : Nat → Nat → Int64} {R : Nat → Nat → Option Nat} {tl : am_H} {V : Nat → Nat → Value} {N a b : Nat} {T : xT} (ha : a ≤ 8) (hb : b ≤ 8) (hab : a ≠ b) : ∀ (m k K : Nat) (I : Nat → Nat → Int32), k + m = T.length → m < K → hpL I a T → hpL I b (T.take k) → ∃ J, fg_564_9 N K (.ref 174) (nI a) (nI b) (nI k) (fx V I L R ++ tl) = some (.inl (none, fx V J L R ++ tl)) ∧ hpL J b T ∧ hfr b I J := by
  intro m
  induction m with
  | zero =>
    intro k K I hm hK h1 h2
    obtain ⟨K, rfl⟩ : ∃ k, K = k + 1 := ⟨K - 1, by omega⟩
    have l := h1.2.1
    refine ⟨I, ?_, ?_, hfr_r⟩
    · apply hd_564_9
      exact ev_b (rdR rfl) (ev_b ((qa_252 (by omega)).trans (congrArg some h1.1)) (ev_t (nI_le (by omega) (by omega)) rfl))
    · rw [List.take_of_length_le (by omega)] at h2
      exact h2
  | succ m ih =>
    intro k K I hm hK h1 h2
    obtain ⟨K, rfl⟩ : ∃ k, K = k + 1 := ⟨K - 1, by omega⟩
    have l := h1.2.1
    have hk : k < T.length := by omega
    have lk : (T.take k).length = k := by rw [List.length_take]; omega
    obtain ⟨c1, c2⟩ := h1.2.2 k _ (List.getElem?_eq_getElem hk)
    obtain ⟨J, e, p, f⟩ := h559 (V := V) (L := L) (R := R) (tl := tl) (b := (T[k]).2) hb h2 (by omega) (nI (T[k]).1) rfl
    obtain ⟨J2, e2, p2, f2⟩ := ih (k + 1) K J (by omega) (by omega) (hfr_h f hab h1) (by rw [List.take_succ_eq_append_getElem hk]; exact p)
    refine ⟨J2, ?_, p2, hfr_t f f2⟩
    apply hd_564_9
    refine ev_b (rdR rfl) (ev_b ((qa_252 (by omega)).trans (congrArg some h1.1)) (ev_f (nI_ge hk (by omega)) (ev_b (rdR rfl) ?_)))
    rw [x128]
    refine ev_b ((qa_250 (by omega)).trans (congrArg some c1)) (ev_b (rdR rfl) (ev_b ((qa_251 (by omega)).trans (congrArg some c2)) (ev_i rfl (ev_cV e ?_))))
    rw [nI_1]
    exact e2
theorem h564 {V : Nat → Nat → Value} {I : Nat → Nat → Int32} {L : Nat → Nat → Int64} {R : Nat → Nat → Option Nat} {tl : am_H} {N a b : Nat} {T : xT} (hN : 400 < N) (ha : a ≤ 8) (hb : b ≤ 8) (hab : a ≠ b) (h : hpL I a T) (x y : Int32) (hx : x = nI a) (hy : y = nI b) : ∃ J, fm_564 N (.ref 174) x y (fx V I L R ++ tl) = some (.inl (none, fx V J L R ++ tl)) ∧ hpL J b T ∧ hfr b I J := by
  subst hx
  subst hy
  have l := h.2.1
  have f0 : hfr b I (iup I 252 (upd (I 252) b 0)) := ⟨fun y _ _ c => iup_na c, fun i n => upd_ne n, fun i n => ⟨rfl, rfl⟩⟩
  obtain ⟨J, e, p, f⟩ := h564l (V := V) (L := L) (R := R) (tl := tl) (N := N) ha hb hab T.length 0 N (iup I 252 (upd (I 252) b 0)) (by omega) (by omega) (hfr_h f0 hab h) ⟨upd_eq, by show 0 ≤ 128; omega, fun i x e => absurd e (by simp)⟩
  refine ⟨J, ?_, p, hfr_t f0 f⟩
  apply hm_564
  apply hd_564_0
  exact ev_b (rdR rfl) (ev_b (qs_252 (by omega)) e)
/-- nothing in it can fail -/
def nfT (T : xT) : Prop := ∀ x, x ∈ T → x.1 ≠ 13 ∧ x.1 ≠ 14 ∧ x.1 ≠ 8 ∧ x.1 ≠ 19
set_option maxRecDepth 100000 in
set_option maxHeartbeats 4000000 in
theorem h565l {V : Nat → Nat → Value} {I : Nat → Nat → Int32} {L : Nat → Nat → Int64} {R : Nat → Nat → Option Nat} {tl : am_H} {N q : Nat} {T : xT} (hq : q ≤ 8) (h : hpL I q T) (hk20 : ∀ x, x ∈ T → x.1 ≤ 20) : ∀ (m k K : Nat) (b : Bool), k + m = T.length → m < K → ∃ b', fg_565_4 N K (.ref 174) (nI q) (bI b) (nI k) (fx V I L R ++ tl) = some (.inl (some (.int (bI b')), fx V I L R ++ tl)) ∧ (b' = true ↔ b = true ∧ ∀ x, x ∈ T.drop k → x.1 ≠ 13 ∧ x.1 ≠ 14 ∧ x.1 ≠ 8 ∧ x.1 ≠ 19) := by
  have l := h.2.1
  intro m
  induction m with
  | zero =>
    intro k K b hm hK
    obtain ⟨K, rfl⟩ : ∃ k, K = k + 1 := ⟨K - 1, by omega⟩
    refine ⟨b, ?_, ?_⟩
    · apply hd_565_4
      exact ev_b (rdR rfl) (ev_b ((qa_252 (by omega)).trans (congrArg some h.1)) (ev_t (nI_le (by omega) (by omega)) (ev_i (bI_fit b) rfl)))
    · rw [List.drop_eq_nil_of_le (by omega)]
      exact ⟨fun e => ⟨e, fun x hx => absurd hx (by simp)⟩, fun e => e.1⟩
  | succ m ih =>
    intro k K b hm hK
    obtain ⟨K, rfl⟩ : ∃ k, K = k + 1 := ⟨K - 1, by omega⟩
    have hk : k < T.length := by omega
    have hx := hk20 T[k] (List.getElem_mem hk)
    obtain ⟨c1, c2⟩ := h.2.2 k _ (List.getElem?_eq_getElem hk)
    have ds : T.drop k = T[k] :: T.drop (k + 1) := List.drop_eq_getElem_cons hk
    have st : ∀ o, (if bI b = 0 then (fg_565_64 N (fg_565_4 N K) (.ref 174) (nI q) (nI k) (fx V I L R ++ tl)) else (if nI (T[k]).1 = 13 then (fg_565_64 N (fg_565_4 N K) (.ref 174) (nI q) (nI k) (fx V I L R ++ tl)) else (if nI (T[k]).1 = 14 then (fg_565_64 N (fg_565_4 N K) (.ref 174) (nI q) (nI k) (fx V I L R ++ tl)) else (if nI (T[k]).1 = 8 then (fg_565_64 N (fg_565_4 N K) (.ref 174) (nI q) (nI k) (fx V I L R ++ tl)) else (if nI (T[k]).1 = 19 then (fg_565_64 N (fg_565_4 N K) (.ref 174) (nI q) (nI k) (fx V I L R ++ tl)) else (fg_565_65 N (fg_565_4 N K) (.ref 174) (nI q) (nI k) 1 (fx V I L R ++ tl))))))) = o → fg_565_4 N (K + 1) (.ref 174) (nI q) (bI b) (nI k) (fx V I L R ++ tl) = o := fun o h' => by
      apply hd_565_4
      refine ev_b (rdR rfl) (ev_b ((qa_252 (by omega)).trans (congrArg some h.1)) (ev_f (nI_ge hk (by omega)) (ev_b (rdR rfl) ?_)))
      rw [x128]
      exact ev_b ((qa_250 (by omega)).trans (congrArg some c1)) h'
    obtain ⟨b1, e1, g1⟩ := ih (k + 1) K true (by omega) (by omega)
    obtain ⟨b0, e0, g0⟩ := ih (k + 1) K false (by omega) (by omega)
    have no : fg_565_64 N (fg_565_4 N K) (.ref 174) (nI q) (nI k) (fx V I L R ++ tl) = some (.inl (some (.int (bI b0)), fx V I L R ++ tl)) := by
      apply hd_565_64
      apply hd_565_65
      rw [nI_1]
      exact e0
    have yes : fg_565_65 N (fg_565_4 N K) (.ref 174) (nI q) (nI k) 1 (fx V I L R ++ tl) = some (.inl (some (.int (bI b1)), fx V I L R ++ tl)) := by
      apply hd_565_65
      rw [nI_1]
      exact e1
    have n0 : ¬ b0 = true := fun e => Bool.noConfusion (g0.mp e).1
    rw [ds]
    cases b with
    | false => exact ⟨b0, st _ (ev_t rfl no), fun e => absurd e n0, fun e => Bool.noConfusion e.1⟩
    | true =>
      have q1 : ¬ bI true = 0 := by decide
      by_cases d13 : (T[k]).1 = 13
      · exact ⟨b0, st _ (ev_f q1 (ev_t (by rw [d13]; rfl) no)), fun e => absurd e n0, fun e => absurd d13 (e.2 _ (List.mem_cons_self ..)).1⟩
      have p13 : ¬ nI (T[k]).1 = 13 := fun h => d13 ((nI_eq (b := 13) (by omega) (by decide)).mp h)
      by_cases d14 : (T[k]).1 = 14
      · exact ⟨b0, st _ (ev_f q1 (ev_f p13 (ev_t (by rw [d14]; rfl) no))), fun e => absurd e n0, fun e => absurd d14 (e.2 _ (List.mem_cons_self ..)).2.1⟩
      have p14 : ¬ nI (T[k]).1 = 14 := fun h => d14 ((nI_eq (b := 14) (by omega) (by decide)).mp h)
      by_cases d8 : (T[k]).1 = 8
      · exact ⟨b0, st _ (ev_f q1 (ev_f p13 (ev_f p14 (ev_t (by rw [d8]; rfl) no)))), fun e => absurd e n0, fun e => absurd d8 (e.2 _ (List.mem_cons_self ..)).2.2.1⟩
      have p8 : ¬ nI (T[k]).1 = 8 := fun h => d8 ((nI_eq (b := 8) (by omega) (by decide)).mp h)
      by_cases d19 : (T[k]).1 = 19
      · exact ⟨b0, st _ (ev_f q1 (ev_f p13 (ev_f p14 (ev_f p8 (ev_t (by rw [d19]; rfl) no))))), fun e => absurd e n0, fun e => absurd d19 (e.2 _ (List.mem_cons_self ..)).2.2.2⟩
      have p19 : ¬ nI (T[k]).1 = 19 := fun h => d19 ((nI_eq (b := 19) (by omega) (by decide)).mp h)
      refine ⟨b1, st _ (ev_f q1 (ev_f p13 (ev_f p14 (ev_f p8 (ev_f p19 yes))))), fun e => ⟨rfl, fun x hx => ?_⟩, fun e => g1.mpr ⟨rfl, fun x hx => e.2 x (List.mem_cons_of_mem _ hx)⟩⟩
      cases hx with
      | head => exact ⟨d13, d14, d8, d19⟩
      | tail _ hx => exact (g1.mp e).2 x hx
theorem h565 {V : Nat → Nat → Value} {I : Nat → Nat → Int32} {L : Nat → Nat → Int64} {R : Nat → Nat → Option Nat} {tl : am_H} {N q : Nat} {T : xT} (hN : 400 < N) (hq : q ≤ 8) (h : hpL I q T) (hk20 : ∀ x, x ∈ T → x.1 ≤ 20) (x : Int32) (hx : x = nI q) : ∃ b, fm_565 N (.ref 174) x (fx V I L R ++ tl) = some (.inl (some (.int (bI b)), fx V I L R ++ tl)) ∧ (b = true ↔ nfT T) := by
  subst hx
  have l := h.2.1
  obtain ⟨b, e, g⟩ := h565l (V := V) (L := L) (R := R) (tl := tl) (N := N) hq h hk20 T.length 0 N true (by omega) (by omega)
  rw [List.drop_zero] at g
  refine ⟨b, ?_, fun e => (g.mp e).2, fun e => g.mpr ⟨rfl, e⟩⟩
  apply hm_565
  apply hd_565_0
  exact e
theorem h562 {V : Nat → Nat → Value} {I : Nat → Nat → Int32} {L : Nat → Nat → Int64} {R : Nat → Nat → Option Nat} {tl : am_H} {q : Nat} {T : xT} (hq : q ≤ 8) (h : hpL I q T) (h0 : 0 < T.length) (hk20 : xS T 0 ≤ 20) (x : Int32) (hx : x = nI q) : fm_562 (.ref 174) x (fx V I L R ++ tl) = some (.inl (some (.int (nI (truN (xS T 0)))), fx V I L R ++ tl)) := by
  subst hx
  have c := (h.2.2 0 _ (xS_at h0)).1
  rw [Nat.add_zero] at c
  apply hm_562
  apply hd_562_0
  rw [x128a]
  refine ev_b (rdR rfl) (ev_b ((qa_250 (by omega)).trans (congrArg some c)) (ev_cI (pe_334 ..) ?_))
  rw [tr_eq _ (by omega)]
  have : truN (xS T 0) = 0 ∨ truN (xS T 0) = 1 := by unfold truN; split; exact .inr rfl; exact .inl rfl
  rcases this with r | r
  · rw [r]; exact ev_i rfl rfl
  · rw [r]; exact ev_i rfl rfl
