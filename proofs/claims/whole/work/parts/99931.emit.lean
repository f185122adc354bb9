/-! ===== the code of a tree: the class ===== -/
theorem hd_206_220 {N : Nat} {rc_206 : Value → Int32 → Int32 → am_H → Option am_O} {rc_207 : Value → Int32 → Int32 → am_H → Option am_O} {rc_208 : Value → Int32 → Int32 → am_H → Option am_O} {rc_209 : Value → Int32 → Int32 → am_H → Option am_O} {s0 : Int32} {h : am_H} {r_ : Option am_O} (k_ : (if am_rfit (some FieldType.boolean) s0 then some (.inl (some (.int s0), h)) else none) = r_) : fg_206_220 N rc_206 rc_207 rc_208 rc_209 s0 h = r_ := k_
theorem hd_206_219 {N : Nat} {rc_206 : Value → Int32 → Int32 → am_H → Option am_O} {rc_207 : Value → Int32 → Int32 → am_H → Option am_O} {rc_208 : Value → Int32 → Int32 → am_H → Option am_O} {rc_209 : Value → Int32 → Int32 → am_H → Option am_O} {h : am_H} {r_ : Option am_O} (k_ : (fg_206_220 N rc_206 rc_207 rc_208 rc_209 0 h) = r_) : fg_206_219 N rc_206 rc_207 rc_208 rc_209 h = r_ := k_
theorem hd_206_122 {N : Nat} {rc_206 : Value → Int32 → Int32 → am_H → Option am_O} {rc_207 : Value → Int32 → Int32 → am_H → Option am_O} {rc_208 : Value → Int32 → Int32 → am_H → Option am_O} {rc_209 : Value → Int32 → Int32 → am_H → Option am_O} {s0 : Int32} {h : am_H} {r_ : Option am_O} (k_ : (if am_rfit (some FieldType.boolean) s0 then some (.inl (some (.int s0), h)) else none) = r_) : fg_206_122 N rc_206 rc_207 rc_208 rc_209 s0 h = r_ := k_
theorem hd_206_121 {N : Nat} {rc_206 : Value → Int32 → Int32 → am_H → Option am_O} {rc_207 : Value → Int32 → Int32 → am_H → Option am_O} {rc_208 : Value → Int32 → Int32 → am_H → Option am_O} {rc_209 : Value → Int32 → Int32 → am_H → Option am_O} {h : am_H} {r_ : Option am_O} (k_ : (fg_206_122 N rc_206 rc_207 rc_208 rc_209 0 h) = r_) : fg_206_121 N rc_206 rc_207 rc_208 rc_209 h = r_ := k_
theorem hd_206_33 {N : Nat} {rc_206 : Value → Int32 → Int32 → am_H → Option am_O} {rc_207 : Value → Int32 → Int32 → am_H → Option am_O} {rc_208 : Value → Int32 → Int32 → am_H → Option am_O} {rc_209 : Value → Int32 → Int32 → am_H → Option am_O} {h : am_H} {r_ : Option am_O} (k_ : some (.inl (some (.int 0), h)) = r_) : fg_206_33 N rc_206 rc_207 rc_208 rc_209 h = r_ := k_
theorem hd_206_0 {N : Nat} {rc_206 : Value → Int32 → Int32 → am_H → Option am_O} {rc_207 : Value → Int32 → Int32 → am_H → Option am_O} {rc_208 : Value → Int32 → Int32 → am_H → Option am_O} {rc_209 : Value → Int32 → Int32 → am_H → Option am_O} {x0 : Value} {x1 : Int32} {x2 : Int32} {h : am_H} {r_ : Option am_O} (k_ : ((am_vR (am_pG 2564 x0 h)).bind fun v1 => (if am_pOk 3 v1 h then am_cI true (fm_54 v1 x1 0 h) (fun v4 h5 => (if 12 < x2 then (fg_206_33 N rc_206 rc_207 rc_208 rc_209 h5) else (if v4 = 5 then (fg_206_33 N rc_206 rc_207 rc_208 rc_209 h5) else (if v4 = 6 then (fg_206_33 N rc_206 rc_207 rc_208 rc_209 h5) else (if ¬ v4 = 19 then (if 7 ≤ v4 then ((am_vR (am_pG 2560 x0 h5)).bind fun v12 => (if am_pOk 7 v12 h5 then am_cI true (fm_100 v12 ((x1 + 1)) h5) (fun v15 h16 => (if am_pOk 10 x0 h16 then am_cI true (rc_206 x0 ((x1 + 1)) ((x2 + 1)) h16) (fun v19 h20 => (if ¬ v19 = 0 then (if ¬ v4 = 9 then (if 10 ≤ v4 then (if ¬ v4 = 17 then (if ¬ v4 = 18 then (if ¬ v4 = 20 then (if am_pOk 10 x0 h20 then am_cI true (rc_206 x0 v15 ((x2 + 1)) h20) (fun v29 h30 => (if v29 = 0 then (fg_206_219 N rc_206 rc_207 rc_208 rc_209 h30) else ((am_vR (am_pG 2565 x0 h30)).bind fun v33 => (if am_pOk 3 v33 h30 then am_cI true (fm_41 N v33 ((v4 - 3)) 0 h30) (fun v36 h37 => (if v36 = 0 then (fg_206_219 N rc_206 rc_207 rc_208 rc_209 h37) else (fg_206_220 N rc_206 rc_207 rc_208 rc_209 1 h37))) else none)))) else none) else (if am_pOk 10 x0 h20 then am_cI true (rc_209 x0 v15 ((x2 + 1)) h20) (fun v41 h42 => (if am_rfit (some FieldType.boolean) v41 then some (.inl (some (.int v41), h42)) else none)) else none)) else (if am_pOk 10 x0 h20 then am_cI true (rc_208 x0 v15 ((x2 + 1)) h20) (fun v46 h47 => (if am_rfit (some FieldType.boolean) v46 then some (.inl (some (.int v46), h47)) else none)) else none)) else (if am_pOk 10 x0 h20 then am_cI true (rc_207 x0 v15 ((x2 + 1)) h20) (fun v51 h52 => (if am_rfit (some FieldType.boolean) v51 then some (.inl (some (.int v51), h52)) else none)) else none)) else ((am_vR (am_pG 2565 x0 h20)).bind fun v55 => (if am_pOk 3 v55 h20 then am_cI true (fm_41 N v55 ((v4 - 2)) 0 h20) (fun v58 h59 => (if am_rfit (some FieldType.boolean) v58 then some (.inl (some (.int v58), h59)) else none)) else none))) else ((am_vR (am_pG 2565 x0 h20)).bind fun v62 => (if am_pOk 3 v62 h20 then am_cI true (fm_41 N v62 0 0 h20) (fun v65 h66 => (if v65 = 0 then (fg_206_121 N rc_206 rc_207 rc_208 rc_209 h66) else ((am_vR (am_pG 2565 x0 h66)).bind fun v69 => (if am_pOk 3 v69 h66 then am_cI true (fm_41 N v69 13 0 h66) (fun v72 h73 => (if v72 = 0 then (fg_206_121 N rc_206 rc_207 rc_208 rc_209 h73) else (fg_206_122 N rc_206 rc_207 rc_208 rc_209 1 h73))) else none)))) else none))) else some (.inl (some (.int 0), h20)))) else none)) else none)) else ((am_vR (am_pG 2565 x0 h5)).bind fun v76 => ((am_vR (am_pG 2564 x0 h5)).bind fun v78 => (if am_pOk 3 v78 h5 then am_cI true (fm_54 v78 x1 1 h5) (fun v81 h82 => (if am_pOk 3 v76 h82 then am_cI true (fm_41 N v76 v4 v81 h82) (fun v85 h86 => (if am_rfit (some FieldType.boolean) v85 then some (.inl (some (.int v85), h86)) else none)) else none)) else none)))) else (fg_206_33 N rc_206 rc_207 rc_208 rc_209 h5)))))) else none)) = r_) : fg_206_0 N rc_206 rc_207 rc_208 rc_209 x0 x1 x2 h = r_ := k_
theorem hf_206 {N : Nat} {rc_206 : Value → Int32 → Int32 → am_H → Option am_O} {rc_207 : Value → Int32 → Int32 → am_H → Option am_O} {rc_208 : Value → Int32 → Int32 → am_H → Option am_O} {rc_209 : Value → Int32 → Int32 → am_H → Option am_O} {y0 : Value} {y1 : Int32} {y2 : Int32} {h : am_H} {r_ : Option am_O} (k_ : fg_206_0 N rc_206 rc_207 rc_208 rc_209 y0 y1 y2 h = r_) : fo_206 N rc_206 rc_207 rc_208 rc_209 y0 y1 y2 h = r_ := k_
theorem hd_207_43 {N : Nat} {rc_206 : Value → Int32 → Int32 → am_H → Option am_O} {rc_207 : Value → Int32 → Int32 → am_H → Option am_O} {rc_208 : Value → Int32 → Int32 → am_H → Option am_O} {rc_209 : Value → Int32 → Int32 → am_H → Option am_O} {h : am_H} {r_ : Option am_O} (k_ : some (.inl (some (.int 0), h)) = r_) : fg_207_43 N rc_206 rc_207 rc_208 rc_209 h = r_ := k_
theorem hd_207_0 {N : Nat} {rc_206 : Value → Int32 → Int32 → am_H → Option am_O} {rc_207 : Value → Int32 → Int32 → am_H → Option am_O} {rc_208 : Value → Int32 → Int32 → am_H → Option am_O} {rc_209 : Value → Int32 → Int32 → am_H → Option am_O} {x0 : Value} {x1 : Int32} {x2 : Int32} {h : am_H} {r_ : Option am_O} (k_ : ((am_vR (am_pG 2565 x0 h)).bind fun v1 => ((am_vI (am_pG 771 v1 h)).bind fun v3 => ((am_vR (am_pG 2565 x0 h)).bind fun v5 => (if am_pOk 3 v5 h then am_cI true (fm_41 N v5 18 0 h) (fun v8 h9 => (if v8 = 0 then (fg_207_43 N rc_206 rc_207 rc_208 rc_209 h9) else (if am_pOk 10 x0 h9 then am_cI true (rc_206 x0 x1 x2 h9) (fun v13 h14 => (if v13 = 0 then (fg_207_43 N rc_206 rc_207 rc_208 rc_209 h14) else ((am_vR (am_pG 2565 x0 h14)).bind fun v17 => (if am_pOk 3 v17 h14 then am_cI true (fm_41 N v17 17 1 h14) (fun v20 h21 => (if ¬ v20 = 0 then ((am_vR (am_pG 2565 x0 h21)).bind fun v24 => ((am_vR (am_pG 2565 x0 h21)).bind fun v26 => ((am_vI (am_pG 771 v26 h21)).bind fun v28 => (if am_pOk 3 v24 h21 then am_cV true (fm_51 v24 v3 1 (((v28 - v3) - 1)) h21) (fun h32 => ((am_vR (am_pG 2565 x0 h32)).bind fun v34 => (if am_pOk 3 v34 h32 then am_cI true (fm_41 N v34 0 0 h32) (fun v37 h38 => (if am_rfit (some FieldType.boolean) v37 then some (.inl (some (.int v37), h38)) else none)) else none))) else none)))) else (fg_207_43 N rc_206 rc_207 rc_208 rc_209 h21))) else none)))) else none))) else none)))) = r_) : fg_207_0 N rc_206 rc_207 rc_208 rc_209 x0 x1 x2 h = r_ := k_
theorem hf_207 {N : Nat} {rc_206 : Value → Int32 → Int32 → am_H → Option am_O} {rc_207 : Value → Int32 → Int32 → am_H → Option am_O} {rc_208 : Value → Int32 → Int32 → am_H → Option am_O} {rc_209 : Value → Int32 → Int32 → am_H → Option am_O} {y0 : Value} {y1 : Int32} {y2 : Int32} {h : am_H} {r_ : Option am_O} (k_ : fg_207_0 N rc_206 rc_207 rc_208 rc_209 y0 y1 y2 h = r_) : fo_207 N rc_206 rc_207 rc_208 rc_209 y0 y1 y2 h = r_ := k_
theorem hd_208_57 {N : Nat} {rc_206 : Value → Int32 → Int32 → am_H → Option am_O} {rc_207 : Value → Int32 → Int32 → am_H → Option am_O} {rc_208 : Value → Int32 → Int32 → am_H → Option am_O} {rc_209 : Value → Int32 → Int32 → am_H → Option am_O} {h : am_H} {r_ : Option am_O} (k_ : some (.inl (some (.int 0), h)) = r_) : fg_208_57 N rc_206 rc_207 rc_208 rc_209 h = r_ := k_
theorem hd_208_25 {N : Nat} {rc_206 : Value → Int32 → Int32 → am_H → Option am_O} {rc_207 : Value → Int32 → Int32 → am_H → Option am_O} {rc_208 : Value → Int32 → Int32 → am_H → Option am_O} {rc_209 : Value → Int32 → Int32 → am_H → Option am_O} {h : am_H} {r_ : Option am_O} (k_ : some (.inl (some (.int 0), h)) = r_) : fg_208_25 N rc_206 rc_207 rc_208 rc_209 h = r_ := k_
theorem hd_208_0 {N : Nat} {rc_206 : Value → Int32 → Int32 → am_H → Option am_O} {rc_207 : Value → Int32 → Int32 → am_H → Option am_O} {rc_208 : Value → Int32 → Int32 → am_H → Option am_O} {rc_209 : Value → Int32 → Int32 → am_H → Option am_O} {x0 : Value} {x1 : Int32} {x2 : Int32} {h : am_H} {r_ : Option am_O} (k_ : ((am_vR (am_pG 2565 x0 h)).bind fun v1 => (if am_pOk 3 v1 h then am_cI true (fm_41 N v1 18 2 h) (fun v4 h5 => (if v4 = 0 then (fg_208_25 N rc_206 rc_207 rc_208 rc_209 h5) else ((am_vR (am_pG 2565 x0 h5)).bind fun v8 => (if am_pOk 3 v8 h5 then am_cI true (fm_41 N v8 0 1 h5) (fun v11 h12 => (if ¬ v11 = 0 then ((am_vR (am_pG 2565 x0 h12)).bind fun v15 => ((am_vI (am_pG 771 v15 h12)).bind fun v17 => ((am_vR (am_pG 2565 x0 h12)).bind fun v19 => (if am_pOk 3 v19 h12 then am_cI true (fm_41 N v19 17 0 h12) (fun v22 h23 => (if v22 = 0 then (fg_208_57 N rc_206 rc_207 rc_208 rc_209 h23) else (if am_pOk 10 x0 h23 then am_cI true (rc_206 x0 x1 x2 h23) (fun v27 h28 => (if ¬ v27 = 0 then ((am_vR (am_pG 2565 x0 h28)).bind fun v31 => ((am_vR (am_pG 2565 x0 h28)).bind fun v33 => ((am_vI (am_pG 771 v33 h28)).bind fun v35 => (if am_pOk 3 v31 h28 then am_cV true (fm_51 v31 v17 1 (((v35 - v17) - 1)) h28) (fun h39 => some (.inl (some (.int 1), h39))) else none)))) else (fg_208_57 N rc_206 rc_207 rc_208 rc_209 h28))) else none))) else none)))) else (fg_208_25 N rc_206 rc_207 rc_208 rc_209 h12))) else none)))) else none)) = r_) : fg_208_0 N rc_206 rc_207 rc_208 rc_209 x0 x1 x2 h = r_ := k_
theorem hf_208 {N : Nat} {rc_206 : Value → Int32 → Int32 → am_H → Option am_O} {rc_207 : Value → Int32 → Int32 → am_H → Option am_O} {rc_208 : Value → Int32 → Int32 → am_H → Option am_O} {rc_209 : Value → Int32 → Int32 → am_H → Option am_O} {y0 : Value} {y1 : Int32} {y2 : Int32} {h : am_H} {r_ : Option am_O} (k_ : fg_208_0 N rc_206 rc_207 rc_208 rc_209 y0 y1 y2 h = r_) : fo_208 N rc_206 rc_207 rc_208 rc_209 y0 y1 y2 h = r_ := k_
theorem hd_209_30 {N : Nat} {rc_206 : Value → Int32 → Int32 → am_H → Option am_O} {rc_207 : Value → Int32 → Int32 → am_H → Option am_O} {rc_208 : Value → Int32 → Int32 → am_H → Option am_O} {rc_209 : Value → Int32 → Int32 → am_H → Option am_O} {h : am_H} {r_ : Option am_O} (k_ : some (.inl (some (.int 0), h)) = r_) : fg_209_30 N rc_206 rc_207 rc_208 rc_209 h = r_ := k_
theorem hd_209_0 {N : Nat} {rc_206 : Value → Int32 → Int32 → am_H → Option am_O} {rc_207 : Value → Int32 → Int32 → am_H → Option am_O} {rc_208 : Value → Int32 → Int32 → am_H → Option am_O} {rc_209 : Value → Int32 → Int32 → am_H → Option am_O} {x0 : Value} {x1 : Int32} {x2 : Int32} {h : am_H} {r_ : Option am_O} (k_ : ((am_vR (am_pG 2565 x0 h)).bind fun v1 => ((am_vI (am_pG 771 v1 h)).bind fun v3 => ((am_vR (am_pG 2565 x0 h)).bind fun v5 => (if am_pOk 3 v5 h then am_cI true (fm_41 N v5 18 0 h) (fun v8 h9 => (if v8 = 0 then (fg_209_30 N rc_206 rc_207 rc_208 rc_209 h9) else (if am_pOk 10 x0 h9 then am_cI true (rc_206 x0 x1 x2 h9) (fun v13 h14 => (if ¬ v13 = 0 then ((am_vR (am_pG 2565 x0 h14)).bind fun v17 => ((am_vI (am_pG 771 v17 h14)).bind fun v19 => ((am_vR (am_pG 2565 x0 h14)).bind fun v21 => (if am_pOk 3 v21 h14 then am_cI true (fm_41 N v21 17 0 h14) (fun v24 h25 => (if ¬ v24 = 0 then ((am_vR (am_pG 2565 x0 h25)).bind fun v28 => ((am_vR (am_pG 2565 x0 h25)).bind fun v30 => ((am_vI (am_pG 771 v30 h25)).bind fun v32 => (if am_pOk 3 v28 h25 then am_cV true (fm_51 v28 v3 1 (((v32 - v3) - 1)) h25) (fun h36 => ((am_vR (am_pG 2560 x0 h36)).bind fun v38 => (if am_pOk 7 v38 h36 then am_cI true (fm_100 v38 x1 h36) (fun v41 h42 => (if am_pOk 10 x0 h42 then am_cI true (rc_206 x0 v41 x2 h42) (fun v45 h46 => (if ¬ v45 = 0 then ((am_vR (am_pG 2565 x0 h46)).bind fun v49 => ((am_vR (am_pG 2565 x0 h46)).bind fun v51 => ((am_vI (am_pG 771 v51 h46)).bind fun v53 => (if am_pOk 3 v49 h46 then am_cV true (fm_51 v49 v19 1 (((v53 - v19) - 1)) h46) (fun h57 => some (.inl (some (.int 1), h57))) else none)))) else some (.inl (some (.int 0), h46)))) else none)) else none))) else none)))) else some (.inl (some (.int 0), h25)))) else none)))) else (fg_209_30 N rc_206 rc_207 rc_208 rc_209 h14))) else none))) else none)))) = r_) : fg_209_0 N rc_206 rc_207 rc_208 rc_209 x0 x1 x2 h = r_ := k_
theorem hf_209 {N : Nat} {rc_206 : Value → Int32 → Int32 → am_H → Option am_O} {rc_207 : Value → Int32 → Int32 → am_H → Option am_O} {rc_208 : Value → Int32 → Int32 → am_H → Option am_O} {rc_209 : Value → Int32 → Int32 → am_H → Option am_O} {y0 : Value} {y1 : Int32} {y2 : Int32} {h : am_H} {r_ : Option am_O} (k_ : fg_209_0 N rc_206 rc_207 rc_208 rc_209 y0 y1 y2 h = r_) : fo_209 N rc_206 rc_207 rc_208 rc_209 y0 y1 y2 h = r_ := k_
theorem hd_205_49 {N : Nat} {s0 : Int32} {h : am_H} {r_ : Option am_O} (k_ : (if am_rfit (some FieldType.boolean) s0 then some (.inl (some (.int s0), h)) else none) = r_) : fg_205_49 N s0 h = r_ := k_
theorem hd_205_48 {N : Nat} {h : am_H} {r_ : Option am_O} (k_ : (fg_205_49 N 0 h) = r_) : fg_205_48 N h = r_ := k_
theorem hd_205_0 {N : Nat} {x0 : Value} {x1 : Value} {x2 : Value} {h : am_H} {r_ : Option am_O} (k_ : ((am_pP 2564 x0 x1 h).bind fun h1 => ((am_pP 2565 x0 x2 h1).bind fun h3 => ((am_vR (am_pG 2560 x0 h3)).bind fun v5 => (if am_pOk 7 v5 h3 then am_cV true (fm_77 N v5 x1 h3) (fun h9 => (if am_pOk 3 x2 h9 then am_cV true (fm_34 x2 1 0 h9) (fun h13 => (if am_pOk 10 x0 h13 then am_cI true (fm_206 N x0 0 1 h13) (fun v16 h17 => (if v16 = 0 then (fg_205_48 N h17) else ((am_vR (am_pG 2560 x0 h17)).bind fun v20 => (if am_pOk 7 v20 h17 then am_cI true (fm_52 N v20 x2 h17) (fun v23 h24 => (if 0 ≤ v23 then (fg_205_48 N h24) else (fg_205_49 N 1 h24))) else none)))) else none)) else none)) else none)))) = r_) : fg_205_0 N x0 x1 x2 h = r_ := k_
theorem hm_205 {N : Nat} {y0 : Value} {y1 : Value} {y2 : Value} {h : am_H} {r_ : Option am_O} (k_ : fg_205_0 N y0 y1 y2 h = r_) : fm_205 N y0 y1 y2 h = r_ := k_

/-- the code of a node, by how deep it may go -/
def cOf (P : xT) : Nat → Nat → xT
  | 0, _ => []
  | n + 1, k => if xS P k < 5 then [(xS P k, xV P k)] else if xS P k = 9 then cOf P n (k + 1) ++ [(0, 0), (13, 0)] else if xS P k < 10 then cOf P n (k + 1) ++ [(xS P k - 2, 0)] else if xS P k = 17 then cOf P n (k + 1) ++ ([(18, nI ((cOf P n (xE P (k + 1))).length + 1))] ++ (cOf P n (xE P (k + 1)) ++ [(17, 1), (0, 0)])) else if xS P k = 18 then cOf P n (k + 1) ++ ([(18, 2), (0, 1), (17, nI (cOf P n (xE P (k + 1))).length)] ++ cOf P n (xE P (k + 1))) else if xS P k = 20 then cOf P n (k + 1) ++ ([(18, nI ((cOf P n (xE P (k + 1))).length + 1))] ++ (cOf P n (xE P (k + 1)) ++ ([(17, nI (cOf P n (xE P (xE P (k + 1)))).length)] ++ cOf P n (xE P (xE P (k + 1)))))) else cOf P n (k + 1) ++ (cOf P n (xE P (k + 1)) ++ [(xS P k - 3, 0)])
def dpP (P : xT) (k : Nat) : Nat := (cxP P k).2.1
def cO2 (P : xT) (k : Nat) : xT := cOf P (13 - dpP P k) k
/-- no fold, no s, no e -/
def gdT (P : xT) (k : Nat) : Prop := ∀ j, k ≤ j → j < xE P k → xS P j ≠ 5 ∧ xS P j ≠ 6 ∧ xS P j ≠ 19
theorem cO_unf {P : xT} (ho : okP P) {k : Nat} (hk : k < P.length) (h19 : xS P k ≠ 19) : cO2 P k = (if xS P k < 5 then [(xS P k, xV P k)] else if xS P k = 9 then cO2 P (k + 1) ++ [(0, 0), (13, 0)] else if xS P k < 10 then (if xS P k < 7 then cOf P (12 - dpP P k) (k + 1) ++ [(xS P k - 2, 0)] else cO2 P (k + 1) ++ [(xS P k - 2, 0)]) else if xS P k = 17 then cO2 P (k + 1) ++ ([(18, nI ((cO2 P (xE P (k + 1))).length + 1))] ++ (cO2 P (xE P (k + 1)) ++ [(17, 1), (0, 0)])) else if xS P k = 18 then cO2 P (k + 1) ++ ([(18, 2), (0, 1), (17, nI (cO2 P (xE P (k + 1))).length)] ++ cO2 P (xE P (k + 1))) else if xS P k = 20 then cO2 P (k + 1) ++ ([(18, nI ((cO2 P (xE P (k + 1))).length + 1))] ++ (cO2 P (xE P (k + 1)) ++ ([(17, nI (cO2 P (xE P (xE P (k + 1)))).length)] ++ cO2 P (xE P (xE P (k + 1)))))) else cO2 P (k + 1) ++ (cO2 P (xE P (k + 1)) ++ [(xS P k - 3, 0)])) := by
  obtain ⟨n1, n2, n3, n4, n5, n6, n7, n8, n9⟩ := nd_at ho hk
  have d12 : dpP P k ≤ 12 := n3
  have e0 : cO2 P k = cOf P (12 - dpP P k + 1) k := by unfold cO2; rw [show 13 - dpP P k = 12 - dpP P k + 1 by omega]
  have e1 : 7 ≤ xS P k → cOf P (12 - dpP P k) (k + 1) = cO2 P (k + 1) := fun h => by
    unfold cO2
    rw [show dpP P (k + 1) = dpP P k + 1 by unfold dpP; rw [(n4 h).2.2], show 13 - (dpP P k + 1) = 12 - dpP P k by omega]
  have e2 : 10 ≤ xS P k → cOf P (12 - dpP P k) (xE P (k + 1)) = cO2 P (xE P (k + 1)) := fun h => by
    unfold cO2
    rw [show dpP P (xE P (k + 1)) = dpP P k + 1 by unfold dpP; rw [(n5 h).2.2 h19], show 13 - (dpP P k + 1) = 12 - dpP P k by omega]
  have e3 : xS P k = 20 → cOf P (12 - dpP P k) (xE P (xE P (k + 1))) = cO2 P (xE P (xE P (k + 1))) := fun h => by
    unfold cO2
    rw [show dpP P (xE P (xE P (k + 1))) = dpP P k + 1 by unfold dpP; rw [(n6 h).2.2], show 13 - (dpP P k + 1) = 12 - dpP P k by omega]
  rw [e0, cOf]
  by_cases c1 : xS P k < 5
  · rw [if_pos c1, if_pos c1]
  rw [if_neg c1, if_neg c1]
  by_cases c2 : xS P k = 9
  · rw [if_pos c2, if_pos c2, e1 (by omega)]
  rw [if_neg c2, if_neg c2]
  by_cases c3 : xS P k < 10
  · rw [if_pos c3, if_pos c3]
    by_cases c4 : xS P k < 7
    · rw [if_pos c4]
    · rw [if_neg c4, e1 (by omega)]
  rw [if_neg c3, if_neg c3, e1 (by omega), e2 (by omega)]
  by_cases c5 : xS P k = 17
  · rw [if_pos c5, if_pos c5]
  rw [if_neg c5, if_neg c5]
  by_cases c6 : xS P k = 18
  · rw [if_pos c6, if_pos c6]
  rw [if_neg c6, if_neg c6]
  by_cases c7 : xS P k = 20
  · rw [if_pos c7, if_pos c7, e3 c7]
  rw [if_neg c7, if_neg c7]
theorem gd_1 {P : xT} {k : Nat} (hk : k < P.length) (h : gdT P k) : xS P k ≠ 5 ∧ xS P k ≠ 6 ∧ xS P k ≠ 19 := h k (by omega) (xE_gt hk)
theorem gd_a {P : xT} (ho : okP P) {k : Nat} (hk : k < P.length) (h7 : 7 ≤ xS P k) (h : gdT P k) : gdT P (k + 1) := fun j a b => h j (by omega) (Nat.lt_of_lt_of_le b ((nd_at ho hk).2.2.2.1 h7).2.1)
theorem gd_b {P : xT} (ho : okP P) {k : Nat} (hk : k < P.length) (h7 : 10 ≤ xS P k) (h : gdT P k) : gdT P (xE P (k + 1)) := fun j a b => h j (by have := xE_ge (P := P) (k := k + 1); omega) (Nat.lt_of_lt_of_le b ((nd_at ho hk).2.2.2.2.1 h7).2.1)
theorem gd_c {P : xT} (ho : okP P) {k : Nat} (hk : k < P.length) (h7 : xS P k = 20) (h : gdT P k) : gdT P (xE P (xE P (k + 1))) := fun j a b => h j (by have := xE_ge (P := P) (k := k + 1); have := xE_ge (P := P) (k := xE P (k + 1)); omega) (by rw [← ((nd_at ho hk).2.2.2.2.2.1 h7).2.1]; exact b)
theorem gd_i {P : xT} (ho : okP P) {k : Nat} (hk : k < P.length) (h1 : xS P k ≠ 5 ∧ xS P k ≠ 6 ∧ xS P k ≠ 19) (ha : 7 ≤ xS P k → gdT P (k + 1)) (hb : 10 ≤ xS P k → gdT P (xE P (k + 1))) (hc : xS P k = 20 → gdT P (xE P (xE P (k + 1)))) : gdT P k := by
  obtain ⟨n1, n2, n3, n4, n5, n6, n7, n8, n9⟩ := nd_at ho hk
  intro j a b
  by_cases c : j = k
  · rw [c]; exact h1
  by_cases d0 : xS P k < 7
  · rw [n7 d0] at b; omega
  by_cases d1 : j < xE P (k + 1)
  · exact ha (by omega) j (by omega) d1
  by_cases d2 : xS P k < 10
  · rw [n8 (by omega) d2] at d1; omega
  by_cases d3 : j < xE P (xE P (k + 1))
  · exact hb (by omega) j (by omega) d3
  by_cases d4 : xS P k < 20
  · rw [n9 (by omega) d4] at d3; omega
  have e20 : xS P k = 20 := by omega
  exact hc e20 j (by omega) (by rw [(n6 e20).2.1]; exact b)
/-- a value put into a program's item -/
theorem tO_set {F : Nat → Int32} {Q : xT} {i : Nat} {v : Int32} (hF : tO F Q) (hi : i < Q.length) : tO (upd F (i * 2 + 1) v) (Q.set i (xS Q i, v)) := by
  intro k x h
  rw [List.getElem?_set] at h
  by_cases c : i = k
  · subst c
    rw [if_pos rfl, if_pos hi] at h
    rw [← Option.some.inj h, upd_ne (by omega), upd_eq]
    exact ⟨(hF i _ (xS_at hi)).1, rfl⟩
  · rw [if_neg c] at h
    rw [upd_ne (by omega), upd_ne (by omega)]
    exact hF k x h
set_option maxRecDepth 100000 in
set_option maxHeartbeats 4000000 in
theorem s51_167 {V : Nat → Nat → Value} {I : Nat → Nat → Int32} {L : Nat → Nat → Int64} {R : Nat → Nat → Option Nat} {tl : am_H} {kd ln i : Nat} {Q : xT} {v : Int32} (h : hold V I 167 kd ln Q) (hi : i < Q.length) (hl : Q.length ≤ 60) (x : Int32) (hx : x = nI i) : ∃ W J, fm_51 (.ref 167) x 1 v (fx V I L R ++ tl) = some (.inl (none, fx W J L R ++ tl)) ∧ hold W J 167 kd ln (Q.set i (xS Q i, v)) ∧ fr1 167 V W I J := by
  subst hx
  obtain ⟨h1, h2, h3, h4, h5⟩ := h
  refine ⟨V, iup I 168 (upd (I 168) (i * 2 + 1) v), ?_, ⟨h1, h2, by rw [List.length_set]; exact h3, h4, tO_set h5 hi⟩, fr1_i⟩
  unfold fm_51 fg_51_0
  refine ev_f (nI_pos (by omega)) (ev_b (rdI h3) (ev_f (nI_ge hi (by omega)) (ev_f (by decide) (ev_b (rdI h4) (ev_f (by decide) (ev_b (rdR rfl) (ev_b (rdI h4) ?_)))))))
  rw [show nI i * nI 2 + 1 = nI (i * 2 + 1) by rw [nI_mm, nI_1]]
  exact ev_b (qs_168 (by omega)) rfl
set_option maxRecDepth 100000 in
set_option maxHeartbeats 4000000 in
theorem s41f_167 {V : Nat → Nat → Value} {I : Nat → Nat → Int32} {L : Nat → Nat → Int64} {R : Nat → Nat → Option Nat} {tl : am_H} {N kd ln : Nat} {Q : xT} {x b : Int32} (h : hold V I 167 kd ln Q) (hl : Q.length = 60) : fm_41 N (.ref 167) x b (fx V I L R ++ tl) = some (.inl (some (.int 0), fx V I L R ++ tl)) := by
  obtain ⟨h1, h2, h3, h4, h5⟩ := h
  rw [hl] at h3
  unfold fm_41 fg_41_0
  exact ev_b (rdI h3) (ev_b (rdI h4) (ev_b (rdI h4) (ev_b (rdR rfl) (ev_b (rdLen rfl rfl) (ev_f (by decide) rfl)))))
/-- what is around the class's writing of code -/
def emC (tl : am_H) (A it kd ln : Nat) (P : xT) (V : Nat → Nat → Value) (I : Nat → Nat → Int32) : Prop := wt V ∧ srcP V I tl A it kd ln P ∧ V 131 4 = .ref A ∧ V 131 5 = .ref 167 ∧ V 132 7 = .int (nI P.length) ∧ ∀ j, j < P.length → I 133 j = nI (xE P j)
theorem emC_f {tl : am_H} {A it kd ln : Nat} {P : xT} {V W : Nat → Nat → Value} {I J : Nat → Nat → Int32} (hA : A ≠ 167) (hit : it ≠ 168) (h : emC tl A it kd ln P V I) (f : fr1 167 V W I J) : emC tl A it kd ln P W J := by
  obtain ⟨h1, h2, h3, h4, h5, h6⟩ := h
  exact ⟨f.2.2 h1, srcP_f f hA hit h2, (f.1 131 4 (by decide)).trans h3, (f.1 131 5 (by decide)).trans h4, (f.1 132 7 (by decide)).trans h5, by rw [f.2.1 133 (by decide)]; exact h6⟩
theorem e100b {V : Nat → Nat → Value} {I : Nat → Nat → Int32} {L : Nat → Nat → Int64} {R : Nat → Nat → Option Nat} {tl : am_H} {A it kd ln : Nat} {P : xT} {k : Nat} (h : emC tl A it kd ln P V I) (hk : k < P.length) (x : Int32) (hx : x = nI k) : fm_100 (.ref 132) x (fx V I L R ++ tl) = some (.inl (some (.int (nI (xE P k))), fx V I L R ++ tl)) := by
  subst hx
  exact c_100 (h := fx V I L R ++ tl) (f := I 133) (fs := [.ref 133, .ref 134, .ref 135, .ref 136, .ref 137, .ref 138, .ref 139, V 132 7]) rfl rfl (by show some (V 132 7) = _; rw [h.2.2.2.2.1]) rfl hk (src_ok (L := L) (R := R) h.2.1).2.2.2.2 (h.2.2.2.2.2 k hk)
/-- what writing a node's code comes to -/
def emO (L : Nat → Nat → Int64) (R : Nat → Nat → Option Nat) (tl : am_H) (V : Nat → Nat → Value) (I : Nat → Nat → Int32) (Q add : xT) (gd : Prop) (o : Option am_O) : Prop := (gd ∧ Q.length + add.length ≤ 60 → ∃ W J, o = some (.inl (some (.int 1), fx W J L R ++ tl)) ∧ hold W J 167 1 0 (Q ++ add) ∧ fr1 167 V W I J) ∧ (¬ (gd ∧ Q.length + add.length ≤ 60) → ∃ W J, o = some (.inl (some (.int 0), fx W J L R ++ tl)) ∧ fr1 167 V W I J)
def emP (L : Nat → Nat → Int64) (R : Nat → Nat → Option Nat) (tl : am_H) (A it kd ln : Nat) (P : xT) (rc : Value → Int32 → Int32 → am_H → Option am_O) (k : Nat) : Prop := ∀ V I Q d, emC tl A it kd ln P V I → hold V I 167 1 0 Q → Q.length ≤ 60 → d = nI (dpP P k) → emO L R tl V I Q (cO2 P k) (gdT P k) (rc (.ref 131) (nI k) d (fx V I L R ++ tl))
