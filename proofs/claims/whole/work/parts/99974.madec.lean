/-! ===== edits: candidates in the class: constants, signs, nets with one less ===== -/
theorem hd_163_536 {N : Nat} {s0 : Int32} {h : am_H} {r_ : Option am_O} (k_ : (if am_rfit (some FieldType.boolean) s0 then some (.inl (some (.int s0), h)) else none) = r_) : fg_163_536 N s0 h = r_ := k_
theorem hd_163_535 {N : Nat} {h : am_H} {r_ : Option am_O} (k_ : (fg_163_536 N 0 h) = r_) : fg_163_535 N h = r_ := k_
theorem hd_163_400 {N : Nat} {s0 : Int32} {h : am_H} {r_ : Option am_O} (k_ : (if am_rfit (some FieldType.boolean) s0 then some (.inl (some (.int s0), h)) else none) = r_) : fg_163_400 N s0 h = r_ := k_
theorem hd_163_399 {N : Nat} {h : am_H} {r_ : Option am_O} (k_ : (fg_163_400 N 0 h) = r_) : fg_163_399 N h = r_ := k_
theorem hd_163_361 {N : Nat} {s0 : Int32} {h : am_H} {r_ : Option am_O} (k_ : (if am_rfit (some FieldType.boolean) s0 then some (.inl (some (.int s0), h)) else none) = r_) : fg_163_361 N s0 h = r_ := k_
theorem hd_163_360 {N : Nat} {h : am_H} {r_ : Option am_O} (k_ : (fg_163_361 N 0 h) = r_) : fg_163_360 N h = r_ := k_
theorem hd_163_328 {N : Nat} {s0 : Int32} {h : am_H} {r_ : Option am_O} (k_ : (if am_rfit (some FieldType.boolean) s0 then some (.inl (some (.int s0), h)) else none) = r_) : fg_163_328 N s0 h = r_ := k_
theorem hd_163_327 {N : Nat} {h : am_H} {r_ : Option am_O} (k_ : (fg_163_328 N 0 h) = r_) : fg_163_327 N h = r_ := k_
theorem hd_163_280 {N : Nat} {s0 : Int32} {h : am_H} {r_ : Option am_O} (k_ : (if am_rfit (some FieldType.boolean) s0 then some (.inl (some (.int s0), h)) else none) = r_) : fg_163_280 N s0 h = r_ := k_
theorem hd_163_279 {N : Nat} {h : am_H} {r_ : Option am_O} (k_ : (fg_163_280 N 0 h) = r_) : fg_163_279 N h = r_ := k_
theorem hd_163_246 {N : Nat} {s0 : Int32} {h : am_H} {r_ : Option am_O} (k_ : (if am_rfit (some FieldType.boolean) s0 then some (.inl (some (.int s0), h)) else none) = r_) : fg_163_246 N s0 h = r_ := k_
theorem hd_163_245 {N : Nat} {h : am_H} {r_ : Option am_O} (k_ : (fg_163_246 N 0 h) = r_) : fg_163_245 N h = r_ := k_
theorem hd_163_208 {N : Nat} {s0 : Int32} {h : am_H} {r_ : Option am_O} (k_ : (if am_rfit (some FieldType.boolean) s0 then some (.inl (some (.int s0), h)) else none) = r_) : fg_163_208 N s0 h = r_ := k_
theorem hd_163_207 {N : Nat} {h : am_H} {r_ : Option am_O} (k_ : (fg_163_208 N 0 h) = r_) : fg_163_207 N h = r_ := k_
theorem hd_163_179 {N : Nat} {s0 : Int32} {h : am_H} {r_ : Option am_O} (k_ : (if am_rfit (some FieldType.boolean) s0 then some (.inl (some (.int s0), h)) else none) = r_) : fg_163_179 N s0 h = r_ := k_
theorem hd_163_178 {N : Nat} {h : am_H} {r_ : Option am_O} (k_ : (fg_163_179 N 0 h) = r_) : fg_163_178 N h = r_ := k_
theorem hd_163_137 {N : Nat} {s0 : Int32} {h : am_H} {r_ : Option am_O} (k_ : (if am_rfit (some FieldType.boolean) s0 then some (.inl (some (.int s0), h)) else none) = r_) : fg_163_137 N s0 h = r_ := k_
theorem hd_163_136 {N : Nat} {h : am_H} {r_ : Option am_O} (k_ : (fg_163_137 N 0 h) = r_) : fg_163_136 N h = r_ := k_
theorem hd_163_0 {N : Nat} {x0 : Value} {x1 : Int32} {h : am_H} {r_ : Option am_O} (k_ : ((am_vI (am_pG 8 x0 h)).bind fun v1 => (if 1 ≤ v1 then ((am_vI (am_pG 7 x0 h)).bind fun v4 => (if v4 = 0 then ((am_vR (am_pG 5 x0 h)).bind fun v7 => (if am_pOk 3 v7 h then am_cI true (fm_54 v7 ((x1 / 5)) 0 h) (fun v10 h11 => (if ¬ v10 = 0 then (fg_163_136 N h11) else (if am_pOk 0 x0 h11 then am_cI true (fm_164 x0 ((x1 / 5)) 1 ((x1 - x1 / 5 * 5)) h11) (fun v15 h16 => (if v15 = 0 then (fg_163_136 N h16) else (fg_163_137 N 1 h16))) else none))) else none)) else (if v4 = 1 then (if am_pOk 0 x0 h then am_cI true (fm_165 N x0 ((x1 / 21)) ((x1 - x1 / 21 * 21)) h) (fun v21 h22 => (if am_rfit (some FieldType.boolean) v21 then some (.inl (some (.int v21), h22)) else none)) else none) else (if v4 = 2 then (if am_pOk 0 x0 h then am_cI true (fm_167 N x0 ((x1 / 3)) ((x1 - x1 / 3 * 3)) h) (fun v27 h28 => (if v27 = 0 then (fg_163_178 N h28) else (if am_pOk 0 x0 h28 then am_cI true (fm_169 x0 ((x1 / 3)) h28) (fun v32 h33 => (if v32 = 0 then (fg_163_178 N h33) else (fg_163_179 N 1 h33))) else none))) else none) else (if v4 = 3 then (if am_pOk 0 x0 h then am_cI true (fm_171 N x0 ((x1 / 3)) ((x1 - x1 / 3 * 3)) h) (fun v38 h39 => (if v38 = 0 then (fg_163_207 N h39) else (if am_pOk 0 x0 h39 then am_cI true (fm_169 x0 ((x1 / 3)) h39) (fun v43 h44 => (if v43 = 0 then (fg_163_207 N h44) else (fg_163_208 N 1 h44))) else none))) else none) else (if v4 = 4 then ((am_vI (am_pG 8 x0 h)).bind fun v48 => (if (v48 : Int32) ≠ 0 then ((am_vI (am_pG 8 x0 h)).bind fun v51 => (if (v51 : Int32) ≠ 0 then (if am_pOk 0 x0 h then am_cI true (fm_172 x0 ((x1 / v48)) ((x1 - x1 / v51 * v51)) h) (fun v55 h56 => (if v55 = 0 then (fg_163_245 N h56) else ((am_vI (am_pG 8 x0 h56)).bind fun v59 => (if (v59 : Int32) ≠ 0 then (if am_pOk 0 x0 h56 then am_cI true (fm_169 x0 ((x1 / v59)) h56) (fun v63 h64 => (if v63 = 0 then (fg_163_245 N h64) else (fg_163_246 N 1 h64))) else none) else none)))) else none) else none)) else none)) else (if v4 = 5 then ((am_vR (am_pG 5 x0 h)).bind fun v68 => (if am_pOk 3 v68 h then am_cI true (fm_54 v68 ((x1 / 5)) 0 h) (fun v71 h72 => (if ¬ v71 = 0 then (fg_163_279 N h72) else (if am_pOk 0 x0 h72 then am_cI true (fm_164 x0 ((x1 / 5)) 1 ((x1 - x1 / 5 * 5)) h72) (fun v76 h77 => (if v76 = 0 then (fg_163_279 N h77) else (fg_163_280 N 1 h77))) else none))) else none)) else (if v4 = 6 then (if am_pOk 0 x0 h then am_cI true (fm_173 x0 ((x1 / 14)) ((x1 - x1 / 14 * 14)) h) (fun v82 h83 => (if am_rfit (some FieldType.boolean) v82 then some (.inl (some (.int v82), h83)) else none)) else none) else (if v4 = 7 then (if am_pOk 0 x0 h then am_cI true (fm_175 N x0 ((x1 / 3)) (((x1 - x1 / 3 * 3) + 1)) h) (fun v88 h89 => (if v88 = 0 then (fg_163_327 N h89) else ((am_vR (am_pG 4 x0 h89)).bind fun v92 => ((am_vR (am_pG 0 x0 h89)).bind fun v94 => (if am_pOk 7 v92 h89 then am_cI true (fm_52 N v92 v94 h89) (fun v97 h98 => (if 0 ≤ v97 then (fg_163_327 N h98) else (fg_163_328 N 1 h98))) else none))))) else none) else (if v4 = 8 then (if am_pOk 0 x0 h then am_cI true (fm_176 N x0 ((x1 / 5)) ((x1 - x1 / 5 * 5)) h) (fun v103 h104 => (if v103 = 0 then (fg_163_360 N h104) else ((am_vR (am_pG 4 x0 h104)).bind fun v107 => ((am_vR (am_pG 0 x0 h104)).bind fun v109 => (if am_pOk 7 v107 h104 then am_cI true (fm_52 N v107 v109 h104) (fun v112 h113 => (if 0 ≤ v112 then (fg_163_360 N h113) else (fg_163_361 N 1 h113))) else none))))) else none) else (if v4 = 9 then ((am_vI (am_pG 8 x0 h)).bind fun v117 => (if (v117 : Int32) ≠ 0 then ((am_vI (am_pG 8 x0 h)).bind fun v120 => (if (v120 : Int32) ≠ 0 then (if am_pOk 0 x0 h then am_cI true (fm_177 x0 ((x1 / v117)) ((x1 - x1 / v120 * v120)) h) (fun v124 h125 => (if v124 = 0 then (fg_163_399 N h125) else ((am_vR (am_pG 4 x0 h125)).bind fun v128 => ((am_vR (am_pG 0 x0 h125)).bind fun v130 => (if am_pOk 7 v128 h125 then am_cI true (fm_52 N v128 v130 h125) (fun v133 h134 => (if 0 ≤ v133 then (fg_163_399 N h134) else (fg_163_400 N 1 h134))) else none))))) else none) else none)) else none)) else (if v4 = 10 then (if am_pOk 0 x0 h then am_cI true (fm_164 x0 ((x1 / 5)) 0 ((x1 - x1 / 5 * 5)) h) (fun v139 h140 => (if am_rfit (some FieldType.boolean) v139 then some (.inl (some (.int v139), h140)) else none)) else none) else (if v4 = 11 then ((am_vI (am_pG 8 x0 h)).bind fun v144 => (if (v144 : Int32) ≠ 0 then ((am_vI (am_pG 8 x0 h)).bind fun v147 => (if (v147 : Int32) ≠ 0 then (if am_pOk 0 x0 h then am_cI true (fm_178 x0 ((x1 / v144)) ((x1 - x1 / v147 * v147)) h) (fun v151 h152 => (if am_rfit (some FieldType.boolean) v151 then some (.inl (some (.int v151), h152)) else none)) else none) else none)) else none)) else (if v4 = 12 then (if am_pOk 0 x0 h then am_cI true (fm_179 x0 x1 h) (fun v157 h158 => (if am_rfit (some FieldType.boolean) v157 then some (.inl (some (.int v157), h158)) else none)) else none) else (if v4 = 13 then (if am_pOk 0 x0 h then am_cI true (fm_180 N x0 ((x1 + 1)) h) (fun v163 h164 => (if am_rfit (some FieldType.boolean) v163 then some (.inl (some (.int v163), h164)) else none)) else none) else (if v4 = 14 then (if am_pOk 0 x0 h then am_cI true (fm_181 N x0 ((x1 + 1)) h) (fun v169 h170 => (if am_rfit (some FieldType.boolean) v169 then some (.inl (some (.int v169), h170)) else none)) else none) else (if v4 = 15 then ((am_vI (am_pG 8 x0 h)).bind fun v174 => (if (v174 : Int32) ≠ 0 then ((am_vI (am_pG 8 x0 h)).bind fun v177 => (if (v177 : Int32) ≠ 0 then (if am_pOk 0 x0 h then am_cI true (fm_182 N x0 ((x1 / v174)) ((x1 - x1 / v177 * v177)) 1 h) (fun v181 h182 => (if am_rfit (some FieldType.boolean) v181 then some (.inl (some (.int v181), h182)) else none)) else none) else none)) else none)) else (if v4 = 16 then (if am_pOk 0 x0 h then am_cI true (fm_183 x0 x1 h) (fun v187 h188 => (if am_rfit (some FieldType.boolean) v187 then some (.inl (some (.int v187), h188)) else none)) else none) else (if v4 = 17 then ((am_vI (am_pG 8 x0 h)).bind fun v192 => (if (v192 : Int32) ≠ 0 then ((am_vI (am_pG 8 x0 h)).bind fun v195 => (if (v195 : Int32) ≠ 0 then (if am_pOk 0 x0 h then am_cI true (fm_182 N x0 ((x1 / v192)) ((x1 - x1 / v195 * v195)) 0 h) (fun v199 h200 => (if am_rfit (some FieldType.boolean) v199 then some (.inl (some (.int v199), h200)) else none)) else none) else none)) else none)) else (if v4 = 18 then (if am_pOk 0 x0 h then am_cI true (fm_184 x0 x1 h) (fun v205 h206 => (if am_rfit (some FieldType.boolean) v205 then some (.inl (some (.int v205), h206)) else none)) else none) else ((am_vI (am_pG 8 x0 h)).bind fun v209 => (if (v209 : Int32) ≠ 0 then ((am_vI (am_pG 8 x0 h)).bind fun v212 => (if (v212 : Int32) ≠ 0 then (if am_pOk 0 x0 h then am_cI true (fm_177 x0 ((x1 / v209)) ((x1 - x1 / v212 * v212)) h) (fun v216 h217 => (if v216 = 0 then (fg_163_535 N h217) else ((am_vR (am_pG 0 x0 h217)).bind fun v220 => ((am_vI (am_pG 771 v220 h217)).bind fun v222 => (if 40 < v222 then (fg_163_535 N h217) else (fg_163_536 N 1 h217)))))) else none) else none)) else none)))))))))))))))))))))) else some (.inl (some (.int 0), h)))) = r_) : fg_163_0 N x0 x1 h = r_ := k_
theorem hm_163 {N : Nat} {y0 : Value} {y1 : Int32} {h : am_H} {r_ : Option am_O} (k_ : fg_163_0 N y0 y1 h = r_) : fm_163 N y0 y1 h = r_ := k_
theorem hd_164_86 {h : am_H} {r_ : Option am_O} (k_ : some (.inl (some (.int 0), h)) = r_) : fg_164_86 h = r_ := k_
theorem hd_164_63 {x0 : Value} {x1 : Int32} {x2 : Int32} {x4 : Int32} {s0 : Int32} {h : am_H} {r_ : Option am_O} (k_ : (if s0 = x4 then (fg_164_86 h) else (if s0 < (-99) then (fg_164_86 h) else (if s0 ≤ 99 then ((am_vR (am_pG 0 x0 h)).bind fun v4 => ((am_vR (am_pG 5 x0 h)).bind fun v6 => (if am_pOk 3 v4 h then am_cV true (fm_60 v4 v6 h) (fun h10 => ((am_vR (am_pG 0 x0 h10)).bind fun v12 => (if am_pOk 3 v12 h10 then am_cV true (fm_51 v12 x1 x2 s0 h10) (fun h16 => some (.inl (some (.int 1), h16))) else none))) else none))) else (fg_164_86 h)))) = r_) : fg_164_63 x0 x1 x2 x4 s0 h = r_ := k_
theorem hd_164_0 {x0 : Value} {x1 : Int32} {x2 : Int32} {x3 : Int32} {h : am_H} {r_ : Option am_O} (k_ : ((am_vR (am_pG 5 x0 h)).bind fun v1 => (if am_pOk 3 v1 h then am_cI true (fm_54 v1 x1 x2 h) (fun v4 h5 => (if ¬ x3 = 0 then (if ¬ x3 = 1 then (if ¬ x3 = 2 then (if ¬ x3 = 3 then (fg_164_63 x0 x1 x2 v4 ((-v4)) h5) else (fg_164_63 x0 x1 x2 v4 ((v4 - 10)) h5)) else (fg_164_63 x0 x1 x2 v4 ((v4 + 10)) h5)) else (fg_164_63 x0 x1 x2 v4 ((v4 - 1)) h5)) else (fg_164_63 x0 x1 x2 v4 ((v4 + 1)) h5))) else none)) = r_) : fg_164_0 x0 x1 x2 x3 h = r_ := k_
theorem hm_164 {y0 : Value} {y1 : Int32} {y2 : Int32} {y3 : Int32} {h : am_H} {r_ : Option am_O} (k_ : fg_164_0 y0 y1 y2 y3 h = r_) : fm_164 y0 y1 y2 y3 h = r_ := k_
theorem hd_173_64 {s0 : Value} {s1 : Int32} {s2 : Int32} {s3 : Int32} {h : am_H} {r_ : Option am_O} (k_ : (if am_pOk 3 s0 h then am_cV true (fm_51 s0 s1 s2 s3 h) (fun h3 => some (.inl (some (.int 1), h3))) else none) = r_) : fg_173_64 s0 s1 s2 s3 h = r_ := k_
theorem hd_173_26 {h : am_H} {r_ : Option am_O} (k_ : some (.inl (some (.int 0), h)) = r_) : fg_173_26 h = r_ := k_
theorem hd_173_0 {x0 : Value} {x1 : Int32} {x2 : Int32} {h : am_H} {r_ : Option am_O} (k_ : ((am_vR (am_pG 5 x0 h)).bind fun v1 => (if am_pOk 3 v1 h then am_cI true (fm_54 v1 x1 0 h) (fun v4 h5 => (if x2 = v4 then (fg_173_26 h5) else am_cI false (fm_174 x2 h5) (fun v8 h9 => am_cI false (fm_174 v4 h9) (fun v11 h12 => (if v8 = v11 then ((am_vR (am_pG 0 x0 h12)).bind fun v15 => ((am_vR (am_pG 5 x0 h12)).bind fun v17 => (if am_pOk 3 v15 h12 then am_cV true (fm_60 v15 v17 h12) (fun h21 => ((am_vR (am_pG 0 x0 h21)).bind fun v23 => (if am_pOk 3 v23 h21 then am_cV true (fm_51 v23 x1 0 x2 h21) (fun h27 => ((am_vR (am_pG 0 x0 h27)).bind fun v29 => (if ¬ x2 = 0 then (fg_173_64 v29 x1 1 0 h27) else (fg_173_64 v29 x1 1 1 h27)))) else none))) else none))) else (fg_173_26 h12)))))) else none)) = r_) : fg_173_0 x0 x1 x2 h = r_ := k_
theorem hm_173 {y0 : Value} {y1 : Int32} {y2 : Int32} {h : am_H} {r_ : Option am_O} (k_ : fg_173_0 y0 y1 y2 h = r_) : fm_173 y0 y1 y2 h = r_ := k_
theorem hd_183_60 {s0 : Int32} {h : am_H} {r_ : Option am_O} (k_ : (if am_rfit (some FieldType.boolean) s0 then some (.inl (some (.int s0), h)) else none) = r_) : fg_183_60 s0 h = r_ := k_
theorem hd_183_59 {h : am_H} {r_ : Option am_O} (k_ : (fg_183_60 0 h) = r_) : fg_183_59 h = r_ := k_
theorem hd_183_0 {x0 : Value} {x1 : Int32} {h : am_H} {r_ : Option am_O} (k_ : ((am_vR (am_pG 0 x0 h)).bind fun v1 => ((am_vR (am_pG 5 x0 h)).bind fun v3 => ((am_vI (am_pG 770 v3 h)).bind fun v5 => (if am_pOk 3 v1 h then am_cV true (fm_34 v1 3 v5 h) (fun h9 => ((am_vR (am_pG 0 x0 h9)).bind fun v11 => ((am_vR (am_pG 5 x0 h9)).bind fun v13 => (if am_pOk 3 v11 h9 then am_cI true (fm_170 v11 v13 0 x1 h9) (fun v16 h17 => (if v16 = 0 then (fg_183_59 h17) else ((am_vR (am_pG 0 x0 h17)).bind fun v20 => ((am_vR (am_pG 5 x0 h17)).bind fun v22 => ((am_vR (am_pG 5 x0 h17)).bind fun v24 => ((am_vI (am_pG 771 v24 h17)).bind fun v26 => (if am_pOk 3 v20 h17 then am_cI true (fm_170 v20 v22 ((x1 + 1)) v26 h17) (fun v29 h30 => (if v29 = 0 then (fg_183_59 h30) else (fg_183_60 1 h30))) else none))))))) else none)))) else none)))) = r_) : fg_183_0 x0 x1 h = r_ := k_
theorem hm_183 {y0 : Value} {y1 : Int32} {h : am_H} {r_ : Option am_O} (k_ : fg_183_0 y0 y1 h = r_) : fm_183 y0 y1 h = r_ := k_
theorem nI_dv {a b : Nat} (ha : a < 2 ^ 31) (hb : b < 2 ^ 31) : nI a / nI b = nI (a / b) := (Int32.ofNat_div ha hb).symm
theorem nI_md {a b : Nat} (ha : a < 2 ^ 31) (hb : b < 2 ^ 31) : nI a - nI a / nI b * nI b = nI (a % b) := by
  rw [nI_dv ha hb, nI_mm, nI_sub (Nat.div_mul_le_self a b)]
  congr 1
  have := Nat.div_add_mod a b
  rw [Nat.mul_comm] at this
  omega
theorem tO_set0 {F : Nat → Int32} {Q : xT} {i a : Nat} (hF : tO F Q) (hi : i < Q.length) : tO (upd F (i * 2) (nI a)) (Q.set i (a, xV Q i)) := by
  intro k x h
  rw [List.getElem?_set] at h
  by_cases c : i = k
  · subst c
    rw [if_pos rfl, if_pos hi] at h
    rw [← Option.some.inj h, upd_eq, upd_ne (by omega)]
    exact ⟨rfl, (hF i _ (xS_at hi)).2⟩
  · rw [if_neg c] at h
    rw [upd_ne (by omega), upd_ne (by omega)]
    exact hF k x h
set_option maxRecDepth 100000 in
set_option maxHeartbeats 4000000 in
theorem s51_90 {V : Nat → Nat → Value} {I : Nat → Nat → Int32} {L : Nat → Nat → Int64} {R : Nat → Nat → Option Nat} {tl : am_H} {kd ln i : Nat} {Q : xT} {v : Int32} (h : hold V I 90 kd ln Q) (hi : i < Q.length) (hl : Q.length ≤ 60) : ∃ W J, fm_51 (.ref 90) (nI i) 1 v (fx V I L R ++ tl) = some (.inl (none, fx W J L R ++ tl)) ∧ hold W J 90 kd ln (Q.set i (xS Q i, v)) ∧ fr1 90 V W I J := by
  obtain ⟨h1, h2, h3, h4, h5⟩ := h
  refine ⟨V, iup I 91 (upd (I 91) (i * 2 + 1) v), ?_, ⟨h1, h2, by rw [List.length_set]; exact h3, h4, tO_set h5 hi⟩, fr1_i⟩
  unfold fm_51 fg_51_0
  refine ev_f (nI_pos (by omega)) (ev_b (rdI h3) (ev_f (nI_ge hi (by omega)) (ev_f (by decide) (ev_b (rdI h4) (ev_f (by decide) (ev_b (rdR rfl) (ev_b (rdI h4) ?_)))))))
  rw [show nI i * nI 2 + 1 = nI (i * 2 + 1) by rw [nI_mm, nI_1]]
  exact ev_b (qs_91 (by omega)) rfl
set_option maxRecDepth 100000 in
set_option maxHeartbeats 4000000 in
theorem s50_90 {V : Nat → Nat → Value} {I : Nat → Nat → Int32} {L : Nat → Nat → Int64} {R : Nat → Nat → Option Nat} {tl : am_H} {kd ln i a : Nat} {Q : xT} (h : hold V I 90 kd ln Q) (hi : i < Q.length) (hl : Q.length ≤ 60) : ∃ W J, fm_51 (.ref 90) (nI i) 0 (nI a) (fx V I L R ++ tl) = some (.inl (none, fx W J L R ++ tl)) ∧ hold W J 90 kd ln (Q.set i (a, xV Q i)) ∧ fr1 90 V W I J := by
  obtain ⟨h1, h2, h3, h4, h5⟩ := h
  refine ⟨V, iup I 91 (upd (I 91) (i * 2) (nI a)), ?_, ⟨h1, h2, by rw [List.length_set]; exact h3, h4, tO_set0 h5 hi⟩, fr1_i⟩
  unfold fm_51 fg_51_0
  refine ev_f (nI_pos (by omega)) (ev_b (rdI h3) (ev_f (nI_ge hi (by omega)) (ev_f (by decide) (ev_b (rdI h4) (ev_f (by decide) (ev_b (rdR rfl) (ev_b (rdI h4) ?_)))))))
  rw [show nI i * nI 2 + 0 = nI (i * 2) by rw [nI_mm]; exact nI_add (i * 2) 0]
  exact ev_b (qs_91 (by omega)) rfl
/-- the changer with a base -/
def cxC (V : Nat → Nat → Value) (I : Nat → Nat → Int32) (tl : am_H) (A it kd ln rc ac : Nat) (P : xT) : Prop := V 89 5 = .ref A ∧ V 89 7 = .int (nI rc) ∧ V 89 8 = .int (nI ac) ∧ 1 ≤ ac ∧ ac < 10000 ∧ srcP V I tl A it kd ln P ∧ 130 < A ∧ 130 < it
/-- what a candidate comes to -/
def outM (W : Nat → Nat → Value) (J : Nat → Nat → Int32) (kd ln : Nat) (o : Option xI) (b : Bool) : Prop := (b = true ↔ o.isSome = true) ∧ ∀ Q, o = some Q → ∃ Q' : xT, Q = tI Q' ∧ hold W J 90 kd ln Q' ∧ Q'.length ≤ 60
def frM (V W : Nat → Nat → Value) (I J : Nat → Nat → Int32) : Prop := (∀ a j, ¬ (a = 89 ∧ 10 ≤ j) → a ≠ 90 → a ≠ 92 → a ≠ 110 → W a j = V a j) ∧ (∀ y, y ≠ 91 → y ≠ 93 → (y < 111 ∨ 117 < y) → J y = I y) ∧ (wt V → wt W)
theorem frM_r {V : Nat → Nat → Value} {I : Nat → Nat → Int32} : frM V V I I := ⟨fun _ _ _ _ _ _ => rfl, fun _ _ _ _ => rfl, id⟩
theorem frM_t {V W X : Nat → Nat → Value} {I J K : Nat → Nat → Int32} (h : frM V W I J) (g : frM W X J K) : frM V X I K := ⟨fun a j n o p q => (g.1 a j n o p q).trans (h.1 a j n o p q), fun y n o p => (g.2.1 y n o p).trans (h.2.1 y n o p), fun w => g.2.2 (h.2.2 w)⟩
theorem frM_9 {V W : Nat → Nat → Value} {I J : Nat → Nat → Int32} (f : fr1 90 V W I J) : frM V W I J := ⟨fun a j _ h _ _ => f.1 a j h, fun y h _ _ => f.2.1 y h, f.2.2⟩
theorem cx_f {V W : Nat → Nat → Value} {I J : Nat → Nat → Int32} {tl : am_H} {A it kd ln rc ac : Nat} {P : xT} (h : cxC V I tl A it kd ln rc ac P) (f : frM V W I J) : cxC W J tl A it kd ln rc ac P := by
  obtain ⟨a, b, c, d, e, s, g, k⟩ := h
  exact ⟨(f.1 89 5 (by decide) (by decide) (by decide) (by decide)).trans a, (f.1 89 7 (by decide) (by decide) (by decide) (by decide)).trans b, (f.1 89 8 (by decide) (by decide) (by decide) (by decide)).trans c, d, e, srcP_c (fun j => f.1 A j (by omega) (by omega) (by omega) (by omega)) (f.2.1 it (by omega) (by omega) (by omega)) s, g, k⟩
theorem out_n {W : Nat → Nat → Value} {J : Nat → Nat → Int32} {kd ln : Nat} {o : Option xI} (h : o = none) : outM W J kd ln o false := ⟨by rw [h]; exact ⟨fun e => Bool.noConfusion e, fun e => Bool.noConfusion e⟩, fun Q e => by rw [h] at e; cases e⟩
theorem out_y {W : Nat → Nat → Value} {J : Nat → Nat → Int32} {kd ln : Nat} {o : Option xI} {Q : xT} (h : o = some (tI Q)) (hd : hold W J 90 kd ln Q) (hl : Q.length ≤ 60) : outM W J kd ln o true := ⟨by rw [h]; exact ⟨fun _ => rfl, fun _ => rfl⟩, fun R e => by rw [h] at e; exact ⟨Q, (Option.some.inj e).symm, hd, hl⟩⟩
set_option maxRecDepth 100000 in
set_option maxHeartbeats 4000000 in
theorem s164 {V : Nat → Nat → Value} {I : Nat → Nat → Int32} {L : Nat → Nat → Int64} {R : Nat → Nat → Option Nat} {tl : am_H} {A it kd ln rc ac k b : Nat} {P : xT} (hx : cxC V I tl A it kd ln rc ac P) (hk : k < P.length) (hb : b < 5) : ∃ W J d, fm_164 (.ref 89) (nI k) 1 (nI b) (fx V I L R ++ tl) = some (.inl (some (.int (bI d)), fx W J L R ++ tl)) ∧ d = ndO2 b (xV P k) ∧ (d = true → hold W J 90 kd ln (P.set k (xS P k, ndg b (xV P k)))) ∧ fr1 90 V W I J := by
  obtain ⟨h5, h7, h8, h1, h2, hs, hA, hi⟩ := hx
  obtain ⟨o1, o2, -, -, o5⟩ := src_ok (L := L) (R := R) hs
  have gv := (src_get (L := L) (R := R) hs hk).2
  have rb : am_vR (am_pG 5 (.ref 89) (fx V I L R ++ tl)) = some (.ref A) := rVR qv_89_5 h5
  have key : ∀ x, ndg b (xV P k) = x → ∃ W J d, fg_164_63 (.ref 89) (nI k) 1 (xV P k) x (fx V I L R ++ tl) = some (.inl (some (.int (bI d)), fx W J L R ++ tl)) ∧ d = ndO2 b (xV P k) ∧ (d = true → hold W J 90 kd ln (P.set k (xS P k, x))) ∧ fr1 90 V W I J := fun x hx => by
    have eo : ndO2 b (xV P k) = decide (x ≠ xV P k ∧ ¬ x < -99 ∧ ¬ 99 < x) := by unfold ndO2; rw [hx]
    rw [eo]
    have no : ¬ (x ≠ xV P k ∧ ¬ x < -99 ∧ ¬ 99 < x) → fg_164_63 (.ref 89) (nI k) 1 (xV P k) x (fx V I L R ++ tl) = some (.inl (some (.int 0), fx V I L R ++ tl)) → ∃ W J d, fg_164_63 (.ref 89) (nI k) 1 (xV P k) x (fx V I L R ++ tl) = some (.inl (some (.int (bI d)), fx W J L R ++ tl)) ∧ d = decide (x ≠ xV P k ∧ ¬ x < -99 ∧ ¬ 99 < x) ∧ (d = true → hold W J 90 kd ln (P.set k (xS P k, x))) ∧ fr1 90 V W I J := fun n e => ⟨V, I, false, e, (decide_eq_false n).symm, fun e => Bool.noConfusion e, fr1_r⟩
    by_cases c1 : x = xV P k
    · exact no (fun e => e.1 c1) (hd_164_63 (ev_t c1 rfl))
    by_cases c2 : x < -99
    · exact no (fun e => e.2.1 c2) (hd_164_63 (ev_f c1 (ev_t c2 rfl)))
    by_cases c3 : 99 < x
    · exact no (fun e => e.2.2 c3) (hd_164_63 (ev_f c1 (ev_f c2 (ev_f (Int32.not_le.mpr c3) rfl))))
    obtain ⟨W1, J1, e1, d1, f1⟩ := s60_90 (L := L) (R := R) hs (by omega)
    obtain ⟨W2, J2, e2, d2, f2⟩ := s51_90 (L := L) (R := R) (tl := tl) (v := x) d1 hk o5
    refine ⟨W2, J2, true, ?_, (decide_eq_true ⟨c1, c2, c3⟩).symm, fun _ => d2, fr1_t f1 f2⟩
    apply hd_164_63
    exact ev_f c1 (ev_f c2 (ev_t (Int32.not_lt.mp c3) (ev_b (rdR rfl) (ev_b rb (ev_i rfl (ev_cV e1 (ev_b (rdR rfl) (ev_i rfl (ev_cV e2 rfl)))))))))
  obtain ⟨W, J, d, e, e2, e3, f⟩ := key _ rfl
  refine ⟨W, J, d, ?_, e2, e3, f⟩
  apply hm_164
  apply hd_164_0
  refine ev_b rb (ev_i o1 (ev_cI gv ?_))
  rcases (by omega : b = 0 ∨ b = 1 ∨ b = 2 ∨ b = 3 ∨ b = 4) with rfl | rfl | rfl | rfl | rfl
  · exact ev_f (fun h => h rfl) e
  · exact ev_t (by decide) (ev_f (fun h => h rfl) e)
  · exact ev_t (by decide) (ev_t (by decide) (ev_f (fun h => h rfl) e))
  · exact ev_t (by decide) (ev_t (by decide) (ev_t (by decide) (ev_f (fun h => h rfl) e)))
  · exact ev_t (by decide) (ev_t (by decide) (ev_t (by decide) (ev_t (by decide) e)))
set_option maxRecDepth 100000 in
set_option maxHeartbeats 4000000 in
theorem m_0 {V : Nat → Nat → Value} {I : Nat → Nat → Int32} {L : Nat → Nat → Int64} {R : Nat → Nat → Option Nat} {tl : am_H} {N A it kd ln ac c : Nat} {P : xT} (hx : cxC V I tl A it kd ln 0 ac P) (h20 : ∀ k, k < P.length → xS P k ≤ 20) (hc : c < 5 * P.length) : ∃ W J b, fm_163 N (.ref 89) (nI c) (fx V I L R ++ tl) = some (.inl (some (.int (bI b)), fx W J L R ++ tl)) ∧ outM W J kd ln (cd00 (tI P) c) b ∧ frM V W I J := by
  have hx0 := hx
  obtain ⟨h5, h7, h8, h1, h2, hs, hA, hi⟩ := hx
  obtain ⟨o1, o2, -, -, o5⟩ := src_ok (L := L) (R := R) hs
  have hk : c / 5 < P.length := by omega
  have d5 : nI c / 5 = nI (c / 5) := nI_dv (b := 5) (by omega) (by omega)
  have m5 : nI c - nI c / 5 * 5 = nI (c % 5) := nI_md (b := 5) (by omega) (by omega)
  have gs : fm_54 (.ref A) (nI c / 5) 0 (fx V I L R ++ tl) = some (.inl (some (.int (nI (xS P (c / 5)))), fx V I L R ++ tl)) := by rw [d5]; exact (src_get (L := L) (R := R) hs hk).1
  have rb : am_vR (am_pG 5 (.ref 89) (fx V I L R ++ tl)) = some (.ref A) := rVR qv_89_5 h5
  have xk := h20 _ hk
  have ecd : cd00 (tI P) c = if xS P (c / 5) = 0 then (if ndO2 (c % 5) (xV P (c / 5)) = true then some (tI (P.set (c / 5) (xS P (c / 5), ndg (c % 5) (xV P (c / 5))))) else none) else none := by
    unfold cd00
    rw [(srt_tI hk).1, (srt_tI hk).2, tI_set]
    by_cases q : xS P (c / 5) = 0
    · rw [if_pos q, q]; rfl
    · rw [if_neg q]
      exact if_neg (fun e => q ((nI_eq (b := 0) (by omega) (by decide)).mp e))
  have no : ∀ (W : Nat → Nat → Value) (J : Nat → Nat → Int32), fg_163_136 N (fx W J L R ++ tl) = some (.inl (some (.int (bI false)), fx W J L R ++ tl)) := fun W J => hd_163_136 (hd_163_137 (ev_i rfl rfl))
  by_cases q : xS P (c / 5) = 0
  case neg =>
    refine ⟨V, I, false, ?_, out_n (by rw [ecd, if_neg q]), frM_r⟩
    apply hm_163
    apply hd_163_0
    exact ev_b (rdI h8) (ev_t (nI_le (a := 1) h1 (by omega)) (ev_b (rdI h7) (ev_t rfl (ev_b rb (ev_i o1 (ev_cI gs (ev_t (fun e => q ((nI_eq (b := 0) (by omega) (by decide)).mp e)) (no V I))))))))
  rw [if_pos q] at ecd
  obtain ⟨W, J, d, e, e2, e3, f⟩ := s164 (L := L) (R := R) hx0 hk (b := c % 5) (by omega)
  have e : fm_164 (.ref 89) (nI c / 5) 1 (nI c - nI c / 5 * 5) (fx V I L R ++ tl) = some (.inl (some (.int (bI d)), fx W J L R ++ tl)) := by rw [m5, d5]; exact e
  cases d with
  | false =>
    rw [← e2] at ecd
    refine ⟨W, J, false, ?_, out_n (by rw [ecd]; rfl), frM_9 f⟩
    apply hm_163
    apply hd_163_0
    exact ev_b (rdI h8) (ev_t (nI_le (a := 1) h1 (by omega)) (ev_b (rdI h7) (ev_t rfl (ev_b rb (ev_i o1 (ev_cI gs (ev_f (fun e => e (by rw [q]; rfl)) (ev_i rfl (ev_cI e (ev_t rfl (no W J)))))))))))
  | true =>
    rw [← e2] at ecd
    refine ⟨W, J, true, ?_, out_y (by rw [ecd]; rfl) (e3 rfl) (by rw [List.length_set]; exact o5), frM_9 f⟩
    apply hm_163
    apply hd_163_0
    refine ev_b (rdI h8) (ev_t (nI_le (a := 1) h1 (by omega)) (ev_b (rdI h7) (ev_t rfl (ev_b rb (ev_i o1 (ev_cI gs (ev_f (fun e => e (by rw [q]; rfl)) (ev_i rfl (ev_cI e (ev_f (by decide) ?_))))))))))
    exact hd_163_137 (ev_i rfl rfl)
set_option maxRecDepth 100000 in
set_option maxHeartbeats 4000000 in
theorem m_5 {V : Nat → Nat → Value} {I : Nat → Nat → Int32} {L : Nat → Nat → Int64} {R : Nat → Nat → Option Nat} {tl : am_H} {N A it kd ln ac c : Nat} {P : xT} (hx : cxC V I tl A it kd ln 5 ac P) (h20 : ∀ k, k < P.length → xS P k ≤ 20) (hc : c < 5 * P.length) : ∃ W J b, fm_163 N (.ref 89) (nI c) (fx V I L R ++ tl) = some (.inl (some (.int (bI b)), fx W J L R ++ tl)) ∧ outM W J kd ln (cd00 (tI P) c) b ∧ frM V W I J := by
  have hx0 := hx
  obtain ⟨h5, h7, h8, h1, h2, hs, hA, hi⟩ := hx
  obtain ⟨o1, o2, -, -, o5⟩ := src_ok (L := L) (R := R) hs
  have hk : c / 5 < P.length := by omega
  have d5 : nI c / 5 = nI (c / 5) := nI_dv (b := 5) (by omega) (by omega)
  have m5 : nI c - nI c / 5 * 5 = nI (c % 5) := nI_md (b := 5) (by omega) (by omega)
  have gs : fm_54 (.ref A) (nI c / 5) 0 (fx V I L R ++ tl) = some (.inl (some (.int (nI (xS P (c / 5)))), fx V I L R ++ tl)) := by rw [d5]; exact (src_get (L := L) (R := R) hs hk).1
  have rb : am_vR (am_pG 5 (.ref 89) (fx V I L R ++ tl)) = some (.ref A) := rVR qv_89_5 h5
  have xk := h20 _ hk
  have ecd : cd00 (tI P) c = if xS P (c / 5) = 0 then (if ndO2 (c % 5) (xV P (c / 5)) = true then some (tI (P.set (c / 5) (xS P (c / 5), ndg (c % 5) (xV P (c / 5))))) else none) else none := by
    unfold cd00
    rw [(srt_tI hk).1, (srt_tI hk).2, tI_set]
    by_cases q : xS P (c / 5) = 0
    · rw [if_pos q, q]; rfl
    · rw [if_neg q]
      exact if_neg (fun e => q ((nI_eq (b := 0) (by omega) (by decide)).mp e))
  have no : ∀ (W : Nat → Nat → Value) (J : Nat → Nat → Int32), fg_163_279 N (fx W J L R ++ tl) = some (.inl (some (.int (bI false)), fx W J L R ++ tl)) := fun W J => hd_163_279 (hd_163_280 (ev_i rfl rfl))
  by_cases q : xS P (c / 5) = 0
  case neg =>
    refine ⟨V, I, false, ?_, out_n (by rw [ecd, if_neg q]), frM_r⟩
    apply hm_163
    apply hd_163_0
    exact ev_b (rdI h8) (ev_t (nI_le (a := 1) h1 (by omega)) (ev_b (rdI h7) (ev_f (by decide) (ev_f (by decide) (ev_f (by decide) (ev_f (by decide) (ev_f (by decide) (ev_t rfl (ev_b rb (ev_i o1 (ev_cI gs (ev_t (fun e => q ((nI_eq (b := 0) (by omega) (by decide)).mp e)) (no V I)))))))))))))
  rw [if_pos q] at ecd
  obtain ⟨W, J, d, e, e2, e3, f⟩ := s164 (L := L) (R := R) hx0 hk (b := c % 5) (by omega)
  have e : fm_164 (.ref 89) (nI c / 5) 1 (nI c - nI c / 5 * 5) (fx V I L R ++ tl) = some (.inl (some (.int (bI d)), fx W J L R ++ tl)) := by rw [m5, d5]; exact e
  cases d with
  | false =>
    rw [← e2] at ecd
    refine ⟨W, J, false, ?_, out_n (by rw [ecd]; rfl), frM_9 f⟩
    apply hm_163
    apply hd_163_0
    exact ev_b (rdI h8) (ev_t (nI_le (a := 1) h1 (by omega)) (ev_b (rdI h7) (ev_f (by decide) (ev_f (by decide) (ev_f (by decide) (ev_f (by decide) (ev_f (by decide) (ev_t rfl (ev_b rb (ev_i o1 (ev_cI gs (ev_f (fun e => e (by rw [q]; rfl)) (ev_i rfl (ev_cI e (ev_t rfl (no W J))))))))))))))))
  | true =>
    rw [← e2] at ecd
    refine ⟨W, J, true, ?_, out_y (by rw [ecd]; rfl) (e3 rfl) (by rw [List.length_set]; exact o5), frM_9 f⟩
    apply hm_163
    apply hd_163_0
    refine ev_b (rdI h8) (ev_t (nI_le (a := 1) h1 (by omega)) (ev_b (rdI h7) (ev_f (by decide) (ev_f (by decide) (ev_f (by decide) (ev_f (by decide) (ev_f (by decide) (ev_t rfl (ev_b rb (ev_i o1 (ev_cI gs (ev_f (fun e => e (by rw [q]; rfl)) (ev_i rfl (ev_cI e (ev_f (by decide) ?_)))))))))))))))
    exact hd_163_280 (ev_i rfl rfl)
