def am_ms_0 : List am_M := [am_m0, am_m1, am_m2, am_m3, am_m4, am_m5, am_m6, am_m7, am_m8, am_m9, am_m10, am_m11, am_m12, am_m13, am_m14, am_m15, am_m16, am_m17, am_m18, am_m19, am_m20, am_m21, am_m22, am_m23, am_m24, am_m25, am_m26, am_m27, am_m28, am_m29, am_m30, am_m31, am_m32, am_m33, am_m34, am_m35, am_m36, am_m37, am_m38, am_m39, am_m40, am_m41, am_m42, am_m43, am_m44, am_m45, am_m46, am_m47, am_m48, am_m49]
theorem am_ms_0_k : ∀ m ∈ am_ms_0, am_chk m = true := by
  intro m h
  simp only [am_ms_0, List.mem_cons, List.not_mem_nil, or_false] at h
  rcases h with rfl | rfl | rfl | rfl | rfl | rfl | rfl | rfl | rfl | rfl | rfl | rfl | rfl | rfl | rfl | rfl | rfl | rfl | rfl | rfl | rfl | rfl | rfl | rfl | rfl | rfl | rfl | rfl | rfl | rfl | rfl | rfl | rfl | rfl | rfl | rfl | rfl | rfl | rfl | rfl | rfl | rfl | rfl | rfl | rfl | rfl | rfl | rfl | rfl | rfl
  · exact am_k0
  · exact am_k1
  · exact am_k2
  · exact am_k3
  · exact am_k4
  · exact am_k5
  · exact am_k6
  · exact am_k7
  · exact am_k8
  · exact am_k9
  · exact am_k10
  · exact am_k11
  · exact am_k12
  · exact am_k13
  · exact am_k14
  · exact am_k15
  · exact am_k16
  · exact am_k17
  · exact am_k18
  · exact am_k19
  · exact am_k20
  · exact am_k21
  · exact am_k22
  · exact am_k23
  · exact am_k24
  · exact am_k25
  · exact am_k26
  · exact am_k27
  · exact am_k28
  · exact am_k29
  · exact am_k30
  · exact am_k31
  · exact am_k32
  · exact am_k33
  · exact am_k34
  · exact am_k35
  · exact am_k36
  · exact am_k37
  · exact am_k38
  · exact am_k39
  · exact am_k40
  · exact am_k41
  · exact am_k42
  · exact am_k43
  · exact am_k44
  · exact am_k45
  · exact am_k46
  · exact am_k47
  · exact am_k48
  · exact am_k49
def am_ms_1 : List am_M := [am_m50, am_m51, am_m52, am_m53, am_m54, am_m55, am_m56, am_m57, am_m58, am_m59]
theorem am_ms_1_k : ∀ m ∈ am_ms_1, am_chk m = true := by
  intro m h
  simp only [am_ms_1, List.mem_cons, List.not_mem_nil, or_false] at h
  rcases h with rfl | rfl | rfl | rfl | rfl | rfl | rfl | rfl | rfl | rfl
  · exact am_k50
  · exact am_k51
  · exact am_k52
  · exact am_k53
  · exact am_k54
  · exact am_k55
  · exact am_k56
  · exact am_k57
  · exact am_k58
  · exact am_k59
def am_ms : List am_M := am_ms_0 ++ (am_ms_1)
theorem am_ms_k : ∀ m ∈ am_ms, am_chk m = true := by
  intro m h
  simp only [am_ms, List.mem_append] at h
  rcases h with h | h
  · exact am_ms_0_k m h
  · exact am_ms_1_k m h
