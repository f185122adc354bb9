/-! ===== the tables written out ===== -/
def tTl : List Nat := [0, 14, 28, 1260, 7336, 234864, 2231040, 57232112, 716659776, 16149517216, 238735514080, 4998163007712, 81816993880160, 0, 0, 0, 392, 1960, 74088, 626024, 18082568, 209372296, 5079448584, 71321138952, 1564439235464, 24785308789640, 0, 16, 32, 1344, 7808, 235776, 2281984, 54998016, 703866880, 14983958528, 225312776192, 4497750310912, 74354117607424, 0, 0, 0, 512, 2560, 90624, 762368, 20988416, 244433408, 5644567040, 79852814848, 1674258366976, 26657933705728, 0, 14, 28, 1036, 5992, 160944, 1527680, 33323248, 412940864, 8061513376, 116212538848, 2147055651552, 33787089521248, 0, 0, 0, 392, 1960, 61544, 513128, 12651016, 144130952, 3024277256, 41356470792, 796998557320, 12152693595784]
def tWl_0 : List Nat := [0, 10, 0, 0, 0, 0, 0, 0, 0, 0, 0, 0, 0, 0, 1, 0, 0, 0, 0, 0, 0, 0, 0, 0, 0, 0, 0, 1, 0, 0, 0, 0, 0, 0, 0, 0, 0, 0, 0, 0, 1, 0, 0, 0, 0, 0, 0, 0, 0, 0, 0, 0, 0, 1, 0, 0, 0, 0, 0, 0, 0, 0, 0, 0, 0, 0, 0, 0, 0, 0, 0, 0, 0, 0, 0, 0, 0, 0, 0, 0, 0, 0, 0, 0, 0, 0, 0, 0, 0, 0, 0, 0, 0, 14, 28, 1260, 7336, 234864, 2231040, 57232112, 716659776, 16149517216, 238735514080, 4998163007712, 0, 0, 14, 28, 1260, 7336, 234864, 2231040, 57232112, 716659776, 16149517216, 238735514080, 4998163007712, 0, 0, 0, 0, 0, 0, 0, 0, 0, 0, 0, 0, 0, 0, 0, 0, 196, 784, 36064, 275968, 8574608, 94108224, 2373111552, 32339617408, 724439269120, 11282641498240, 0, 0, 0, 196, 784, 36064, 275968, 8574608, 94108224, 2373111552, 32339617408, 724439269120, 11282641498240, 0, 0, 0, 196, 784, 36064, 275968, 8574608, 94108224, 2373111552, 32339617408, 724439269120, 11282641498240, 0, 0, 0, 196, 784, 36064, 275968, 8574608, 94108224, 2373111552, 32339617408, 724439269120, 11282641498240, 0, 0, 0, 196, 784, 36064, 275968, 8574608, 94108224, 2373111552, 32339617408, 724439269120, 11282641498240, 0, 0, 0, 0, 0, 0, 0, 0, 0, 0, 0, 0, 0, 0, 0, 0, 0, 0, 0, 0, 0, 0, 0, 0, 0, 0, 0, 0, 0, 0, 0, 0, 0, 0, 0, 0, 0, 0, 0]
def tWl_1 : List Nat := [0, 0, 0, 0, 0, 0, 0, 0, 0, 0, 0, 0, 0, 0, 0, 0, 224, 896, 39872, 304640, 9205504, 101459456, 2490989312, 34129353216, 746562428416, 11672860842496, 0, 0, 0, 0, 0, 0, 76832, 691488, 30194976, 359650592, 10609039392, 151933205536, 3734599531040, 0, 0, 0, 0, 0, 0, 0, 0, 0, 0, 0, 0, 0, 0, 0, 0, 0, 0, 0, 0, 0, 0, 0, 0, 0, 0, 0, 0, 0, 0, 0, 0, 0, 0, 0, 0, 0, 0, 0, 0, 0, 0, 0, 0, 0, 0, 0, 0, 0, 0, 0, 0, 0, 0, 0, 0, 0, 0, 0, 0, 0, 0, 0, 0, 0, 0, 0, 0, 0, 0, 0, 0, 0, 0, 0, 0, 0, 0, 0, 0, 0, 0, 0, 0, 0, 0, 0, 0, 0, 0, 0, 0, 0, 0, 0, 0, 0, 0, 0, 0, 0, 0, 0, 0, 0, 0, 0, 0, 0, 0, 0, 0, 0, 0, 0, 0, 0, 0, 0, 0, 0, 392, 1960, 74088, 626024, 18082568, 209372296, 5079448584, 71321138952, 1564439235464, 0, 0, 0, 0, 0, 0, 0, 0, 0, 0, 0, 0, 0, 0, 0, 0, 0, 0, 0, 0, 0, 0, 0, 0, 0, 0, 0, 0, 0, 0, 0, 0, 0, 0, 0, 0, 0, 0, 0, 0, 0, 0, 0, 0, 0, 0, 0, 0, 0, 0, 0, 0, 0, 0, 0, 0, 0, 0, 0, 0, 0, 0, 0, 0, 0]
def tWl_2 : List Nat := [0, 0, 0, 196, 784, 36064, 275968, 8574608, 94108224, 2373111552, 32339617408, 724439269120, 11282641498240, 0, 0, 0, 196, 784, 36064, 275968, 8574608, 94108224, 2373111552, 32339617408, 724439269120, 11282641498240, 0, 0, 0, 0, 0, 0, 0, 153664, 1536640, 61926592, 781227776, 22119779136, 327793278848, 0, 0, 0, 0, 0, 0, 0, 153664, 1536640, 61926592, 781227776, 22119779136, 327793278848, 0, 0, 0, 0, 0, 0, 0, 0, 0, 0, 0, 0, 0, 0, 0, 0, 0, 0, 0, 0, 0, 0, 0, 0, 0, 0, 0, 10, 0, 0, 0, 0, 0, 0, 0, 0, 0, 0, 0, 0, 1, 0, 0, 0, 0, 0, 0, 0, 0, 0, 0, 0, 0, 1, 0, 0, 0, 0, 0, 0, 0, 0, 0, 0, 0, 0, 1, 0, 0, 0, 0, 0, 0, 0, 0, 0, 0, 0, 0, 1, 0, 0, 0, 0, 0, 0, 0, 0, 0, 0, 0, 0, 1, 0, 0, 0, 0, 0, 0, 0, 0, 0, 0, 0, 0, 1, 0, 0, 0, 0, 0, 0, 0, 0, 0, 0, 0, 0, 0, 16, 32, 1344, 7808, 235776, 2281984, 54998016, 703866880, 14983958528, 225312776192, 4497750310912, 0, 0, 16, 32, 1344, 7808, 235776, 2281984, 54998016, 703866880, 14983958528, 225312776192, 4497750310912, 0, 0, 0, 0, 0, 0, 0, 0, 0, 0, 0, 0, 0, 0, 0, 0, 256, 1024, 44032, 335872, 9850880, 109101056, 2600714240, 35859464192, 763594604544, 11995899494400, 0, 0, 0, 256, 1024, 44032, 335872, 9850880, 109101056, 2600714240, 35859464192, 763594604544, 11995899494400]
def tWl_3 : List Nat := [0, 0, 0, 256, 1024, 44032, 335872, 9850880, 109101056, 2600714240, 35859464192, 763594604544, 11995899494400, 0, 0, 0, 256, 1024, 44032, 335872, 9850880, 109101056, 2600714240, 35859464192, 763594604544, 11995899494400, 0, 0, 0, 256, 1024, 44032, 335872, 9850880, 109101056, 2600714240, 35859464192, 763594604544, 11995899494400, 0, 0, 0, 0, 0, 0, 0, 0, 0, 0, 0, 0, 0, 0, 0, 0, 0, 0, 0, 0, 0, 0, 0, 0, 0, 0, 0, 0, 0, 0, 0, 0, 0, 0, 0, 0, 0, 0, 0, 0, 0, 0, 0, 0, 0, 0, 0, 0, 0, 0, 0, 0, 0, 0, 0, 0, 0, 0, 0, 0, 0, 0, 0, 0, 0, 0, 0, 0, 0, 0, 0, 131072, 1179648, 48365568, 572653568, 16047538176, 229151735808, 5379119513600, 0, 0, 0, 0, 0, 0, 0, 0, 0, 0, 0, 0, 0, 0, 0, 0, 0, 0, 0, 0, 0, 0, 0, 0, 0, 0, 0, 0, 0, 0, 0, 0, 0, 0, 0, 0, 0, 0, 0, 0, 0, 0, 0, 0, 0, 0, 0, 0, 0, 0, 0, 0, 0, 0, 0, 0, 0, 0, 0, 0, 0, 0, 0, 0, 0, 0, 0, 0, 0, 0, 0, 0, 0, 0, 0, 0, 0, 0, 0, 0, 0, 0, 0, 0, 0, 0, 0, 0, 0, 0, 0, 0, 0, 0, 0, 0, 0, 0, 0, 0, 0, 0, 0, 0, 0, 0, 0, 0, 0, 0, 0, 0, 0, 0, 0, 0, 0]
def tWl_4 : List Nat := [0, 0, 0, 0, 512, 2560, 90624, 762368, 20988416, 244433408, 5644567040, 79852814848, 1674258366976, 0, 0, 0, 0, 0, 0, 0, 0, 0, 0, 0, 0, 0, 0, 0, 0, 0, 0, 0, 0, 0, 0, 0, 0, 0, 0, 0, 0, 0, 0, 0, 0, 0, 0, 0, 0, 0, 0, 0, 0, 0, 0, 0, 0, 0, 0, 0, 0, 0, 0, 0, 0, 0, 0, 0, 0, 0, 0, 0, 0, 0, 0, 0, 0, 0, 0, 0, 0, 256, 1024, 44032, 335872, 9850880, 109101056, 2600714240, 35859464192, 763594604544, 11995899494400, 0, 0, 0, 256, 1024, 44032, 335872, 9850880, 109101056, 2600714240, 35859464192, 763594604544, 11995899494400, 0, 0, 0, 0, 0, 0, 0, 262144, 2621440, 99352576, 1244659712, 33608171520, 495938174976, 0, 0, 0, 0, 0, 0, 0, 262144, 2621440, 99352576, 1244659712, 33608171520, 495938174976, 0, 0, 0, 0, 0, 0, 0, 0, 0, 0, 0, 0, 0, 0, 0, 0, 0, 0, 0, 0, 0, 0, 0, 0, 0, 0, 0, 10, 0, 0, 0, 0, 0, 0, 0, 0, 0, 0, 0, 0, 1, 0, 0, 0, 0, 0, 0, 0, 0, 0, 0, 0, 0, 1, 0, 0, 0, 0, 0, 0, 0, 0, 0, 0, 0, 0, 1, 0, 0, 0, 0, 0, 0, 0, 0, 0, 0, 0, 0, 1, 0, 0, 0, 0, 0, 0, 0, 0, 0, 0, 0, 0, 0, 0, 0, 0, 0, 0, 0, 0, 0, 0, 0, 0]
def tWl_5 : List Nat := [0, 0, 0, 0, 0, 0, 0, 0, 0, 0, 0, 0, 0, 0, 0, 14, 28, 1036, 5992, 160944, 1527680, 33323248, 412940864, 8061513376, 116212538848, 2147055651552, 0, 0, 14, 28, 1036, 5992, 160944, 1527680, 33323248, 412940864, 8061513376, 116212538848, 2147055651552, 0, 0, 0, 0, 0, 0, 0, 0, 0, 0, 0, 0, 0, 0, 0, 0, 196, 784, 29792, 225792, 5915280, 64203328, 1387981056, 18522551936, 362103521024, 5452096970880, 0, 0, 0, 196, 784, 29792, 225792, 5915280, 64203328, 1387981056, 18522551936, 362103521024, 5452096970880, 0, 0, 0, 196, 784, 29792, 225792, 5915280, 64203328, 1387981056, 18522551936, 362103521024, 5452096970880, 0, 0, 0, 196, 784, 29792, 225792, 5915280, 64203328, 1387981056, 18522551936, 362103521024, 5452096970880, 0, 0, 0, 196, 784, 29792, 225792, 5915280, 64203328, 1387981056, 18522551936, 362103521024, 5452096970880, 0, 0, 0, 0, 0, 0, 0, 0, 0, 0, 0, 0, 0, 0, 0, 0, 0, 0, 0, 0, 0, 0, 0, 0, 0, 0, 0, 0, 0, 0, 0, 0, 0, 0, 0, 0, 0, 0, 0, 0, 0, 0, 0, 0, 0, 0, 0, 0, 0, 0, 0, 0, 0, 0, 0, 0, 0, 0, 0, 0, 0, 0, 0, 0, 0, 0, 0, 0, 0, 0, 0, 76832, 691488, 25277728, 295726368, 7476752416, 104112968736, 2232493363744, 0, 0, 0, 0, 0, 0, 0, 0, 0, 0, 0, 0, 0, 0, 0, 0, 0, 0, 0, 0, 0, 0, 0, 0, 0, 0, 0, 0, 0, 0, 0, 0, 0, 0, 0, 0, 0, 0, 0]
def tWl_6 : List Nat := [0, 0, 0, 0, 0, 0, 0, 0, 0, 0, 0, 0, 0, 0, 0, 0, 0, 0, 0, 0, 0, 0, 0, 0, 0, 0, 0, 0, 0, 0, 0, 0, 0, 0, 0, 0, 0, 0, 0, 0, 0, 0, 0, 0, 0, 0, 0, 0, 0, 0, 0, 0, 0, 0, 0, 0, 0, 0, 0, 0, 0, 0, 0, 0, 0, 0, 0, 0, 0, 0, 0, 0, 0, 0, 0, 0, 0, 0, 0, 0, 0, 0, 392, 1960, 61544, 513128, 12651016, 144130952, 3024277256, 41356470792, 796998557320, 0, 0, 0, 0, 0, 0, 0, 0, 0, 0, 0, 0, 0, 0, 0, 0, 0, 0, 0, 0, 0, 0, 0, 0, 0, 0, 0, 0, 0, 0, 0, 0, 0, 0, 0, 0, 0, 0, 0, 0, 0, 0, 0, 0, 0, 0, 0, 0, 0, 0, 0, 0, 0, 0, 0, 0, 0, 0, 0, 0, 0, 0, 0, 0, 0, 0, 0, 0, 196, 784, 29792, 225792, 5915280, 64203328, 1387981056, 18522551936, 362103521024, 5452096970880, 0, 0, 0, 196, 784, 29792, 225792, 5915280, 64203328, 1387981056, 18522551936, 362103521024, 5452096970880, 0, 0, 0, 0, 0, 0, 0, 153664, 1536640, 52092096, 643544832, 15717522240, 225750548352, 0, 0, 0, 0, 0, 0, 0, 153664, 1536640, 52092096, 643544832, 15717522240, 225750548352, 0, 0, 0, 0, 0, 0, 0, 0, 0, 0, 0, 0, 0, 0, 0, 0, 0, 0, 0, 0, 0, 0, 0, 0, 0, 0]
def tWl : List Nat := tWl_0 ++ (tWl_1 ++ (tWl_2 ++ (tWl_3 ++ (tWl_4 ++ (tWl_5 ++ (tWl_6))))))
/-- how many trees there are with a sort at node 0: (21 c + sort) 13 + size -/
def tW (j : Nat) : Int64 := if j % 13 = 0 then 0 else Int64.ofNat (tWl.getD j 0)
/-- how many trees there are: 13 c + size -/
def tT (j : Nat) : Int64 := if j % 13 = 0 then 0 else Int64.ofNat (tTl.getD j 0)
set_option maxRecDepth 100000 in
theorem tck : ∀ s, s < 13 → 1 ≤ s → ∀ c, c < 126 → rkCnt tT (nI (c / 21)) (nI (c % 21)) s = tW (c * 13 + s) := by decide +kernel
/-- the part of a total that is made at a turn -/
def pS (s c x : Nat) : Nat → Int64
  | 0 => 0
  | k + 1 => if x * 21 + k < c then pS s c x k + tW ((x * 21 + k) * 13 + s) else pS s c x k
def pW (s c j : Nat) : Int64 := if j % 13 < s ∨ (j % 13 = s ∧ j / 13 < c) then tW j else 0
def pT (s c j : Nat) : Int64 := if j % 13 < s then tT j else if j % 13 = s then pS s c (j / 13) 21 else 0
set_option maxRecDepth 100000 in
theorem tck2 : ∀ s, s < 13 → ∀ x, x < 6 → pS s 126 x 21 = tT (x * 13 + s) := by decide +kernel
theorem pS_far {s c x : Nat} (h : c ≤ x * 21) : ∀ k, pS s c x k = 0 := by
  intro k
  induction k with
  | zero => rfl
  | succ k ih => rw [pS, if_neg (by omega)]; exact ih
theorem pS_out {s c x k : Nat} (h : x * 21 + k ≤ c) : pS s (c + 1) x k = pS s c x k := by
  induction k with
  | zero => rfl
  | succ k ih => rw [pS, pS, if_pos (by omega), if_pos (by omega), ih (by omega)]
theorem pS_lo {s c x : Nat} : ∀ k, c < x * 21 → pS s (c + 1) x k = pS s c x k := by
  intro k h
  rw [pS_far (by omega), pS_far (by omega)]
theorem pS_step {s c x : Nat} : ∀ k, c / 21 = x → x * 21 + k ≤ x * 21 + 21 → c < x * 21 + k → pS s (c + 1) x k = pS s c x k + tW (c * 13 + s) := by
  intro k
  induction k with
  | zero => intro h1 h2 h3; omega
  | succ k ih =>
    intro h1 h2 h3
    by_cases hc : c = x * 21 + k
    · rw [pS, if_pos (by omega), pS, if_neg (by omega), pS_out (by omega), hc]
    · rw [pS, if_neg (by omega), pS, if_neg (by omega), ih h1 (by omega) (by omega)]
theorem pS_other {s c x : Nat} (h : c / 21 ≠ x) : pS s (c + 1) x 21 = pS s c x 21 := by
  by_cases h1 : c < x * 21
  · exact pS_lo 21 h1
  · exact pS_out (by omega)
theorem rkTot_c {T T1 : Nat → Int64} {s : Nat} (h : ∀ j, j % 13 < s → T j = T1 j) (c : Int32) {f : Nat} (hf : f < s) (hs : s ≤ 13) : rkTot T c (nI f) = rkTot T1 c (nI f) := by
  unfold rkTot
  split
  · rfl
  · split
    · rfl
    · split
      · rfl
      · split
        · rfl
        · rename_i h1 h2 h3 h4
          obtain ⟨k, hk, rfl⟩ := nI_of h3
          have hk6 : k < 6 := Nat.not_le.mp (fun h9 => h4 ((nI_leI (by decide) hk).mpr h9))
          rw [rk_mul (b := 0), nI_clamp (by omega)]
          exact h _ (by omega)
theorem rkTwo_c {T T1 : Nat → Int64} {s : Nat} (h : ∀ j, j % 13 < s → T j = T1 j) (hs : s ≤ 13) (a b : Int32) {n : Nat} (hn : n < s) : ∀ (m f : Nat) (v : Int64), m + f ≤ n ∨ m = 0 → rkTwo T a b (nI n) m (nI f) v = rkTwo T1 a b (nI n) m (nI f) v := by
  intro m
  induction m with
  | zero => intro f v _; rfl
  | succ m ih =>
    intro f v hm
    rw [rkTwo, rkTwo, nI_sub (by omega), rkTot_c h a (by omega) hs, rkTot_c h b (by omega) hs, nI_1]
    exact ih (f + 1) _ (by omega)
theorem rkThr_c {T T1 : Nat → Int64} {s : Nat} (h : ∀ j, j % 13 < s → T j = T1 j) (hs : s ≤ 13) (a b : Int32) : ∀ (m f : Nat) (v : Int64), m + f ≤ s - 1 ∨ m = 0 → rkThr T a b s m f v = rkThr T1 a b s m f v := by
  intro m
  induction m with
  | zero => intro f v _; rfl
  | succ m ih =>
    intro f v hm
    rw [rkThr, rkThr, rkTot_c h a (by omega) hs]
    have e := rkTwo_c h hs b b (n := s - 1 - f) (by omega) (s - 1 - f - 1) 1 0 (by omega)
    rw [show (nI 1) = 1 from rfl] at e
    rw [e]
    exact ih (f + 1) _ (by omega)
theorem rkCnt_c {T T1 : Nat → Int64} {s : Nat} (h : ∀ j, j % 13 < s → T j = T1 j) (h1 : 1 ≤ s) (hs : s ≤ 13) (c k : Int32) : rkCnt T c k s = rkCnt T1 c k s := by
  unfold rkCnt
  have e := rkTwo_c h hs (pv_12 c k 0) (pv_12 c k 1) (n := s - 1) (by omega) (s - 1 - 1) 1 0 (by omega)
  rw [show (nI 1) = 1 from rfl] at e
  rw [rkTot_c h _ (by omega) hs, e, rkThr_c h hs _ _ (s - 1 - 1) 1 0 (by omega)]
theorem updL_at {f : Nat → Int64} {i j : Nat} {v : Int64} : vp_updL f i v j = if j = i then v else f j := rfl
theorem rk_turn {s c : Nat} (h1 : 1 ≤ s) (hs : s < 13) (hc : c < 126) : rkTurn s c (pW s c, pT s c) = (pW s (c + 1), pT s (c + 1)) := by
  have e : rkCnt (pT s c) (nI (c / 21)) (nI (c % 21)) s = tW (c * 13 + s) := by
    rw [rkCnt_c (T1 := tT) (fun j hj => by unfold pT; rw [if_pos hj]) h1 (by omega)]
    exact tck s hs h1 c hc
  unfold rkTurn
  simp only [e]
  refine Prod.ext ?_ ?_
  · funext j
    show vp_updL (pW s c) (c * 13 + s) (tW (c * 13 + s)) j = pW s (c + 1) j
    rw [updL_at]
    unfold pW
    by_cases hj : j = c * 13 + s
    · rw [if_pos hj, if_pos (by omega), hj]
    · rw [if_neg hj]
      by_cases hp : j % 13 < s ∨ (j % 13 = s ∧ j / 13 < c)
      · rw [if_pos hp, if_pos (by omega)]
      · rw [if_neg hp, if_neg (by omega)]
  · funext j
    show vp_updL (pT s c) (c / 21 * 13 + s) (pT s c (c / 21 * 13 + s) + tW (c * 13 + s)) j = pT s (c + 1) j
    rw [updL_at]
    by_cases hj : j = c / 21 * 13 + s
    · rw [if_pos hj, hj]
      unfold pT
      rw [if_neg (by omega), if_pos (by omega), if_neg (by omega), if_pos (by omega), show (c / 21 * 13 + s) / 13 = c / 21 by omega]
      exact (pS_step 21 rfl (by omega) (by omega)).symm
    · rw [if_neg hj]
      unfold pT
      by_cases hp : j % 13 < s
      · rw [if_pos hp, if_pos hp]
      · rw [if_neg hp, if_neg hp]
        by_cases hq : j % 13 = s
        · rw [if_pos hq, if_pos hq, pS_other (by omega)]
        · rw [if_neg hq, if_neg hq]
theorem rk_row {s : Nat} (h1 : 1 ≤ s) (hs : s < 13) : ∀ m c, m + c = 126 → rkRow s m c (pW s c, pT s c) = (pW s 126, pT s 126) := by
  intro m
  induction m with
  | zero => intro c hc; rw [show c = 126 by omega]; rfl
  | succ m ih =>
    intro c hc
    rw [rkRow, rk_turn h1 hs (by omega)]
    exact ih (c + 1) (by omega)
theorem tT_far {j : Nat} (h : 78 ≤ j) : tT j = 0 := by
  unfold tT
  split
  · rfl
  · rw [List.getD_eq_getElem?_getD, List.getElem?_eq_none (show tTl.length ≤ j from h)]
    rfl
theorem tW_far {j : Nat} (h : 1638 ≤ j) : tW j = 0 := by
  unfold tW
  split
  · rfl
  · rw [List.getD_eq_getElem?_getD, List.getElem?_eq_none (show tWl.length ≤ j from h)]
    rfl
theorem rk_next {s : Nat} (hs : s < 13) : (pW s 126, pT s 126) = (pW (s + 1) 0, pT (s + 1) 0) := by
  refine Prod.ext ?_ ?_
  · funext j
    show pW s 126 j = pW (s + 1) 0 j
    unfold pW
    by_cases hp : j % 13 < s ∨ (j % 13 = s ∧ j / 13 < 126)
    · rw [if_pos hp, if_pos (by omega)]
    · rw [if_neg hp]
      by_cases hq : j % 13 < s + 1
      · rw [if_pos (by omega), tW_far (by omega)]
      · rw [if_neg (by omega)]
  · funext j
    show pT s 126 j = pT (s + 1) 0 j
    unfold pT
    by_cases hp : j % 13 < s
    · rw [if_pos hp, if_pos (by omega)]
    · rw [if_neg hp]
      by_cases hq : j % 13 = s
      · rw [if_pos hq, if_pos (by omega)]
        by_cases hx : j / 13 < 6
        · rw [tck2 s hs (j / 13) hx, show j / 13 * 13 + s = j by omega]
        · rw [pS_far (by omega), tT_far (by omega)]
      · rw [if_neg hq, if_neg (by omega)]
        by_cases hr : j % 13 = s + 1
        · rw [if_pos hr, pS_far (by omega)]
        · rw [if_neg hr]
theorem rk_tab : ∀ m s, m + s = 13 → 1 ≤ s → rkTab m s (pW s 0, pT s 0) = (pW 13 0, pT 13 0) := by
  intro m
  induction m with
  | zero => intro s hs _; rw [show s = 13 by omega]; rfl
  | succ m ih =>
    intro s hs h1
    rw [rkTab, rk_row h1 (by omega) 126 0 rfl, rk_next (by omega)]
    exact ih (s + 1) (by omega) (by omega)
/-- the tables that the constructor makes are these -/
theorem rk_all : rkAll = (tW, tT) := by
  have e0 : ((fun _ => 0, fun _ => 0) : rkQ) = (pW 1 0, pT 1 0) := by
    refine Prod.ext ?_ ?_
    · funext j
      show (0 : Int64) = pW 1 0 j
      unfold pW
      split
      · unfold tW; rw [if_pos (by omega)]
      · rfl
    · funext j
      show (0 : Int64) = pT 1 0 j
      unfold pT
      split
      · unfold tT; rw [if_pos (by omega)]
      · split
        · rw [pS_far (by omega)]
        · rfl
  have e1 : ((pW 13 0, pT 13 0) : rkQ) = (tW, tT) := by
    refine Prod.ext ?_ ?_
    · funext j
      show pW 13 0 j = tW j
      unfold pW
      rw [if_pos (by omega)]
    · funext j
      show pT 13 0 j = tT j
      unfold pT
      rw [if_pos (by omega)]
  unfold rkAll
  rw [e0, rk_tab 12 1 rfl (by omega), e1]
