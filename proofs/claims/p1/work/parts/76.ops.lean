/-! ===== the fresh objects: witness, add, front, read ===== -/
set_option maxRecDepth 100000 in
set_option maxHeartbeats 4000000 in
theorem t14 (a : Int32) : (a < 0 ∨ 15 ≤ a) ∨ ∃ k, k < 15 ∧ a = nI k := sorry
set_option maxRecDepth 100000 in
set_option maxHeartbeats 4000000 in
theorem p_52 (q : rkQ) (a1 : Int32) : ∃ h', opBI (fm_299 (.ref 0) a1 (.ref 268) (hp0 q)) (fun h1 => fm_576 (.ref 174) a1 h1) vfI h' ∧ fits h' := sorry
/-- the same of two calls, as a test -/
def opBb (w : Option am_O) (r : am_H → Option am_O) : Bool := match w with
  | some (.inl (some (.int c), h1)) => am_pOk 12 (.ref 174) h1 && (match r h1 with
    | some (.inl (some (.int b), h')) => am_pOk 12 (.ref 174) h' && (match am_vI (am_pG 3072 (.ref 174) h') with
      | some c1 => c1 == c
      | none => false) && (!(c == 0) || (match am_pAL (.ref 268) 0 h' with
      | some o => o == b.toInt64
      | none => false)) && Nat.ble h'.length 600002 && Nat.ble (am_sz h') 7301098
    | _ => false)
  | _ => false
theorem opBb_ok {w : Option am_O} {r : am_H → Option am_O} (h : opBb w r = true) : ∃ h', opBI w r vfI h' ∧ fits h' := sorry
set_option maxRecDepth 100000 in
set_option maxHeartbeats 4000000 in
theorem p_1_0 : opBb (fm_30 1000 (.ref 0) 0 (.ref 268) (hp0 rkAll)) (fun h1 => fm_326 1000 (.ref 174) 0 h1) = true := sorry
set_option maxRecDepth 100000 in
set_option maxHeartbeats 4000000 in
theorem p_1_1 : opBb (fm_30 1000 (.ref 0) 1 (.ref 268) (hp0 rkAll)) (fun h1 => fm_326 1000 (.ref 174) 1 h1) = true := sorry
set_option maxRecDepth 100000 in
set_option maxHeartbeats 4000000 in
theorem p_1_2 : opBb (fm_30 1000 (.ref 0) 2 (.ref 268) (hp0 rkAll)) (fun h1 => fm_326 1000 (.ref 174) 2 h1) = true := sorry
set_option maxRecDepth 100000 in
set_option maxHeartbeats 4000000 in
theorem p_1_3 : opBb (fm_30 1000 (.ref 0) 3 (.ref 268) (hp0 rkAll)) (fun h1 => fm_326 1000 (.ref 174) 3 h1) = true := sorry
set_option maxRecDepth 100000 in
set_option maxHeartbeats 4000000 in
theorem p_1 (a1 : Int32) : ∃ h', opBI (fm_30 1000 (.ref 0) a1 (.ref 268) (hp0 rkAll)) (fun h1 => fm_326 1000 (.ref 174) a1 h1) vfI h' ∧ fits h' := sorry
/-! front -/
def ho (q : rkQ) (v : Int64) : am_H := (hp0 q).set 268 (.inl (1, 1, .inr (.inl (vp_updL (fun _ => 0) 0 v))))
def hoT (q : rkQ) (v : Int64) : am_H := (ho q v).set 174 (.inr (12, .int 0 :: rfs))
set_option maxRecDepth 100000 in
set_option maxHeartbeats 4000000 in
theorem hoT_fits (q : rkQ) (v : Int64) : fits (hoT q v) := fits_of szl rfl (by decide)
set_option maxRecDepth 100000 in
set_option maxHeartbeats 4000000 in
theorem p_38 (q : rkQ) (M : Nat) (a1 a2 : Int32) : ∃ h', opBI (fm_236 (M + 300) (.ref 0) a1 a2 (.ref 268) (hp0 q)) (fun h1 => fm_520 (M + 300) (.ref 174) a1 a2 h1) vfI h' ∧ fits h' := sorry