/-! ===== populate: the reference, trees; its loop ===== -/
theorem x_377i {V : Nat → Nat → Value} {I : Nat → Nat → Int32} {L : Nat → Nat → Int64} {R : Nat → Nat → Option Nat} {tl : am_H} {N : Nat} (hN : 40 < N) (hi : rInv V L) : ∃ V1 L1, fm_377 N (.ref 174) (fx V I L R ++ tl) = some (.inl (none, fx V1 I L1 R ++ tl)) ∧ V1 174 80 = .int 1 ∧ L1 224 = tC ∧ L1 225 = tS ∧ L1 268 = L 268 ∧ (∀ j, j ≠ 80 → V1 174 j = V 174 j) := by
  rcases hi with ⟨h1, h2, h3⟩ | ⟨h1, h2, h3⟩
  · obtain ⟨Y1, q⟩ := x_377 (V := V) (I := I) (L := L) (R := R) (tl := tl) hN h1 h2 h3
    exact ⟨_, _, q, vup_eq, rfl, rfl, rfl, fun j hj => vup_v hj⟩
  · exact ⟨V, L, x_377c h1, h1, h2, h3, rfl, fun _ _ => rfl⟩
set_option maxRecDepth 100000 in
set_option maxHeartbeats 4000000 in
theorem gS_of {V : Nat → Nat → Value} {I : Nat → Nat → Int32} {L : Nat → Nat → Int64} {R : Nat → Nat → Option Nat} {tl : am_H} {s k : Nat} (h14 : V 174 14 = .int (nI s)) (h88 : V 174 88 = .int (nI k)) : fx V I L R ++ tl = gS V I L R tl s k (I 186) (I 187) (I 227) (I 228) (I 229) (L 230) := by
  have e : fx V I L R ++ tl = fx (vup (vup V 174 14 (V 174 14)) 174 88 (V 174 88)) (iup (iup (iup (iup (iup I 186 (I 186)) 187 (I 187)) 227 (I 227)) 228 (I 228)) 229 (I 229)) (lup L 230 (L 230)) R ++ tl := rfl
  rw [e, h14, h88]
  rfl
/-- a tree on the reference's desk -/
def desk (z : Nat) (V V' : Nat → Nat → Value) (I I' : Nat → Nat → Int32) (L L' : Nat → Nat → Int64) (P : Nat) (st' : Int64) : Prop := P < uT 0 z ∧ V' 174 13 = .int 0 ∧ V' 174 14 = .int (nI z) ∧ V' 174 15 = .int 0 ∧ V' 174 88 = .int (nI 0) ∧ V' 174 96 = .long st' ∧ rInv V' L' ∧ V' 174 0 = V 174 0 ∧ V' 174 1 = V 174 1 ∧ L' 268 = L 268 ∧ (∀ y, y ≠ 186 → y ≠ 187 → y ≠ 227 → y ≠ 228 → y ≠ 229 → I' y = I y) ∧ I' 186 = wA (I 186) 0 (un 0 z P) ∧ I' 187 = wB (I 187) 0 (un 0 z P) ∧ (∀ j, j ≠ 13 → j ≠ 14 → j ≠ 15 → j ≠ 88 → j ≠ 96 → j ≠ 80 → V' 174 j = V 174 j)
set_option maxRecDepth 100000 in
set_option maxHeartbeats 4000000 in
/-- the first half of drawOne() for trees and code: a tree on the desk -/
theorem r_491t {V : Nat → Nat → Value} {I : Nat → Nat → Int32} {L : Nat → Nat → Int64} {R : Nat → Nat → Option Nat} {tl : am_H} {N z : Nat} {st : Int64} {kd : Int32} (hN : 40 < N) (hz : 1 ≤ z) (hz9 : z ≤ 9) (hs : V 174 96 = .long st) (hi : rInv V L) (hk : ∃ k0, V 174 88 = .int (nI k0)) (hk2 : ¬ kd = 2) (hk3 : ¬ kd = 3) :
    ∃ V' I' L' P st', desk z V V' I I' L L' P st' ∧ fm_491 N (.ref 174) kd (nI z) (fx V I L R ++ tl) = (if ¬ kd = 1 then fg_491_98 N (fx V' I' L' R ++ tl) else (if am_pOk 12 (.ref 174) (fx V' I' L' R ++ tl) then am_cI true (fm_494 N (.ref 174) (fx V' I' L' R ++ tl)) (fun v29 h30 => (if ¬ v29 = 0 then (fg_491_98 N h30) else ((am_pP 3085 (.ref 174) (.int 1) h30).bind fun h33 => ((am_pP 3086 (.ref 174) (.int 0) h33).bind fun h35 => (if am_pOk 12 (.ref 174) h35 then am_cV true (fm_335 (.ref 174) 0 0 h35) (fun h39 => (fg_491_98 N h39)) else none))))) else none)) := by
  have hu := (u_c hz (by omega) (show 0 < 6 by omega)).2
  have hp := uT_pos z (by omega) hz
  have hlt := Nat.mod_lt (2147483648 * hlf (nxt st) + hlf (nxt (nxt st))) (show 0 < uT 0 z by omega)
  obtain ⟨k0, h88⟩ := hk
  obtain ⟨V1, L1, q1, q2, q3, q4, q5, q6⟩ := x_377i (V := vup (vup (vup V 174 13 (.int kd)) 174 14 (.int 0)) 174 15 (.int 0)) (I := I) (L := L) (R := R) (tl := tl) hN hi
  have e13 : V1 174 13 = .int kd := by rw [q6 13 (by omega)]; rfl
  have e14 : V1 174 14 = .int 0 := by rw [q6 14 (by omega)]; rfl
  have e15 : V1 174 15 = .int 0 := by rw [q6 15 (by omega)]; rfl
  have e88 : V1 174 88 = .int (nI k0) := by rw [q6 88 (by omega)]; exact h88
  have e96 : V1 174 96 = .long st := by rw [q6 96 (by omega)]; exact hs
  obtain ⟨c', d', e', p', g⟩ := g_386 (V := vup (vup V1 174 96 (.long (nxt (nxt st)))) 174 13 (.int 0)) (I := I) (L := L1) (R := R) (tl := tl) q3 q4 (by rw [vup_v (by omega), vup_v (by omega)]; exact q2) (N := N) (w := 0) (t := 0) (n := z) (P := (2147483648 * hlf (nxt st) + hlf (nxt (nxt st))) % uT 0 z) (s0 := 0) (k0 := k0) (a := I 186) (b := I 187) (c := I 227) (d := I 228) (e := I 229) (p := L1 230) hN (by omega) (by omega) hz (by omega) hlt (by omega)
  refine ⟨(vup (vup (vup (vup V1 174 96 (.long (nxt (nxt st)))) 174 13 (.int 0)) 174 14 (.int (nI (0 + z)))) 174 88 (.int (nI 0))), (iup (iup (iup (iup (iup I 186 (wA (I 186) 0 (un 0 z ((2147483648 * hlf (nxt st) + hlf (nxt (nxt st))) % uT 0 z)))) 187 (wB (I 187) 0 (un 0 z ((2147483648 * hlf (nxt st) + hlf (nxt (nxt st))) % uT 0 z)))) 227 c') 228 d') 229 e'), (lup L1 230 p'), (2147483648 * hlf (nxt st) + hlf (nxt (nxt st))) % uT 0 z, nxt (nxt st), ⟨hlt, rfl, ?_, ?_, vup_eq, ?_, ?_, ?_, ?_, ?_, ?_, rfl, rfl, ?_⟩, ?_⟩
  · rw [vup_v (by omega), vup_eq, Nat.zero_add]
  · rw [vup_v (by omega), vup_v (by omega), vup_v (by omega), vup_v (by omega)]; exact e15
  · rw [vup_v (by omega), vup_v (by omega), vup_v (by omega), vup_eq]
  · right
    exact ⟨by rw [vup_v (by omega), vup_v (by omega), vup_v (by omega), vup_v (by omega)]; exact q2, q3, q4⟩
  · rw [vup_v (by omega), vup_v (by omega), vup_v (by omega), vup_v (by omega), q6 0 (by omega)]; rfl
  · rw [vup_v (by omega), vup_v (by omega), vup_v (by omega), vup_v (by omega), q6 1 (by omega)]; rfl
  · exact q5
  · intro y y1 y2 y3 y4 y5
    show (if y = 229 then e' else if y = 228 then d' else if y = 227 then c' else if y = 187 then _ else if y = 186 then _ else I y) = _
    rw [if_neg y5, if_neg y4, if_neg y3, if_neg y2, if_neg y1]
  · intro j j1 j2 j3 j4 j5 j6
    rw [vup_v j4, vup_v j2, vup_v j1, vup_v j5, q6 j j6, vup_v j3, vup_v j2, vup_v j1]
  · unfold fm_491 fg_491_0
    refine ev_b (a := fx (vup V 174 13 (.int kd)) I L R ++ tl) (ev_p rfl rfl rfl rfl) ?_
    refine ev_b (a := fx (vup (vup V 174 13 (.int kd)) 174 14 (.int 0)) I L R ++ tl) (ev_p rfl rfl rfl rfl) ?_
    refine ev_b (a := fx (vup (vup (vup V 174 13 (.int kd)) 174 14 (.int 0)) 174 15 (.int 0)) I L R ++ tl) (ev_p rfl rfl rfl rfl) ?_
    refine ev_t hk2 ?_
    refine ev_t hk3 ?_
    refine ev_i rfl ?_
    refine ev_cV q1 ?_
    refine ev_i rfl ?_
    refine ev_cL (show fm_383 (.ref 174) 0 0 (nI z) (fx V1 I L1 R ++ tl) = _ from x_383 (w := 0) (t := 0) (n := z) q3 (by omega) (by omega) (by omega)) ?_
    refine ev_i rfl ?_
    refine ev_cL (x_477 e96 hp hu) ?_
    refine ev_b (a := fx (vup (vup V1 174 96 (.long (nxt (nxt st)))) 174 13 (.int 0)) I L1 R ++ tl) (ev_p rfl rfl rfl rfl) ?_
    refine ev_i rfl ?_
    rw [gS_of (V := vup (vup V1 174 96 (.long (nxt (nxt st)))) 174 13 (.int 0)) (s := 0) (k := k0) (by rw [vup_v (by omega), vup_v (by omega)]; exact e14) (by rw [vup_v (by omega), vup_v (by omega)]; exact e88)]
    refine ev_cV g ?_
    rfl
