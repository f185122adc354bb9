/-! ===== trees in their order ===== -/
/-- how many trees of a context and a size have a sort at node 0; how many there are -/
def uW (c s n : Nat) : Nat := (tWs n).getD (21 * c + s) 0
def uT (c n : Nat) : Nat := if n = 0 then 0 else if 13 ≤ n then 0 else tTl.getD (13 * c + n) 0
def pcN (c s p : Nat) : Nat := 2 * pwN (c / 2) s p + twN s p
def sumF (c n : Nat) : Nat → Nat → Nat
  | 0, _ => 0
  | m + 1, s => uW c s n + sumF c n m (s + 1)
def sum2 (a b M : Nat) : Nat → Nat → Nat
  | 0, _ => 0
  | m + 1, f => uT a f * uT b (M - f) + sum2 a b M m (f + 1)
def sum3g (a b M f : Nat) : Nat → Nat → Nat
  | 0, _ => 0
  | m + 1, g => uT a f * (uT b g * uT b (M - f - g)) + sum3g a b M f m (g + 1)
def sum3 (a b M : Nat) : Nat → Nat → Nat
  | 0, _ => 0
  | m + 1, f => sum3g a b M f (M - f - 1) 1 + sum3 a b M m (f + 1)
def uOk (n : Nat) : Bool := (List.range 6).all (fun c => Nat.beq (sumF c n 21 0) (uT c n) && Nat.blt (uT c n) (2 ^ 50) && (List.range 21).all (fun s =>
  Nat.beq (uW c s n) 0 || (Nat.blt (uW c s n) (2 ^ 50) &&
  (if arN s = 0 then Nat.beq n 1 && Nat.ble (uW c s n) 10 else if arN s = 1 then Nat.ble 2 n && Nat.beq (uW c s n) (uT (pcN c s 0) (n - 1))
   else if arN s = 2 then Nat.ble 3 n && Nat.beq (uW c s n) (sum2 (pcN c s 0) (pcN c s 1) (n - 1) (n - 2) 1)
   else Nat.ble 4 n && Nat.beq (uW c s n) (sum3 (pcN c s 0) (pcN c s 1) (n - 1) (n - 3) 1)))))
set_option maxRecDepth 100000 in
theorem uok_1 : uOk 1 = true := by decide +kernel
set_option maxRecDepth 100000 in
theorem uok_2 : uOk 2 = true := by decide +kernel
set_option maxRecDepth 100000 in
theorem uok_3 : uOk 3 = true := by decide +kernel
set_option maxRecDepth 100000 in
theorem uok_4 : uOk 4 = true := by decide +kernel
set_option maxRecDepth 100000 in
theorem uok_5 : uOk 5 = true := by decide +kernel
set_option maxRecDepth 100000 in
theorem uok_6 : uOk 6 = true := by decide +kernel
set_option maxRecDepth 100000 in
theorem uok_7 : uOk 7 = true := by decide +kernel
set_option maxRecDepth 100000 in
theorem uok_8 : uOk 8 = true := by decide +kernel
set_option maxRecDepth 100000 in
theorem uok_9 : uOk 9 = true := by decide +kernel
set_option maxRecDepth 100000 in
theorem uok_10 : uOk 10 = true := by decide +kernel
set_option maxRecDepth 100000 in
theorem uok_11 : uOk 11 = true := by decide +kernel
set_option maxRecDepth 100000 in
theorem uok_12 : uOk 12 = true := by decide +kernel
theorem uok {n : Nat} (h1 : 1 ≤ n) (h : n ≤ 12) : uOk n = true := by
  rcases (by omega : n = 1 ∨ n = 2 ∨ n = 3 ∨ n = 4 ∨ n = 5 ∨ n = 6 ∨ n = 7 ∨ n = 8 ∨ n = 9 ∨ n = 10 ∨ n = 11 ∨ n = 12) with rfl | rfl | rfl | rfl | rfl | rfl | rfl | rfl | rfl | rfl | rfl | rfl
  · exact uok_1
  · exact uok_2
  · exact uok_3
  · exact uok_4
  · exact uok_5
  · exact uok_6
  · exact uok_7
  · exact uok_8
  · exact uok_9
  · exact uok_10
  · exact uok_11
  · exact uok_12
theorem u_c {n c : Nat} (h1 : 1 ≤ n) (h : n ≤ 12) (hc : c < 6) : sumF c n 21 0 = uT c n ∧ uT c n < 2 ^ 50 := by
  have k := List.all_eq_true.mp (uok h1 h) c (List.mem_range.mpr hc)
  rw [Bool.and_eq_true, Bool.and_eq_true] at k
  exact ⟨Nat.eq_of_beq_eq_true k.1.1, Nat.blt_eq.mp k.1.2⟩
theorem u_s {n c s : Nat} (h1 : 1 ≤ n) (h : n ≤ 12) (hc : c < 6) (hs : s < 21) (hp : 0 < uW c s n) : uW c s n < 2 ^ 50 ∧ (arN s = 0 → n = 1 ∧ uW c s n ≤ 10) ∧ (arN s = 1 → 2 ≤ n ∧ uW c s n = uT (pcN c s 0) (n - 1)) ∧ (arN s = 2 → 3 ≤ n ∧ uW c s n = sum2 (pcN c s 0) (pcN c s 1) (n - 1) (n - 2) 1) ∧ (arN s = 3 → 4 ≤ n ∧ uW c s n = sum3 (pcN c s 0) (pcN c s 1) (n - 1) (n - 3) 1) := by
  have k := List.all_eq_true.mp (uok h1 h) c (List.mem_range.mpr hc)
  rw [Bool.and_eq_true] at k
  have k2 := List.all_eq_true.mp k.2 s (List.mem_range.mpr hs)
  rw [Bool.or_eq_true] at k2
  have k3 := k2.resolve_left (fun e => by have := Nat.eq_of_beq_eq_true e; omega)
  rw [Bool.and_eq_true] at k3
  refine ⟨Nat.blt_eq.mp k3.1, fun e => ?_, fun e => ?_, fun e => ?_, fun e => ?_⟩
  · have k4 := k3.2
    rw [if_pos e, Bool.and_eq_true] at k4
    exact ⟨Nat.eq_of_beq_eq_true k4.1, Nat.le_of_ble_eq_true k4.2⟩
  · have k4 := k3.2
    rw [if_neg (by omega), if_pos e, Bool.and_eq_true] at k4
    exact ⟨Nat.le_of_ble_eq_true k4.1, Nat.eq_of_beq_eq_true k4.2⟩
  · have k4 := k3.2
    rw [if_neg (by omega), if_neg (by omega), if_pos e, Bool.and_eq_true] at k4
    exact ⟨Nat.le_of_ble_eq_true k4.1, Nat.eq_of_beq_eq_true k4.2⟩
  · have k4 := k3.2
    rw [if_neg (by omega), if_neg (by omega), if_neg (by omega), Bool.and_eq_true] at k4
    exact ⟨Nat.le_of_ble_eq_true k4.1, Nat.eq_of_beq_eq_true k4.2⟩
theorem pc_lt {c s p : Nat} (h : c < 6) : pcN c s p < 6 := by
  have h1 := tw_le s p
  have h2 : pwN (c / 2) s p < 3 := pw_lt (by omega)
  unfold pcN
  omega
/-- which sort, and what is left -/
def pk (c n : Nat) : Nat → Nat → Nat → Nat × Nat
  | 0, s, p => (s, p)
  | m + 1, s, p => if p < uW c s n then (s, p) else pk c n m (s + 1) (p - uW c s n)
theorem pk_ok {c n : Nat} : ∀ m s p, m + s = 20 → p < sumF c n (m + 1) s → (pk c n m s p).1 ≤ 20 ∧ (pk c n m s p).2 < uW c (pk c n m s p).1 n := by
  intro m
  induction m with
  | zero =>
    intro s p h hp
    rw [sumF, sumF] at hp
    exact ⟨by show s ≤ 20; omega, by show p < uW c s n; omega⟩
  | succ m ih =>
    intro s p h hp
    rw [pk]
    by_cases c1 : p < uW c s n
    · rw [if_pos c1]
      exact ⟨by show s ≤ 20; omega, c1⟩
    · rw [if_neg c1]
      rw [sumF] at hp
      exact ih (s + 1) (p - uW c s n) (by omega) (by omega)
def pk2 (a b M : Nat) : Nat → Nat → Nat → Nat × Nat
  | 0, f, p => (f, p)
  | m + 1, f, p => if p < uT a f * uT b (M - f) then (f, p) else pk2 a b M m (f + 1) (p - uT a f * uT b (M - f))
theorem pk2_ok {a b M : Nat} : ∀ m f p, f + m = M → 1 ≤ f → p < sum2 a b M m f → 1 ≤ (pk2 a b M m f p).1 ∧ (pk2 a b M m f p).1 < M ∧ (pk2 a b M m f p).2 < uT a (pk2 a b M m f p).1 * uT b (M - (pk2 a b M m f p).1) := by
  intro m
  induction m with
  | zero => intro f p h h1 hp; rw [sum2] at hp; omega
  | succ m ih =>
    intro f p h h1 hp
    rw [pk2]
    by_cases c1 : p < uT a f * uT b (M - f)
    · rw [if_pos c1]
      exact ⟨h1, by show f < M; omega, c1⟩
    · rw [if_neg c1]
      rw [sum2] at hp
      exact ih (f + 1) _ (by omega) (by omega) (by omega)
def pk3g (a b M f : Nat) : Nat → Nat → Nat → Nat × Nat × Bool
  | 0, g, p => (g, p, false)
  | m + 1, g, p => if p < uT a f * (uT b g * uT b (M - f - g)) then (g, p, true) else pk3g a b M f m (g + 1) (p - uT a f * (uT b g * uT b (M - f - g)))
theorem pk3g_ok {a b M f : Nat} : ∀ m g p, 1 ≤ g → f + g + m = M → if p < sum3g a b M f m g then ((pk3g a b M f m g p).2.2 = true ∧ 1 ≤ (pk3g a b M f m g p).1 ∧ f + (pk3g a b M f m g p).1 < M ∧ (pk3g a b M f m g p).2.1 < uT a f * (uT b (pk3g a b M f m g p).1 * uT b (M - f - (pk3g a b M f m g p).1))) else ((pk3g a b M f m g p).2.2 = false ∧ (pk3g a b M f m g p).2.1 = p - sum3g a b M f m g) := by
  intro m
  induction m with
  | zero =>
    intro g p h1 h
    rw [sum3g, if_neg (by omega), pk3g]
    exact ⟨rfl, by show p = p - 0; omega⟩
  | succ m ih =>
    intro g p h1 h
    rw [pk3g, sum3g]
    by_cases c1 : p < uT a f * (uT b g * uT b (M - f - g))
    · rw [if_pos (by omega), if_pos c1]
      exact ⟨rfl, h1, by show f + g < M; omega, c1⟩
    · rw [if_neg c1]
      have k := ih (g + 1) (p - uT a f * (uT b g * uT b (M - f - g))) (by omega) (by omega)
      by_cases c2 : p < uT a f * (uT b g * uT b (M - f - g)) + sum3g a b M f m (g + 1)
      · rw [if_pos (by omega)] at k
        rw [if_pos c2]
        exact k
      · rw [if_neg (by omega)] at k
        rw [if_neg c2]
        exact ⟨k.1, by rw [k.2]; omega⟩
def pk3 (a b M : Nat) : Nat → Nat → Nat → Nat × Nat × Nat
  | 0, f, p => (f, 0, p)
  | m + 1, f, p => if (pk3g a b M f (M - f - 1) 1 p).2.2 = true then (f, (pk3g a b M f (M - f - 1) 1 p).1, (pk3g a b M f (M - f - 1) 1 p).2.1) else pk3 a b M m (f + 1) (pk3g a b M f (M - f - 1) 1 p).2.1
theorem pk3_ok {a b M : Nat} : ∀ m f p, f + m + 1 = M → 1 ≤ f → p < sum3 a b M m f → 1 ≤ (pk3 a b M m f p).1 ∧ 1 ≤ (pk3 a b M m f p).2.1 ∧ (pk3 a b M m f p).1 + (pk3 a b M m f p).2.1 < M ∧ (pk3 a b M m f p).2.2 < uT a (pk3 a b M m f p).1 * (uT b (pk3 a b M m f p).2.1 * uT b (M - (pk3 a b M m f p).1 - (pk3 a b M m f p).2.1)) := by
  intro m
  induction m with
  | zero => intro f p h h1 hp; rw [sum3] at hp; omega
  | succ m ih =>
    intro f p h h1 hp
    have k := pk3g_ok (a := a) (b := b) (M := M) (f := f) (M - f - 1) 1 p (by omega) (by omega)
    rw [pk3]
    rw [sum3] at hp
    by_cases c1 : p < sum3g a b M f (M - f - 1) 1
    · rw [if_pos c1] at k
      rw [if_pos k.1]
      exact ⟨h1, k.2.1, k.2.2.1, k.2.2.2⟩
    · rw [if_neg c1] at k
      rw [if_neg (by rw [k.1]; decide)]
      exact ih (f + 1) _ (by omega) (by omega) (by rw [k.2]; omega)
/-- the tree with a place in the order: its nodes, with sort and number -/
def unr : Nat → Nat → Nat → Nat → List (Nat × Nat)
  | 0, _, _, _ => []
  | K + 1, c, n, p =>
    ((pk c n 20 0 p).1, if (pk c n 20 0 p).1 = 0 then (pk c n 20 0 p).2 else 0) ::
    (if arN (pk c n 20 0 p).1 = 0 then [] else if arN (pk c n 20 0 p).1 = 1 then unr K (pcN c (pk c n 20 0 p).1 0) (n - 1) (pk c n 20 0 p).2
     else if arN (pk c n 20 0 p).1 = 2 then
       (fun a b (r : Nat × Nat) => unr K a r.1 (r.2 / uT b (n - 1 - r.1)) ++ unr K b (n - 1 - r.1) (r.2 % uT b (n - 1 - r.1))) (pcN c (pk c n 20 0 p).1 0) (pcN c (pk c n 20 0 p).1 1) (pk2 (pcN c (pk c n 20 0 p).1 0) (pcN c (pk c n 20 0 p).1 1) (n - 1) (n - 2) 1 (pk c n 20 0 p).2)
     else
       (fun a b (r : Nat × Nat × Nat) => unr K a r.1 (r.2.2 / (uT b r.2.1 * uT b (n - 1 - r.1 - r.2.1))) ++ (unr K b r.2.1 (r.2.2 % (uT b r.2.1 * uT b (n - 1 - r.1 - r.2.1)) / uT b (n - 1 - r.1 - r.2.1)) ++ unr K b (n - 1 - r.1 - r.2.1) (r.2.2 % uT b (n - 1 - r.1 - r.2.1)))) (pcN c (pk c n 20 0 p).1 0) (pcN c (pk c n 20 0 p).1 1) (pk3 (pcN c (pk c n 20 0 p).1 0) (pcN c (pk c n 20 0 p).1 1) (n - 1) (n - 3) 1 (pk c n 20 0 p).2))
