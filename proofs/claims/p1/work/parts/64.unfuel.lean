/-! ===== unr doesn't depend on its fuel; tasks ===== -/
theorem unr_fuel : ∀ n, n ≤ 12 → 1 ≤ n → ∀ (J J' c p : Nat), n ≤ J → n ≤ J' → c < 6 → p < uT c n → unr J c n p = unr J' c n p := sorry
/-- the tree with a place -/
def un (c n p : Nat) : List (Nat × Nat) := unr n c n p
theorem un_of {J c n p : Nat} (hn : n ≤ 12) (h1 : 1 ≤ n) (hJ : n ≤ J) (hc : c < 6) (hp : p < uT c n) : unr J c n p = un c n p := unr_fuel n hn h1 J n c p hJ (Nat.le_refl _) hc hp
/-- what is still to be grown: contexts, sizes, places, the next one first -/
def tun : List (Nat × Nat × Nat) → List (Nat × Nat)
  | [] => []
  | x :: r => un x.1 x.2.1 x.2.2 ++ tun r
def tsum : List (Nat × Nat × Nat) → Nat
  | [] => 0
  | x :: r => x.2.1 + tsum r
def tok : List (Nat × Nat × Nat) → Prop
  | [] => True
  | x :: r => x.1 < 6 ∧ 1 ≤ x.2.1 ∧ x.2.1 ≤ 12 ∧ x.2.2 < uT x.1 x.2.1 ∧ tok r
theorem tun_app : ∀ l r, tun (l ++ r) = tun l ++ tun r := sorry
theorem tsum_app : ∀ l r, tsum (l ++ r) = tsum l + tsum r := sorry
theorem tok_app : ∀ {l r}, tok l → tok r → tok (l ++ r) := sorry
theorem tok_len : ∀ {l}, tok l → l.length ≤ tsum l := sorry
/-- the parts of a tree, by the sort of its first node and what is left -/
def prt (c n S P : Nat) : List (Nat × Nat × Nat) :=
  if arN S = 0 then [] else if arN S = 1 then [(pcN c S 0, n - 1, P)]
  else if arN S = 2 then (fun a b (r : Nat × Nat) => [(a, r.1, r.2 / uT b (n - 1 - r.1)), (b, n - 1 - r.1, r.2 % uT b (n - 1 - r.1))]) (pcN c S 0) (pcN c S 1) (pk2 (pcN c S 0) (pcN c S 1) (n - 1) (n - 2) 1 P)
  else (fun a b (r : Nat × Nat × Nat) => [(a, r.1, r.2.2 / (uT b r.2.1 * uT b (n - 1 - r.1 - r.2.1))), (b, r.2.1, r.2.2 % (uT b r.2.1 * uT b (n - 1 - r.1 - r.2.1)) / uT b (n - 1 - r.1 - r.2.1)), (b, n - 1 - r.1 - r.2.1, r.2.2 % uT b (n - 1 - r.1 - r.2.1))]) (pcN c S 0) (pcN c S 1) (pk3 (pcN c S 0) (pcN c S 1) (n - 1) (n - 3) 1 P)
theorem un_prt {c n p : Nat} (hn : n ≤ 12) (h1 : 1 ≤ n) (hc : c < 6) (hp : p < uT c n) : un c n p = ((pk c n 20 0 p).1, if (pk c n 20 0 p).1 = 0 then (pk c n 20 0 p).2 else 0) :: tun (prt c n (pk c n 20 0 p).1 (pk c n 20 0 p).2) ∧ tok (prt c n (pk c n 20 0 p).1 (pk c n 20 0 p).2) ∧ tsum (prt c n (pk c n 20 0 p).1 (pk c n 20 0 p).2) + 1 = n ∧ (pk c n 20 0 p).1 ≤ 20 ∧ (pk c n 20 0 p).2 < uW c (pk c n 20 0 p).1 n := sorry