/-! CALLS THAT READ, IV -/
def lsN (f lo : Int → Int) : Nat → Int
  | 0 => -1
  | i + 1 => if f i ≤ 0 then lsN f lo i else if lsN f lo i = -1 ∨ lo (lsN f lo i) < lo i then (i : Int) else lsN f lo i
theorem lsN_b (f lo : Int → Int) : ∀ i : Nat, -1 ≤ lsN f lo i ∧ lsN f lo i < i
  | 0 => by show (-1 : Int) ≤ -1 ∧ (-1 : Int) < ((0 : Nat) : Int); omega
  | i + 1 => by
    have := lsN_b f lo i
    unfold lsN
    split
    · omega
    · split <;> omega
abbrev isFst (P : Int → Prop) (o : Int → Int) (n v : Int) : Prop := (v = -1 ∧ ∀ p, 0 ≤ p → p < n → ¬ P (o p)) ∨ ∃ p, (0 ≤ p ∧ p < n) ∧ v = o p ∧ P (o p) ∧ ∀ q, 0 ≤ q → q < p → ¬ P (o q)
abbrev isBst (P : Int → Prop) (met len : Int → Int) (n b : Int) : Prop := (b = -1 ∧ ∀ k, 0 ≤ k → k < n → ¬ P k) ∨ ((0 ≤ b ∧ b < n) ∧ P b ∧ ∀ k, 0 ≤ k → k < n → P k → k = b ∨ ahd met len b k)
section OPS4
variable {C0 N0 n : Nat} {K : Nat × Nat} {c : CC} {A : AI} {J : JI} {M : AI} {g : Int → Int} {pl sp tv cap : Nat}
end OPS4
