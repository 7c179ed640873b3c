/-! LOAD: what it leaves -/
section LDG
variable {C0 N0 n : Nat} {K : Nat × Nat} {c c' : CC} {A A' : AI} {J : JI} {M M' : AI} {g g' : Int → Int} {pl sp tv cap : Nat}
theorem Inv.rd (h : Inv C0 N0 n pl sp tv cap c A J M g) (hc : c'.1 = c.1 ∧ c'.2.1 = c.2.1 ∧ c'.2.2.1 = c.2.2.1) (hc2 : c'.2.2.2.1 ≤ C0 + (n + 1) + cap ∧ c'.2.2.2.2 ≤ N0 + 6 * (n + 1) + 2 * cap) (hA : ∀ (b : Nat) (z : Int), b ≠ 1 → b ≠ 1 + 2 → (b < sp ∨ sp + 4 ≤ b) → ¬ inS 338 b → A' b z = A b z) (h2 : A' 1 2 = 0 ∧ M' 0 18 = 0) (h3 : A' 1 3 = M' 0 19) (h4 : A' 1 4 = M' 0 20) (m0 : ∀ z, z = 1 ∨ (2 ≤ z ∧ z ≤ 9) ∨ z = 15 ∨ z = 37 ∨ z = 40 → M' 0 z = M 0 z) (mb : ∀ b : Nat, b = 1 ∨ b = 2 ∨ b = 5 ∨ b = 6 ∨ b = 16 → M' b = M b) : Inv C0 N0 (n + 1) pl sp tv cap c' A' J M' g :=
  h.rdG hc hc2 (fun b z x y w => hA b z (by omega) (by omega) y w) ⟨⟨by rw [h2.1, h2.2], by omega, by omega⟩, fun k a b => by rw [h2.2] at b; omega, h3, h4⟩ m0 mb
theorem Inv.mbd (hI : Inv C0 N0 n pl sp tv cap c A J M g) : ∀ k, 0 ≤ k → k < 10 → (0 ≤ M 1 k ∧ M 1 k ≤ 1) ∧ 0 ≤ M 2 k ∧ M 2 k ≤ 99 := by
  have h3 := hI.2.2.1
  by_cases q : M 0 1 = 1
  · have l1 := (hI.2.2.2.2.2.2.1 q).1
    exact fun k a b => ⟨l1.2.1 k a b, l1.2.2.1 k a b⟩
  · exact (hI.2.2.2.2.2.2.2.1 (by omega)).2.2.2
end LDG
