/-! CALLS THAT READ, II -/
section OPS2
variable {C0 N0 n : Nat} {K : Nat × Nat} {c : CC} {A : AI} {J : JI} {M : AI} {g : Int → Int} {pl sp tv cap : Nat}
theorem sm8 (M : AI) (f : Int → Int) (h : 0 ≤ M 0 3 ∧ M 0 3 ≤ 8) (hz : ∀ r, M 0 3 ≤ r → r < 8 → f r = 0) : sm f 8 = sm f (M 0 3) := sm_tail f (M 0 3) 8 h hz
end OPS2
