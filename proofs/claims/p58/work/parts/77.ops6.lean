/-! CALLS THAT SOLVE, II -/
theorem ch_same {met len o f h t : Int → Int} {n : Int} (hO : ordOK met len n o) (h1 : ∀ p, 0 ≤ p → p < n → f (o p) = t p) (h2 : ∀ p, 0 ≤ p → p < n → h (o p) = t p) (k : Int) (hk : 0 ≤ k ∧ k < n) : f k = h k := by
  obtain ⟨p, hp, rfl⟩ := ord_surj hO k hk
  rw [h1 p hp.1 hp.2, h2 p hp.1 hp.2]
section OPS6
variable {C0 N0 n : Nat} {K : Nat × Nat} {c : CC} {A : AI} {J : JI} {M : AI} {g o : Int → Int} {pl sp tv cap S : Nat} {f B : Int}
theorem m_many (hM : SA M) (hL : GL g) (hO : ordOK (M 1) (M 2) (M 0 9) o) (r : Int) (hN : 0 ≤ needM M g r ∧ needM M g r ≤ 500) (hl : (chL M g o r).1 < 1000000) {M' : AI} (ms : scr M M') (m14 : ∀ p, 0 ≤ p → p < M 0 9 → M' 14 (o p) = tk (M 0 9) o (M 2) (stM M g) (chS M g o r) p) :
    sm (M' 14) (M' 0 9) = (chL M g o r).1 ∧ sm (fun k => M' 14 k * M' 2 k) (M' 0 9) = chS M g o r := by
  have h9 := hM.1.2.2.2.2.2.2.2
  obtain ⟨-, -, h⟩ := chL_b (o := o) hM hN
  obtain ⟨h1, h2, -⟩ := h hl
  have := tk_all h9.1 hO (kindsOK_of hM hL hO) h1.1 (by rw [h2]; exact hl) (M' 14) m14
  rw [ms.1 9 (by omega), ms.c2, ← h2]
  exact this
end OPS6
