/-! CHANGES: put, take, unlock, buy -/
section CHS2
variable {c : CC} {A : AI} {J : JI} {S : Nat} {len g : Int → Int} {f : Int} {K : Nat × Nat} {M : AI} {r : Int}
theorem SR_stock (h : SR A J S len g f) (hg : GR g) (k v : Int) (hk : 0 ≤ k ∧ k < 10) : SR (up A (S + 2) k v) J S len (gu g (6 + k) v) f := by
  refine ⟨⟨?_, fun j a b => ?_⟩, fun r a b => RR.frame (h.2 r a b) (hg r a b) (fun x z hx => up_n _ _ _ _ _ _ (fun e => (rc_in ⟨a, b⟩ hx).1.2.2 e.1)) (fun _ _ _ => rfl) (fun w c d => cel_gu g (6 + k) v r w ⟨by omega, a, c⟩)⟩
  · rw [gu_n _ _ _ _ (by omega), gu_n _ _ _ _ (by omega), gu_n _ _ _ _ (by omega), gu_n _ _ _ _ (by omega), gu_n _ _ _ _ (by omega)]
    simp (disch := first | assumption | omega) only [up_n]
    exact h.1.1
  · by_cases y : j = k
    · rw [y, up_s, gu_s]
    · rw [up_n _ _ _ _ _ _ (fun e => y e.2), gu_n _ _ _ _ (by omega)]
      exact h.1.2 j a b
end CHS2
section CHG2
variable {C0 N0 n : Nat} {K : Nat × Nat} {c : CC} {A : AI} {J : JI} {M : AI} {g g' o : Int → Int} {pl sp tv cap : Nat} {f B : Int}
end CHG2
