/-! A CALL THAT PRINTS AS IF: goodIn -/
section CGN
variable {A A' : AI} {g : Int → Int}
theorem gap_eq (h0 : A' 0 = A 0) (h2 : A' 2 = A 2) : gapM A' = gapM A := by
  funext g r
  unfold gapM
  rw [h0, h2]
theorem shN_cg (h0 : A' 0 = A 0) : ∀ n : Nat, shN A' g n = shN A g n
  | 0 => rfl
  | n + 1 => by unfold shN; rw [shN_cg h0 n, h0]
theorem daN_cg (h0 : A' 0 = A 0) (h1 : A' 1 = A 1) : ∀ n : Nat, daN A' g n = daN A g n
  | 0 => rfl
  | n + 1 => by unfold daN; rw [daN_cg h0 h1 n, h0, h1]
theorem lkN_cg (h0 : A' 0 = A 0) (h2 : A' 2 = A 2) : ∀ n : Nat, lkN A' g n = lkN A g n
  | 0 => rfl
  | n + 1 => by unfold lkN; rw [lkN_cg h0 h2 n, h0, gap_eq h0 h2]
theorem gdN_cg (h0 : A' 0 = A 0) (h2 : A' 2 = A 2) : ∀ n : Nat, gdN A' g n = gdN A g n
  | 0 => rfl
  | n + 1 => by unfold gdN; rw [gdN_cg h0 h2 n, gap_eq h0 h2]
theorem gPr_cg (h0 : A' 0 = A 0) (h2 : A' 2 = A 2) : gPr A' g = gPr A g := by
  unfold gPr
  rw [h0, shN_cg h0, lkN_cg h0 h2, gdN_cg h0 h2]
theorem gDa_cg (h0 : A' 0 = A 0) (h1 : A' 1 = A 1) (h2 : A' 2 = A 2) : gDa A' g = gDa A g := by
  unfold gDa
  rw [h0, daN_cg h0 h1, lkN_cg h0 h2]
end CGN
section OPS15
variable {C0 N0 n : Nat} {K : Nat × Nat} {c : CC} {A : AI} {J : JI} {M : AI} {g g' o : Int → Int} {pl sp tv cap : Nat} {f B : Int}
end OPS15
