/-! CALLS THAT SOLVE WITH ONE BLOCK MORE, II -/
section OPS10
variable {C0 N0 n : Nat} {K : Nat × Nat} {c : CC} {A : AI} {J : JI} {M : AI} {g g' o : Int → Int} {pl sp tv cap : Nat} {f B : Int}
theorem c_nBL1 (L : Int) (hL : 1 ≤ L ∧ L ≤ 200) : fX6_needBlockLength (ii L) (CW c A J) = some (Sum.inl none, CW c A J) := by
  simp (disch := first | assumption | omega) only [fX6_needBlockLength, ↓reduceIte, tr_lt, fa_lt, tr_le, fa_le, tr_eq, fa_eq, and_true, true_and, and_false, false_and, il0, il1, il2, il3, il4, il5, il6, il7, il8, il9, il10, il11, il12, il15, il16, il20, il24, il31, il32, il44, il45, il48, il50, il57, il58, il59, il63, il91, il93, il97, il99, il100, il109, il113, il119, il120, il122, il200, il255, il480, il500, il501, il512, il999, il4112, il41120, il1000000, il1000003, ii_add, ii_sub, ii_mul, ii_neg, ii_le, ii_lt, ii_eq, ii_div, q_I, q_V, q_R, lt_q, rZ_q, md_M, md_16, md_4, md_8, md_10, if_true, if_false, if_pos, if_neg]
theorem c_nBL0 (L : Int) (hL : ¬ (1 ≤ L ∧ L ≤ 200)) (hb : -2147483648 ≤ L ∧ L < 2147483648) : fX6_needBlockLength (ii L) (CW c A J) = some (.inr "java/lang/IllegalArgumentException", CW (cU c) A J) := by
  by_cases q : L < 1
  · rw [fX6_needBlockLength, il1, if_pos (by rw [ii_lt _ _ (by omega)]; exact q), t_E]
  · rw [fX6_needBlockLength, il1, il200, if_neg (by rw [ii_lt _ _ (by omega)]; exact q), if_neg (by rw [ii_le _ _ (by omega)]; omega), t_E]
end OPS10
