/-! CALLS THAT SOLVE WITH ONE BLOCK MORE, II -/
def rwN (F : Int → Int) : Nat → Int × Int
  | 0 => (-1, 1000000)
  | i + 1 => if F i = -1 then rwN F i else if (rwN F i).2 ≤ F i then rwN F i else ((i : Int), F i)
theorem rwN_s (F : Int → Int) (i : Int) (h : 0 ≤ i) : rwN F (i + 1).toNat = if F i = -1 then rwN F i.toNat else if (rwN F i.toNat).2 ≤ F i then rwN F i.toNat else (i, F i) := by
  rw [show (i + 1).toNat = i.toNat + 1 by omega]
  show (if F (i.toNat : Int) = -1 then rwN F i.toNat else if (rwN F i.toNat).2 ≤ F (i.toNat : Int) then rwN F i.toNat else ((i.toNat : Int), F (i.toNat : Int))) = _
  rw [show ((i.toNat : Nat) : Int) = i by omega]
theorem rwN_b (F : Int → Int) (hF : ∀ i, 0 ≤ i → i < 8 → -1 ≤ F i ∧ F i ≤ 1000000) : ∀ i : Nat, i ≤ 8 → (-1 ≤ (rwN F i).1 ∧ (rwN F i).1 < i) ∧ (-1 ≤ (rwN F i).2 ∧ (rwN F i).2 ≤ 1000000)
  | 0, _ => by show (-1 ≤ (-1 : Int) ∧ (-1 : Int) < ((0 : Nat) : Int)) ∧ (-1 ≤ (1000000 : Int) ∧ (1000000 : Int) ≤ 1000000); omega
  | i + 1, h => by
    have ih := rwN_b F hF i (by omega)
    have hb := hF i (by omega) (by omega)
    unfold rwN
    split
    · omega
    · split
      · omega
      · dsimp only; omega
section OPS10
variable {C0 N0 n : Nat} {K : Nat × Nat} {c : CC} {A : AI} {J : JI} {M : AI} {g g' o : Int → Int} {pl sp tv cap : Nat} {f B : Int}
theorem fiN_b (hM : SA M) (hG : GC M g B) (r : Int) (hr : 0 ≤ r ∧ r < M 0 3) (L : Int) (hL : 1 ≤ L ∧ L ≤ 200) : -1 ≤ fiN M g o r L ∧ fiN M g o r L ≤ 1000000 := by
  unfold fiN
  split
  · rename_i y
    have := (chL_b (o := o) hM ((hG.adds hM hr L ⟨hL, y.2⟩ y.1).need hM hr).1).1
    split <;> omega
  · omega
theorem fiN_cg (hM : SA M) (hG : GC M g B) (hO : ordOK (M 1) (M 2) (M 0 9) o) (r : Int) (hr : 0 ≤ r ∧ r < M 0 3) (L : Int) (hL : 1 ≤ L ∧ L ≤ 200) (e : ∀ z, 0 ≤ z → z < 4112 → g' z = g z) : fiN M g' o r L = fiN M g o r L := by
  have h38 := hM.1.2.1
  have h9 := hM.1.2.2.2.2.2.2.2
  have hG' := GC_cg hG hM e
  have hgr := hG.1.1 r hr.1 (by omega)
  have ec := fun w a => cel_cg e r w ⟨hr.1, by omega⟩ a
  have gp : gapM M g' r = gapM M g r := gapM_cong hgr (fun w c d _ => ec w ⟨c, d⟩)
  unfold fiN
  rw [ec 0 (by omega), gp]
  by_cases y : cel g r 0 < 6 ∧ L ≤ gapM M g r
  · have hn : needM M g' r = needM M g r := by
      unfold needM
      rw [gp]
      unfold uQ
      rw [ec 2 (by omega), ec 3 (by omega)]
    have hst : FW (M 0 9) o (M 2) (stM M g') 0 = FW (M 0 9) o (M 2) (stM M g) 0 := by
      funext s
      refine FW_cg _ _ _ _ _ _ _ fun q a b => ?_
      have := hO.1 q a b
      unfold stM
      rw [e _ (by omega) (by omega)]
    have hc : (if canO g' r then 1 else 0 : Int) = if canO g r then 1 else 0 := by
      unfold canO
      rw [ec 2 (by omega), e 0 (by omega) (by omega)]
    rw [if_pos y, if_pos y, ← chX_adds hM hG' hO r hr L ⟨hL, by rw [gp]; exact y.2⟩ (by rw [ec 0 (by omega)]; exact y.1), ← chX_adds hM hG hO r hr L ⟨hL, y.2⟩ y.1, hn, hst, hc]
  · rw [if_neg y, if_neg y]
theorem c_nBL1 (L : Int) (hL : 1 ≤ L ∧ L ≤ 200) : fX6_needBlockLength (ii L) (CW c A J) = some (Sum.inl none, CW c A J) := by
  simp (disch := first | assumption | omega) only [fX6_needBlockLength, ↓reduceIte, tr_lt, fa_lt, tr_le, fa_le, tr_eq, fa_eq, and_true, true_and, and_false, false_and, il0, il1, il2, il3, il4, il5, il6, il7, il8, il9, il10, il11, il12, il15, il16, il20, il24, il31, il32, il44, il45, il48, il50, il57, il58, il59, il63, il91, il93, il97, il99, il100, il109, il113, il119, il120, il122, il200, il255, il480, il500, il501, il512, il999, il4112, il41120, il1000000, il1000003, ii_add, ii_sub, ii_mul, ii_neg, ii_le, ii_lt, ii_eq, ii_div, q_I, q_V, q_R, lt_q, rZ_q, md_M, md_16, md_4, md_8, md_10, if_true, if_false, if_pos, if_neg]
theorem c_nBL0 (L : Int) (hL : ¬ (1 ≤ L ∧ L ≤ 200)) (hb : -2147483648 ≤ L ∧ L < 2147483648) : fX6_needBlockLength (ii L) (CW c A J) = some (.inr "java/lang/IllegalArgumentException", CW (cU c) A J) := by
  by_cases q : L < 1
  · rw [fX6_needBlockLength, il1, if_pos (by rw [ii_lt _ _ (by omega)]; exact q), t_E]
  · rw [fX6_needBlockLength, il1, il200, if_neg (by rw [ii_lt _ _ (by omega)]; exact q), if_neg (by rw [ii_le _ _ (by omega)]; omega), t_E]
end OPS10
