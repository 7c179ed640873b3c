/-! CALLS THAT SOLVE WITH ONE BLOCK MORE, II -/
def rwN (F : Int → Int) : Nat → Int × Int
  | 0 => (-1, 1000000)
  | i + 1 => if F i = -1 then rwN F i else if (rwN F i).2 ≤ F i then rwN F i else ((i : Int), F i)
theorem rwN_s (F : Int → Int) (i : Int) (h : 0 ≤ i) : rwN F (i + 1).toNat = if F i = -1 then rwN F i.toNat else if (rwN F i.toNat).2 ≤ F i then rwN F i.toNat else (i, F i) := by
  rw [show (i + 1).toNat = i.toNat + 1 by omega]
  show (if F (i.toNat : Int) = -1 then rwN F i.toNat else if (rwN F i.toNat).2 ≤ F (i.toNat : Int) then rwN F i.toNat else ((i.toNat : Int), F (i.toNat : Int))) = _
  rw [show ((i.toNat : Nat) : Int) = i by omega]
theorem rwN_b (F : Int → Int) (hF : ∀ i, 0 ≤ i → i < 8 → -1 ≤ F i ∧ F i ≤ 1000000) : ∀ i : Nat, i ≤ 8 → (-1 ≤ (rwN F i).1 ∧ (rwN F i).1 < i) ∧ (-1 ≤ (rwN F i).2 ∧ (rwN F i).2 ≤ 1000000)
  | 0, _ => by show (-1 ≤ (-1 : Int) ∧ (-1 : Int) < ((0 : Nat) : Int)) ∧ (-1 ≤ (1000000 : Int) ∧ (1000000 : Int) ≤ 1000000); omega
  | i + 1, h => by
    have ih := rwN_b F hF i (by omega)
    have hb := hF i (by omega) (by omega)
    unfold rwN
    split
    · omega
    · split
      · omega
      · dsimp only; omega
section OPS10
variable {C0 N0 n : Nat} {K : Nat × Nat} {c : CC} {A : AI} {J : JI} {M : AI} {g g' o : Int → Int} {pl sp tv cap : Nat} {f B : Int}
theorem fiN_b (hM : SA M) (hG : GC M g B) (r : Int) (hr : 0 ≤ r ∧ r < M 0 3) (L : Int) (hL : 1 ≤ L ∧ L ≤ 200) : -1 ≤ fiN M g o r L ∧ fiN M g o r L ≤ 1000000 := by
  unfold fiN
  split
  · rename_i y
    have := (chL_b (o := o) hM ((hG.adds hM hr L ⟨hL, y.2⟩ y.1).need hM hr).1).1
    split <;> omega
  · omega
theorem fiN_cg (hM : SA M) (hG : GC M g B) (hO : ordOK (M 1) (M 2) (M 0 9) o) (r : Int) (hr : 0 ≤ r ∧ r < M 0 3) (L : Int) (hL : 1 ≤ L ∧ L ≤ 200) (e : ∀ z, 0 ≤ z → z < 4112 → g' z = g z) : fiN M g' o r L = fiN M g o r L := by
  have h38 := hM.1.2.1
  have h9 := hM.1.2.2.2.2.2.2.2
  have hG' := GC_cg hG hM e
  have hgr := hG.1.1 r hr.1 (by omega)
  have ec := fun w a => cel_cg e r w ⟨hr.1, by omega⟩ a
  have gp : gapM M g' r = gapM M g r := gapM_cong hgr (fun w c d _ => ec w ⟨c, d⟩)
  unfold fiN
  rw [ec 0 (by omega), gp]
  by_cases y : cel g r 0 < 6 ∧ L ≤ gapM M g r
  · have hn : needM M g' r = needM M g r := by
      unfold needM
      rw [gp]
      unfold uQ
      rw [ec 2 (by omega), ec 3 (by omega)]
    have hst : FW (M 0 9) o (M 2) (stM M g') 0 = FW (M 0 9) o (M 2) (stM M g) 0 := by
      funext s
      refine FW_cg _ _ _ _ _ _ _ fun q a b => ?_
      have := hO.1 q a b
      unfold stM
      rw [e _ (by omega) (by omega)]
    have hc : (if canO g' r then 1 else 0 : Int) = if canO g r then 1 else 0 := by
      unfold canO
      rw [ec 2 (by omega), e 0 (by omega) (by omega)]
    rw [if_pos y, if_pos y, ← chX_adds hM hG' hO r hr L ⟨hL, by rw [gp]; exact y.2⟩ (by rw [ec 0 (by omega)]; exact y.1), ← chX_adds hM hG hO r hr L ⟨hL, y.2⟩ y.1, hn, hst, hc]
  · rw [if_neg y, if_neg y]
theorem c_nBL1 (L : Int) (hL : 1 ≤ L ∧ L ≤ 200) : fX6_needBlockLength (ii L) (CW c A J) = some (Sum.inl none, CW c A J) := by
  simp (disch := first | assumption | omega) only [fX6_needBlockLength, ↓reduceIte, tr_lt, fa_lt, tr_le, fa_le, tr_eq, fa_eq, and_true, true_and, and_false, false_and, il0, il1, il2, il3, il4, il5, il6, il7, il8, il9, il10, il11, il12, il15, il16, il20, il24, il31, il32, il44, il45, il48, il50, il57, il58, il59, il63, il91, il93, il97, il99, il100, il109, il113, il119, il120, il122, il200, il255, il480, il500, il501, il512, il999, il4112, il41120, il1000000, il1000003, ii_add, ii_sub, ii_mul, ii_neg, ii_le, ii_lt, ii_eq, ii_div, q_I, q_V, q_R, lt_q, rZ_q, md_M, md_16, md_4, md_8, md_10, if_true, if_false, if_pos, if_neg]
theorem c_nBL0 (L : Int) (hL : ¬ (1 ≤ L ∧ L ≤ 200)) (hb : -2147483648 ≤ L ∧ L < 2147483648) : fX6_needBlockLength (ii L) (CW c A J) = some (.inr "java/lang/IllegalArgumentException", CW (cU c) A J) := by
  by_cases q : L < 1
  · rw [fX6_needBlockLength, il1, if_pos (by rw [ii_lt _ _ (by omega)]; exact q), t_E]
  · rw [fX6_needBlockLength, il1, il200, if_neg (by rw [ii_lt _ _ (by omega)]; exact q), if_neg (by rw [ii_le _ _ (by omega)]; omega), t_E]
theorem g_fewestAt (hI : Inv C0 N0 n pl sp tv cap c A J M g) (r L : Int) (hrb : -2147483648 ≤ r ∧ r < 2147483648) (hib : -2147483648 ≤ L ∧ L < 2147483648) : Good C0 N0 n K (fL_fewestAt 0 (ii r) (ii L) 455 (CW c A J)) (fX7_fewestAt 0 (ii r) (ii L) (NW K (mg M g))) := by
  have hk := hI.1
  have hRd : isReader c 1 := hk.2.1.1
  have hSv : isSolver c 4 := hk.2.1.2.1
  have hHi : isHist c 21 := hk.2.1.2.2.1
  have hNow : isState c 303 := hk.2.1.2.2.2.1
  have hSpr : isState c 338 := hk.2.1.2.2.2.2.1
  have hPl : isPlan c pl := hk.2.2.2.1.2.1
  have h00 : up M 0 0 0 0 0 = 0 := up_s _ _ _ _
  by_cases hl : M 0 1 = 1
  · obtain ⟨h10, hM, hP, hS, hG⟩ := hI.ld hl
    obtain ⟨p0, p1, p2, p3, p4, p5, p6, p7⟩ := hP.1
    have hc1 := c_chase1 (A := A) (J := J) hk h10
    have e3 : up M 0 0 0 0 3 = M 0 3 := up_n _ _ _ _ _ _ (by omega)
    have e9 : up M 0 0 0 0 9 = M 0 9 := up_n _ _ _ _ _ _ (by omega)
    have h38 := hM.1.2.1
    have h910 := hM.1.2.2.2.2.2.2.2
    have hin := e_in L 1 200 (by omega) (NW K (mg (up M 0 0 0) g))
    by_cases hr : 0 ≤ r ∧ r < up M 0 0 0 0 3
    · have hcr := c_row1 (A := A) (J := J) hk h10 r (by rw [p1]; exact hr) (by rw [p1]; exact h38.2)
      have hmr := e_noRow1 (K := K) (M := M) (g := g) hl r (by rw [← e3]; exact hr) (by rw [← e3]; exact h38.2)
      have hr8 : 0 ≤ r ∧ r < 8 := by omega
      have hR := hNow.row r hr8
      have hrr := hS.2 r hr.1 (by omega)
      have hgr := hG.1.1 r hr.1 (by omega)
      by_cases q : 1 ≤ L ∧ L ≤ 200
      · rw [if_pos q] at hin
        have h37 : up M 0 0 0 0 37 = -1 := (up_n _ _ _ _ _ _ (by omega)).trans hI.2.2.2.1
        have hap := hk.2.2.2.1.1
        obtain ⟨A1, A2, e1, e2, v2, f2⟩ := c_studied hk hNow (by omega) hS hP hM hG.GL h37
        have hS2 : SR A2 J 303 (up M 0 0 0 2) g (g 5) := SR_frame hS hG.1.1 (fun b z hb => f2 b z (by unfold inS at hb; unfold inV; omega)) (fun _ _ _ => rfl)
        obtain ⟨q0, -, q2, q3, -⟩ := (PR_frm hP (A' := A2) (fun b z hb => f2 b z (by unfold inV; omega))).1
        obtain ⟨A', e5, f5⟩ := c_fewestWith hk hS2 q0 q2 q3 hM hG h37 hP.2.2 v2 r hr L q
        obtain ⟨M', g2, m1, ms, mg⟩ := m_fewestIf (K := K) hM hG h37 hP.2.2 r hr L q
        have hbl := c_nBL1 (c := c) (A := A) (J := J) L q
        refine Good_aside hI (v := fiN (up M 0 0 0) g (A (pl + 3)) r L) (A' := A') (J' := J) (M' := M') (g' := g2) ?_ ⟨fun b z hb => ?_, fun _ _ _ => rfl⟩ ?_ ms mg
        · simp (disch := first | assumption | omega) only [fX6_fewestAt, lkV hk, lkR0 hk, lkR1 hk, lkR2 hk, lkR3 hk, lkR4 hk, lkR5 hk, lkR6 hk, lkR7 hk, lkR8 hk, lkR9 hk, lkI hk, k_E, t_E, hcr, hbl, rwI1, rwS1, rwI2, rwS2, rwI4, rwS4, rwI5, rwS5, rwI7, rwS7, rwI8, rwS8, rwI9, rwS9, rwR0, rwR3, rwR6, rwA1, rwU1, rwA3, rwU3, rwV, rwJ, rwUJ, plI0, plS0, plI1, plS1, plI2, plS2, plI3, plS3, plI4, plS4, plI5, plS5, plI6, plS6, plI7, plS7, plR8, plR9, plR10, plA1, plU1, plA2, plU2, plA3, plU3, plV, stI2, stS2, stI3, stS3, stI4, stS4, stI5, stS5, stI6, stS6, stI7, stS7, stR0, stR1, stA2, stU2, stV, stRow, svI5, svS5, svI6, svS6, svI7, svS7, svR0, svR1, svR2, svR3, svR4, svA13, svU13, svA14, svU14, svA15, svU15, svA16, svU16, svV, svRow, svF, svUF, hiI1, hiS1, hiI2, hiS2, hiR0, hiV, hiRow, rdI2, rdS2, rdI3, rdS3, rdI4, rdS4, rdI5, rdS5, rdI6, rdS6, rdI7, rdS7, rdI8, rdS8, rdR0, rdR1, rdA1, rdU1, rdA2, rdU2, rdV, k_C, ↓reduceIte, tr_lt, fa_lt, tr_le, fa_le, tr_eq, fa_eq, and_true, true_and, and_false, false_and, il0, il1, il2, il3, il4, il5, il6, il7, il8, il9, il10, il11, il12, il15, il16, il20, il24, il31, il32, il44, il45, il48, il50, il57, il58, il59, il63, il91, il93, il97, il99, il100, il109, il113, il119, il120, il122, il200, il255, il480, il500, il501, il512, il999, il4112, il41120, il1000000, il1000003, ii_add, ii_sub, ii_mul, ii_neg, ii_le, ii_lt, ii_eq, ii_div, q_I, q_V, q_R, lt_q, rZ_q, md_M, md_16, md_4, md_8, md_10, if_true, if_false, if_pos, if_neg, e1, e2, e5]
        · have hb2 : ¬ inV 4 b := fun x => hb (Or.inl x)
          rw [f5 b z (fun x => hb2 (by unfold inV; omega)) (fun x => hb2 (by unfold inV; omega)), f2 b z hb2]
        · simp (disch := first | assumption | omega) only [fX7_fewestAt, fX7_fewestAt_25, nR1, nA1, nU1, nR2, nA2, nU2, nR3, nA3, nU3, nR4, nA4, nU4, nR5, nA5, nU5, nR6, nA6, nU6, nR7, nA7, nU7, nR8, nA8, nU8, nR9, nA9, nU9, nR10, nA10, nU10, nR11, nA11, nU11, nR12, nA12, nU12, nR13, nA13, nU13, nR14, nA14, nU14, nR15, nA15, nU15, nR16, nA16, nU16, nI0, nS0, nI1, nS1, nI2, nS2, nI3, nS3, nI4, nS4, nI5, nS5, nI6, nS6, nI7, nS7, nI8, nS8, nI9, nS9, nI15, nS15, nI18, nS18, nI19, nS19, nI20, nS20, nI21, nS21, nI22, nS22, nI23, nS23, nI24, nS24, nI25, nS25, nI26, nS26, nI27, nS27, nI32, nS32, nI36, nS36, nI37, nS37, nI40, nS40, nSZ1, nV, nC, ↓reduceIte, tr_lt, fa_lt, tr_le, fa_le, tr_eq, fa_eq, and_true, true_and, and_false, false_and, il0, il1, il2, il3, il4, il5, il6, il7, il8, il9, il10, il11, il12, il15, il16, il20, il24, il31, il32, il44, il45, il48, il50, il57, il58, il59, il63, il91, il93, il97, il99, il100, il109, il113, il119, il120, il122, il200, il255, il480, il500, il501, il512, il999, il4112, il41120, il1000000, il1000003, ii_add, ii_sub, ii_mul, ii_neg, ii_le, ii_lt, ii_eq, ii_div, q_I, q_V, q_R, lt_q, rZ_q, md_M, md_16, md_4, md_8, md_10, if_true, if_false, if_pos, if_neg, mg_3, mg_0, mg_1, mg_2, mg_k, mg_up3, mg_upk, hmr, hin, e_ref0, m1]
      · rw [if_neg q] at hin
        refine Good_no (code := 3) hI (E := "java/lang/IllegalArgumentException") (A' := A) (J' := J) ?_ (frm.refl _ _ _) (fun τ => (hF2 _ _ _ _ _ _ (by decide)).trans ((hF2 _ _ _ _ _ _ (by decide)).trans (hF1 _ _ 3 rfl _ _ _))) (by omega) (v := 0) ?_
        · rw [fX6_fewestAt, lkV hk, hcr, k_C, q_R, c_nBL0 L q hib, k_E]
        · have hrf := e_ref1 (K := K) (M := up M 0 0 0) (g := g) h00 3 (by omega)
          simp (disch := first | assumption | omega) only [fX7_fewestAt, nR1, nA1, nU1, nR2, nA2, nU2, nR3, nA3, nU3, nR4, nA4, nU4, nR5, nA5, nU5, nR6, nA6, nU6, nR7, nA7, nU7, nR8, nA8, nU8, nR9, nA9, nU9, nR10, nA10, nU10, nR11, nA11, nU11, nR12, nA12, nU12, nR13, nA13, nU13, nR14, nA14, nU14, nR15, nA15, nU15, nR16, nA16, nU16, nI0, nS0, nI1, nS1, nI2, nS2, nI3, nS3, nI4, nS4, nI5, nS5, nI6, nS6, nI7, nS7, nI8, nS8, nI9, nS9, nI15, nS15, nI18, nS18, nI19, nS19, nI20, nS20, nI21, nS21, nI22, nS22, nI23, nS23, nI24, nS24, nI25, nS25, nI26, nS26, nI27, nS27, nI32, nS32, nI36, nS36, nI37, nS37, nI40, nS40, nSZ1, nV, nC, ↓reduceIte, tr_lt, fa_lt, tr_le, fa_le, tr_eq, fa_eq, and_true, true_and, and_false, false_and, il0, il1, il2, il3, il4, il5, il6, il7, il8, il9, il10, il11, il12, il15, il16, il20, il24, il31, il32, il44, il45, il48, il50, il57, il58, il59, il63, il91, il93, il97, il99, il100, il109, il113, il119, il120, il122, il200, il255, il480, il500, il501, il512, il999, il4112, il41120, il1000000, il1000003, ii_add, ii_sub, ii_mul, ii_neg, ii_le, ii_lt, ii_eq, ii_div, q_I, q_V, q_R, lt_q, rZ_q, md_M, md_16, md_4, md_8, md_10, if_true, if_false, if_pos, if_neg, mg_3, mg_0, mg_1, mg_2, mg_k, mg_up3, mg_upk, hmr, hin]
          rw [fX7_fewestAt_25, nV, il3, hrf, nC, q_I, if_neg (show ¬ ii 1 = (0 : Int32) by decide), up_up]
          rfl
    · refine Good_no (code := 2) hI (E := "java/lang/IndexOutOfBoundsException") (A' := A) (J' := J) ?_ (frm.refl _ _ _) (fun τ => (hF2 _ _ _ _ _ _ (by decide)).trans (hF1 _ _ 2 rfl _ _ _)) (by omega) (v := 0) ?_
      · have hcr := c_row0 (A := A) (J := J) hk h10 r (by rw [p1]; exact hr) (by rw [p1]; omega) (by omega)
        rw [fX6_fewestAt, lkV hk, hcr, k_E]
      · have hmr := e_noRow0 (K := K) (M := M) (g := g) hl r (by rw [← e3]; exact hr) (by rw [← e3]; omega) (by omega)
        rw [fX7_fewestAt, nV, hmr, nC, q_I, if_neg (show ¬ ii 1 = (0 : Int32) by decide)]
        rfl
  · obtain ⟨h10, h1⟩ := hI.nl hl
    refine Good_nl hI (v := 0) ?_ (hF_IS _ 1 rfl _ _) ?_
    · rw [fX6_fewestAt, lkV hk, c_rowN hk h10, k_E]
    · rw [fX7_fewestAt, nV, e_noRowN h1, nC, q_I, if_neg (show ¬ ii 1 = (0 : Int32) by decide)]
      rfl
theorem g_rowFor (hI : Inv C0 N0 n pl sp tv cap c A J M g) (L : Int) (hib : -2147483648 ≤ L ∧ L < 2147483648) : Good C0 N0 n K (fL_rowFor 0 (ii L) 455 (CW c A J)) (fX7_rowFor 0 (ii L) (NW K (mg M g))) := by
  have hk := hI.1
  have hRd : isReader c 1 := hk.2.1.1
  have hSv : isSolver c 4 := hk.2.1.2.1
  have hHi : isHist c 21 := hk.2.1.2.2.1
  have hNow : isState c 303 := hk.2.1.2.2.2.1
  have hSpr : isState c 338 := hk.2.1.2.2.2.2.1
  have hPl : isPlan c pl := hk.2.2.2.1.2.1
  have h00 : up M 0 0 0 0 0 = 0 := up_s _ _ _ _
  by_cases hl : M 0 1 = 1
  · obtain ⟨h10, hM, hP, hS, hG⟩ := hI.ld hl
    obtain ⟨p0, p1, p2, p3, p4, p5, p6, p7⟩ := hP.1
    have hc1 := c_chase1 (A := A) (J := J) hk h10
    have e3 : up M 0 0 0 0 3 = M 0 3 := up_n _ _ _ _ _ _ (by omega)
    have e9 : up M 0 0 0 0 9 = M 0 9 := up_n _ _ _ _ _ _ (by omega)
    have h38 := hM.1.2.1
    have h910 := hM.1.2.2.2.2.2.2.2
    have hin := e_in L 1 200 (by omega) (NW K (mg (up M 0 0 0) g))
    by_cases q : 1 ≤ L ∧ L ≤ 200
    · rw [if_pos q] at hin
      have h37 : up M 0 0 0 0 37 = -1 := (up_n _ _ _ _ _ _ (by omega)).trans hI.2.2.2.1
      have hap := hk.2.2.2.1.1
      have hO := hP.2.2
      obtain ⟨A1, A2, e1, e2, v2, f2⟩ := c_studied hk hNow (by omega) hS hP hM hG.GL h37
      have hbl := c_nBL1 (c := c) (A := A) (J := J) L q
      have hFb := rwN_b (fun i => if i < up M 0 0 0 0 3 then fiN (up M 0 0 0) g (A (pl + 3)) i L else 0) (fun i a b => by
        split
        · exact fiN_b hM hG i ⟨a, by assumption⟩ L q
        · omega)
      have hX : ∃ A', fX6_rowFor_39 FU 0 (ii L) (ii (-1)) (ii 1000000) (ii 0) (CW c A2 J) = some (Sum.inl (some (Value.int (ii ((rwN (fun i => if i < up M 0 0 0 0 3 then fiN (up M 0 0 0) g (A (pl + 3)) i L else 0) (up M 0 0 0 0 3).toNat).1)))), CW c A' J) ∧ ∀ (b : Nat) (z : Int), b ≠ 4 → b ≠ 20 → A' b z = A2 b z := by
        refine lp (fun m i (s : (Int × Int) × AI) => fX6_rowFor_39 m 0 (ii L) (ii s.1.1) (ii s.1.2) (ii i) (CW c s.2 J)) (fun x => ∃ A', x = some (Sum.inl (some (Value.int (ii ((rwN (fun i => if i < up M 0 0 0 0 3 then fiN (up M 0 0 0) g (A (pl + 3)) i L else 0) (up M 0 0 0 0 3).toNat).1)))), CW c A' J) ∧ ∀ (b : Nat) (z : Int), b ≠ 4 → b ≠ 20 → A' b z = A2 b z)
          (fun i s => 0 ≤ i ∧ s.1 = rwN (fun i => if i < up M 0 0 0 0 3 then fiN (up M 0 0 0) g (A (pl + 3)) i L else 0) i.toNat ∧ ∀ (b : Nat) (z : Int), b ≠ 4 → b ≠ 20 → s.2 b z = A2 b z) (up M 0 0 0 0 3) ?_ ?_ FU 0 ((-1, 1000000), A2) (by omega) ⟨by omega, rfl, fun _ _ _ _ => rfl⟩ (by have := FU_e; omega)
        · rintro m i ⟨⟨b, l⟩, S⟩ hi ⟨hJ, hs, hf⟩
          dsimp only at hs hf ⊢
          have hb := hFb i.toNat (by omega)
          rw [← hs] at hb
          dsimp only at hb
          have hs1 : SR S J 303 (up M 0 0 0 2) g (g 5) := SR_frame hS hG.1.1 (fun b z hb => by rw [hf b z (by unfold inS at hb; omega) (by unfold inS at hb; omega)]; exact f2 b z (by unfold inS at hb; unfold inV; omega)) (fun _ _ _ => rfl)
          obtain ⟨q0, q1, q2, q3, -⟩ := (PR_frm hP (A' := S) (fun b z hb => by rw [hf b z (by omega) (by omega)]; exact f2 b z (by unfold inV; omega))).1
          obtain ⟨A', e5, f5⟩ := c_fewestWith hk hs1 q0 q2 q3 hM hG h37 hO (svA.keep v2 (by omega) hf h910.2) i ⟨hJ, hi⟩ L q
          have hfb := fiN_b (o := A (pl + 3)) hM hG i ⟨hJ, hi⟩ L q
          have e := rwN_s (fun i => if i < up M 0 0 0 0 3 then fiN (up M 0 0 0) g (A (pl + 3)) i L else 0) i hJ
          rw [if_pos hi, ← hs] at e
          have hR := hNow.row i (by omega)
          by_cases y : fiN (up M 0 0 0) g (A (pl + 3)) i L = -1
          · rw [if_pos y] at e
            refine Or.inr ⟨((b, l), A'), ⟨by omega, e.symm, fun b z x y => by dsimp only; rw [f5 b z x y]; exact hf b z x y⟩, ?_⟩
            simp (disch := first | assumption | omega) only [fX6_rowFor_39, fX6_rowFor_86, lkV hk, lkR0 hk, lkR1 hk, lkR2 hk, lkR3 hk, lkR4 hk, lkR5 hk, lkR6 hk, lkR7 hk, lkR8 hk, lkR9 hk, lkI hk, k_E, t_E, rwI1, rwS1, rwI2, rwS2, rwI4, rwS4, rwI5, rwS5, rwI7, rwS7, rwI8, rwS8, rwI9, rwS9, rwR0, rwR3, rwR6, rwA1, rwU1, rwA3, rwU3, rwV, rwJ, rwUJ, plI0, plS0, plI1, plS1, plI2, plS2, plI3, plS3, plI4, plS4, plI5, plS5, plI6, plS6, plI7, plS7, plR8, plR9, plR10, plA1, plU1, plA2, plU2, plA3, plU3, plV, stI2, stS2, stI3, stS3, stI4, stS4, stI5, stS5, stI6, stS6, stI7, stS7, stR0, stR1, stA2, stU2, stV, stRow, svI5, svS5, svI6, svS6, svI7, svS7, svR0, svR1, svR2, svR3, svR4, svA13, svU13, svA14, svU14, svA15, svU15, svA16, svU16, svV, svRow, svF, svUF, hiI1, hiS1, hiI2, hiS2, hiR0, hiV, hiRow, rdI2, rdS2, rdI3, rdS3, rdI4, rdS4, rdI5, rdS5, rdI6, rdS6, rdI7, rdS7, rdI8, rdS8, rdR0, rdR1, rdA1, rdU1, rdA2, rdU2, rdV, k_C, ↓reduceIte, tr_lt, fa_lt, tr_le, fa_le, tr_eq, fa_eq, and_true, true_and, and_false, false_and, il0, il1, il2, il3, il4, il5, il6, il7, il8, il9, il10, il11, il12, il15, il16, il20, il24, il31, il32, il44, il45, il48, il50, il57, il58, il59, il63, il91, il93, il97, il99, il100, il109, il113, il119, il120, il122, il200, il255, il480, il500, il501, il512, il999, il4112, il41120, il1000000, il1000003, ii_add, ii_sub, ii_mul, ii_neg, ii_le, ii_lt, ii_eq, ii_div, q_I, q_V, q_R, lt_q, rZ_q, md_M, md_16, md_4, md_8, md_10, if_true, if_false, if_pos, if_neg, q1, e5]
          · rw [if_neg y] at e
            by_cases w : l ≤ fiN (up M 0 0 0) g (A (pl + 3)) i L
            · rw [if_pos w] at e
              refine Or.inr ⟨((b, l), A'), ⟨by omega, e.symm, fun b z x y => by dsimp only; rw [f5 b z x y]; exact hf b z x y⟩, ?_⟩
              simp (disch := first | assumption | omega) only [fX6_rowFor_39, fX6_rowFor_86, lkV hk, lkR0 hk, lkR1 hk, lkR2 hk, lkR3 hk, lkR4 hk, lkR5 hk, lkR6 hk, lkR7 hk, lkR8 hk, lkR9 hk, lkI hk, k_E, t_E, rwI1, rwS1, rwI2, rwS2, rwI4, rwS4, rwI5, rwS5, rwI7, rwS7, rwI8, rwS8, rwI9, rwS9, rwR0, rwR3, rwR6, rwA1, rwU1, rwA3, rwU3, rwV, rwJ, rwUJ, plI0, plS0, plI1, plS1, plI2, plS2, plI3, plS3, plI4, plS4, plI5, plS5, plI6, plS6, plI7, plS7, plR8, plR9, plR10, plA1, plU1, plA2, plU2, plA3, plU3, plV, stI2, stS2, stI3, stS3, stI4, stS4, stI5, stS5, stI6, stS6, stI7, stS7, stR0, stR1, stA2, stU2, stV, stRow, svI5, svS5, svI6, svS6, svI7, svS7, svR0, svR1, svR2, svR3, svR4, svA13, svU13, svA14, svU14, svA15, svU15, svA16, svU16, svV, svRow, svF, svUF, hiI1, hiS1, hiI2, hiS2, hiR0, hiV, hiRow, rdI2, rdS2, rdI3, rdS3, rdI4, rdS4, rdI5, rdS5, rdI6, rdS6, rdI7, rdS7, rdI8, rdS8, rdR0, rdR1, rdA1, rdU1, rdA2, rdU2, rdV, k_C, ↓reduceIte, tr_lt, fa_lt, tr_le, fa_le, tr_eq, fa_eq, and_true, true_and, and_false, false_and, il0, il1, il2, il3, il4, il5, il6, il7, il8, il9, il10, il11, il12, il15, il16, il20, il24, il31, il32, il44, il45, il48, il50, il57, il58, il59, il63, il91, il93, il97, il99, il100, il109, il113, il119, il120, il122, il200, il255, il480, il500, il501, il512, il999, il4112, il41120, il1000000, il1000003, ii_add, ii_sub, ii_mul, ii_neg, ii_le, ii_lt, ii_eq, ii_div, q_I, q_V, q_R, lt_q, rZ_q, md_M, md_16, md_4, md_8, md_10, if_true, if_false, if_pos, if_neg, q1, e5]
            · rw [if_neg w] at e
              refine Or.inr ⟨((i, fiN (up M 0 0 0) g (A (pl + 3)) i L), A'), ⟨by omega, e.symm, fun b z x y => by dsimp only; rw [f5 b z x y]; exact hf b z x y⟩, ?_⟩
              simp (disch := first | assumption | omega) only [fX6_rowFor_39, fX6_rowFor_86, lkV hk, lkR0 hk, lkR1 hk, lkR2 hk, lkR3 hk, lkR4 hk, lkR5 hk, lkR6 hk, lkR7 hk, lkR8 hk, lkR9 hk, lkI hk, k_E, t_E, rwI1, rwS1, rwI2, rwS2, rwI4, rwS4, rwI5, rwS5, rwI7, rwS7, rwI8, rwS8, rwI9, rwS9, rwR0, rwR3, rwR6, rwA1, rwU1, rwA3, rwU3, rwV, rwJ, rwUJ, plI0, plS0, plI1, plS1, plI2, plS2, plI3, plS3, plI4, plS4, plI5, plS5, plI6, plS6, plI7, plS7, plR8, plR9, plR10, plA1, plU1, plA2, plU2, plA3, plU3, plV, stI2, stS2, stI3, stS3, stI4, stS4, stI5, stS5, stI6, stS6, stI7, stS7, stR0, stR1, stA2, stU2, stV, stRow, svI5, svS5, svI6, svS6, svI7, svS7, svR0, svR1, svR2, svR3, svR4, svA13, svU13, svA14, svU14, svA15, svU15, svA16, svU16, svV, svRow, svF, svUF, hiI1, hiS1, hiI2, hiS2, hiR0, hiV, hiRow, rdI2, rdS2, rdI3, rdS3, rdI4, rdS4, rdI5, rdS5, rdI6, rdS6, rdI7, rdS7, rdI8, rdS8, rdR0, rdR1, rdA1, rdU1, rdA2, rdU2, rdV, k_C, ↓reduceIte, tr_lt, fa_lt, tr_le, fa_le, tr_eq, fa_eq, and_true, true_and, and_false, false_and, il0, il1, il2, il3, il4, il5, il6, il7, il8, il9, il10, il11, il12, il15, il16, il20, il24, il31, il32, il44, il45, il48, il50, il57, il58, il59, il63, il91, il93, il97, il99, il100, il109, il113, il119, il120, il122, il200, il255, il480, il500, il501, il512, il999, il4112, il41120, il1000000, il1000003, ii_add, ii_sub, ii_mul, ii_neg, ii_le, ii_lt, ii_eq, ii_div, q_I, q_V, q_R, lt_q, rZ_q, md_M, md_16, md_4, md_8, md_10, if_true, if_false, if_pos, if_neg, q1, e5]
        · rintro m ⟨⟨b, l⟩, S⟩ ⟨hJ, hs, hf⟩
          dsimp only at hs hf ⊢
          obtain ⟨q0, q1, -⟩ := (PR_frm hP (A' := S) (fun b z hb => by rw [hf b z (by omega) (by omega)]; exact f2 b z (by unfold inV; omega))).1
          refine ⟨S, ?_, hf⟩
          rw [← hs]
          simp (disch := first | assumption | omega) only [fX6_rowFor_39, lkV hk, lkR0 hk, lkR1 hk, lkR2 hk, lkR3 hk, lkR4 hk, lkR5 hk, lkR6 hk, lkR7 hk, lkR8 hk, lkR9 hk, lkI hk, k_E, t_E, rwI1, rwS1, rwI2, rwS2, rwI4, rwS4, rwI5, rwS5, rwI7, rwS7, rwI8, rwS8, rwI9, rwS9, rwR0, rwR3, rwR6, rwA1, rwU1, rwA3, rwU3, rwV, rwJ, rwUJ, plI0, plS0, plI1, plS1, plI2, plS2, plI3, plS3, plI4, plS4, plI5, plS5, plI6, plS6, plI7, plS7, plR8, plR9, plR10, plA1, plU1, plA2, plU2, plA3, plU3, plV, stI2, stS2, stI3, stS3, stI4, stS4, stI5, stS5, stI6, stS6, stI7, stS7, stR0, stR1, stA2, stU2, stV, stRow, svI5, svS5, svI6, svS6, svI7, svS7, svR0, svR1, svR2, svR3, svR4, svA13, svU13, svA14, svU14, svA15, svU15, svA16, svU16, svV, svRow, svF, svUF, hiI1, hiS1, hiI2, hiS2, hiR0, hiV, hiRow, rdI2, rdS2, rdI3, rdS3, rdI4, rdS4, rdI5, rdS5, rdI6, rdS6, rdI7, rdS7, rdI8, rdS8, rdR0, rdR1, rdA1, rdU1, rdA2, rdU2, rdV, k_C, ↓reduceIte, tr_lt, fa_lt, tr_le, fa_le, tr_eq, fa_eq, and_true, true_and, and_false, false_and, il0, il1, il2, il3, il4, il5, il6, il7, il8, il9, il10, il11, il12, il15, il16, il20, il24, il31, il32, il44, il45, il48, il50, il57, il58, il59, il63, il91, il93, il97, il99, il100, il109, il113, il119, il120, il122, il200, il255, il480, il500, il501, il512, il999, il4112, il41120, il1000000, il1000003, ii_add, ii_sub, ii_mul, ii_neg, ii_le, ii_lt, ii_eq, ii_div, q_I, q_V, q_R, lt_q, rZ_q, md_M, md_16, md_4, md_8, md_10, if_true, if_false, if_pos, if_neg, q1]
      have hY : ∃ (M' : AI) (g2 : Int → Int), fX7_rowFor_42 FU 0 (ii L) (ii (-1)) (ii 1000000) (ii 0) (NW K (mg (up M 0 0 0) g)) = some (Sum.inl (some (Value.int (ii ((rwN (fun i => if i < up M 0 0 0 0 3 then fiN (up M 0 0 0) g (A (pl + 3)) i L else 0) (up M 0 0 0 0 3).toNat).1)))), NW K (mg M' g2)) ∧ scr4 (up M 0 0 0) M' ∧ ∀ z, 0 ≤ z → z < 4112 → g2 z = g z := by
        refine lp (fun m i (s : (Int × Int) × AI × (Int → Int)) => fX7_rowFor_42 m 0 (ii L) (ii s.1.1) (ii s.1.2) (ii i) (NW K (mg s.2.1 s.2.2))) (fun x => ∃ (M' : AI) (g2 : Int → Int), x = some (Sum.inl (some (Value.int (ii ((rwN (fun i => if i < up M 0 0 0 0 3 then fiN (up M 0 0 0) g (A (pl + 3)) i L else 0) (up M 0 0 0 0 3).toNat).1)))), NW K (mg M' g2)) ∧ scr4 (up M 0 0 0) M' ∧ ∀ z, 0 ≤ z → z < 4112 → g2 z = g z)
          (fun i s => 0 ≤ i ∧ s.1 = rwN (fun i => if i < up M 0 0 0 0 3 then fiN (up M 0 0 0) g (A (pl + 3)) i L else 0) i.toNat ∧ scr4 (up M 0 0 0) s.2.1 ∧ ∀ z, 0 ≤ z → z < 4112 → s.2.2 z = g z) (up M 0 0 0 0 3) ?_ ?_ FU 0 ((-1, 1000000), up M 0 0 0, g) (by omega) ⟨by omega, rfl, (scr.refl _).s4, fun _ _ _ => rfl⟩ (by have := FU_e; omega)
        · rintro m i ⟨⟨b, l⟩, M2, h⟩ hi ⟨hJ, hs, hf, he⟩
          dsimp only at hs hf he ⊢
          have hb := hFb i.toNat (by omega)
          rw [← hs] at hb
          dsimp only at hb
          have n3 : M2 0 3 = up M 0 0 0 0 3 := hf.1 3 (by omega)
          have n9 : M2 0 9 = up M 0 0 0 0 9 := hf.1 9 (by omega)
          have n1 : M2 1 = up M 0 0 0 1 := funext fun z => hf.2 1 z (by omega) (by omega) (by omega)
          have n2 : M2 2 = up M 0 0 0 2 := funext fun z => hf.2 2 z (by omega) (by omega) (by omega)
          have hM2 := SA_4 hf hM
          have hG2 := GC_cg (hG.scr (Int.le_refl _) (fun z x _ => hf.1 z x) n2) hM2 he
          obtain ⟨M3, g3, m1, ms, me⟩ := m_fewestIf (K := K) (o := A (pl + 3)) hM2 hG2 ((hf.1 37 (by omega)).trans h37) (by rw [n1, n2, n9]; exact hO) i ⟨hJ, by omega⟩ L q
          have ef : fiN M2 h (A (pl + 3)) i L = fiN (up M 0 0 0) g (A (pl + 3)) i L := by
            rw [← fiN_cg hM hG hO i ⟨hJ, hi⟩ L q he]
            unfold fiN
            rw [chL_cg hf.c4, scr_gap hf.c4]
            rfl
          rw [ef] at m1
          have hfb := fiN_b (o := A (pl + 3)) hM hG i ⟨hJ, hi⟩ L q
          have e := rwN_s (fun i => if i < up M 0 0 0 0 3 then fiN (up M 0 0 0) g (A (pl + 3)) i L else 0) i hJ
          rw [if_pos hi, ← hs] at e
          have es : scr4 (up M 0 0 0) M3 := hf.trans ms
          have ee : ∀ z, 0 ≤ z → z < 4112 → g3 z = g z := fun z x y => (me z x y).trans (he z x y)
          by_cases y : fiN (up M 0 0 0) g (A (pl + 3)) i L = -1
          · rw [if_pos y] at e
            refine Or.inr ⟨((b, l), M3, g3), ⟨by omega, e.symm, es, ee⟩, ?_⟩
            simp (disch := first | assumption | omega) only [fX7_rowFor_42, fX7_rowFor_78, nR1, nA1, nU1, nR2, nA2, nU2, nR3, nA3, nU3, nR4, nA4, nU4, nR5, nA5, nU5, nR6, nA6, nU6, nR7, nA7, nU7, nR8, nA8, nU8, nR9, nA9, nU9, nR10, nA10, nU10, nR11, nA11, nU11, nR12, nA12, nU12, nR13, nA13, nU13, nR14, nA14, nU14, nR15, nA15, nU15, nR16, nA16, nU16, nI0, nS0, nI1, nS1, nI2, nS2, nI3, nS3, nI4, nS4, nI5, nS5, nI6, nS6, nI7, nS7, nI8, nS8, nI9, nS9, nI15, nS15, nI18, nS18, nI19, nS19, nI20, nS20, nI21, nS21, nI22, nS22, nI23, nS23, nI24, nS24, nI25, nS25, nI26, nS26, nI27, nS27, nI32, nS32, nI36, nS36, nI37, nS37, nI40, nS40, nSZ1, nV, nC, ↓reduceIte, tr_lt, fa_lt, tr_le, fa_le, tr_eq, fa_eq, and_true, true_and, and_false, false_and, il0, il1, il2, il3, il4, il5, il6, il7, il8, il9, il10, il11, il12, il15, il16, il20, il24, il31, il32, il44, il45, il48, il50, il57, il58, il59, il63, il91, il93, il97, il99, il100, il109, il113, il119, il120, il122, il200, il255, il480, il500, il501, il512, il999, il4112, il41120, il1000000, il1000003, ii_add, ii_sub, ii_mul, ii_neg, ii_le, ii_lt, ii_eq, ii_div, q_I, q_V, q_R, lt_q, rZ_q, md_M, md_16, md_4, md_8, md_10, if_true, if_false, if_pos, if_neg, mg_3, mg_0, mg_1, mg_2, mg_k, mg_up3, mg_upk, n3, m1]
          · rw [if_neg y] at e
            by_cases w : l ≤ fiN (up M 0 0 0) g (A (pl + 3)) i L
            · rw [if_pos w] at e
              refine Or.inr ⟨((b, l), M3, g3), ⟨by omega, e.symm, es, ee⟩, ?_⟩
              simp (disch := first | assumption | omega) only [fX7_rowFor_42, fX7_rowFor_78, nR1, nA1, nU1, nR2, nA2, nU2, nR3, nA3, nU3, nR4, nA4, nU4, nR5, nA5, nU5, nR6, nA6, nU6, nR7, nA7, nU7, nR8, nA8, nU8, nR9, nA9, nU9, nR10, nA10, nU10, nR11, nA11, nU11, nR12, nA12, nU12, nR13, nA13, nU13, nR14, nA14, nU14, nR15, nA15, nU15, nR16, nA16, nU16, nI0, nS0, nI1, nS1, nI2, nS2, nI3, nS3, nI4, nS4, nI5, nS5, nI6, nS6, nI7, nS7, nI8, nS8, nI9, nS9, nI15, nS15, nI18, nS18, nI19, nS19, nI20, nS20, nI21, nS21, nI22, nS22, nI23, nS23, nI24, nS24, nI25, nS25, nI26, nS26, nI27, nS27, nI32, nS32, nI36, nS36, nI37, nS37, nI40, nS40, nSZ1, nV, nC, ↓reduceIte, tr_lt, fa_lt, tr_le, fa_le, tr_eq, fa_eq, and_true, true_and, and_false, false_and, il0, il1, il2, il3, il4, il5, il6, il7, il8, il9, il10, il11, il12, il15, il16, il20, il24, il31, il32, il44, il45, il48, il50, il57, il58, il59, il63, il91, il93, il97, il99, il100, il109, il113, il119, il120, il122, il200, il255, il480, il500, il501, il512, il999, il4112, il41120, il1000000, il1000003, ii_add, ii_sub, ii_mul, ii_neg, ii_le, ii_lt, ii_eq, ii_div, q_I, q_V, q_R, lt_q, rZ_q, md_M, md_16, md_4, md_8, md_10, if_true, if_false, if_pos, if_neg, mg_3, mg_0, mg_1, mg_2, mg_k, mg_up3, mg_upk, n3, m1]
            · rw [if_neg w] at e
              refine Or.inr ⟨((i, fiN (up M 0 0 0) g (A (pl + 3)) i L), M3, g3), ⟨by omega, e.symm, es, ee⟩, ?_⟩
              simp (disch := first | assumption | omega) only [fX7_rowFor_42, fX7_rowFor_78, nR1, nA1, nU1, nR2, nA2, nU2, nR3, nA3, nU3, nR4, nA4, nU4, nR5, nA5, nU5, nR6, nA6, nU6, nR7, nA7, nU7, nR8, nA8, nU8, nR9, nA9, nU9, nR10, nA10, nU10, nR11, nA11, nU11, nR12, nA12, nU12, nR13, nA13, nU13, nR14, nA14, nU14, nR15, nA15, nU15, nR16, nA16, nU16, nI0, nS0, nI1, nS1, nI2, nS2, nI3, nS3, nI4, nS4, nI5, nS5, nI6, nS6, nI7, nS7, nI8, nS8, nI9, nS9, nI15, nS15, nI18, nS18, nI19, nS19, nI20, nS20, nI21, nS21, nI22, nS22, nI23, nS23, nI24, nS24, nI25, nS25, nI26, nS26, nI27, nS27, nI32, nS32, nI36, nS36, nI37, nS37, nI40, nS40, nSZ1, nV, nC, ↓reduceIte, tr_lt, fa_lt, tr_le, fa_le, tr_eq, fa_eq, and_true, true_and, and_false, false_and, il0, il1, il2, il3, il4, il5, il6, il7, il8, il9, il10, il11, il12, il15, il16, il20, il24, il31, il32, il44, il45, il48, il50, il57, il58, il59, il63, il91, il93, il97, il99, il100, il109, il113, il119, il120, il122, il200, il255, il480, il500, il501, il512, il999, il4112, il41120, il1000000, il1000003, ii_add, ii_sub, ii_mul, ii_neg, ii_le, ii_lt, ii_eq, ii_div, q_I, q_V, q_R, lt_q, rZ_q, md_M, md_16, md_4, md_8, md_10, if_true, if_false, if_pos, if_neg, mg_3, mg_0, mg_1, mg_2, mg_k, mg_up3, mg_upk, n3, m1]
        · rintro m ⟨⟨b, l⟩, M2, h⟩ ⟨hJ, hs, hf, he⟩
          dsimp only at hs hf he ⊢
          have n3 : M2 0 3 = up M 0 0 0 0 3 := hf.1 3 (by omega)
          refine ⟨M2, h, ?_, hf, he⟩
          rw [← hs]
          simp (disch := first | assumption | omega) only [fX7_rowFor_42, nR1, nA1, nU1, nR2, nA2, nU2, nR3, nA3, nU3, nR4, nA4, nU4, nR5, nA5, nU5, nR6, nA6, nU6, nR7, nA7, nU7, nR8, nA8, nU8, nR9, nA9, nU9, nR10, nA10, nU10, nR11, nA11, nU11, nR12, nA12, nU12, nR13, nA13, nU13, nR14, nA14, nU14, nR15, nA15, nU15, nR16, nA16, nU16, nI0, nS0, nI1, nS1, nI2, nS2, nI3, nS3, nI4, nS4, nI5, nS5, nI6, nS6, nI7, nS7, nI8, nS8, nI9, nS9, nI15, nS15, nI18, nS18, nI19, nS19, nI20, nS20, nI21, nS21, nI22, nS22, nI23, nS23, nI24, nS24, nI25, nS25, nI26, nS26, nI27, nS27, nI32, nS32, nI36, nS36, nI37, nS37, nI40, nS40, nSZ1, nV, nC, ↓reduceIte, tr_lt, fa_lt, tr_le, fa_le, tr_eq, fa_eq, and_true, true_and, and_false, false_and, il0, il1, il2, il3, il4, il5, il6, il7, il8, il9, il10, il11, il12, il15, il16, il20, il24, il31, il32, il44, il45, il48, il50, il57, il58, il59, il63, il91, il93, il97, il99, il100, il109, il113, il119, il120, il122, il200, il255, il480, il500, il501, il512, il999, il4112, il41120, il1000000, il1000003, ii_add, ii_sub, ii_mul, ii_neg, ii_le, ii_lt, ii_eq, ii_div, q_I, q_V, q_R, lt_q, rZ_q, md_M, md_16, md_4, md_8, md_10, if_true, if_false, if_pos, if_neg, mg_3, mg_0, mg_1, mg_2, mg_k, mg_up3, mg_upk, n3]
      obtain ⟨A', x1, x2⟩ := hX
      obtain ⟨M', g2, y1, y2, y3⟩ := hY
      refine Good_aside hI (v := (rwN (fun i => if i < up M 0 0 0 0 3 then fiN (up M 0 0 0) g (A (pl + 3)) i L else 0) (up M 0 0 0 0 3).toNat).1) (A' := A') (J' := J) (M' := M') (g' := g2) ?_ ⟨fun b z hb => ?_, fun _ _ _ => rfl⟩ ?_ y2 y3
      · simp (disch := first | assumption | omega) only [fX6_rowFor, lkV hk, lkR0 hk, lkR1 hk, lkR2 hk, lkR3 hk, lkR4 hk, lkR5 hk, lkR6 hk, lkR7 hk, lkR8 hk, lkR9 hk, lkI hk, k_E, t_E, hc1, hbl, rwI1, rwS1, rwI2, rwS2, rwI4, rwS4, rwI5, rwS5, rwI7, rwS7, rwI8, rwS8, rwI9, rwS9, rwR0, rwR3, rwR6, rwA1, rwU1, rwA3, rwU3, rwV, rwJ, rwUJ, plI0, plS0, plI1, plS1, plI2, plS2, plI3, plS3, plI4, plS4, plI5, plS5, plI6, plS6, plI7, plS7, plR8, plR9, plR10, plA1, plU1, plA2, plU2, plA3, plU3, plV, stI2, stS2, stI3, stS3, stI4, stS4, stI5, stS5, stI6, stS6, stI7, stS7, stR0, stR1, stA2, stU2, stV, stRow, svI5, svS5, svI6, svS6, svI7, svS7, svR0, svR1, svR2, svR3, svR4, svA13, svU13, svA14, svU14, svA15, svU15, svA16, svU16, svV, svRow, svF, svUF, hiI1, hiS1, hiI2, hiS2, hiR0, hiV, hiRow, rdI2, rdS2, rdI3, rdS3, rdI4, rdS4, rdI5, rdS5, rdI6, rdS6, rdI7, rdS7, rdI8, rdS8, rdR0, rdR1, rdA1, rdU1, rdA2, rdU2, rdV, k_C, ↓reduceIte, tr_lt, fa_lt, tr_le, fa_le, tr_eq, fa_eq, and_true, true_and, and_false, false_and, il0, il1, il2, il3, il4, il5, il6, il7, il8, il9, il10, il11, il12, il15, il16, il20, il24, il31, il32, il44, il45, il48, il50, il57, il58, il59, il63, il91, il93, il97, il99, il100, il109, il113, il119, il120, il122, il200, il255, il480, il500, il501, il512, il999, il4112, il41120, il1000000, il1000003, ii_add, ii_sub, ii_mul, ii_neg, ii_le, ii_lt, ii_eq, ii_div, q_I, q_V, q_R, lt_q, rZ_q, md_M, md_16, md_4, md_8, md_10, if_true, if_false, if_pos, if_neg, e1, e2, x1]
      · have hb2 : ¬ inV 4 b := fun x => hb (Or.inl x)
        rw [x2 b z (fun x => hb2 (by unfold inV; omega)) (fun x => hb2 (by unfold inV; omega)), f2 b z hb2]
      · simp (disch := first | assumption | omega) only [fX7_rowFor, fX7_rowFor_24, nR1, nA1, nU1, nR2, nA2, nU2, nR3, nA3, nU3, nR4, nA4, nU4, nR5, nA5, nU5, nR6, nA6, nU6, nR7, nA7, nU7, nR8, nA8, nU8, nR9, nA9, nU9, nR10, nA10, nU10, nR11, nA11, nU11, nR12, nA12, nU12, nR13, nA13, nU13, nR14, nA14, nU14, nR15, nA15, nU15, nR16, nA16, nU16, nI0, nS0, nI1, nS1, nI2, nS2, nI3, nS3, nI4, nS4, nI5, nS5, nI6, nS6, nI7, nS7, nI8, nS8, nI9, nS9, nI15, nS15, nI18, nS18, nI19, nS19, nI20, nS20, nI21, nS21, nI22, nS22, nI23, nS23, nI24, nS24, nI25, nS25, nI26, nS26, nI27, nS27, nI32, nS32, nI36, nS36, nI37, nS37, nI40, nS40, nSZ1, nV, nC, ↓reduceIte, tr_lt, fa_lt, tr_le, fa_le, tr_eq, fa_eq, and_true, true_and, and_false, false_and, il0, il1, il2, il3, il4, il5, il6, il7, il8, il9, il10, il11, il12, il15, il16, il20, il24, il31, il32, il44, il45, il48, il50, il57, il58, il59, il63, il91, il93, il97, il99, il100, il109, il113, il119, il120, il122, il200, il255, il480, il500, il501, il512, il999, il4112, il41120, il1000000, il1000003, ii_add, ii_sub, ii_mul, ii_neg, ii_le, ii_lt, ii_eq, ii_div, q_I, q_V, q_R, lt_q, rZ_q, md_M, md_16, md_4, md_8, md_10, if_true, if_false, if_pos, if_neg, mg_3, mg_0, mg_1, mg_2, mg_k, mg_up3, mg_upk, e_notL1, hin, e_ref0, y1]
    · rw [if_neg q] at hin
      refine Good_no (code := 2) hI (E := "java/lang/IllegalArgumentException") (A' := A) (J' := J) ?_ (frm.refl _ _ _) (fun τ => (hF2 _ _ _ _ _ _ (by decide)).trans (hF1 _ _ 2 rfl _ _ _)) (by omega) (v := 0) ?_
      · rw [fX6_rowFor, lkV hk, hc1, k_C, q_V, c_nBL0 L q hib, k_E]
      · have hrf := e_ref1 (K := K) (M := up M 0 0 0) (g := g) h00 2 (by omega)
        simp (disch := first | assumption | omega) only [fX7_rowFor, nR1, nA1, nU1, nR2, nA2, nU2, nR3, nA3, nU3, nR4, nA4, nU4, nR5, nA5, nU5, nR6, nA6, nU6, nR7, nA7, nU7, nR8, nA8, nU8, nR9, nA9, nU9, nR10, nA10, nU10, nR11, nA11, nU11, nR12, nA12, nU12, nR13, nA13, nU13, nR14, nA14, nU14, nR15, nA15, nU15, nR16, nA16, nU16, nI0, nS0, nI1, nS1, nI2, nS2, nI3, nS3, nI4, nS4, nI5, nS5, nI6, nS6, nI7, nS7, nI8, nS8, nI9, nS9, nI15, nS15, nI18, nS18, nI19, nS19, nI20, nS20, nI21, nS21, nI22, nS22, nI23, nS23, nI24, nS24, nI25, nS25, nI26, nS26, nI27, nS27, nI32, nS32, nI36, nS36, nI37, nS37, nI40, nS40, nSZ1, nV, nC, ↓reduceIte, tr_lt, fa_lt, tr_le, fa_le, tr_eq, fa_eq, and_true, true_and, and_false, false_and, il0, il1, il2, il3, il4, il5, il6, il7, il8, il9, il10, il11, il12, il15, il16, il20, il24, il31, il32, il44, il45, il48, il50, il57, il58, il59, il63, il91, il93, il97, il99, il100, il109, il113, il119, il120, il122, il200, il255, il480, il500, il501, il512, il999, il4112, il41120, il1000000, il1000003, ii_add, ii_sub, ii_mul, ii_neg, ii_le, ii_lt, ii_eq, ii_div, q_I, q_V, q_R, lt_q, rZ_q, md_M, md_16, md_4, md_8, md_10, if_true, if_false, if_pos, if_neg, mg_3, mg_0, mg_1, mg_2, mg_k, mg_up3, mg_upk, e_notL1, hin]
        rw [fX7_rowFor_24, nV, il2, hrf, nC, q_I, if_neg (show ¬ ii 1 = (0 : Int32) by decide), up_up]
        rfl
  · obtain ⟨h10, h1⟩ := hI.nl hl
    refine Good_nl hI (v := 0) ?_ (hF_IS _ 1 rfl _ _) ?_
    · rw [fX6_rowFor, lkV hk, c_chase0 hk h10, k_E]
    · rw [fX7_rowFor, nV, e_notL0 h1, nC, q_I, if_neg (show ¬ ii 1 = (0 : Int32) by decide)]
      rfl
end OPS10
