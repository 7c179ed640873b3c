/-! THE CLASS'S CALLS, AS THE LAW MAKES THEM: those that read -/
theorem up_eqv {M : AI} {b : Nat} {z v : Int} (h : M b z = v) : up M b z v = M := by
  funext a y
  unfold up
  by_cases q : a = b ∧ y = z
  · rw [if_pos q, q.1, q.2, h]
  · rw [if_neg q]
section RDS
variable {C0 N0 n : Nat} {c : CC} {A : AI} {J : JI} {M : AI} {g : Int → Int} {pl sp tv cap : Nat}
/-- what the calls tell of settings, of counts, of a row, of a kind -/
def stv (M : AI) (w : Int) : Int := if w = 0 then M 0 2 else M 0 (w + 3)
def cnv (M : AI) (g : Int → Int) (w : Int) : Int := if w = 0 then M 0 3 else if w = 1 then M 0 9 else if w = 2 then g 0 else if w = 3 then sm (fun r => cel g r 0) (M 0 3) else if w = 4 then sm (fun r => cel g r 1) (M 0 3) else if w = 5 then sm (fun r => if gapM M g r = 0 ∧ cel g r 4 = 0 then 1 else 0) (M 0 3) else if w = 6 then g 1 else if w = 7 then g 2 else if w = 8 then g 3 else if w = 9 then g 4 else if w = 10 then g 5 else sm (fun k => g (6 + k)) (M 0 9)
def rwv (M : AI) (g : Int → Int) (r w : Int) : Int := if w = 0 then cel g r 0 else if w = 1 then cel g r 1 else if w = 2 then suB g r + uQ (M 0 4) g r + suP (M 2) g r else if w = 3 then gapM M g r else if w = 4 then cel g r 2 else if w = 5 then cel g r 4 else if w = 6 then suW (M 1) g r else if w = 7 then suB g r else if cel g r 2 = -1 then -1 else cel g r 3
def kdv (M : AI) (g : Int → Int) (k w : Int) : Int := if w = 0 then M 1 k else if w = 1 then M 2 k else if w = 2 then g (6 + k) else sm (fun r => cnt g r k) (M 0 3)
theorem d_setting (hI : Inv C0 N0 n pl sp tv cap c A J M g) (hl : M 0 1 = 1) (h0 : M 0 0 = 0) (w : Int) (hw : 0 ≤ w ∧ w < 6) : fX6_setting 0 (ii w) (CW c A J) = some (Sum.inl (some (Value.int (ii (stv M w)))), CW c A J) := by
  have hk := hI.1
  have hRd : isReader c 1 := hk.2.1.1
  have hSv : isSolver c 4 := hk.2.1.2.1
  have hHi : isHist c 21 := hk.2.1.2.2.1
  have hNow : isState c 303 := hk.2.1.2.2.2.1
  have hSpr : isState c 338 := hk.2.1.2.2.2.2.1
  have hPl : isPlan c pl := hk.2.2.2.1.2.1
  obtain ⟨h10, hM, hP, hS, hG⟩ := hI.ld hl
  rw [up_eqv h0] at hM hP hS hG
  obtain ⟨p0, p1, p2, p3, p4, p5, p6, p7⟩ := hP.1
  have hc1 := c_chase1 (A := A) (J := J) hk h10
  have h38 := hM.1.2.1
  have h910 := hM.1.2.2.2.2.2.2.2
  rcases (show w = 0 ∨ w = 1 ∨ w = 2 ∨ w = 3 ∨ w = 4 ∨ w = 5 by omega) with rfl | rfl | rfl | rfl | rfl | rfl
  · simp (disch := first | assumption | omega) only [fX6_setting, lkV hk, lkR0 hk, lkR1 hk, lkR2 hk, lkR3 hk, lkR4 hk, lkR5 hk, lkR6 hk, lkR7 hk, lkR8 hk, lkR9 hk, lkI hk, k_E, t_E, hc1, rwI1, rwS1, rwI2, rwS2, rwI4, rwS4, rwI5, rwS5, rwI7, rwS7, rwI8, rwS8, rwI9, rwS9, rwR0, rwR3, rwR6, rwA1, rwU1, rwA3, rwU3, rwV, rwJ, rwUJ, plI0, plS0, plI1, plS1, plI2, plS2, plI3, plS3, plI4, plS4, plI5, plS5, plI6, plS6, plI7, plS7, plR8, plR9, plR10, plA1, plU1, plA2, plU2, plA3, plU3, plV, stI2, stS2, stI3, stS3, stI4, stS4, stI5, stS5, stI6, stS6, stI7, stS7, stR0, stR1, stA2, stU2, stV, stRow, svI5, svS5, svI6, svS6, svI7, svS7, svR0, svR1, svR2, svR3, svR4, svA13, svU13, svA14, svU14, svA15, svU15, svA16, svU16, svV, svRow, svF, svUF, hiI1, hiS1, hiI2, hiS2, hiR0, hiV, hiRow, rdI2, rdS2, rdI3, rdS3, rdI4, rdS4, rdI5, rdS5, rdI6, rdS6, rdI7, rdS7, rdI8, rdS8, rdR0, rdR1, rdA1, rdU1, rdA2, rdU2, rdV, k_C, ↓reduceIte, tr_lt, fa_lt, tr_le, fa_le, tr_eq, fa_eq, and_true, true_and, and_false, false_and, il0, il1, il2, il3, il4, il5, il6, il7, il8, il9, il10, il11, il12, il15, il16, il20, il24, il31, il32, il44, il45, il48, il50, il57, il58, il59, il63, il91, il93, il97, il99, il100, il109, il113, il119, il120, il122, il200, il255, il480, il500, il501, il512, il999, il4112, il41120, il1000000, il1000003, ii_add, ii_sub, ii_mul, ii_neg, ii_le, ii_lt, ii_eq, ii_div, q_I, q_V, q_R, lt_q, rZ_q, md_M, md_16, md_4, md_8, md_10, if_true, if_false, if_pos, if_neg, p0]
    rfl
  · simp (disch := first | assumption | omega) only [fX6_setting, lkV hk, lkR0 hk, lkR1 hk, lkR2 hk, lkR3 hk, lkR4 hk, lkR5 hk, lkR6 hk, lkR7 hk, lkR8 hk, lkR9 hk, lkI hk, k_E, t_E, hc1, rwI1, rwS1, rwI2, rwS2, rwI4, rwS4, rwI5, rwS5, rwI7, rwS7, rwI8, rwS8, rwI9, rwS9, rwR0, rwR3, rwR6, rwA1, rwU1, rwA3, rwU3, rwV, rwJ, rwUJ, plI0, plS0, plI1, plS1, plI2, plS2, plI3, plS3, plI4, plS4, plI5, plS5, plI6, plS6, plI7, plS7, plR8, plR9, plR10, plA1, plU1, plA2, plU2, plA3, plU3, plV, stI2, stS2, stI3, stS3, stI4, stS4, stI5, stS5, stI6, stS6, stI7, stS7, stR0, stR1, stA2, stU2, stV, stRow, svI5, svS5, svI6, svS6, svI7, svS7, svR0, svR1, svR2, svR3, svR4, svA13, svU13, svA14, svU14, svA15, svU15, svA16, svU16, svV, svRow, svF, svUF, hiI1, hiS1, hiI2, hiS2, hiR0, hiV, hiRow, rdI2, rdS2, rdI3, rdS3, rdI4, rdS4, rdI5, rdS5, rdI6, rdS6, rdI7, rdS7, rdI8, rdS8, rdR0, rdR1, rdA1, rdU1, rdA2, rdU2, rdV, k_C, ↓reduceIte, tr_lt, fa_lt, tr_le, fa_le, tr_eq, fa_eq, and_true, true_and, and_false, false_and, il0, il1, il2, il3, il4, il5, il6, il7, il8, il9, il10, il11, il12, il15, il16, il20, il24, il31, il32, il44, il45, il48, il50, il57, il58, il59, il63, il91, il93, il97, il99, il100, il109, il113, il119, il120, il122, il200, il255, il480, il500, il501, il512, il999, il4112, il41120, il1000000, il1000003, ii_add, ii_sub, ii_mul, ii_neg, ii_le, ii_lt, ii_eq, ii_div, q_I, q_V, q_R, lt_q, rZ_q, md_M, md_16, md_4, md_8, md_10, if_true, if_false, if_pos, if_neg, p2]
    rfl
  · simp (disch := first | assumption | omega) only [fX6_setting, lkV hk, lkR0 hk, lkR1 hk, lkR2 hk, lkR3 hk, lkR4 hk, lkR5 hk, lkR6 hk, lkR7 hk, lkR8 hk, lkR9 hk, lkI hk, k_E, t_E, hc1, rwI1, rwS1, rwI2, rwS2, rwI4, rwS4, rwI5, rwS5, rwI7, rwS7, rwI8, rwS8, rwI9, rwS9, rwR0, rwR3, rwR6, rwA1, rwU1, rwA3, rwU3, rwV, rwJ, rwUJ, plI0, plS0, plI1, plS1, plI2, plS2, plI3, plS3, plI4, plS4, plI5, plS5, plI6, plS6, plI7, plS7, plR8, plR9, plR10, plA1, plU1, plA2, plU2, plA3, plU3, plV, stI2, stS2, stI3, stS3, stI4, stS4, stI5, stS5, stI6, stS6, stI7, stS7, stR0, stR1, stA2, stU2, stV, stRow, svI5, svS5, svI6, svS6, svI7, svS7, svR0, svR1, svR2, svR3, svR4, svA13, svU13, svA14, svU14, svA15, svU15, svA16, svU16, svV, svRow, svF, svUF, hiI1, hiS1, hiI2, hiS2, hiR0, hiV, hiRow, rdI2, rdS2, rdI3, rdS3, rdI4, rdS4, rdI5, rdS5, rdI6, rdS6, rdI7, rdS7, rdI8, rdS8, rdR0, rdR1, rdA1, rdU1, rdA2, rdU2, rdV, k_C, ↓reduceIte, tr_lt, fa_lt, tr_le, fa_le, tr_eq, fa_eq, and_true, true_and, and_false, false_and, il0, il1, il2, il3, il4, il5, il6, il7, il8, il9, il10, il11, il12, il15, il16, il20, il24, il31, il32, il44, il45, il48, il50, il57, il58, il59, il63, il91, il93, il97, il99, il100, il109, il113, il119, il120, il122, il200, il255, il480, il500, il501, il512, il999, il4112, il41120, il1000000, il1000003, ii_add, ii_sub, ii_mul, ii_neg, ii_le, ii_lt, ii_eq, ii_div, q_I, q_V, q_R, lt_q, rZ_q, md_M, md_16, md_4, md_8, md_10, if_true, if_false, if_pos, if_neg, p3]
    rfl
  · simp (disch := first | assumption | omega) only [fX6_setting, lkV hk, lkR0 hk, lkR1 hk, lkR2 hk, lkR3 hk, lkR4 hk, lkR5 hk, lkR6 hk, lkR7 hk, lkR8 hk, lkR9 hk, lkI hk, k_E, t_E, hc1, rwI1, rwS1, rwI2, rwS2, rwI4, rwS4, rwI5, rwS5, rwI7, rwS7, rwI8, rwS8, rwI9, rwS9, rwR0, rwR3, rwR6, rwA1, rwU1, rwA3, rwU3, rwV, rwJ, rwUJ, plI0, plS0, plI1, plS1, plI2, plS2, plI3, plS3, plI4, plS4, plI5, plS5, plI6, plS6, plI7, plS7, plR8, plR9, plR10, plA1, plU1, plA2, plU2, plA3, plU3, plV, stI2, stS2, stI3, stS3, stI4, stS4, stI5, stS5, stI6, stS6, stI7, stS7, stR0, stR1, stA2, stU2, stV, stRow, svI5, svS5, svI6, svS6, svI7, svS7, svR0, svR1, svR2, svR3, svR4, svA13, svU13, svA14, svU14, svA15, svU15, svA16, svU16, svV, svRow, svF, svUF, hiI1, hiS1, hiI2, hiS2, hiR0, hiV, hiRow, rdI2, rdS2, rdI3, rdS3, rdI4, rdS4, rdI5, rdS5, rdI6, rdS6, rdI7, rdS7, rdI8, rdS8, rdR0, rdR1, rdA1, rdU1, rdA2, rdU2, rdV, k_C, ↓reduceIte, tr_lt, fa_lt, tr_le, fa_le, tr_eq, fa_eq, and_true, true_and, and_false, false_and, il0, il1, il2, il3, il4, il5, il6, il7, il8, il9, il10, il11, il12, il15, il16, il20, il24, il31, il32, il44, il45, il48, il50, il57, il58, il59, il63, il91, il93, il97, il99, il100, il109, il113, il119, il120, il122, il200, il255, il480, il500, il501, il512, il999, il4112, il41120, il1000000, il1000003, ii_add, ii_sub, ii_mul, ii_neg, ii_le, ii_lt, ii_eq, ii_div, q_I, q_V, q_R, lt_q, rZ_q, md_M, md_16, md_4, md_8, md_10, if_true, if_false, if_pos, if_neg, p4]
    rfl
  · simp (disch := first | assumption | omega) only [fX6_setting, lkV hk, lkR0 hk, lkR1 hk, lkR2 hk, lkR3 hk, lkR4 hk, lkR5 hk, lkR6 hk, lkR7 hk, lkR8 hk, lkR9 hk, lkI hk, k_E, t_E, hc1, rwI1, rwS1, rwI2, rwS2, rwI4, rwS4, rwI5, rwS5, rwI7, rwS7, rwI8, rwS8, rwI9, rwS9, rwR0, rwR3, rwR6, rwA1, rwU1, rwA3, rwU3, rwV, rwJ, rwUJ, plI0, plS0, plI1, plS1, plI2, plS2, plI3, plS3, plI4, plS4, plI5, plS5, plI6, plS6, plI7, plS7, plR8, plR9, plR10, plA1, plU1, plA2, plU2, plA3, plU3, plV, stI2, stS2, stI3, stS3, stI4, stS4, stI5, stS5, stI6, stS6, stI7, stS7, stR0, stR1, stA2, stU2, stV, stRow, svI5, svS5, svI6, svS6, svI7, svS7, svR0, svR1, svR2, svR3, svR4, svA13, svU13, svA14, svU14, svA15, svU15, svA16, svU16, svV, svRow, svF, svUF, hiI1, hiS1, hiI2, hiS2, hiR0, hiV, hiRow, rdI2, rdS2, rdI3, rdS3, rdI4, rdS4, rdI5, rdS5, rdI6, rdS6, rdI7, rdS7, rdI8, rdS8, rdR0, rdR1, rdA1, rdU1, rdA2, rdU2, rdV, k_C, ↓reduceIte, tr_lt, fa_lt, tr_le, fa_le, tr_eq, fa_eq, and_true, true_and, and_false, false_and, il0, il1, il2, il3, il4, il5, il6, il7, il8, il9, il10, il11, il12, il15, il16, il20, il24, il31, il32, il44, il45, il48, il50, il57, il58, il59, il63, il91, il93, il97, il99, il100, il109, il113, il119, il120, il122, il200, il255, il480, il500, il501, il512, il999, il4112, il41120, il1000000, il1000003, ii_add, ii_sub, ii_mul, ii_neg, ii_le, ii_lt, ii_eq, ii_div, q_I, q_V, q_R, lt_q, rZ_q, md_M, md_16, md_4, md_8, md_10, if_true, if_false, if_pos, if_neg, p5]
    rfl
  · simp (disch := first | assumption | omega) only [fX6_setting, lkV hk, lkR0 hk, lkR1 hk, lkR2 hk, lkR3 hk, lkR4 hk, lkR5 hk, lkR6 hk, lkR7 hk, lkR8 hk, lkR9 hk, lkI hk, k_E, t_E, hc1, rwI1, rwS1, rwI2, rwS2, rwI4, rwS4, rwI5, rwS5, rwI7, rwS7, rwI8, rwS8, rwI9, rwS9, rwR0, rwR3, rwR6, rwA1, rwU1, rwA3, rwU3, rwV, rwJ, rwUJ, plI0, plS0, plI1, plS1, plI2, plS2, plI3, plS3, plI4, plS4, plI5, plS5, plI6, plS6, plI7, plS7, plR8, plR9, plR10, plA1, plU1, plA2, plU2, plA3, plU3, plV, stI2, stS2, stI3, stS3, stI4, stS4, stI5, stS5, stI6, stS6, stI7, stS7, stR0, stR1, stA2, stU2, stV, stRow, svI5, svS5, svI6, svS6, svI7, svS7, svR0, svR1, svR2, svR3, svR4, svA13, svU13, svA14, svU14, svA15, svU15, svA16, svU16, svV, svRow, svF, svUF, hiI1, hiS1, hiI2, hiS2, hiR0, hiV, hiRow, rdI2, rdS2, rdI3, rdS3, rdI4, rdS4, rdI5, rdS5, rdI6, rdS6, rdI7, rdS7, rdI8, rdS8, rdR0, rdR1, rdA1, rdU1, rdA2, rdU2, rdV, k_C, ↓reduceIte, tr_lt, fa_lt, tr_le, fa_le, tr_eq, fa_eq, and_true, true_and, and_false, false_and, il0, il1, il2, il3, il4, il5, il6, il7, il8, il9, il10, il11, il12, il15, il16, il20, il24, il31, il32, il44, il45, il48, il50, il57, il58, il59, il63, il91, il93, il97, il99, il100, il109, il113, il119, il120, il122, il200, il255, il480, il500, il501, il512, il999, il4112, il41120, il1000000, il1000003, ii_add, ii_sub, ii_mul, ii_neg, ii_le, ii_lt, ii_eq, ii_div, q_I, q_V, q_R, lt_q, rZ_q, md_M, md_16, md_4, md_8, md_10, if_true, if_false, if_pos, if_neg, p6]
    rfl
theorem d_setting6 (hI : Inv C0 N0 n pl sp tv cap c A J M g) (hl : M 0 1 = 1) (h0 : M 0 0 = 0) : fX6_setting 0 (ii 6) (CW c A J) = some (.inr "java/lang/IllegalArgumentException", CW (cU c) A J) := by
  have hk := hI.1
  have hRd : isReader c 1 := hk.2.1.1
  have hSv : isSolver c 4 := hk.2.1.2.1
  have hHi : isHist c 21 := hk.2.1.2.2.1
  have hNow : isState c 303 := hk.2.1.2.2.2.1
  have hSpr : isState c 338 := hk.2.1.2.2.2.2.1
  have hPl : isPlan c pl := hk.2.2.2.1.2.1
  obtain ⟨h10, hM, hP, hS, hG⟩ := hI.ld hl
  rw [up_eqv h0] at hM hP hS hG
  obtain ⟨p0, p1, p2, p3, p4, p5, p6, p7⟩ := hP.1
  have hc1 := c_chase1 (A := A) (J := J) hk h10
  have h38 := hM.1.2.1
  have h910 := hM.1.2.2.2.2.2.2.2
  simp (disch := first | assumption | omega) only [fX6_setting, lkV hk, lkR0 hk, lkR1 hk, lkR2 hk, lkR3 hk, lkR4 hk, lkR5 hk, lkR6 hk, lkR7 hk, lkR8 hk, lkR9 hk, lkI hk, k_E, t_E, hc1, rwI1, rwS1, rwI2, rwS2, rwI4, rwS4, rwI5, rwS5, rwI7, rwS7, rwI8, rwS8, rwI9, rwS9, rwR0, rwR3, rwR6, rwA1, rwU1, rwA3, rwU3, rwV, rwJ, rwUJ, plI0, plS0, plI1, plS1, plI2, plS2, plI3, plS3, plI4, plS4, plI5, plS5, plI6, plS6, plI7, plS7, plR8, plR9, plR10, plA1, plU1, plA2, plU2, plA3, plU3, plV, stI2, stS2, stI3, stS3, stI4, stS4, stI5, stS5, stI6, stS6, stI7, stS7, stR0, stR1, stA2, stU2, stV, stRow, svI5, svS5, svI6, svS6, svI7, svS7, svR0, svR1, svR2, svR3, svR4, svA13, svU13, svA14, svU14, svA15, svU15, svA16, svU16, svV, svRow, svF, svUF, hiI1, hiS1, hiI2, hiS2, hiR0, hiV, hiRow, rdI2, rdS2, rdI3, rdS3, rdI4, rdS4, rdI5, rdS5, rdI6, rdS6, rdI7, rdS7, rdI8, rdS8, rdR0, rdR1, rdA1, rdU1, rdA2, rdU2, rdV, k_C, ↓reduceIte, tr_lt, fa_lt, tr_le, fa_le, tr_eq, fa_eq, and_true, true_and, and_false, false_and, il0, il1, il2, il3, il4, il5, il6, il7, il8, il9, il10, il11, il12, il15, il16, il20, il24, il31, il32, il44, il45, il48, il50, il57, il58, il59, il63, il91, il93, il97, il99, il100, il109, il113, il119, il120, il122, il200, il255, il480, il500, il501, il512, il999, il4112, il41120, il1000000, il1000003, ii_add, ii_sub, ii_mul, ii_neg, ii_le, ii_lt, ii_eq, ii_div, q_I, q_V, q_R, lt_q, rZ_q, md_M, md_16, md_4, md_8, md_10, if_true, if_false, if_pos, if_neg]
theorem d_block (hI : Inv C0 N0 n pl sp tv cap c A J M g) (hl : M 0 1 = 1) (h0 : M 0 0 = 0) (r i : Int) (hr : 0 ≤ r ∧ r < M 0 3) (q : 0 ≤ i ∧ i < cel g r 0) : fX6_block 0 (ii r) (ii i) (CW c A J) = some (Sum.inl (some (Value.int (ii (cel g r (5 + i))))), CW c A J) := by
  have hk := hI.1
  have hRd : isReader c 1 := hk.2.1.1
  have hSv : isSolver c 4 := hk.2.1.2.1
  have hHi : isHist c 21 := hk.2.1.2.2.1
  have hNow : isState c 303 := hk.2.1.2.2.2.1
  have hSpr : isState c 338 := hk.2.1.2.2.2.2.1
  have hPl : isPlan c pl := hk.2.2.2.1.2.1
  obtain ⟨h10, hM, hP, hS, hG⟩ := hI.ld hl
  rw [up_eqv h0] at hM hP hS hG
  obtain ⟨p0, p1, p2, p3, p4, p5, p6, p7⟩ := hP.1
  have hc1 := c_chase1 (A := A) (J := J) hk h10
  have h38 := hM.1.2.1
  have h910 := hM.1.2.2.2.2.2.2.2
  have hcr := c_row1 (A := A) (J := J) hk h10 r (by rw [p1]; exact hr) (by rw [p1]; exact h38.2)
  have hr8 : 0 ≤ r ∧ r < 8 := by omega
  have hR := hNow.row r hr8
  have hrr := hS.2 r hr.1 (by omega)
  have hgr := hG.1.1 r hr.1 (by omega)
  have e1 := hrr.1.1
  have h1 := hgr.1
  have hba := c_blockAt (c := c) hR hrr hgr i q
  simp (disch := first | assumption | omega) only [fX6_block, lkV hk, lkR0 hk, lkR1 hk, lkR2 hk, lkR3 hk, lkR4 hk, lkR5 hk, lkR6 hk, lkR7 hk, lkR8 hk, lkR9 hk, lkI hk, k_E, t_E, hcr, rwI1, rwS1, rwI2, rwS2, rwI4, rwS4, rwI5, rwS5, rwI7, rwS7, rwI8, rwS8, rwI9, rwS9, rwR0, rwR3, rwR6, rwA1, rwU1, rwA3, rwU3, rwV, rwJ, rwUJ, plI0, plS0, plI1, plS1, plI2, plS2, plI3, plS3, plI4, plS4, plI5, plS5, plI6, plS6, plI7, plS7, plR8, plR9, plR10, plA1, plU1, plA2, plU2, plA3, plU3, plV, stI2, stS2, stI3, stS3, stI4, stS4, stI5, stS5, stI6, stS6, stI7, stS7, stR0, stR1, stA2, stU2, stV, stRow, svI5, svS5, svI6, svS6, svI7, svS7, svR0, svR1, svR2, svR3, svR4, svA13, svU13, svA14, svU14, svA15, svU15, svA16, svU16, svV, svRow, svF, svUF, hiI1, hiS1, hiI2, hiS2, hiR0, hiV, hiRow, rdI2, rdS2, rdI3, rdS3, rdI4, rdS4, rdI5, rdS5, rdI6, rdS6, rdI7, rdS7, rdI8, rdS8, rdR0, rdR1, rdA1, rdU1, rdA2, rdU2, rdV, k_C, ↓reduceIte, tr_lt, fa_lt, tr_le, fa_le, tr_eq, fa_eq, and_true, true_and, and_false, false_and, il0, il1, il2, il3, il4, il5, il6, il7, il8, il9, il10, il11, il12, il15, il16, il20, il24, il31, il32, il44, il45, il48, il50, il57, il58, il59, il63, il91, il93, il97, il99, il100, il109, il113, il119, il120, il122, il200, il255, il480, il500, il501, il512, il999, il4112, il41120, il1000000, il1000003, ii_add, ii_sub, ii_mul, ii_neg, ii_le, ii_lt, ii_eq, ii_div, q_I, q_V, q_R, lt_q, rZ_q, md_M, md_16, md_4, md_8, md_10, if_true, if_false, if_pos, if_neg, e1, c_index1, hba]
theorem d_block2 (hI : Inv C0 N0 n pl sp tv cap c A J M g) (hl : M 0 1 = 1) (h0 : M 0 0 = 0) (r : Int) (hr : 0 ≤ r ∧ r < M 0 3) : fX6_block 0 (ii r) (ii (cel g r 0)) (CW c A J) = some (.inr "java/lang/IndexOutOfBoundsException", CW (cU c) A J) := by
  have hk := hI.1
  have hRd : isReader c 1 := hk.2.1.1
  have hSv : isSolver c 4 := hk.2.1.2.1
  have hHi : isHist c 21 := hk.2.1.2.2.1
  have hNow : isState c 303 := hk.2.1.2.2.2.1
  have hSpr : isState c 338 := hk.2.1.2.2.2.2.1
  have hPl : isPlan c pl := hk.2.2.2.1.2.1
  obtain ⟨h10, hM, hP, hS, hG⟩ := hI.ld hl
  rw [up_eqv h0] at hM hP hS hG
  obtain ⟨p0, p1, p2, p3, p4, p5, p6, p7⟩ := hP.1
  have hc1 := c_chase1 (A := A) (J := J) hk h10
  have h38 := hM.1.2.1
  have h910 := hM.1.2.2.2.2.2.2.2
  have hcr := c_row1 (A := A) (J := J) hk h10 r (by rw [p1]; exact hr) (by rw [p1]; exact h38.2)
  have hr8 : 0 ≤ r ∧ r < 8 := by omega
  have hR := hNow.row r hr8
  have hrr := hS.2 r hr.1 (by omega)
  have hgr := hG.1.1 r hr.1 (by omega)
  have e1 := hrr.1.1
  have h1 := hgr.1
  have hci := c_index0 (c := c) (A := A) (J := J) (cel g r 0) (cel g r 0) (by omega) (by omega) (by omega)
  simp (disch := first | assumption | omega) only [fX6_block, lkV hk, lkR0 hk, lkR1 hk, lkR2 hk, lkR3 hk, lkR4 hk, lkR5 hk, lkR6 hk, lkR7 hk, lkR8 hk, lkR9 hk, lkI hk, k_E, t_E, hcr, rwI1, rwS1, rwI2, rwS2, rwI4, rwS4, rwI5, rwS5, rwI7, rwS7, rwI8, rwS8, rwI9, rwS9, rwR0, rwR3, rwR6, rwA1, rwU1, rwA3, rwU3, rwV, rwJ, rwUJ, plI0, plS0, plI1, plS1, plI2, plS2, plI3, plS3, plI4, plS4, plI5, plS5, plI6, plS6, plI7, plS7, plR8, plR9, plR10, plA1, plU1, plA2, plU2, plA3, plU3, plV, stI2, stS2, stI3, stS3, stI4, stS4, stI5, stS5, stI6, stS6, stI7, stS7, stR0, stR1, stA2, stU2, stV, stRow, svI5, svS5, svI6, svS6, svI7, svS7, svR0, svR1, svR2, svR3, svR4, svA13, svU13, svA14, svU14, svA15, svU15, svA16, svU16, svV, svRow, svF, svUF, hiI1, hiS1, hiI2, hiS2, hiR0, hiV, hiRow, rdI2, rdS2, rdI3, rdS3, rdI4, rdS4, rdI5, rdS5, rdI6, rdS6, rdI7, rdS7, rdI8, rdS8, rdR0, rdR1, rdA1, rdU1, rdA2, rdU2, rdV, k_C, ↓reduceIte, tr_lt, fa_lt, tr_le, fa_le, tr_eq, fa_eq, and_true, true_and, and_false, false_and, il0, il1, il2, il3, il4, il5, il6, il7, il8, il9, il10, il11, il12, il15, il16, il20, il24, il31, il32, il44, il45, il48, il50, il57, il58, il59, il63, il91, il93, il97, il99, il100, il109, il113, il119, il120, il122, il200, il255, il480, il500, il501, il512, il999, il4112, il41120, il1000000, il1000003, ii_add, ii_sub, ii_mul, ii_neg, ii_le, ii_lt, ii_eq, ii_div, q_I, q_V, q_R, lt_q, rZ_q, md_M, md_16, md_4, md_8, md_10, if_true, if_false, if_pos, if_neg, e1, hci]
theorem d_piece (hI : Inv C0 N0 n pl sp tv cap c A J M g) (hl : M 0 1 = 1) (h0 : M 0 0 = 0) (r i : Int) (hr : 0 ≤ r ∧ r < M 0 3) (q : 0 ≤ i ∧ i < cel g r 1) : fX6_piece 0 (ii r) (ii i) (CW c A J) = some (Sum.inl (some (Value.int (ii (cel g r (11 + i))))), CW c A J) := by
  have hk := hI.1
  have hRd : isReader c 1 := hk.2.1.1
  have hSv : isSolver c 4 := hk.2.1.2.1
  have hHi : isHist c 21 := hk.2.1.2.2.1
  have hNow : isState c 303 := hk.2.1.2.2.2.1
  have hSpr : isState c 338 := hk.2.1.2.2.2.2.1
  have hPl : isPlan c pl := hk.2.2.2.1.2.1
  obtain ⟨h10, hM, hP, hS, hG⟩ := hI.ld hl
  rw [up_eqv h0] at hM hP hS hG
  obtain ⟨p0, p1, p2, p3, p4, p5, p6, p7⟩ := hP.1
  have hc1 := c_chase1 (A := A) (J := J) hk h10
  have h38 := hM.1.2.1
  have h910 := hM.1.2.2.2.2.2.2.2
  have hcr := c_row1 (A := A) (J := J) hk h10 r (by rw [p1]; exact hr) (by rw [p1]; exact h38.2)
  have hr8 : 0 ≤ r ∧ r < 8 := by omega
  have hR := hNow.row r hr8
  have hrr := hS.2 r hr.1 (by omega)
  have hgr := hG.1.1 r hr.1 (by omega)
  have e1 := hrr.1.2.2.1
  have h1 := hgr.2.1
  have hba := c_pieceAt (c := c) (J := J) hR e1 h1 i q
  rw [hrr.2.2.1 i q.1 q.2] at hba
  simp (disch := first | assumption | omega) only [fX6_piece, lkV hk, lkR0 hk, lkR1 hk, lkR2 hk, lkR3 hk, lkR4 hk, lkR5 hk, lkR6 hk, lkR7 hk, lkR8 hk, lkR9 hk, lkI hk, k_E, t_E, hcr, rwI1, rwS1, rwI2, rwS2, rwI4, rwS4, rwI5, rwS5, rwI7, rwS7, rwI8, rwS8, rwI9, rwS9, rwR0, rwR3, rwR6, rwA1, rwU1, rwA3, rwU3, rwV, rwJ, rwUJ, plI0, plS0, plI1, plS1, plI2, plS2, plI3, plS3, plI4, plS4, plI5, plS5, plI6, plS6, plI7, plS7, plR8, plR9, plR10, plA1, plU1, plA2, plU2, plA3, plU3, plV, stI2, stS2, stI3, stS3, stI4, stS4, stI5, stS5, stI6, stS6, stI7, stS7, stR0, stR1, stA2, stU2, stV, stRow, svI5, svS5, svI6, svS6, svI7, svS7, svR0, svR1, svR2, svR3, svR4, svA13, svU13, svA14, svU14, svA15, svU15, svA16, svU16, svV, svRow, svF, svUF, hiI1, hiS1, hiI2, hiS2, hiR0, hiV, hiRow, rdI2, rdS2, rdI3, rdS3, rdI4, rdS4, rdI5, rdS5, rdI6, rdS6, rdI7, rdS7, rdI8, rdS8, rdR0, rdR1, rdA1, rdU1, rdA2, rdU2, rdV, k_C, ↓reduceIte, tr_lt, fa_lt, tr_le, fa_le, tr_eq, fa_eq, and_true, true_and, and_false, false_and, il0, il1, il2, il3, il4, il5, il6, il7, il8, il9, il10, il11, il12, il15, il16, il20, il24, il31, il32, il44, il45, il48, il50, il57, il58, il59, il63, il91, il93, il97, il99, il100, il109, il113, il119, il120, il122, il200, il255, il480, il500, il501, il512, il999, il4112, il41120, il1000000, il1000003, ii_add, ii_sub, ii_mul, ii_neg, ii_le, ii_lt, ii_eq, ii_div, q_I, q_V, q_R, lt_q, rZ_q, md_M, md_16, md_4, md_8, md_10, if_true, if_false, if_pos, if_neg, e1, c_index1, hba]
theorem d_piece2 (hI : Inv C0 N0 n pl sp tv cap c A J M g) (hl : M 0 1 = 1) (h0 : M 0 0 = 0) (r : Int) (hr : 0 ≤ r ∧ r < M 0 3) : fX6_piece 0 (ii r) (ii (cel g r 1)) (CW c A J) = some (.inr "java/lang/IndexOutOfBoundsException", CW (cU c) A J) := by
  have hk := hI.1
  have hRd : isReader c 1 := hk.2.1.1
  have hSv : isSolver c 4 := hk.2.1.2.1
  have hHi : isHist c 21 := hk.2.1.2.2.1
  have hNow : isState c 303 := hk.2.1.2.2.2.1
  have hSpr : isState c 338 := hk.2.1.2.2.2.2.1
  have hPl : isPlan c pl := hk.2.2.2.1.2.1
  obtain ⟨h10, hM, hP, hS, hG⟩ := hI.ld hl
  rw [up_eqv h0] at hM hP hS hG
  obtain ⟨p0, p1, p2, p3, p4, p5, p6, p7⟩ := hP.1
  have hc1 := c_chase1 (A := A) (J := J) hk h10
  have h38 := hM.1.2.1
  have h910 := hM.1.2.2.2.2.2.2.2
  have hcr := c_row1 (A := A) (J := J) hk h10 r (by rw [p1]; exact hr) (by rw [p1]; exact h38.2)
  have hr8 : 0 ≤ r ∧ r < 8 := by omega
  have hR := hNow.row r hr8
  have hrr := hS.2 r hr.1 (by omega)
  have hgr := hG.1.1 r hr.1 (by omega)
  have e1 := hrr.1.2.2.1
  have h1 := hgr.2.1
  have hci := c_index0 (c := c) (A := A) (J := J) (cel g r 1) (cel g r 1) (by omega) (by omega) (by omega)
  simp (disch := first | assumption | omega) only [fX6_piece, lkV hk, lkR0 hk, lkR1 hk, lkR2 hk, lkR3 hk, lkR4 hk, lkR5 hk, lkR6 hk, lkR7 hk, lkR8 hk, lkR9 hk, lkI hk, k_E, t_E, hcr, rwI1, rwS1, rwI2, rwS2, rwI4, rwS4, rwI5, rwS5, rwI7, rwS7, rwI8, rwS8, rwI9, rwS9, rwR0, rwR3, rwR6, rwA1, rwU1, rwA3, rwU3, rwV, rwJ, rwUJ, plI0, plS0, plI1, plS1, plI2, plS2, plI3, plS3, plI4, plS4, plI5, plS5, plI6, plS6, plI7, plS7, plR8, plR9, plR10, plA1, plU1, plA2, plU2, plA3, plU3, plV, stI2, stS2, stI3, stS3, stI4, stS4, stI5, stS5, stI6, stS6, stI7, stS7, stR0, stR1, stA2, stU2, stV, stRow, svI5, svS5, svI6, svS6, svI7, svS7, svR0, svR1, svR2, svR3, svR4, svA13, svU13, svA14, svU14, svA15, svU15, svA16, svU16, svV, svRow, svF, svUF, hiI1, hiS1, hiI2, hiS2, hiR0, hiV, hiRow, rdI2, rdS2, rdI3, rdS3, rdI4, rdS4, rdI5, rdS5, rdI6, rdS6, rdI7, rdS7, rdI8, rdS8, rdR0, rdR1, rdA1, rdU1, rdA2, rdU2, rdV, k_C, ↓reduceIte, tr_lt, fa_lt, tr_le, fa_le, tr_eq, fa_eq, and_true, true_and, and_false, false_and, il0, il1, il2, il3, il4, il5, il6, il7, il8, il9, il10, il11, il12, il15, il16, il20, il24, il31, il32, il44, il45, il48, il50, il57, il58, il59, il63, il91, il93, il97, il99, il100, il109, il113, il119, il120, il122, il200, il255, il480, il500, il501, il512, il999, il4112, il41120, il1000000, il1000003, ii_add, ii_sub, ii_mul, ii_neg, ii_le, ii_lt, ii_eq, ii_div, q_I, q_V, q_R, lt_q, rZ_q, md_M, md_16, md_4, md_8, md_10, if_true, if_false, if_pos, if_neg, e1, hci]
theorem d_row (hI : Inv C0 N0 n pl sp tv cap c A J M g) (hl : M 0 1 = 1) (h0 : M 0 0 = 0) (r w : Int) (hr : 0 ≤ r ∧ r < M 0 3) (hw : 0 ≤ w ∧ w < 9) : fX6_row 0 (ii r) (ii w) (CW c A J) = some (Sum.inl (some (Value.int (ii (rwv M g r w)))), CW c A J) := by
  have hk := hI.1
  have hRd : isReader c 1 := hk.2.1.1
  have hSv : isSolver c 4 := hk.2.1.2.1
  have hHi : isHist c 21 := hk.2.1.2.2.1
  have hNow : isState c 303 := hk.2.1.2.2.2.1
  have hSpr : isState c 338 := hk.2.1.2.2.2.2.1
  have hPl : isPlan c pl := hk.2.2.2.1.2.1
  obtain ⟨h10, hM, hP, hS, hG⟩ := hI.ld hl
  rw [up_eqv h0] at hM hP hS hG
  obtain ⟨p0, p1, p2, p3, p4, p5, p6, p7⟩ := hP.1
  have hc1 := c_chase1 (A := A) (J := J) hk h10
  have h38 := hM.1.2.1
  have h910 := hM.1.2.2.2.2.2.2.2
  have hcr := c_row1 (A := A) (J := J) hk h10 r (by rw [p1]; exact hr) (by rw [p1]; exact h38.2)
  have hr8 : 0 ≤ r ∧ r < 8 := by omega
  have hR := hNow.row r hr8
  have hrr := hS.2 r hr.1 (by omega)
  have hgr := hG.1.1 r hr.1 (by omega)
  obtain ⟨x1, x2, x4, x5, x7, x8, x9⟩ := hrr.1
  have hgp := c_gapIn (c := c) hR hPl hrr hgr p0 p2
  have hgb := gapM_b hM hgr
  rcases (show w = 0 ∨ w = 1 ∨ w = 2 ∨ w = 3 ∨ w = 4 ∨ w = 5 ∨ w = 6 ∨ w = 7 ∨ w = 8 by omega) with rfl | rfl | rfl | rfl | rfl | rfl | rfl | rfl | rfl
  · simp (disch := first | assumption | omega) only [fX6_row, lkV hk, lkR0 hk, lkR1 hk, lkR2 hk, lkR3 hk, lkR4 hk, lkR5 hk, lkR6 hk, lkR7 hk, lkR8 hk, lkR9 hk, lkI hk, k_E, t_E, hcr, rwI1, rwS1, rwI2, rwS2, rwI4, rwS4, rwI5, rwS5, rwI7, rwS7, rwI8, rwS8, rwI9, rwS9, rwR0, rwR3, rwR6, rwA1, rwU1, rwA3, rwU3, rwV, rwJ, rwUJ, plI0, plS0, plI1, plS1, plI2, plS2, plI3, plS3, plI4, plS4, plI5, plS5, plI6, plS6, plI7, plS7, plR8, plR9, plR10, plA1, plU1, plA2, plU2, plA3, plU3, plV, stI2, stS2, stI3, stS3, stI4, stS4, stI5, stS5, stI6, stS6, stI7, stS7, stR0, stR1, stA2, stU2, stV, stRow, svI5, svS5, svI6, svS6, svI7, svS7, svR0, svR1, svR2, svR3, svR4, svA13, svU13, svA14, svU14, svA15, svU15, svA16, svU16, svV, svRow, svF, svUF, hiI1, hiS1, hiI2, hiS2, hiR0, hiV, hiRow, rdI2, rdS2, rdI3, rdS3, rdI4, rdS4, rdI5, rdS5, rdI6, rdS6, rdI7, rdS7, rdI8, rdS8, rdR0, rdR1, rdA1, rdU1, rdA2, rdU2, rdV, k_C, ↓reduceIte, tr_lt, fa_lt, tr_le, fa_le, tr_eq, fa_eq, and_true, true_and, and_false, false_and, il0, il1, il2, il3, il4, il5, il6, il7, il8, il9, il10, il11, il12, il15, il16, il20, il24, il31, il32, il44, il45, il48, il50, il57, il58, il59, il63, il91, il93, il97, il99, il100, il109, il113, il119, il120, il122, il200, il255, il480, il500, il501, il512, il999, il4112, il41120, il1000000, il1000003, ii_add, ii_sub, ii_mul, ii_neg, ii_le, ii_lt, ii_eq, ii_div, q_I, q_V, q_R, lt_q, rZ_q, md_M, md_16, md_4, md_8, md_10, if_true, if_false, if_pos, if_neg, x1]
    rfl
  · simp (disch := first | assumption | omega) only [fX6_row, lkV hk, lkR0 hk, lkR1 hk, lkR2 hk, lkR3 hk, lkR4 hk, lkR5 hk, lkR6 hk, lkR7 hk, lkR8 hk, lkR9 hk, lkI hk, k_E, t_E, hcr, rwI1, rwS1, rwI2, rwS2, rwI4, rwS4, rwI5, rwS5, rwI7, rwS7, rwI8, rwS8, rwI9, rwS9, rwR0, rwR3, rwR6, rwA1, rwU1, rwA3, rwU3, rwV, rwJ, rwUJ, plI0, plS0, plI1, plS1, plI2, plS2, plI3, plS3, plI4, plS4, plI5, plS5, plI6, plS6, plI7, plS7, plR8, plR9, plR10, plA1, plU1, plA2, plU2, plA3, plU3, plV, stI2, stS2, stI3, stS3, stI4, stS4, stI5, stS5, stI6, stS6, stI7, stS7, stR0, stR1, stA2, stU2, stV, stRow, svI5, svS5, svI6, svS6, svI7, svS7, svR0, svR1, svR2, svR3, svR4, svA13, svU13, svA14, svU14, svA15, svU15, svA16, svU16, svV, svRow, svF, svUF, hiI1, hiS1, hiI2, hiS2, hiR0, hiV, hiRow, rdI2, rdS2, rdI3, rdS3, rdI4, rdS4, rdI5, rdS5, rdI6, rdS6, rdI7, rdS7, rdI8, rdS8, rdR0, rdR1, rdA1, rdU1, rdA2, rdU2, rdV, k_C, ↓reduceIte, tr_lt, fa_lt, tr_le, fa_le, tr_eq, fa_eq, and_true, true_and, and_false, false_and, il0, il1, il2, il3, il4, il5, il6, il7, il8, il9, il10, il11, il12, il15, il16, il20, il24, il31, il32, il44, il45, il48, il50, il57, il58, il59, il63, il91, il93, il97, il99, il100, il109, il113, il119, il120, il122, il200, il255, il480, il500, il501, il512, il999, il4112, il41120, il1000000, il1000003, ii_add, ii_sub, ii_mul, ii_neg, ii_le, ii_lt, ii_eq, ii_div, q_I, q_V, q_R, lt_q, rZ_q, md_M, md_16, md_4, md_8, md_10, if_true, if_false, if_pos, if_neg, x4]
    rfl
  · have e : rwv M g r 2 = suB g r + uQ (M 0 4) g r + suP (M 2) g r := rfl
    rw [e]
    simp (disch := first | assumption | omega) only [fX6_row, lkV hk, lkR0 hk, lkR1 hk, lkR2 hk, lkR3 hk, lkR4 hk, lkR5 hk, lkR6 hk, lkR7 hk, lkR8 hk, lkR9 hk, lkI hk, k_E, t_E, hcr, rwI1, rwS1, rwI2, rwS2, rwI4, rwS4, rwI5, rwS5, rwI7, rwS7, rwI8, rwS8, rwI9, rwS9, rwR0, rwR3, rwR6, rwA1, rwU1, rwA3, rwU3, rwV, rwJ, rwUJ, plI0, plS0, plI1, plS1, plI2, plS2, plI3, plS3, plI4, plS4, plI5, plS5, plI6, plS6, plI7, plS7, plR8, plR9, plR10, plA1, plU1, plA2, plU2, plA3, plU3, plV, stI2, stS2, stI3, stS3, stI4, stS4, stI5, stS5, stI6, stS6, stI7, stS7, stR0, stR1, stA2, stU2, stV, stRow, svI5, svS5, svI6, svS6, svI7, svS7, svR0, svR1, svR2, svR3, svR4, svA13, svU13, svA14, svU14, svA15, svU15, svA16, svU16, svV, svRow, svF, svUF, hiI1, hiS1, hiI2, hiS2, hiR0, hiV, hiRow, rdI2, rdS2, rdI3, rdS3, rdI4, rdS4, rdI5, rdS5, rdI6, rdS6, rdI7, rdS7, rdI8, rdS8, rdR0, rdR1, rdA1, rdU1, rdA2, rdU2, rdV, k_C, ↓reduceIte, tr_lt, fa_lt, tr_le, fa_le, tr_eq, fa_eq, and_true, true_and, and_false, false_and, il0, il1, il2, il3, il4, il5, il6, il7, il8, il9, il10, il11, il12, il15, il16, il20, il24, il31, il32, il44, il45, il48, il50, il57, il58, il59, il63, il91, il93, il97, il99, il100, il109, il113, il119, il120, il122, il200, il255, il480, il500, il501, il512, il999, il4112, il41120, il1000000, il1000003, ii_add, ii_sub, ii_mul, ii_neg, ii_le, ii_lt, ii_eq, ii_div, q_I, q_V, q_R, lt_q, rZ_q, md_M, md_16, md_4, md_8, md_10, if_true, if_false, if_pos, if_neg, hgp, p0]
    exact vcg (by unfold gapM; omega)
  · simp (disch := first | assumption | omega) only [fX6_row, lkV hk, lkR0 hk, lkR1 hk, lkR2 hk, lkR3 hk, lkR4 hk, lkR5 hk, lkR6 hk, lkR7 hk, lkR8 hk, lkR9 hk, lkI hk, k_E, t_E, hcr, rwI1, rwS1, rwI2, rwS2, rwI4, rwS4, rwI5, rwS5, rwI7, rwS7, rwI8, rwS8, rwI9, rwS9, rwR0, rwR3, rwR6, rwA1, rwU1, rwA3, rwU3, rwV, rwJ, rwUJ, plI0, plS0, plI1, plS1, plI2, plS2, plI3, plS3, plI4, plS4, plI5, plS5, plI6, plS6, plI7, plS7, plR8, plR9, plR10, plA1, plU1, plA2, plU2, plA3, plU3, plV, stI2, stS2, stI3, stS3, stI4, stS4, stI5, stS5, stI6, stS6, stI7, stS7, stR0, stR1, stA2, stU2, stV, stRow, svI5, svS5, svI6, svS6, svI7, svS7, svR0, svR1, svR2, svR3, svR4, svA13, svU13, svA14, svU14, svA15, svU15, svA16, svU16, svV, svRow, svF, svUF, hiI1, hiS1, hiI2, hiS2, hiR0, hiV, hiRow, rdI2, rdS2, rdI3, rdS3, rdI4, rdS4, rdI5, rdS5, rdI6, rdS6, rdI7, rdS7, rdI8, rdS8, rdR0, rdR1, rdA1, rdU1, rdA2, rdU2, rdV, k_C, ↓reduceIte, tr_lt, fa_lt, tr_le, fa_le, tr_eq, fa_eq, and_true, true_and, and_false, false_and, il0, il1, il2, il3, il4, il5, il6, il7, il8, il9, il10, il11, il12, il15, il16, il20, il24, il31, il32, il44, il45, il48, il50, il57, il58, il59, il63, il91, il93, il97, il99, il100, il109, il113, il119, il120, il122, il200, il255, il480, il500, il501, il512, il999, il4112, il41120, il1000000, il1000003, ii_add, ii_sub, ii_mul, ii_neg, ii_le, ii_lt, ii_eq, ii_div, q_I, q_V, q_R, lt_q, rZ_q, md_M, md_16, md_4, md_8, md_10, if_true, if_false, if_pos, if_neg, hgp]
    rfl
  · simp (disch := first | assumption | omega) only [fX6_row, lkV hk, lkR0 hk, lkR1 hk, lkR2 hk, lkR3 hk, lkR4 hk, lkR5 hk, lkR6 hk, lkR7 hk, lkR8 hk, lkR9 hk, lkI hk, k_E, t_E, hcr, rwI1, rwS1, rwI2, rwS2, rwI4, rwS4, rwI5, rwS5, rwI7, rwS7, rwI8, rwS8, rwI9, rwS9, rwR0, rwR3, rwR6, rwA1, rwU1, rwA3, rwU3, rwV, rwJ, rwUJ, plI0, plS0, plI1, plS1, plI2, plS2, plI3, plS3, plI4, plS4, plI5, plS5, plI6, plS6, plI7, plS7, plR8, plR9, plR10, plA1, plU1, plA2, plU2, plA3, plU3, plV, stI2, stS2, stI3, stS3, stI4, stS4, stI5, stS5, stI6, stS6, stI7, stS7, stR0, stR1, stA2, stU2, stV, stRow, svI5, svS5, svI6, svS6, svI7, svS7, svR0, svR1, svR2, svR3, svR4, svA13, svU13, svA14, svU14, svA15, svU15, svA16, svU16, svV, svRow, svF, svUF, hiI1, hiS1, hiI2, hiS2, hiR0, hiV, hiRow, rdI2, rdS2, rdI3, rdS3, rdI4, rdS4, rdI5, rdS5, rdI6, rdS6, rdI7, rdS7, rdI8, rdS8, rdR0, rdR1, rdA1, rdU1, rdA2, rdU2, rdV, k_C, ↓reduceIte, tr_lt, fa_lt, tr_le, fa_le, tr_eq, fa_eq, and_true, true_and, and_false, false_and, il0, il1, il2, il3, il4, il5, il6, il7, il8, il9, il10, il11, il12, il15, il16, il20, il24, il31, il32, il44, il45, il48, il50, il57, il58, il59, il63, il91, il93, il97, il99, il100, il109, il113, il119, il120, il122, il200, il255, il480, il500, il501, il512, il999, il4112, il41120, il1000000, il1000003, ii_add, ii_sub, ii_mul, ii_neg, ii_le, ii_lt, ii_eq, ii_div, q_I, q_V, q_R, lt_q, rZ_q, md_M, md_16, md_4, md_8, md_10, if_true, if_false, if_pos, if_neg, x7]
    rfl
  · simp (disch := first | assumption | omega) only [fX6_row, lkV hk, lkR0 hk, lkR1 hk, lkR2 hk, lkR3 hk, lkR4 hk, lkR5 hk, lkR6 hk, lkR7 hk, lkR8 hk, lkR9 hk, lkI hk, k_E, t_E, hcr, rwI1, rwS1, rwI2, rwS2, rwI4, rwS4, rwI5, rwS5, rwI7, rwS7, rwI8, rwS8, rwI9, rwS9, rwR0, rwR3, rwR6, rwA1, rwU1, rwA3, rwU3, rwV, rwJ, rwUJ, plI0, plS0, plI1, plS1, plI2, plS2, plI3, plS3, plI4, plS4, plI5, plS5, plI6, plS6, plI7, plS7, plR8, plR9, plR10, plA1, plU1, plA2, plU2, plA3, plU3, plV, stI2, stS2, stI3, stS3, stI4, stS4, stI5, stS5, stI6, stS6, stI7, stS7, stR0, stR1, stA2, stU2, stV, stRow, svI5, svS5, svI6, svS6, svI7, svS7, svR0, svR1, svR2, svR3, svR4, svA13, svU13, svA14, svU14, svA15, svU15, svA16, svU16, svV, svRow, svF, svUF, hiI1, hiS1, hiI2, hiS2, hiR0, hiV, hiRow, rdI2, rdS2, rdI3, rdS3, rdI4, rdS4, rdI5, rdS5, rdI6, rdS6, rdI7, rdS7, rdI8, rdS8, rdR0, rdR1, rdA1, rdU1, rdA2, rdU2, rdV, k_C, ↓reduceIte, tr_lt, fa_lt, tr_le, fa_le, tr_eq, fa_eq, and_true, true_and, and_false, false_and, il0, il1, il2, il3, il4, il5, il6, il7, il8, il9, il10, il11, il12, il15, il16, il20, il24, il31, il32, il44, il45, il48, il50, il57, il58, il59, il63, il91, il93, il97, il99, il100, il109, il113, il119, il120, il122, il200, il255, il480, il500, il501, il512, il999, il4112, il41120, il1000000, il1000003, ii_add, ii_sub, ii_mul, ii_neg, ii_le, ii_lt, ii_eq, ii_div, q_I, q_V, q_R, lt_q, rZ_q, md_M, md_16, md_4, md_8, md_10, if_true, if_false, if_pos, if_neg, x9]
    rfl
  · have hwd := c_woodIn (c := c) hR hPl hrr hgr hP hM (hG.1.2.2.2.1 r hr.1 (by omega))
    simp (disch := first | assumption | omega) only [fX6_row, lkV hk, lkR0 hk, lkR1 hk, lkR2 hk, lkR3 hk, lkR4 hk, lkR5 hk, lkR6 hk, lkR7 hk, lkR8 hk, lkR9 hk, lkI hk, k_E, t_E, hcr, rwI1, rwS1, rwI2, rwS2, rwI4, rwS4, rwI5, rwS5, rwI7, rwS7, rwI8, rwS8, rwI9, rwS9, rwR0, rwR3, rwR6, rwA1, rwU1, rwA3, rwU3, rwV, rwJ, rwUJ, plI0, plS0, plI1, plS1, plI2, plS2, plI3, plS3, plI4, plS4, plI5, plS5, plI6, plS6, plI7, plS7, plR8, plR9, plR10, plA1, plU1, plA2, plU2, plA3, plU3, plV, stI2, stS2, stI3, stS3, stI4, stS4, stI5, stS5, stI6, stS6, stI7, stS7, stR0, stR1, stA2, stU2, stV, stRow, svI5, svS5, svI6, svS6, svI7, svS7, svR0, svR1, svR2, svR3, svR4, svA13, svU13, svA14, svU14, svA15, svU15, svA16, svU16, svV, svRow, svF, svUF, hiI1, hiS1, hiI2, hiS2, hiR0, hiV, hiRow, rdI2, rdS2, rdI3, rdS3, rdI4, rdS4, rdI5, rdS5, rdI6, rdS6, rdI7, rdS7, rdI8, rdS8, rdR0, rdR1, rdA1, rdU1, rdA2, rdU2, rdV, k_C, ↓reduceIte, tr_lt, fa_lt, tr_le, fa_le, tr_eq, fa_eq, and_true, true_and, and_false, false_and, il0, il1, il2, il3, il4, il5, il6, il7, il8, il9, il10, il11, il12, il15, il16, il20, il24, il31, il32, il44, il45, il48, il50, il57, il58, il59, il63, il91, il93, il97, il99, il100, il109, il113, il119, il120, il122, il200, il255, il480, il500, il501, il512, il999, il4112, il41120, il1000000, il1000003, ii_add, ii_sub, ii_mul, ii_neg, ii_le, ii_lt, ii_eq, ii_div, q_I, q_V, q_R, lt_q, rZ_q, md_M, md_16, md_4, md_8, md_10, if_true, if_false, if_pos, if_neg, hwd]
    rfl
  · simp (disch := first | assumption | omega) only [fX6_row, lkV hk, lkR0 hk, lkR1 hk, lkR2 hk, lkR3 hk, lkR4 hk, lkR5 hk, lkR6 hk, lkR7 hk, lkR8 hk, lkR9 hk, lkI hk, k_E, t_E, hcr, rwI1, rwS1, rwI2, rwS2, rwI4, rwS4, rwI5, rwS5, rwI7, rwS7, rwI8, rwS8, rwI9, rwS9, rwR0, rwR3, rwR6, rwA1, rwU1, rwA3, rwU3, rwV, rwJ, rwUJ, plI0, plS0, plI1, plS1, plI2, plS2, plI3, plS3, plI4, plS4, plI5, plS5, plI6, plS6, plI7, plS7, plR8, plR9, plR10, plA1, plU1, plA2, plU2, plA3, plU3, plV, stI2, stS2, stI3, stS3, stI4, stS4, stI5, stS5, stI6, stS6, stI7, stS7, stR0, stR1, stA2, stU2, stV, stRow, svI5, svS5, svI6, svS6, svI7, svS7, svR0, svR1, svR2, svR3, svR4, svA13, svU13, svA14, svU14, svA15, svU15, svA16, svU16, svV, svRow, svF, svUF, hiI1, hiS1, hiI2, hiS2, hiR0, hiV, hiRow, rdI2, rdS2, rdI3, rdS3, rdI4, rdS4, rdI5, rdS5, rdI6, rdS6, rdI7, rdS7, rdI8, rdS8, rdR0, rdR1, rdA1, rdU1, rdA2, rdU2, rdV, k_C, ↓reduceIte, tr_lt, fa_lt, tr_le, fa_le, tr_eq, fa_eq, and_true, true_and, and_false, false_and, il0, il1, il2, il3, il4, il5, il6, il7, il8, il9, il10, il11, il12, il15, il16, il20, il24, il31, il32, il44, il45, il48, il50, il57, il58, il59, il63, il91, il93, il97, il99, il100, il109, il113, il119, il120, il122, il200, il255, il480, il500, il501, il512, il999, il4112, il41120, il1000000, il1000003, ii_add, ii_sub, ii_mul, ii_neg, ii_le, ii_lt, ii_eq, ii_div, q_I, q_V, q_R, lt_q, rZ_q, md_M, md_16, md_4, md_8, md_10, if_true, if_false, if_pos, if_neg, x2]
    rfl
  · have h7 := hgr.2.2.2.2.1
    have hq := c_hasQuoin (A := A) (J := J) hR (by rw [x7]; exact h7)
    rw [x7] at hq
    by_cases y : cel g r 2 = -1
    · rw [if_pos y] at hq
      have e : rwv M g r 8 = -1 := if_pos y
      rw [e]
      simp (disch := first | assumption | omega) only [fX6_row, lkV hk, lkR0 hk, lkR1 hk, lkR2 hk, lkR3 hk, lkR4 hk, lkR5 hk, lkR6 hk, lkR7 hk, lkR8 hk, lkR9 hk, lkI hk, k_E, t_E, hcr, rwI1, rwS1, rwI2, rwS2, rwI4, rwS4, rwI5, rwS5, rwI7, rwS7, rwI8, rwS8, rwI9, rwS9, rwR0, rwR3, rwR6, rwA1, rwU1, rwA3, rwU3, rwV, rwJ, rwUJ, plI0, plS0, plI1, plS1, plI2, plS2, plI3, plS3, plI4, plS4, plI5, plS5, plI6, plS6, plI7, plS7, plR8, plR9, plR10, plA1, plU1, plA2, plU2, plA3, plU3, plV, stI2, stS2, stI3, stS3, stI4, stS4, stI5, stS5, stI6, stS6, stI7, stS7, stR0, stR1, stA2, stU2, stV, stRow, svI5, svS5, svI6, svS6, svI7, svS7, svR0, svR1, svR2, svR3, svR4, svA13, svU13, svA14, svU14, svA15, svU15, svA16, svU16, svV, svRow, svF, svUF, hiI1, hiS1, hiI2, hiS2, hiR0, hiV, hiRow, rdI2, rdS2, rdI3, rdS3, rdI4, rdS4, rdI5, rdS5, rdI6, rdS6, rdI7, rdS7, rdI8, rdS8, rdR0, rdR1, rdA1, rdU1, rdA2, rdU2, rdV, k_C, ↓reduceIte, tr_lt, fa_lt, tr_le, fa_le, tr_eq, fa_eq, and_true, true_and, and_false, false_and, il0, il1, il2, il3, il4, il5, il6, il7, il8, il9, il10, il11, il12, il15, il16, il20, il24, il31, il32, il44, il45, il48, il50, il57, il58, il59, il63, il91, il93, il97, il99, il100, il109, il113, il119, il120, il122, il200, il255, il480, il500, il501, il512, il999, il4112, il41120, il1000000, il1000003, ii_add, ii_sub, ii_mul, ii_neg, ii_le, ii_lt, ii_eq, ii_div, q_I, q_V, q_R, lt_q, rZ_q, md_M, md_16, md_4, md_8, md_10, if_true, if_false, if_pos, if_neg, hq]
    · rw [if_neg y] at hq
      have e : rwv M g r 8 = cel g r 3 := if_neg y
      rw [e]
      simp (disch := first | assumption | omega) only [fX6_row, lkV hk, lkR0 hk, lkR1 hk, lkR2 hk, lkR3 hk, lkR4 hk, lkR5 hk, lkR6 hk, lkR7 hk, lkR8 hk, lkR9 hk, lkI hk, k_E, t_E, hcr, rwI1, rwS1, rwI2, rwS2, rwI4, rwS4, rwI5, rwS5, rwI7, rwS7, rwI8, rwS8, rwI9, rwS9, rwR0, rwR3, rwR6, rwA1, rwU1, rwA3, rwU3, rwV, rwJ, rwUJ, plI0, plS0, plI1, plS1, plI2, plS2, plI3, plS3, plI4, plS4, plI5, plS5, plI6, plS6, plI7, plS7, plR8, plR9, plR10, plA1, plU1, plA2, plU2, plA3, plU3, plV, stI2, stS2, stI3, stS3, stI4, stS4, stI5, stS5, stI6, stS6, stI7, stS7, stR0, stR1, stA2, stU2, stV, stRow, svI5, svS5, svI6, svS6, svI7, svS7, svR0, svR1, svR2, svR3, svR4, svA13, svU13, svA14, svU14, svA15, svU15, svA16, svU16, svV, svRow, svF, svUF, hiI1, hiS1, hiI2, hiS2, hiR0, hiV, hiRow, rdI2, rdS2, rdI3, rdS3, rdI4, rdS4, rdI5, rdS5, rdI6, rdS6, rdI7, rdS7, rdI8, rdS8, rdR0, rdR1, rdA1, rdU1, rdA2, rdU2, rdV, k_C, ↓reduceIte, tr_lt, fa_lt, tr_le, fa_le, tr_eq, fa_eq, and_true, true_and, and_false, false_and, il0, il1, il2, il3, il4, il5, il6, il7, il8, il9, il10, il11, il12, il15, il16, il20, il24, il31, il32, il44, il45, il48, il50, il57, il58, il59, il63, il91, il93, il97, il99, il100, il109, il113, il119, il120, il122, il200, il255, il480, il500, il501, il512, il999, il4112, il41120, il1000000, il1000003, ii_add, ii_sub, ii_mul, ii_neg, ii_le, ii_lt, ii_eq, ii_div, q_I, q_V, q_R, lt_q, rZ_q, md_M, md_16, md_4, md_8, md_10, if_true, if_false, if_pos, if_neg, hq, x8]
theorem d_row9 (hI : Inv C0 N0 n pl sp tv cap c A J M g) (hl : M 0 1 = 1) (h0 : M 0 0 = 0) (r : Int) (hr : 0 ≤ r ∧ r < M 0 3) : fX6_row 0 (ii r) (ii 9) (CW c A J) = some (.inr "java/lang/IllegalArgumentException", CW (cU c) A J) := by
  have hk := hI.1
  have hRd : isReader c 1 := hk.2.1.1
  have hSv : isSolver c 4 := hk.2.1.2.1
  have hHi : isHist c 21 := hk.2.1.2.2.1
  have hNow : isState c 303 := hk.2.1.2.2.2.1
  have hSpr : isState c 338 := hk.2.1.2.2.2.2.1
  have hPl : isPlan c pl := hk.2.2.2.1.2.1
  obtain ⟨h10, hM, hP, hS, hG⟩ := hI.ld hl
  rw [up_eqv h0] at hM hP hS hG
  obtain ⟨p0, p1, p2, p3, p4, p5, p6, p7⟩ := hP.1
  have hc1 := c_chase1 (A := A) (J := J) hk h10
  have h38 := hM.1.2.1
  have h910 := hM.1.2.2.2.2.2.2.2
  have hcr := c_row1 (A := A) (J := J) hk h10 r (by rw [p1]; exact hr) (by rw [p1]; exact h38.2)
  have hr8 : 0 ≤ r ∧ r < 8 := by omega
  have hR := hNow.row r hr8
  have hrr := hS.2 r hr.1 (by omega)
  have hgr := hG.1.1 r hr.1 (by omega)
  rw [fX6_row, lkV hk, hcr, k_C, q_R, il0, il1, il2, il3, il4, il5, il6, il7, il8, if_neg (by decide), if_neg (by decide), if_neg (by decide), if_neg (by decide), if_neg (by decide), if_neg (by decide), if_neg (by decide), if_neg (by decide), if_neg (by decide), t_E]
theorem d_rowN (hI : Inv C0 N0 n pl sp tv cap c A J M g) (hl : M 0 1 = 1) (h0 : M 0 0 = 0) (w : Int) : fX6_row 0 (ii (M 0 3)) (ii w) (CW c A J) = some (.inr "java/lang/IndexOutOfBoundsException", CW (cU c) A J) := by
  have hk := hI.1
  have hRd : isReader c 1 := hk.2.1.1
  have hSv : isSolver c 4 := hk.2.1.2.1
  have hHi : isHist c 21 := hk.2.1.2.2.1
  have hNow : isState c 303 := hk.2.1.2.2.2.1
  have hSpr : isState c 338 := hk.2.1.2.2.2.2.1
  have hPl : isPlan c pl := hk.2.2.2.1.2.1
  obtain ⟨h10, hM, hP, hS, hG⟩ := hI.ld hl
  rw [up_eqv h0] at hM hP hS hG
  obtain ⟨p0, p1, p2, p3, p4, p5, p6, p7⟩ := hP.1
  have hc1 := c_chase1 (A := A) (J := J) hk h10
  have h38 := hM.1.2.1
  have h910 := hM.1.2.2.2.2.2.2.2
  have hcr := c_row0 (A := A) (J := J) hk h10 (M 0 3) (by rw [p1]; omega) (by rw [p1]; omega) (by omega)
  rw [fX6_row, lkV hk, hcr, k_E]
theorem d_isTight (hI : Inv C0 N0 n pl sp tv cap c A J M g) (hl : M 0 1 = 1) (h0 : M 0 0 = 0) (r : Int) (hr : 0 ≤ r ∧ r < M 0 3) : fX6_isTight 0 (ii r) (CW c A J) = some (Sum.inl (some (Value.int (ii (if gapM M g r = 0 ∧ cel g r 4 = 0 then 1 else 0)))), CW c A J) := by
  have hk := hI.1
  have hRd : isReader c 1 := hk.2.1.1
  have hSv : isSolver c 4 := hk.2.1.2.1
  have hHi : isHist c 21 := hk.2.1.2.2.1
  have hNow : isState c 303 := hk.2.1.2.2.2.1
  have hSpr : isState c 338 := hk.2.1.2.2.2.2.1
  have hPl : isPlan c pl := hk.2.2.2.1.2.1
  obtain ⟨h10, hM, hP, hS, hG⟩ := hI.ld hl
  rw [up_eqv h0] at hM hP hS hG
  obtain ⟨p0, p1, p2, p3, p4, p5, p6, p7⟩ := hP.1
  have hc1 := c_chase1 (A := A) (J := J) hk h10
  have h38 := hM.1.2.1
  have h910 := hM.1.2.2.2.2.2.2.2
  have hcr := c_row1 (A := A) (J := J) hk h10 r (by rw [p1]; exact hr) (by rw [p1]; exact h38.2)
  have hr8 : 0 ≤ r ∧ r < 8 := by omega
  have hR := hNow.row r hr8
  have hrr := hS.2 r hr.1 (by omega)
  have hgr := hG.1.1 r hr.1 (by omega)
  have h1 := c_isTightIn (c := c) hR hPl hrr hgr hM p0 p2
  by_cases y : gapM M g r = 0 ∧ cel g r 4 = 0
  · rw [if_pos y] at h1 ⊢
    simp (disch := first | assumption | omega) only [fX6_isTight, lkV hk, lkR0 hk, lkR1 hk, lkR2 hk, lkR3 hk, lkR4 hk, lkR5 hk, lkR6 hk, lkR7 hk, lkR8 hk, lkR9 hk, lkI hk, k_E, t_E, hcr, rwI1, rwS1, rwI2, rwS2, rwI4, rwS4, rwI5, rwS5, rwI7, rwS7, rwI8, rwS8, rwI9, rwS9, rwR0, rwR3, rwR6, rwA1, rwU1, rwA3, rwU3, rwV, rwJ, rwUJ, plI0, plS0, plI1, plS1, plI2, plS2, plI3, plS3, plI4, plS4, plI5, plS5, plI6, plS6, plI7, plS7, plR8, plR9, plR10, plA1, plU1, plA2, plU2, plA3, plU3, plV, stI2, stS2, stI3, stS3, stI4, stS4, stI5, stS5, stI6, stS6, stI7, stS7, stR0, stR1, stA2, stU2, stV, stRow, svI5, svS5, svI6, svS6, svI7, svS7, svR0, svR1, svR2, svR3, svR4, svA13, svU13, svA14, svU14, svA15, svU15, svA16, svU16, svV, svRow, svF, svUF, hiI1, hiS1, hiI2, hiS2, hiR0, hiV, hiRow, rdI2, rdS2, rdI3, rdS3, rdI4, rdS4, rdI5, rdS5, rdI6, rdS6, rdI7, rdS7, rdI8, rdS8, rdR0, rdR1, rdA1, rdU1, rdA2, rdU2, rdV, k_C, ↓reduceIte, tr_lt, fa_lt, tr_le, fa_le, tr_eq, fa_eq, and_true, true_and, and_false, false_and, il0, il1, il2, il3, il4, il5, il6, il7, il8, il9, il10, il11, il12, il15, il16, il20, il24, il31, il32, il44, il45, il48, il50, il57, il58, il59, il63, il91, il93, il97, il99, il100, il109, il113, il119, il120, il122, il200, il255, il480, il500, il501, il512, il999, il4112, il41120, il1000000, il1000003, ii_add, ii_sub, ii_mul, ii_neg, ii_le, ii_lt, ii_eq, ii_div, q_I, q_V, q_R, lt_q, rZ_q, md_M, md_16, md_4, md_8, md_10, if_true, if_false, if_pos, if_neg, h1]
  · rw [if_neg y] at h1 ⊢
    simp (disch := first | assumption | omega) only [fX6_isTight, lkV hk, lkR0 hk, lkR1 hk, lkR2 hk, lkR3 hk, lkR4 hk, lkR5 hk, lkR6 hk, lkR7 hk, lkR8 hk, lkR9 hk, lkI hk, k_E, t_E, hcr, rwI1, rwS1, rwI2, rwS2, rwI4, rwS4, rwI5, rwS5, rwI7, rwS7, rwI8, rwS8, rwI9, rwS9, rwR0, rwR3, rwR6, rwA1, rwU1, rwA3, rwU3, rwV, rwJ, rwUJ, plI0, plS0, plI1, plS1, plI2, plS2, plI3, plS3, plI4, plS4, plI5, plS5, plI6, plS6, plI7, plS7, plR8, plR9, plR10, plA1, plU1, plA2, plU2, plA3, plU3, plV, stI2, stS2, stI3, stS3, stI4, stS4, stI5, stS5, stI6, stS6, stI7, stS7, stR0, stR1, stA2, stU2, stV, stRow, svI5, svS5, svI6, svS6, svI7, svS7, svR0, svR1, svR2, svR3, svR4, svA13, svU13, svA14, svU14, svA15, svU15, svA16, svU16, svV, svRow, svF, svUF, hiI1, hiS1, hiI2, hiS2, hiR0, hiV, hiRow, rdI2, rdS2, rdI3, rdS3, rdI4, rdS4, rdI5, rdS5, rdI6, rdS6, rdI7, rdS7, rdI8, rdS8, rdR0, rdR1, rdA1, rdU1, rdA2, rdU2, rdV, k_C, ↓reduceIte, tr_lt, fa_lt, tr_le, fa_le, tr_eq, fa_eq, and_true, true_and, and_false, false_and, il0, il1, il2, il3, il4, il5, il6, il7, il8, il9, il10, il11, il12, il15, il16, il20, il24, il31, il32, il44, il45, il48, il50, il57, il58, il59, il63, il91, il93, il97, il99, il100, il109, il113, il119, il120, il122, il200, il255, il480, il500, il501, il512, il999, il4112, il41120, il1000000, il1000003, ii_add, ii_sub, ii_mul, ii_neg, ii_le, ii_lt, ii_eq, ii_div, q_I, q_V, q_R, lt_q, rZ_q, md_M, md_16, md_4, md_8, md_10, if_true, if_false, if_pos, if_neg, h1]
theorem d_canPut (hI : Inv C0 N0 n pl sp tv cap c A J M g) (hl : M 0 1 = 1) (h0 : M 0 0 = 0) (r k : Int) (hr : 0 ≤ r ∧ r < M 0 3) (hkd : 0 ≤ k ∧ k < M 0 9) : fX6_canPut 0 (ii r) (ii k) (CW c A J) = some (Sum.inl (some (Value.int (ii (if 0 < g (6 + k) ∧ M 2 k ≤ gapM M g r then 1 else 0)))), CW c A J) := by
  have hk := hI.1
  have hRd : isReader c 1 := hk.2.1.1
  have hSv : isSolver c 4 := hk.2.1.2.1
  have hHi : isHist c 21 := hk.2.1.2.2.1
  have hNow : isState c 303 := hk.2.1.2.2.2.1
  have hSpr : isState c 338 := hk.2.1.2.2.2.2.1
  have hPl : isPlan c pl := hk.2.2.2.1.2.1
  obtain ⟨h10, hM, hP, hS, hG⟩ := hI.ld hl
  rw [up_eqv h0] at hM hP hS hG
  obtain ⟨p0, p1, p2, p3, p4, p5, p6, p7⟩ := hP.1
  have hc1 := c_chase1 (A := A) (J := J) hk h10
  have h38 := hM.1.2.1
  have h910 := hM.1.2.2.2.2.2.2.2
  have hcr := c_row1 (A := A) (J := J) hk h10 r (by rw [p1]; exact hr) (by rw [p1]; exact h38.2)
  have hr8 : 0 ≤ r ∧ r < 8 := by omega
  have hR := hNow.row r hr8
  have hrr := hS.2 r hr.1 (by omega)
  have hgr := hG.1.1 r hr.1 (by omega)
  have hck := c_kind1 (A := A) (J := J) hk k (by rw [p7]; exact hkd) (by rw [p7]; omega)
  have hL := hG.GL k hkd.1 (by omega)
  have htp := c_takesPiece (c := c) hk hNow hPl r k hr8 (by omega) hM hS hG.1.1 p0 p2 (hP.2.1 k hkd.1 hkd.2).2 hL
  by_cases y : 0 < g (6 + k) ∧ M 2 k ≤ gapM M g r
  · rw [if_pos y] at htp ⊢
    simp (disch := first | assumption | omega) only [fX6_canPut, lkV hk, lkR0 hk, lkR1 hk, lkR2 hk, lkR3 hk, lkR4 hk, lkR5 hk, lkR6 hk, lkR7 hk, lkR8 hk, lkR9 hk, lkI hk, k_E, t_E, hcr, hck, rwI1, rwS1, rwI2, rwS2, rwI4, rwS4, rwI5, rwS5, rwI7, rwS7, rwI8, rwS8, rwI9, rwS9, rwR0, rwR3, rwR6, rwA1, rwU1, rwA3, rwU3, rwV, rwJ, rwUJ, plI0, plS0, plI1, plS1, plI2, plS2, plI3, plS3, plI4, plS4, plI5, plS5, plI6, plS6, plI7, plS7, plR8, plR9, plR10, plA1, plU1, plA2, plU2, plA3, plU3, plV, stI2, stS2, stI3, stS3, stI4, stS4, stI5, stS5, stI6, stS6, stI7, stS7, stR0, stR1, stA2, stU2, stV, stRow, svI5, svS5, svI6, svS6, svI7, svS7, svR0, svR1, svR2, svR3, svR4, svA13, svU13, svA14, svU14, svA15, svU15, svA16, svU16, svV, svRow, svF, svUF, hiI1, hiS1, hiI2, hiS2, hiR0, hiV, hiRow, rdI2, rdS2, rdI3, rdS3, rdI4, rdS4, rdI5, rdS5, rdI6, rdS6, rdI7, rdS7, rdI8, rdS8, rdR0, rdR1, rdA1, rdU1, rdA2, rdU2, rdV, k_C, ↓reduceIte, tr_lt, fa_lt, tr_le, fa_le, tr_eq, fa_eq, and_true, true_and, and_false, false_and, il0, il1, il2, il3, il4, il5, il6, il7, il8, il9, il10, il11, il12, il15, il16, il20, il24, il31, il32, il44, il45, il48, il50, il57, il58, il59, il63, il91, il93, il97, il99, il100, il109, il113, il119, il120, il122, il200, il255, il480, il500, il501, il512, il999, il4112, il41120, il1000000, il1000003, ii_add, ii_sub, ii_mul, ii_neg, ii_le, ii_lt, ii_eq, ii_div, q_I, q_V, q_R, lt_q, rZ_q, md_M, md_16, md_4, md_8, md_10, if_true, if_false, if_pos, if_neg, htp]
  · rw [if_neg y] at htp ⊢
    simp (disch := first | assumption | omega) only [fX6_canPut, lkV hk, lkR0 hk, lkR1 hk, lkR2 hk, lkR3 hk, lkR4 hk, lkR5 hk, lkR6 hk, lkR7 hk, lkR8 hk, lkR9 hk, lkI hk, k_E, t_E, hcr, hck, rwI1, rwS1, rwI2, rwS2, rwI4, rwS4, rwI5, rwS5, rwI7, rwS7, rwI8, rwS8, rwI9, rwS9, rwR0, rwR3, rwR6, rwA1, rwU1, rwA3, rwU3, rwV, rwJ, rwUJ, plI0, plS0, plI1, plS1, plI2, plS2, plI3, plS3, plI4, plS4, plI5, plS5, plI6, plS6, plI7, plS7, plR8, plR9, plR10, plA1, plU1, plA2, plU2, plA3, plU3, plV, stI2, stS2, stI3, stS3, stI4, stS4, stI5, stS5, stI6, stS6, stI7, stS7, stR0, stR1, stA2, stU2, stV, stRow, svI5, svS5, svI6, svS6, svI7, svS7, svR0, svR1, svR2, svR3, svR4, svA13, svU13, svA14, svU14, svA15, svU15, svA16, svU16, svV, svRow, svF, svUF, hiI1, hiS1, hiI2, hiS2, hiR0, hiV, hiRow, rdI2, rdS2, rdI3, rdS3, rdI4, rdS4, rdI5, rdS5, rdI6, rdS6, rdI7, rdS7, rdI8, rdS8, rdR0, rdR1, rdA1, rdU1, rdA2, rdU2, rdV, k_C, ↓reduceIte, tr_lt, fa_lt, tr_le, fa_le, tr_eq, fa_eq, and_true, true_and, and_false, false_and, il0, il1, il2, il3, il4, il5, il6, il7, il8, il9, il10, il11, il12, il15, il16, il20, il24, il31, il32, il44, il45, il48, il50, il57, il58, il59, il63, il91, il93, il97, il99, il100, il109, il113, il119, il120, il122, il200, il255, il480, il500, il501, il512, il999, il4112, il41120, il1000000, il1000003, ii_add, ii_sub, ii_mul, ii_neg, ii_le, ii_lt, ii_eq, ii_div, q_I, q_V, q_R, lt_q, rZ_q, md_M, md_16, md_4, md_8, md_10, if_true, if_false, if_pos, if_neg, htp]
theorem d_kindOf (hI : Inv C0 N0 n pl sp tv cap c A J M g) (hl : M 0 1 = 1) (h0 : M 0 0 = 0) (m L : Int) (hm : 0 ≤ m ∧ m ≤ 1) (hL : -2147483648 ≤ L ∧ L < 2147483648) : fX6_kindOf 0 (ii m) (ii L) (CW c A J) = some (Sum.inl (some (Value.int (ii (fdN (M 1) (M 2) m L 0 (M 0 9).toNat)))), CW c A J) := by
  have hk := hI.1
  have hRd : isReader c 1 := hk.2.1.1
  have hSv : isSolver c 4 := hk.2.1.2.1
  have hHi : isHist c 21 := hk.2.1.2.2.1
  have hNow : isState c 303 := hk.2.1.2.2.2.1
  have hSpr : isState c 338 := hk.2.1.2.2.2.2.1
  have hPl : isPlan c pl := hk.2.2.2.1.2.1
  obtain ⟨h10, hM, hP, hS, hG⟩ := hI.ld hl
  rw [up_eqv h0] at hM hP hS hG
  obtain ⟨p0, p1, p2, p3, p4, p5, p6, p7⟩ := hP.1
  have hc1 := c_chase1 (A := A) (J := J) hk h10
  have h38 := hM.1.2.1
  have h910 := hM.1.2.2.2.2.2.2.2
  have h1 := c_find (c := c) (A := A) (J := J) hPl (M 0 9) m L (M 1) (M 2) h910 p7 (fun k a b => ⟨hP.2.1 k a b, hM.2.1 k a (by omega), hM.2.2.1 k a (by omega)⟩) hm hL
  simp (disch := first | assumption | omega) only [fX6_kindOf, lkV hk, lkR0 hk, lkR1 hk, lkR2 hk, lkR3 hk, lkR4 hk, lkR5 hk, lkR6 hk, lkR7 hk, lkR8 hk, lkR9 hk, lkI hk, k_E, t_E, hc1, rwI1, rwS1, rwI2, rwS2, rwI4, rwS4, rwI5, rwS5, rwI7, rwS7, rwI8, rwS8, rwI9, rwS9, rwR0, rwR3, rwR6, rwA1, rwU1, rwA3, rwU3, rwV, rwJ, rwUJ, plI0, plS0, plI1, plS1, plI2, plS2, plI3, plS3, plI4, plS4, plI5, plS5, plI6, plS6, plI7, plS7, plR8, plR9, plR10, plA1, plU1, plA2, plU2, plA3, plU3, plV, stI2, stS2, stI3, stS3, stI4, stS4, stI5, stS5, stI6, stS6, stI7, stS7, stR0, stR1, stA2, stU2, stV, stRow, svI5, svS5, svI6, svS6, svI7, svS7, svR0, svR1, svR2, svR3, svR4, svA13, svU13, svA14, svU14, svA15, svU15, svA16, svU16, svV, svRow, svF, svUF, hiI1, hiS1, hiI2, hiS2, hiR0, hiV, hiRow, rdI2, rdS2, rdI3, rdS3, rdI4, rdS4, rdI5, rdS5, rdI6, rdS6, rdI7, rdS7, rdI8, rdS8, rdR0, rdR1, rdA1, rdU1, rdA2, rdU2, rdV, k_C, ↓reduceIte, tr_lt, fa_lt, tr_le, fa_le, tr_eq, fa_eq, and_true, true_and, and_false, false_and, il0, il1, il2, il3, il4, il5, il6, il7, il8, il9, il10, il11, il12, il15, il16, il20, il24, il31, il32, il44, il45, il48, il50, il57, il58, il59, il63, il91, il93, il97, il99, il100, il109, il113, il119, il120, il122, il200, il255, il480, il500, il501, il512, il999, il4112, il41120, il1000000, il1000003, ii_add, ii_sub, ii_mul, ii_neg, ii_le, ii_lt, ii_eq, ii_div, q_I, q_V, q_R, lt_q, rZ_q, md_M, md_16, md_4, md_8, md_10, if_true, if_false, if_pos, if_neg, h1]
theorem d_kind (hI : Inv C0 N0 n pl sp tv cap c A J M g) (hl : M 0 1 = 1) (h0 : M 0 0 = 0) (k w : Int) (hkd : 0 ≤ k ∧ k < M 0 9) (hw : 0 ≤ w ∧ w < 4) : fX6_kind 0 (ii k) (ii w) (CW c A J) = some (Sum.inl (some (Value.int (ii (kdv M g k w)))), CW c A J) := by
  have hk := hI.1
  have hRd : isReader c 1 := hk.2.1.1
  have hSv : isSolver c 4 := hk.2.1.2.1
  have hHi : isHist c 21 := hk.2.1.2.2.1
  have hNow : isState c 303 := hk.2.1.2.2.2.1
  have hSpr : isState c 338 := hk.2.1.2.2.2.2.1
  have hPl : isPlan c pl := hk.2.2.2.1.2.1
  obtain ⟨h10, hM, hP, hS, hG⟩ := hI.ld hl
  rw [up_eqv h0] at hM hP hS hG
  obtain ⟨p0, p1, p2, p3, p4, p5, p6, p7⟩ := hP.1
  have hc1 := c_chase1 (A := A) (J := J) hk h10
  have h38 := hM.1.2.1
  have h910 := hM.1.2.2.2.2.2.2.2
  have hck := c_kind1 (A := A) (J := J) hk k (by rw [p7]; exact hkd) (by rw [p7]; omega)
  obtain ⟨x1, x2⟩ := hP.2.1 k hkd.1 hkd.2
  have e6 := hS.1.2 k hkd.1 (by omega)
  have hmb := hM.2.1 k hkd.1 (by omega)
  rcases (show w = 0 ∨ w = 1 ∨ w = 2 ∨ w = 3 by omega) with rfl | rfl | rfl | rfl
  · have e : kdv M g k 0 = M 1 k := rfl
    rw [e]
    by_cases y : M 1 k = 0
    · simp (disch := first | assumption | omega) only [fX6_kind, lkV hk, lkR0 hk, lkR1 hk, lkR2 hk, lkR3 hk, lkR4 hk, lkR5 hk, lkR6 hk, lkR7 hk, lkR8 hk, lkR9 hk, lkI hk, k_E, t_E, hc1, hck, rwI1, rwS1, rwI2, rwS2, rwI4, rwS4, rwI5, rwS5, rwI7, rwS7, rwI8, rwS8, rwI9, rwS9, rwR0, rwR3, rwR6, rwA1, rwU1, rwA3, rwU3, rwV, rwJ, rwUJ, plI0, plS0, plI1, plS1, plI2, plS2, plI3, plS3, plI4, plS4, plI5, plS5, plI6, plS6, plI7, plS7, plR8, plR9, plR10, plA1, plU1, plA2, plU2, plA3, plU3, plV, stI2, stS2, stI3, stS3, stI4, stS4, stI5, stS5, stI6, stS6, stI7, stS7, stR0, stR1, stA2, stU2, stV, stRow, svI5, svS5, svI6, svS6, svI7, svS7, svR0, svR1, svR2, svR3, svR4, svA13, svU13, svA14, svU14, svA15, svU15, svA16, svU16, svV, svRow, svF, svUF, hiI1, hiS1, hiI2, hiS2, hiR0, hiV, hiRow, rdI2, rdS2, rdI3, rdS3, rdI4, rdS4, rdI5, rdS5, rdI6, rdS6, rdI7, rdS7, rdI8, rdS8, rdR0, rdR1, rdA1, rdU1, rdA2, rdU2, rdV, k_C, ↓reduceIte, tr_lt, fa_lt, tr_le, fa_le, tr_eq, fa_eq, and_true, true_and, and_false, false_and, il0, il1, il2, il3, il4, il5, il6, il7, il8, il9, il10, il11, il12, il15, il16, il20, il24, il31, il32, il44, il45, il48, il50, il57, il58, il59, il63, il91, il93, il97, il99, il100, il109, il113, il119, il120, il122, il200, il255, il480, il500, il501, il512, il999, il4112, il41120, il1000000, il1000003, ii_add, ii_sub, ii_mul, ii_neg, ii_le, ii_lt, ii_eq, ii_div, q_I, q_V, q_R, lt_q, rZ_q, md_M, md_16, md_4, md_8, md_10, if_true, if_false, if_pos, if_neg, x1]
      rw [y]
    · simp (disch := first | assumption | omega) only [fX6_kind, lkV hk, lkR0 hk, lkR1 hk, lkR2 hk, lkR3 hk, lkR4 hk, lkR5 hk, lkR6 hk, lkR7 hk, lkR8 hk, lkR9 hk, lkI hk, k_E, t_E, hc1, hck, rwI1, rwS1, rwI2, rwS2, rwI4, rwS4, rwI5, rwS5, rwI7, rwS7, rwI8, rwS8, rwI9, rwS9, rwR0, rwR3, rwR6, rwA1, rwU1, rwA3, rwU3, rwV, rwJ, rwUJ, plI0, plS0, plI1, plS1, plI2, plS2, plI3, plS3, plI4, plS4, plI5, plS5, plI6, plS6, plI7, plS7, plR8, plR9, plR10, plA1, plU1, plA2, plU2, plA3, plU3, plV, stI2, stS2, stI3, stS3, stI4, stS4, stI5, stS5, stI6, stS6, stI7, stS7, stR0, stR1, stA2, stU2, stV, stRow, svI5, svS5, svI6, svS6, svI7, svS7, svR0, svR1, svR2, svR3, svR4, svA13, svU13, svA14, svU14, svA15, svU15, svA16, svU16, svV, svRow, svF, svUF, hiI1, hiS1, hiI2, hiS2, hiR0, hiV, hiRow, rdI2, rdS2, rdI3, rdS3, rdI4, rdS4, rdI5, rdS5, rdI6, rdS6, rdI7, rdS7, rdI8, rdS8, rdR0, rdR1, rdA1, rdU1, rdA2, rdU2, rdV, k_C, ↓reduceIte, tr_lt, fa_lt, tr_le, fa_le, tr_eq, fa_eq, and_true, true_and, and_false, false_and, il0, il1, il2, il3, il4, il5, il6, il7, il8, il9, il10, il11, il12, il15, il16, il20, il24, il31, il32, il44, il45, il48, il50, il57, il58, il59, il63, il91, il93, il97, il99, il100, il109, il113, il119, il120, il122, il200, il255, il480, il500, il501, il512, il999, il4112, il41120, il1000000, il1000003, ii_add, ii_sub, ii_mul, ii_neg, ii_le, ii_lt, ii_eq, ii_div, q_I, q_V, q_R, lt_q, rZ_q, md_M, md_16, md_4, md_8, md_10, if_true, if_false, if_pos, if_neg, x1]
      rw [show M 1 k = 1 by omega]
  · simp (disch := first | assumption | omega) only [fX6_kind, lkV hk, lkR0 hk, lkR1 hk, lkR2 hk, lkR3 hk, lkR4 hk, lkR5 hk, lkR6 hk, lkR7 hk, lkR8 hk, lkR9 hk, lkI hk, k_E, t_E, hc1, hck, rwI1, rwS1, rwI2, rwS2, rwI4, rwS4, rwI5, rwS5, rwI7, rwS7, rwI8, rwS8, rwI9, rwS9, rwR0, rwR3, rwR6, rwA1, rwU1, rwA3, rwU3, rwV, rwJ, rwUJ, plI0, plS0, plI1, plS1, plI2, plS2, plI3, plS3, plI4, plS4, plI5, plS5, plI6, plS6, plI7, plS7, plR8, plR9, plR10, plA1, plU1, plA2, plU2, plA3, plU3, plV, stI2, stS2, stI3, stS3, stI4, stS4, stI5, stS5, stI6, stS6, stI7, stS7, stR0, stR1, stA2, stU2, stV, stRow, svI5, svS5, svI6, svS6, svI7, svS7, svR0, svR1, svR2, svR3, svR4, svA13, svU13, svA14, svU14, svA15, svU15, svA16, svU16, svV, svRow, svF, svUF, hiI1, hiS1, hiI2, hiS2, hiR0, hiV, hiRow, rdI2, rdS2, rdI3, rdS3, rdI4, rdS4, rdI5, rdS5, rdI6, rdS6, rdI7, rdS7, rdI8, rdS8, rdR0, rdR1, rdA1, rdU1, rdA2, rdU2, rdV, k_C, ↓reduceIte, tr_lt, fa_lt, tr_le, fa_le, tr_eq, fa_eq, and_true, true_and, and_false, false_and, il0, il1, il2, il3, il4, il5, il6, il7, il8, il9, il10, il11, il12, il15, il16, il20, il24, il31, il32, il44, il45, il48, il50, il57, il58, il59, il63, il91, il93, il97, il99, il100, il109, il113, il119, il120, il122, il200, il255, il480, il500, il501, il512, il999, il4112, il41120, il1000000, il1000003, ii_add, ii_sub, ii_mul, ii_neg, ii_le, ii_lt, ii_eq, ii_div, q_I, q_V, q_R, lt_q, rZ_q, md_M, md_16, md_4, md_8, md_10, if_true, if_false, if_pos, if_neg, x2]
    rfl
  · simp (disch := first | assumption | omega) only [fX6_kind, lkV hk, lkR0 hk, lkR1 hk, lkR2 hk, lkR3 hk, lkR4 hk, lkR5 hk, lkR6 hk, lkR7 hk, lkR8 hk, lkR9 hk, lkI hk, k_E, t_E, hc1, hck, rwI1, rwS1, rwI2, rwS2, rwI4, rwS4, rwI5, rwS5, rwI7, rwS7, rwI8, rwS8, rwI9, rwS9, rwR0, rwR3, rwR6, rwA1, rwU1, rwA3, rwU3, rwV, rwJ, rwUJ, plI0, plS0, plI1, plS1, plI2, plS2, plI3, plS3, plI4, plS4, plI5, plS5, plI6, plS6, plI7, plS7, plR8, plR9, plR10, plA1, plU1, plA2, plU2, plA3, plU3, plV, stI2, stS2, stI3, stS3, stI4, stS4, stI5, stS5, stI6, stS6, stI7, stS7, stR0, stR1, stA2, stU2, stV, stRow, svI5, svS5, svI6, svS6, svI7, svS7, svR0, svR1, svR2, svR3, svR4, svA13, svU13, svA14, svU14, svA15, svU15, svA16, svU16, svV, svRow, svF, svUF, hiI1, hiS1, hiI2, hiS2, hiR0, hiV, hiRow, rdI2, rdS2, rdI3, rdS3, rdI4, rdS4, rdI5, rdS5, rdI6, rdS6, rdI7, rdS7, rdI8, rdS8, rdR0, rdR1, rdA1, rdU1, rdA2, rdU2, rdV, k_C, ↓reduceIte, tr_lt, fa_lt, tr_le, fa_le, tr_eq, fa_eq, and_true, true_and, and_false, false_and, il0, il1, il2, il3, il4, il5, il6, il7, il8, il9, il10, il11, il12, il15, il16, il20, il24, il31, il32, il44, il45, il48, il50, il57, il58, il59, il63, il91, il93, il97, il99, il100, il109, il113, il119, il120, il122, il200, il255, il480, il500, il501, il512, il999, il4112, il41120, il1000000, il1000003, ii_add, ii_sub, ii_mul, ii_neg, ii_le, ii_lt, ii_eq, ii_div, q_I, q_V, q_R, lt_q, rZ_q, md_M, md_16, md_4, md_8, md_10, if_true, if_false, if_pos, if_neg, e6]
    rfl
  · have h1 := s_inRows (c := c) hNow hS k (by omega)
    rw [sm8 M _ (by omega) (fun r a b => by unfold cnt; rw [(hG.1.2.2.1 r a b).2.1, sm_0])] at h1
    simp (disch := first | assumption | omega) only [fX6_kind, lkV hk, lkR0 hk, lkR1 hk, lkR2 hk, lkR3 hk, lkR4 hk, lkR5 hk, lkR6 hk, lkR7 hk, lkR8 hk, lkR9 hk, lkI hk, k_E, t_E, hc1, hck, rwI1, rwS1, rwI2, rwS2, rwI4, rwS4, rwI5, rwS5, rwI7, rwS7, rwI8, rwS8, rwI9, rwS9, rwR0, rwR3, rwR6, rwA1, rwU1, rwA3, rwU3, rwV, rwJ, rwUJ, plI0, plS0, plI1, plS1, plI2, plS2, plI3, plS3, plI4, plS4, plI5, plS5, plI6, plS6, plI7, plS7, plR8, plR9, plR10, plA1, plU1, plA2, plU2, plA3, plU3, plV, stI2, stS2, stI3, stS3, stI4, stS4, stI5, stS5, stI6, stS6, stI7, stS7, stR0, stR1, stA2, stU2, stV, stRow, svI5, svS5, svI6, svS6, svI7, svS7, svR0, svR1, svR2, svR3, svR4, svA13, svU13, svA14, svU14, svA15, svU15, svA16, svU16, svV, svRow, svF, svUF, hiI1, hiS1, hiI2, hiS2, hiR0, hiV, hiRow, rdI2, rdS2, rdI3, rdS3, rdI4, rdS4, rdI5, rdS5, rdI6, rdS6, rdI7, rdS7, rdI8, rdS8, rdR0, rdR1, rdA1, rdU1, rdA2, rdU2, rdV, k_C, ↓reduceIte, tr_lt, fa_lt, tr_le, fa_le, tr_eq, fa_eq, and_true, true_and, and_false, false_and, il0, il1, il2, il3, il4, il5, il6, il7, il8, il9, il10, il11, il12, il15, il16, il20, il24, il31, il32, il44, il45, il48, il50, il57, il58, il59, il63, il91, il93, il97, il99, il100, il109, il113, il119, il120, il122, il200, il255, il480, il500, il501, il512, il999, il4112, il41120, il1000000, il1000003, ii_add, ii_sub, ii_mul, ii_neg, ii_le, ii_lt, ii_eq, ii_div, q_I, q_V, q_R, lt_q, rZ_q, md_M, md_16, md_4, md_8, md_10, if_true, if_false, if_pos, if_neg, h1]
    rfl
theorem d_kindN (hI : Inv C0 N0 n pl sp tv cap c A J M g) (hl : M 0 1 = 1) (h0 : M 0 0 = 0) (w : Int) : fX6_kind 0 (ii (M 0 9)) (ii w) (CW c A J) = some (.inr "java/lang/IndexOutOfBoundsException", CW (cU c) A J) := by
  have hk := hI.1
  have hRd : isReader c 1 := hk.2.1.1
  have hSv : isSolver c 4 := hk.2.1.2.1
  have hHi : isHist c 21 := hk.2.1.2.2.1
  have hNow : isState c 303 := hk.2.1.2.2.2.1
  have hSpr : isState c 338 := hk.2.1.2.2.2.2.1
  have hPl : isPlan c pl := hk.2.2.2.1.2.1
  obtain ⟨h10, hM, hP, hS, hG⟩ := hI.ld hl
  rw [up_eqv h0] at hM hP hS hG
  obtain ⟨p0, p1, p2, p3, p4, p5, p6, p7⟩ := hP.1
  have hc1 := c_chase1 (A := A) (J := J) hk h10
  have h38 := hM.1.2.1
  have h910 := hM.1.2.2.2.2.2.2.2
  have hck := c_kind0 (A := A) (J := J) hk (M 0 9) (by rw [p7]; omega) (by rw [p7]; omega) (by omega)
  rw [fX6_kind, lkV hk, hc1, k_C, q_V, lkV hk, hck, k_E]
theorem d_count (hI : Inv C0 N0 n pl sp tv cap c A J M g) (hl : M 0 1 = 1) (h0 : M 0 0 = 0) (w : Int) (hw : 0 ≤ w ∧ w < 12) : fX6_count 0 (ii w) (CW c A J) = some (Sum.inl (some (Value.int (ii (cnv M g w)))), CW c A J) := by
  have hk := hI.1
  have hRd : isReader c 1 := hk.2.1.1
  have hSv : isSolver c 4 := hk.2.1.2.1
  have hHi : isHist c 21 := hk.2.1.2.2.1
  have hNow : isState c 303 := hk.2.1.2.2.2.1
  have hSpr : isState c 338 := hk.2.1.2.2.2.2.1
  have hPl : isPlan c pl := hk.2.2.2.1.2.1
  obtain ⟨h10, hM, hP, hS, hG⟩ := hI.ld hl
  rw [up_eqv h0] at hM hP hS hG
  obtain ⟨p0, p1, p2, p3, p4, p5, p6, p7⟩ := hP.1
  have hc1 := c_chase1 (A := A) (J := J) hk h10
  have h38 := hM.1.2.1
  have h910 := hM.1.2.2.2.2.2.2.2
  obtain ⟨a0, a1, a2, a3, a4, a5⟩ := hS.1.1
  have hsz := hM.1.1
  rcases (show w = 0 ∨ w = 1 ∨ w = 2 ∨ w = 3 ∨ w = 4 ∨ w = 5 ∨ w = 6 ∨ w = 7 ∨ w = 8 ∨ w = 9 ∨ w = 10 ∨ w = 11 by omega) with rfl | rfl | rfl | rfl | rfl | rfl | rfl | rfl | rfl | rfl | rfl | rfl
  · simp (disch := first | assumption | omega) only [fX6_count, lkV hk, lkR0 hk, lkR1 hk, lkR2 hk, lkR3 hk, lkR4 hk, lkR5 hk, lkR6 hk, lkR7 hk, lkR8 hk, lkR9 hk, lkI hk, k_E, t_E, hc1, rwI1, rwS1, rwI2, rwS2, rwI4, rwS4, rwI5, rwS5, rwI7, rwS7, rwI8, rwS8, rwI9, rwS9, rwR0, rwR3, rwR6, rwA1, rwU1, rwA3, rwU3, rwV, rwJ, rwUJ, plI0, plS0, plI1, plS1, plI2, plS2, plI3, plS3, plI4, plS4, plI5, plS5, plI6, plS6, plI7, plS7, plR8, plR9, plR10, plA1, plU1, plA2, plU2, plA3, plU3, plV, stI2, stS2, stI3, stS3, stI4, stS4, stI5, stS5, stI6, stS6, stI7, stS7, stR0, stR1, stA2, stU2, stV, stRow, svI5, svS5, svI6, svS6, svI7, svS7, svR0, svR1, svR2, svR3, svR4, svA13, svU13, svA14, svU14, svA15, svU15, svA16, svU16, svV, svRow, svF, svUF, hiI1, hiS1, hiI2, hiS2, hiR0, hiV, hiRow, rdI2, rdS2, rdI3, rdS3, rdI4, rdS4, rdI5, rdS5, rdI6, rdS6, rdI7, rdS7, rdI8, rdS8, rdR0, rdR1, rdA1, rdU1, rdA2, rdU2, rdV, k_C, ↓reduceIte, tr_lt, fa_lt, tr_le, fa_le, tr_eq, fa_eq, and_true, true_and, and_false, false_and, il0, il1, il2, il3, il4, il5, il6, il7, il8, il9, il10, il11, il12, il15, il16, il20, il24, il31, il32, il44, il45, il48, il50, il57, il58, il59, il63, il91, il93, il97, il99, il100, il109, il113, il119, il120, il122, il200, il255, il480, il500, il501, il512, il999, il4112, il41120, il1000000, il1000003, ii_add, ii_sub, ii_mul, ii_neg, ii_le, ii_lt, ii_eq, ii_div, q_I, q_V, q_R, lt_q, rZ_q, md_M, md_16, md_4, md_8, md_10, if_true, if_false, if_pos, if_neg, p1]
    rfl
  · simp (disch := first | assumption | omega) only [fX6_count, lkV hk, lkR0 hk, lkR1 hk, lkR2 hk, lkR3 hk, lkR4 hk, lkR5 hk, lkR6 hk, lkR7 hk, lkR8 hk, lkR9 hk, lkI hk, k_E, t_E, hc1, rwI1, rwS1, rwI2, rwS2, rwI4, rwS4, rwI5, rwS5, rwI7, rwS7, rwI8, rwS8, rwI9, rwS9, rwR0, rwR3, rwR6, rwA1, rwU1, rwA3, rwU3, rwV, rwJ, rwUJ, plI0, plS0, plI1, plS1, plI2, plS2, plI3, plS3, plI4, plS4, plI5, plS5, plI6, plS6, plI7, plS7, plR8, plR9, plR10, plA1, plU1, plA2, plU2, plA3, plU3, plV, stI2, stS2, stI3, stS3, stI4, stS4, stI5, stS5, stI6, stS6, stI7, stS7, stR0, stR1, stA2, stU2, stV, stRow, svI5, svS5, svI6, svS6, svI7, svS7, svR0, svR1, svR2, svR3, svR4, svA13, svU13, svA14, svU14, svA15, svU15, svA16, svU16, svV, svRow, svF, svUF, hiI1, hiS1, hiI2, hiS2, hiR0, hiV, hiRow, rdI2, rdS2, rdI3, rdS3, rdI4, rdS4, rdI5, rdS5, rdI6, rdS6, rdI7, rdS7, rdI8, rdS8, rdR0, rdR1, rdA1, rdU1, rdA2, rdU2, rdV, k_C, ↓reduceIte, tr_lt, fa_lt, tr_le, fa_le, tr_eq, fa_eq, and_true, true_and, and_false, false_and, il0, il1, il2, il3, il4, il5, il6, il7, il8, il9, il10, il11, il12, il15, il16, il20, il24, il31, il32, il44, il45, il48, il50, il57, il58, il59, il63, il91, il93, il97, il99, il100, il109, il113, il119, il120, il122, il200, il255, il480, il500, il501, il512, il999, il4112, il41120, il1000000, il1000003, ii_add, ii_sub, ii_mul, ii_neg, ii_le, ii_lt, ii_eq, ii_div, q_I, q_V, q_R, lt_q, rZ_q, md_M, md_16, md_4, md_8, md_10, if_true, if_false, if_pos, if_neg, p7]
    rfl
  · simp (disch := first | assumption | omega) only [fX6_count, lkV hk, lkR0 hk, lkR1 hk, lkR2 hk, lkR3 hk, lkR4 hk, lkR5 hk, lkR6 hk, lkR7 hk, lkR8 hk, lkR9 hk, lkI hk, k_E, t_E, hc1, rwI1, rwS1, rwI2, rwS2, rwI4, rwS4, rwI5, rwS5, rwI7, rwS7, rwI8, rwS8, rwI9, rwS9, rwR0, rwR3, rwR6, rwA1, rwU1, rwA3, rwU3, rwV, rwJ, rwUJ, plI0, plS0, plI1, plS1, plI2, plS2, plI3, plS3, plI4, plS4, plI5, plS5, plI6, plS6, plI7, plS7, plR8, plR9, plR10, plA1, plU1, plA2, plU2, plA3, plU3, plV, stI2, stS2, stI3, stS3, stI4, stS4, stI5, stS5, stI6, stS6, stI7, stS7, stR0, stR1, stA2, stU2, stV, stRow, svI5, svS5, svI6, svS6, svI7, svS7, svR0, svR1, svR2, svR3, svR4, svA13, svU13, svA14, svU14, svA15, svU15, svA16, svU16, svV, svRow, svF, svUF, hiI1, hiS1, hiI2, hiS2, hiR0, hiV, hiRow, rdI2, rdS2, rdI3, rdS3, rdI4, rdS4, rdI5, rdS5, rdI6, rdS6, rdI7, rdS7, rdI8, rdS8, rdR0, rdR1, rdA1, rdU1, rdA2, rdU2, rdV, k_C, ↓reduceIte, tr_lt, fa_lt, tr_le, fa_le, tr_eq, fa_eq, and_true, true_and, and_false, false_and, il0, il1, il2, il3, il4, il5, il6, il7, il8, il9, il10, il11, il12, il15, il16, il20, il24, il31, il32, il44, il45, il48, il50, il57, il58, il59, il63, il91, il93, il97, il99, il100, il109, il113, il119, il120, il122, il200, il255, il480, il500, il501, il512, il999, il4112, il41120, il1000000, il1000003, ii_add, ii_sub, ii_mul, ii_neg, ii_le, ii_lt, ii_eq, ii_div, q_I, q_V, q_R, lt_q, rZ_q, md_M, md_16, md_4, md_8, md_10, if_true, if_false, if_pos, if_neg, a0]
    rfl
  · have h1 := s_sum1 (c := c) hNow hS
    rw [sm8 M _ (by omega) (fun r a b => (hG.1.2.2.1 r a b).1)] at h1
    simp (disch := first | assumption | omega) only [fX6_count, lkV hk, lkR0 hk, lkR1 hk, lkR2 hk, lkR3 hk, lkR4 hk, lkR5 hk, lkR6 hk, lkR7 hk, lkR8 hk, lkR9 hk, lkI hk, k_E, t_E, hc1, rwI1, rwS1, rwI2, rwS2, rwI4, rwS4, rwI5, rwS5, rwI7, rwS7, rwI8, rwS8, rwI9, rwS9, rwR0, rwR3, rwR6, rwA1, rwU1, rwA3, rwU3, rwV, rwJ, rwUJ, plI0, plS0, plI1, plS1, plI2, plS2, plI3, plS3, plI4, plS4, plI5, plS5, plI6, plS6, plI7, plS7, plR8, plR9, plR10, plA1, plU1, plA2, plU2, plA3, plU3, plV, stI2, stS2, stI3, stS3, stI4, stS4, stI5, stS5, stI6, stS6, stI7, stS7, stR0, stR1, stA2, stU2, stV, stRow, svI5, svS5, svI6, svS6, svI7, svS7, svR0, svR1, svR2, svR3, svR4, svA13, svU13, svA14, svU14, svA15, svU15, svA16, svU16, svV, svRow, svF, svUF, hiI1, hiS1, hiI2, hiS2, hiR0, hiV, hiRow, rdI2, rdS2, rdI3, rdS3, rdI4, rdS4, rdI5, rdS5, rdI6, rdS6, rdI7, rdS7, rdI8, rdS8, rdR0, rdR1, rdA1, rdU1, rdA2, rdU2, rdV, k_C, ↓reduceIte, tr_lt, fa_lt, tr_le, fa_le, tr_eq, fa_eq, and_true, true_and, and_false, false_and, il0, il1, il2, il3, il4, il5, il6, il7, il8, il9, il10, il11, il12, il15, il16, il20, il24, il31, il32, il44, il45, il48, il50, il57, il58, il59, il63, il91, il93, il97, il99, il100, il109, il113, il119, il120, il122, il200, il255, il480, il500, il501, il512, il999, il4112, il41120, il1000000, il1000003, ii_add, ii_sub, ii_mul, ii_neg, ii_le, ii_lt, ii_eq, ii_div, q_I, q_V, q_R, lt_q, rZ_q, md_M, md_16, md_4, md_8, md_10, if_true, if_false, if_pos, if_neg, h1]
    rfl
  · have h1 := s_sum4 (c := c) hNow hS
    rw [sm8 M _ (by omega) (fun r a b => (hG.1.2.2.1 r a b).2.1)] at h1
    simp (disch := first | assumption | omega) only [fX6_count, lkV hk, lkR0 hk, lkR1 hk, lkR2 hk, lkR3 hk, lkR4 hk, lkR5 hk, lkR6 hk, lkR7 hk, lkR8 hk, lkR9 hk, lkI hk, k_E, t_E, hc1, rwI1, rwS1, rwI2, rwS2, rwI4, rwS4, rwI5, rwS5, rwI7, rwS7, rwI8, rwS8, rwI9, rwS9, rwR0, rwR3, rwR6, rwA1, rwU1, rwA3, rwU3, rwV, rwJ, rwUJ, plI0, plS0, plI1, plS1, plI2, plS2, plI3, plS3, plI4, plS4, plI5, plS5, plI6, plS6, plI7, plS7, plR8, plR9, plR10, plA1, plU1, plA2, plU2, plA3, plU3, plV, stI2, stS2, stI3, stS3, stI4, stS4, stI5, stS5, stI6, stS6, stI7, stS7, stR0, stR1, stA2, stU2, stV, stRow, svI5, svS5, svI6, svS6, svI7, svS7, svR0, svR1, svR2, svR3, svR4, svA13, svU13, svA14, svU14, svA15, svU15, svA16, svU16, svV, svRow, svF, svUF, hiI1, hiS1, hiI2, hiS2, hiR0, hiV, hiRow, rdI2, rdS2, rdI3, rdS3, rdI4, rdS4, rdI5, rdS5, rdI6, rdS6, rdI7, rdS7, rdI8, rdS8, rdR0, rdR1, rdA1, rdU1, rdA2, rdU2, rdV, k_C, ↓reduceIte, tr_lt, fa_lt, tr_le, fa_le, tr_eq, fa_eq, and_true, true_and, and_false, false_and, il0, il1, il2, il3, il4, il5, il6, il7, il8, il9, il10, il11, il12, il15, il16, il20, il24, il31, il32, il44, il45, il48, il50, il57, il58, il59, il63, il91, il93, il97, il99, il100, il109, il113, il119, il120, il122, il200, il255, il480, il500, il501, il512, il999, il4112, il41120, il1000000, il1000003, ii_add, ii_sub, ii_mul, ii_neg, ii_le, ii_lt, ii_eq, ii_div, q_I, q_V, q_R, lt_q, rZ_q, md_M, md_16, md_4, md_8, md_10, if_true, if_false, if_pos, if_neg, h1]
    rfl
  · have h1 := s_tight (c := c) hNow hPl hS hG.1.1 hM ⟨p0, p2⟩
    rw [sm8 M _ (by omega) (fun r a b => by
      obtain ⟨z0, z1, z2, z3, z4⟩ := hG.1.2.2.1 r a b
      rw [if_neg]
      intro z
      have z5 := z.1
      unfold gapM suB suP uQ at z5
      rw [z0, z1, z2, sm_0, sm_0, if_pos rfl] at z5
      omega)] at h1
    simp (disch := first | assumption | omega) only [fX6_count, lkV hk, lkR0 hk, lkR1 hk, lkR2 hk, lkR3 hk, lkR4 hk, lkR5 hk, lkR6 hk, lkR7 hk, lkR8 hk, lkR9 hk, lkI hk, k_E, t_E, hc1, rwI1, rwS1, rwI2, rwS2, rwI4, rwS4, rwI5, rwS5, rwI7, rwS7, rwI8, rwS8, rwI9, rwS9, rwR0, rwR3, rwR6, rwA1, rwU1, rwA3, rwU3, rwV, rwJ, rwUJ, plI0, plS0, plI1, plS1, plI2, plS2, plI3, plS3, plI4, plS4, plI5, plS5, plI6, plS6, plI7, plS7, plR8, plR9, plR10, plA1, plU1, plA2, plU2, plA3, plU3, plV, stI2, stS2, stI3, stS3, stI4, stS4, stI5, stS5, stI6, stS6, stI7, stS7, stR0, stR1, stA2, stU2, stV, stRow, svI5, svS5, svI6, svS6, svI7, svS7, svR0, svR1, svR2, svR3, svR4, svA13, svU13, svA14, svU14, svA15, svU15, svA16, svU16, svV, svRow, svF, svUF, hiI1, hiS1, hiI2, hiS2, hiR0, hiV, hiRow, rdI2, rdS2, rdI3, rdS3, rdI4, rdS4, rdI5, rdS5, rdI6, rdS6, rdI7, rdS7, rdI8, rdS8, rdR0, rdR1, rdA1, rdU1, rdA2, rdU2, rdV, k_C, ↓reduceIte, tr_lt, fa_lt, tr_le, fa_le, tr_eq, fa_eq, and_true, true_and, and_false, false_and, il0, il1, il2, il3, il4, il5, il6, il7, il8, il9, il10, il11, il12, il15, il16, il20, il24, il31, il32, il44, il45, il48, il50, il57, il58, il59, il63, il91, il93, il97, il99, il100, il109, il113, il119, il120, il122, il200, il255, il480, il500, il501, il512, il999, il4112, il41120, il1000000, il1000003, ii_add, ii_sub, ii_mul, ii_neg, ii_le, ii_lt, ii_eq, ii_div, q_I, q_V, q_R, lt_q, rZ_q, md_M, md_16, md_4, md_8, md_10, if_true, if_false, if_pos, if_neg, h1]
    rfl
  · simp (disch := first | assumption | omega) only [fX6_count, lkV hk, lkR0 hk, lkR1 hk, lkR2 hk, lkR3 hk, lkR4 hk, lkR5 hk, lkR6 hk, lkR7 hk, lkR8 hk, lkR9 hk, lkI hk, k_E, t_E, hc1, rwI1, rwS1, rwI2, rwS2, rwI4, rwS4, rwI5, rwS5, rwI7, rwS7, rwI8, rwS8, rwI9, rwS9, rwR0, rwR3, rwR6, rwA1, rwU1, rwA3, rwU3, rwV, rwJ, rwUJ, plI0, plS0, plI1, plS1, plI2, plS2, plI3, plS3, plI4, plS4, plI5, plS5, plI6, plS6, plI7, plS7, plR8, plR9, plR10, plA1, plU1, plA2, plU2, plA3, plU3, plV, stI2, stS2, stI3, stS3, stI4, stS4, stI5, stS5, stI6, stS6, stI7, stS7, stR0, stR1, stA2, stU2, stV, stRow, svI5, svS5, svI6, svS6, svI7, svS7, svR0, svR1, svR2, svR3, svR4, svA13, svU13, svA14, svU14, svA15, svU15, svA16, svU16, svV, svRow, svF, svUF, hiI1, hiS1, hiI2, hiS2, hiR0, hiV, hiRow, rdI2, rdS2, rdI3, rdS3, rdI4, rdS4, rdI5, rdS5, rdI6, rdS6, rdI7, rdS7, rdI8, rdS8, rdR0, rdR1, rdA1, rdU1, rdA2, rdU2, rdV, k_C, ↓reduceIte, tr_lt, fa_lt, tr_le, fa_le, tr_eq, fa_eq, and_true, true_and, and_false, false_and, il0, il1, il2, il3, il4, il5, il6, il7, il8, il9, il10, il11, il12, il15, il16, il20, il24, il31, il32, il44, il45, il48, il50, il57, il58, il59, il63, il91, il93, il97, il99, il100, il109, il113, il119, il120, il122, il200, il255, il480, il500, il501, il512, il999, il4112, il41120, il1000000, il1000003, ii_add, ii_sub, ii_mul, ii_neg, ii_le, ii_lt, ii_eq, ii_div, q_I, q_V, q_R, lt_q, rZ_q, md_M, md_16, md_4, md_8, md_10, if_true, if_false, if_pos, if_neg, a1]
    rfl
  · simp (disch := first | assumption | omega) only [fX6_count, lkV hk, lkR0 hk, lkR1 hk, lkR2 hk, lkR3 hk, lkR4 hk, lkR5 hk, lkR6 hk, lkR7 hk, lkR8 hk, lkR9 hk, lkI hk, k_E, t_E, hc1, rwI1, rwS1, rwI2, rwS2, rwI4, rwS4, rwI5, rwS5, rwI7, rwS7, rwI8, rwS8, rwI9, rwS9, rwR0, rwR3, rwR6, rwA1, rwU1, rwA3, rwU3, rwV, rwJ, rwUJ, plI0, plS0, plI1, plS1, plI2, plS2, plI3, plS3, plI4, plS4, plI5, plS5, plI6, plS6, plI7, plS7, plR8, plR9, plR10, plA1, plU1, plA2, plU2, plA3, plU3, plV, stI2, stS2, stI3, stS3, stI4, stS4, stI5, stS5, stI6, stS6, stI7, stS7, stR0, stR1, stA2, stU2, stV, stRow, svI5, svS5, svI6, svS6, svI7, svS7, svR0, svR1, svR2, svR3, svR4, svA13, svU13, svA14, svU14, svA15, svU15, svA16, svU16, svV, svRow, svF, svUF, hiI1, hiS1, hiI2, hiS2, hiR0, hiV, hiRow, rdI2, rdS2, rdI3, rdS3, rdI4, rdS4, rdI5, rdS5, rdI6, rdS6, rdI7, rdS7, rdI8, rdS8, rdR0, rdR1, rdA1, rdU1, rdA2, rdU2, rdV, k_C, ↓reduceIte, tr_lt, fa_lt, tr_le, fa_le, tr_eq, fa_eq, and_true, true_and, and_false, false_and, il0, il1, il2, il3, il4, il5, il6, il7, il8, il9, il10, il11, il12, il15, il16, il20, il24, il31, il32, il44, il45, il48, il50, il57, il58, il59, il63, il91, il93, il97, il99, il100, il109, il113, il119, il120, il122, il200, il255, il480, il500, il501, il512, il999, il4112, il41120, il1000000, il1000003, ii_add, ii_sub, ii_mul, ii_neg, ii_le, ii_lt, ii_eq, ii_div, q_I, q_V, q_R, lt_q, rZ_q, md_M, md_16, md_4, md_8, md_10, if_true, if_false, if_pos, if_neg, a2]
    rfl
  · simp (disch := first | assumption | omega) only [fX6_count, lkV hk, lkR0 hk, lkR1 hk, lkR2 hk, lkR3 hk, lkR4 hk, lkR5 hk, lkR6 hk, lkR7 hk, lkR8 hk, lkR9 hk, lkI hk, k_E, t_E, hc1, rwI1, rwS1, rwI2, rwS2, rwI4, rwS4, rwI5, rwS5, rwI7, rwS7, rwI8, rwS8, rwI9, rwS9, rwR0, rwR3, rwR6, rwA1, rwU1, rwA3, rwU3, rwV, rwJ, rwUJ, plI0, plS0, plI1, plS1, plI2, plS2, plI3, plS3, plI4, plS4, plI5, plS5, plI6, plS6, plI7, plS7, plR8, plR9, plR10, plA1, plU1, plA2, plU2, plA3, plU3, plV, stI2, stS2, stI3, stS3, stI4, stS4, stI5, stS5, stI6, stS6, stI7, stS7, stR0, stR1, stA2, stU2, stV, stRow, svI5, svS5, svI6, svS6, svI7, svS7, svR0, svR1, svR2, svR3, svR4, svA13, svU13, svA14, svU14, svA15, svU15, svA16, svU16, svV, svRow, svF, svUF, hiI1, hiS1, hiI2, hiS2, hiR0, hiV, hiRow, rdI2, rdS2, rdI3, rdS3, rdI4, rdS4, rdI5, rdS5, rdI6, rdS6, rdI7, rdS7, rdI8, rdS8, rdR0, rdR1, rdA1, rdU1, rdA2, rdU2, rdV, k_C, ↓reduceIte, tr_lt, fa_lt, tr_le, fa_le, tr_eq, fa_eq, and_true, true_and, and_false, false_and, il0, il1, il2, il3, il4, il5, il6, il7, il8, il9, il10, il11, il12, il15, il16, il20, il24, il31, il32, il44, il45, il48, il50, il57, il58, il59, il63, il91, il93, il97, il99, il100, il109, il113, il119, il120, il122, il200, il255, il480, il500, il501, il512, il999, il4112, il41120, il1000000, il1000003, ii_add, ii_sub, ii_mul, ii_neg, ii_le, ii_lt, ii_eq, ii_div, q_I, q_V, q_R, lt_q, rZ_q, md_M, md_16, md_4, md_8, md_10, if_true, if_false, if_pos, if_neg, a3]
    rfl
  · simp (disch := first | assumption | omega) only [fX6_count, lkV hk, lkR0 hk, lkR1 hk, lkR2 hk, lkR3 hk, lkR4 hk, lkR5 hk, lkR6 hk, lkR7 hk, lkR8 hk, lkR9 hk, lkI hk, k_E, t_E, hc1, rwI1, rwS1, rwI2, rwS2, rwI4, rwS4, rwI5, rwS5, rwI7, rwS7, rwI8, rwS8, rwI9, rwS9, rwR0, rwR3, rwR6, rwA1, rwU1, rwA3, rwU3, rwV, rwJ, rwUJ, plI0, plS0, plI1, plS1, plI2, plS2, plI3, plS3, plI4, plS4, plI5, plS5, plI6, plS6, plI7, plS7, plR8, plR9, plR10, plA1, plU1, plA2, plU2, plA3, plU3, plV, stI2, stS2, stI3, stS3, stI4, stS4, stI5, stS5, stI6, stS6, stI7, stS7, stR0, stR1, stA2, stU2, stV, stRow, svI5, svS5, svI6, svS6, svI7, svS7, svR0, svR1, svR2, svR3, svR4, svA13, svU13, svA14, svU14, svA15, svU15, svA16, svU16, svV, svRow, svF, svUF, hiI1, hiS1, hiI2, hiS2, hiR0, hiV, hiRow, rdI2, rdS2, rdI3, rdS3, rdI4, rdS4, rdI5, rdS5, rdI6, rdS6, rdI7, rdS7, rdI8, rdS8, rdR0, rdR1, rdA1, rdU1, rdA2, rdU2, rdV, k_C, ↓reduceIte, tr_lt, fa_lt, tr_le, fa_le, tr_eq, fa_eq, and_true, true_and, and_false, false_and, il0, il1, il2, il3, il4, il5, il6, il7, il8, il9, il10, il11, il12, il15, il16, il20, il24, il31, il32, il44, il45, il48, il50, il57, il58, il59, il63, il91, il93, il97, il99, il100, il109, il113, il119, il120, il122, il200, il255, il480, il500, il501, il512, il999, il4112, il41120, il1000000, il1000003, ii_add, ii_sub, ii_mul, ii_neg, ii_le, ii_lt, ii_eq, ii_div, q_I, q_V, q_R, lt_q, rZ_q, md_M, md_16, md_4, md_8, md_10, if_true, if_false, if_pos, if_neg, a4]
    rfl
  · simp (disch := first | assumption | omega) only [fX6_count, lkV hk, lkR0 hk, lkR1 hk, lkR2 hk, lkR3 hk, lkR4 hk, lkR5 hk, lkR6 hk, lkR7 hk, lkR8 hk, lkR9 hk, lkI hk, k_E, t_E, hc1, rwI1, rwS1, rwI2, rwS2, rwI4, rwS4, rwI5, rwS5, rwI7, rwS7, rwI8, rwS8, rwI9, rwS9, rwR0, rwR3, rwR6, rwA1, rwU1, rwA3, rwU3, rwV, rwJ, rwUJ, plI0, plS0, plI1, plS1, plI2, plS2, plI3, plS3, plI4, plS4, plI5, plS5, plI6, plS6, plI7, plS7, plR8, plR9, plR10, plA1, plU1, plA2, plU2, plA3, plU3, plV, stI2, stS2, stI3, stS3, stI4, stS4, stI5, stS5, stI6, stS6, stI7, stS7, stR0, stR1, stA2, stU2, stV, stRow, svI5, svS5, svI6, svS6, svI7, svS7, svR0, svR1, svR2, svR3, svR4, svA13, svU13, svA14, svU14, svA15, svU15, svA16, svU16, svV, svRow, svF, svUF, hiI1, hiS1, hiI2, hiS2, hiR0, hiV, hiRow, rdI2, rdS2, rdI3, rdS3, rdI4, rdS4, rdI5, rdS5, rdI6, rdS6, rdI7, rdS7, rdI8, rdS8, rdR0, rdR1, rdA1, rdU1, rdA2, rdU2, rdV, k_C, ↓reduceIte, tr_lt, fa_lt, tr_le, fa_le, tr_eq, fa_eq, and_true, true_and, and_false, false_and, il0, il1, il2, il3, il4, il5, il6, il7, il8, il9, il10, il11, il12, il15, il16, il20, il24, il31, il32, il44, il45, il48, il50, il57, il58, il59, il63, il91, il93, il97, il99, il100, il109, il113, il119, il120, il122, il200, il255, il480, il500, il501, il512, il999, il4112, il41120, il1000000, il1000003, ii_add, ii_sub, ii_mul, ii_neg, ii_le, ii_lt, ii_eq, ii_div, q_I, q_V, q_R, lt_q, rZ_q, md_M, md_16, md_4, md_8, md_10, if_true, if_false, if_pos, if_neg, a5]
    rfl
  · have h1 := s_left (c := c) hNow hS
    have hz := sm_tail (fun k => g (6 + k)) (M 0 9) 10 (by omega) (fun k a b => by
      have h2 := hG.2.1 k (by omega) b
      rw [show lim M k = 0 from if_pos a] at h2
      have h3 : 0 ≤ sm (fun r => cnt g r k) 8 := sm_ind _ (fun n s => 0 ≤ s) (by omega) 8 (fun r s c d e => by
        have := (cnt_b (hG.1.1 r c d) k).1
        omega) (by omega)
      omega)
    rw [hz] at h1
    simp (disch := first | assumption | omega) only [fX6_count, lkV hk, lkR0 hk, lkR1 hk, lkR2 hk, lkR3 hk, lkR4 hk, lkR5 hk, lkR6 hk, lkR7 hk, lkR8 hk, lkR9 hk, lkI hk, k_E, t_E, hc1, rwI1, rwS1, rwI2, rwS2, rwI4, rwS4, rwI5, rwS5, rwI7, rwS7, rwI8, rwS8, rwI9, rwS9, rwR0, rwR3, rwR6, rwA1, rwU1, rwA3, rwU3, rwV, rwJ, rwUJ, plI0, plS0, plI1, plS1, plI2, plS2, plI3, plS3, plI4, plS4, plI5, plS5, plI6, plS6, plI7, plS7, plR8, plR9, plR10, plA1, plU1, plA2, plU2, plA3, plU3, plV, stI2, stS2, stI3, stS3, stI4, stS4, stI5, stS5, stI6, stS6, stI7, stS7, stR0, stR1, stA2, stU2, stV, stRow, svI5, svS5, svI6, svS6, svI7, svS7, svR0, svR1, svR2, svR3, svR4, svA13, svU13, svA14, svU14, svA15, svU15, svA16, svU16, svV, svRow, svF, svUF, hiI1, hiS1, hiI2, hiS2, hiR0, hiV, hiRow, rdI2, rdS2, rdI3, rdS3, rdI4, rdS4, rdI5, rdS5, rdI6, rdS6, rdI7, rdS7, rdI8, rdS8, rdR0, rdR1, rdA1, rdU1, rdA2, rdU2, rdV, k_C, ↓reduceIte, tr_lt, fa_lt, tr_le, fa_le, tr_eq, fa_eq, and_true, true_and, and_false, false_and, il0, il1, il2, il3, il4, il5, il6, il7, il8, il9, il10, il11, il12, il15, il16, il20, il24, il31, il32, il44, il45, il48, il50, il57, il58, il59, il63, il91, il93, il97, il99, il100, il109, il113, il119, il120, il122, il200, il255, il480, il500, il501, il512, il999, il4112, il41120, il1000000, il1000003, ii_add, ii_sub, ii_mul, ii_neg, ii_le, ii_lt, ii_eq, ii_div, q_I, q_V, q_R, lt_q, rZ_q, md_M, md_16, md_4, md_8, md_10, if_true, if_false, if_pos, if_neg, h1]
    rfl
theorem d_count12 (hI : Inv C0 N0 n pl sp tv cap c A J M g) (hl : M 0 1 = 1) (h0 : M 0 0 = 0) : fX6_count 0 (ii 12) (CW c A J) = some (.inr "java/lang/IllegalArgumentException", CW (cU c) A J) := by
  have hk := hI.1
  have hRd : isReader c 1 := hk.2.1.1
  have hSv : isSolver c 4 := hk.2.1.2.1
  have hHi : isHist c 21 := hk.2.1.2.2.1
  have hNow : isState c 303 := hk.2.1.2.2.2.1
  have hSpr : isState c 338 := hk.2.1.2.2.2.2.1
  have hPl : isPlan c pl := hk.2.2.2.1.2.1
  obtain ⟨h10, hM, hP, hS, hG⟩ := hI.ld hl
  rw [up_eqv h0] at hM hP hS hG
  obtain ⟨p0, p1, p2, p3, p4, p5, p6, p7⟩ := hP.1
  have hc1 := c_chase1 (A := A) (J := J) hk h10
  have h38 := hM.1.2.1
  have h910 := hM.1.2.2.2.2.2.2.2
  simp (disch := first | assumption | omega) only [fX6_count, lkV hk, lkR0 hk, lkR1 hk, lkR2 hk, lkR3 hk, lkR4 hk, lkR5 hk, lkR6 hk, lkR7 hk, lkR8 hk, lkR9 hk, lkI hk, k_E, t_E, hc1, rwI1, rwS1, rwI2, rwS2, rwI4, rwS4, rwI5, rwS5, rwI7, rwS7, rwI8, rwS8, rwI9, rwS9, rwR0, rwR3, rwR6, rwA1, rwU1, rwA3, rwU3, rwV, rwJ, rwUJ, plI0, plS0, plI1, plS1, plI2, plS2, plI3, plS3, plI4, plS4, plI5, plS5, plI6, plS6, plI7, plS7, plR8, plR9, plR10, plA1, plU1, plA2, plU2, plA3, plU3, plV, stI2, stS2, stI3, stS3, stI4, stS4, stI5, stS5, stI6, stS6, stI7, stS7, stR0, stR1, stA2, stU2, stV, stRow, svI5, svS5, svI6, svS6, svI7, svS7, svR0, svR1, svR2, svR3, svR4, svA13, svU13, svA14, svU14, svA15, svU15, svA16, svU16, svV, svRow, svF, svUF, hiI1, hiS1, hiI2, hiS2, hiR0, hiV, hiRow, rdI2, rdS2, rdI3, rdS3, rdI4, rdS4, rdI5, rdS5, rdI6, rdS6, rdI7, rdS7, rdI8, rdS8, rdR0, rdR1, rdA1, rdU1, rdA2, rdU2, rdV, k_C, ↓reduceIte, tr_lt, fa_lt, tr_le, fa_le, tr_eq, fa_eq, and_true, true_and, and_false, false_and, il0, il1, il2, il3, il4, il5, il6, il7, il8, il9, il10, il11, il12, il15, il16, il20, il24, il31, il32, il44, il45, il48, il50, il57, il58, il59, il63, il91, il93, il97, il99, il100, il109, il113, il119, il120, il122, il200, il255, il480, il500, il501, il512, il999, il4112, il41120, il1000000, il1000003, ii_add, ii_sub, ii_mul, ii_neg, ii_le, ii_lt, ii_eq, ii_div, q_I, q_V, q_R, lt_q, rZ_q, md_M, md_16, md_4, md_8, md_10, if_true, if_false, if_pos, if_neg]
end RDS
