/-! THE CLASS'S CALLS, AS THE LAW MAKES THEM: those that throw -/
section THD
variable {C0 N0 n : Nat} {c : CC} {A : AI} {J : JI} {M : AI} {g : Int → Int} {pl sp tv cap : Nat}
theorem d_printN (hI : Inv C0 N0 n pl sp tv cap c A J M g) (hl : M 0 1 = 1) (h0 : M 0 0 = 0) (L : Int) (hL : ¬ (1 ≤ L ∧ L ≤ 100)) (hib : -2147483648 ≤ L ∧ L < 2147483648) : fX6_print 0 (ii L) (CW c A J) = some (.inr "java/lang/IllegalArgumentException", CW (cU c) A J) := by
  have hk := hI.1
  have hRd : isReader c 1 := hk.2.1.1
  have hSv : isSolver c 4 := hk.2.1.2.1
  have hHi : isHist c 21 := hk.2.1.2.2.1
  have hNow : isState c 303 := hk.2.1.2.2.2.1
  have hSpr : isState c 338 := hk.2.1.2.2.2.2.1
  have hPl : isPlan c pl := hk.2.2.2.1.2.1
  obtain ⟨h10, hM, hP, hS, hG⟩ := hI.ld hl
  rw [up_eqv h0] at hM hP hS hG
  obtain ⟨p0, p1, p2, p3, p4, p5, p6, p7⟩ := hP.1
  have hc1 := c_chase1 (A := A) (J := J) hk h10
  have h38 := hM.1.2.1
  have h910 := hM.1.2.2.2.2.2.2.2
  rw [fX6_print, lkV hk, hc1, k_C, q_V, c_turns0 L hL hib, k_E]
theorem d_restN (hI : Inv C0 N0 n pl sp tv cap c A J M g) (hl : M 0 1 = 1) (h0 : M 0 0 = 0) (L : Int) (hL : ¬ (1 ≤ L ∧ L ≤ 100)) (hib : -2147483648 ≤ L ∧ L < 2147483648) : fX6_rest 0 (ii L) (CW c A J) = some (.inr "java/lang/IllegalArgumentException", CW (cU c) A J) := by
  have hk := hI.1
  have hRd : isReader c 1 := hk.2.1.1
  have hSv : isSolver c 4 := hk.2.1.2.1
  have hHi : isHist c 21 := hk.2.1.2.2.1
  have hNow : isState c 303 := hk.2.1.2.2.2.1
  have hSpr : isState c 338 := hk.2.1.2.2.2.2.1
  have hPl : isPlan c pl := hk.2.2.2.1.2.1
  obtain ⟨h10, hM, hP, hS, hG⟩ := hI.ld hl
  rw [up_eqv h0] at hM hP hS hG
  obtain ⟨p0, p1, p2, p3, p4, p5, p6, p7⟩ := hP.1
  have hc1 := c_chase1 (A := A) (J := J) hk h10
  have h38 := hM.1.2.1
  have h910 := hM.1.2.2.2.2.2.2.2
  rw [fX6_rest, lkV hk, hc1, k_C, q_V, c_turns0 L hL hib, k_E]
theorem d_placeN (hI : Inv C0 N0 n pl sp tv cap c A J M g) (hl : M 0 1 = 1) (h0 : M 0 0 = 0) (r L : Int) (hr : 0 ≤ r ∧ r < M 0 3) (q : ¬ ((1 ≤ L ∧ L ≤ 200) ∧ cel g r 0 < 6 ∧ L ≤ gapM M g r)) (hib : -2147483648 ≤ L ∧ L < 2147483648) : fX6_place 0 (ii r) (ii L) (CW c A J) = some (.inr "java/lang/IllegalArgumentException", CW (cU c) A J) := by
  have hk := hI.1
  have hRd : isReader c 1 := hk.2.1.1
  have hSv : isSolver c 4 := hk.2.1.2.1
  have hHi : isHist c 21 := hk.2.1.2.2.1
  have hNow : isState c 303 := hk.2.1.2.2.2.1
  have hSpr : isState c 338 := hk.2.1.2.2.2.2.1
  have hPl : isPlan c pl := hk.2.2.2.1.2.1
  obtain ⟨h10, hM, hP, hS, hG⟩ := hI.ld hl
  rw [up_eqv h0] at hM hP hS hG
  obtain ⟨p0, p1, p2, p3, p4, p5, p6, p7⟩ := hP.1
  have hc1 := c_chase1 (A := A) (J := J) hk h10
  have h38 := hM.1.2.1
  have h910 := hM.1.2.2.2.2.2.2.2
  have hcr := c_row1 (A := A) (J := J) hk h10 r (by rw [p1]; exact hr) (by rw [p1]; exact h38.2)
  have hr8 : 0 ≤ r ∧ r < 8 := by omega
  have hR := hNow.row r hr8
  have hrr := hS.2 r hr.1 (by omega)
  have hgr := hG.1.1 r hr.1 (by omega)
  have h1 := hgr.1
  have hgb := gapM_b hM hgr
  by_cases hL : 1 ≤ L ∧ L ≤ 200
  · have htb := c_takesBlock (c := c) hR hPl hrr hgr hM p0 p2 L (by omega)
    rw [if_neg (fun x => q ⟨hL, x⟩)] at htb
    have hbl := c_nBL1 (c := c) (A := A) (J := J) L hL
    rw [fX6_place, lkV hk, hcr, k_C, q_R, hbl, k_C, q_V, lkR8 hk, rwV hR, htb, k_C, q_I, if_pos i00, t_E]
  · rw [fX6_place, lkV hk, hcr, k_C, q_R, c_nBL0 L hL hib, k_E]
theorem d_liftN (hI : Inv C0 N0 n pl sp tv cap c A J M g) (hl : M 0 1 = 1) (h0 : M 0 0 = 0) (r : Int) (hr : 0 ≤ r ∧ r < M 0 3) (q : cel g r 0 = 0) : fX6_lift 0 (ii r) (ii 0) (CW c A J) = some (.inr "java/lang/IndexOutOfBoundsException", CW (cU c) A J) := by
  have hk := hI.1
  have hRd : isReader c 1 := hk.2.1.1
  have hSv : isSolver c 4 := hk.2.1.2.1
  have hHi : isHist c 21 := hk.2.1.2.2.1
  have hNow : isState c 303 := hk.2.1.2.2.2.1
  have hSpr : isState c 338 := hk.2.1.2.2.2.2.1
  have hPl : isPlan c pl := hk.2.2.2.1.2.1
  obtain ⟨h10, hM, hP, hS, hG⟩ := hI.ld hl
  rw [up_eqv h0] at hM hP hS hG
  obtain ⟨p0, p1, p2, p3, p4, p5, p6, p7⟩ := hP.1
  have hc1 := c_chase1 (A := A) (J := J) hk h10
  have h38 := hM.1.2.1
  have h910 := hM.1.2.2.2.2.2.2.2
  have hcr := c_row1 (A := A) (J := J) hk h10 r (by rw [p1]; exact hr) (by rw [p1]; exact h38.2)
  have hr8 : 0 ≤ r ∧ r < 8 := by omega
  have hR := hNow.row r hr8
  have hrr := hS.2 r hr.1 (by omega)
  have hgr := hG.1.1 r hr.1 (by omega)
  have x1 := hrr.1.1
  rw [q] at x1
  have hci := c_index0 (c := c) (A := A) (J := J) 0 0 (by omega) (by omega) (by omega)
  simp (disch := first | assumption | omega) only [fX6_lift, lkV hk, lkR0 hk, lkR1 hk, lkR2 hk, lkR3 hk, lkR4 hk, lkR5 hk, lkR6 hk, lkR7 hk, lkR8 hk, lkR9 hk, lkI hk, k_E, t_E, hcr, rwI1, rwS1, rwI2, rwS2, rwI4, rwS4, rwI5, rwS5, rwI7, rwS7, rwI8, rwS8, rwI9, rwS9, rwR0, rwR3, rwR6, rwA1, rwU1, rwA3, rwU3, rwV, rwJ, rwUJ, plI0, plS0, plI1, plS1, plI2, plS2, plI3, plS3, plI4, plS4, plI5, plS5, plI6, plS6, plI7, plS7, plR8, plR9, plR10, plA1, plU1, plA2, plU2, plA3, plU3, plV, stI2, stS2, stI3, stS3, stI4, stS4, stI5, stS5, stI6, stS6, stI7, stS7, stR0, stR1, stA2, stU2, stV, stRow, svI5, svS5, svI6, svS6, svI7, svS7, svR0, svR1, svR2, svR3, svR4, svA13, svU13, svA14, svU14, svA15, svU15, svA16, svU16, svV, svRow, svF, svUF, hiI1, hiS1, hiI2, hiS2, hiR0, hiV, hiRow, rdI2, rdS2, rdI3, rdS3, rdI4, rdS4, rdI5, rdS5, rdI6, rdS6, rdI7, rdS7, rdI8, rdS8, rdR0, rdR1, rdA1, rdU1, rdA2, rdU2, rdV, k_C, ↓reduceIte, tr_lt, fa_lt, tr_le, fa_le, tr_eq, fa_eq, and_true, true_and, and_false, false_and, il0, il1, il2, il3, il4, il5, il6, il7, il8, il9, il10, il11, il12, il15, il16, il20, il24, il31, il32, il44, il45, il48, il50, il57, il58, il59, il63, il91, il93, il97, il99, il100, il109, il113, il119, il120, il122, il200, il255, il480, il500, il501, il512, il999, il4112, il41120, il1000000, il1000003, ii_add, ii_sub, ii_mul, ii_neg, ii_le, ii_lt, ii_eq, ii_div, q_I, q_V, q_R, lt_q, rZ_q, md_M, md_16, md_4, md_8, md_10, if_true, if_false, if_pos, if_neg, x1, hci]
theorem d_takeN (hI : Inv C0 N0 n pl sp tv cap c A J M g) (hl : M 0 1 = 1) (h0 : M 0 0 = 0) (r : Int) (hr : 0 ≤ r ∧ r < M 0 3) (q : cel g r 1 = 0) : fX6_take 0 (ii r) (ii 0) (CW c A J) = some (.inr "java/lang/IndexOutOfBoundsException", CW (cU c) A J) := by
  have hk := hI.1
  have hRd : isReader c 1 := hk.2.1.1
  have hSv : isSolver c 4 := hk.2.1.2.1
  have hHi : isHist c 21 := hk.2.1.2.2.1
  have hNow : isState c 303 := hk.2.1.2.2.2.1
  have hSpr : isState c 338 := hk.2.1.2.2.2.2.1
  have hPl : isPlan c pl := hk.2.2.2.1.2.1
  obtain ⟨h10, hM, hP, hS, hG⟩ := hI.ld hl
  rw [up_eqv h0] at hM hP hS hG
  obtain ⟨p0, p1, p2, p3, p4, p5, p6, p7⟩ := hP.1
  have hc1 := c_chase1 (A := A) (J := J) hk h10
  have h38 := hM.1.2.1
  have h910 := hM.1.2.2.2.2.2.2.2
  have hcr := c_row1 (A := A) (J := J) hk h10 r (by rw [p1]; exact hr) (by rw [p1]; exact h38.2)
  have hr8 : 0 ≤ r ∧ r < 8 := by omega
  have hR := hNow.row r hr8
  have hrr := hS.2 r hr.1 (by omega)
  have hgr := hG.1.1 r hr.1 (by omega)
  have x1 := hrr.1.2.2.1
  rw [q] at x1
  have hci := c_index0 (c := c) (A := A) (J := J) 0 0 (by omega) (by omega) (by omega)
  simp (disch := first | assumption | omega) only [fX6_take, lkV hk, lkR0 hk, lkR1 hk, lkR2 hk, lkR3 hk, lkR4 hk, lkR5 hk, lkR6 hk, lkR7 hk, lkR8 hk, lkR9 hk, lkI hk, k_E, t_E, hcr, rwI1, rwS1, rwI2, rwS2, rwI4, rwS4, rwI5, rwS5, rwI7, rwS7, rwI8, rwS8, rwI9, rwS9, rwR0, rwR3, rwR6, rwA1, rwU1, rwA3, rwU3, rwV, rwJ, rwUJ, plI0, plS0, plI1, plS1, plI2, plS2, plI3, plS3, plI4, plS4, plI5, plS5, plI6, plS6, plI7, plS7, plR8, plR9, plR10, plA1, plU1, plA2, plU2, plA3, plU3, plV, stI2, stS2, stI3, stS3, stI4, stS4, stI5, stS5, stI6, stS6, stI7, stS7, stR0, stR1, stA2, stU2, stV, stRow, svI5, svS5, svI6, svS6, svI7, svS7, svR0, svR1, svR2, svR3, svR4, svA13, svU13, svA14, svU14, svA15, svU15, svA16, svU16, svV, svRow, svF, svUF, hiI1, hiS1, hiI2, hiS2, hiR0, hiV, hiRow, rdI2, rdS2, rdI3, rdS3, rdI4, rdS4, rdI5, rdS5, rdI6, rdS6, rdI7, rdS7, rdI8, rdS8, rdR0, rdR1, rdA1, rdU1, rdA2, rdU2, rdV, k_C, ↓reduceIte, tr_lt, fa_lt, tr_le, fa_le, tr_eq, fa_eq, and_true, true_and, and_false, false_and, il0, il1, il2, il3, il4, il5, il6, il7, il8, il9, il10, il11, il12, il15, il16, il20, il24, il31, il32, il44, il45, il48, il50, il57, il58, il59, il63, il91, il93, il97, il99, il100, il109, il113, il119, il120, il122, il200, il255, il480, il500, il501, il512, il999, il4112, il41120, il1000000, il1000003, ii_add, ii_sub, ii_mul, ii_neg, ii_le, ii_lt, ii_eq, ii_div, q_I, q_V, q_R, lt_q, rZ_q, md_M, md_16, md_4, md_8, md_10, if_true, if_false, if_pos, if_neg, x1, hci]
theorem d_putK (hI : Inv C0 N0 n pl sp tv cap c A J M g) (hl : M 0 1 = 1) (h0 : M 0 0 = 0) (r k : Int) (hr : 0 ≤ r ∧ r < M 0 3) (hkd : ¬ (0 ≤ k ∧ k < M 0 9)) (hib : -2147483648 ≤ k ∧ k < 2147483648) : fX6_put 0 (ii r) (ii k) (CW c A J) = some (.inr "java/lang/IndexOutOfBoundsException", CW (cU c) A J) := by
  have hk := hI.1
  have hRd : isReader c 1 := hk.2.1.1
  have hSv : isSolver c 4 := hk.2.1.2.1
  have hHi : isHist c 21 := hk.2.1.2.2.1
  have hNow : isState c 303 := hk.2.1.2.2.2.1
  have hSpr : isState c 338 := hk.2.1.2.2.2.2.1
  have hPl : isPlan c pl := hk.2.2.2.1.2.1
  obtain ⟨h10, hM, hP, hS, hG⟩ := hI.ld hl
  rw [up_eqv h0] at hM hP hS hG
  obtain ⟨p0, p1, p2, p3, p4, p5, p6, p7⟩ := hP.1
  have hc1 := c_chase1 (A := A) (J := J) hk h10
  have h38 := hM.1.2.1
  have h910 := hM.1.2.2.2.2.2.2.2
  have hcr := c_row1 (A := A) (J := J) hk h10 r (by rw [p1]; exact hr) (by rw [p1]; exact h38.2)
  have hr8 : 0 ≤ r ∧ r < 8 := by omega
  have hR := hNow.row r hr8
  have hrr := hS.2 r hr.1 (by omega)
  have hgr := hG.1.1 r hr.1 (by omega)
  have hck := c_kind0 (A := A) (J := J) hk k (by rw [p7]; exact hkd) (by rw [p7]; omega) hib
  rw [fX6_put, lkV hk, hcr, k_C, q_R, lkV hk, hck, k_E]
theorem d_putN (hI : Inv C0 N0 n pl sp tv cap c A J M g) (hl : M 0 1 = 1) (h0 : M 0 0 = 0) (r k : Int) (hr : 0 ≤ r ∧ r < M 0 3) (hkd : 0 ≤ k ∧ k < M 0 9) (q : ¬ (0 < g (6 + k) ∧ M 2 k ≤ gapM M g r)) : fX6_put 0 (ii r) (ii k) (CW c A J) = some (.inr "java/lang/IllegalArgumentException", CW (cU c) A J) := by
  have hk := hI.1
  have hRd : isReader c 1 := hk.2.1.1
  have hSv : isSolver c 4 := hk.2.1.2.1
  have hHi : isHist c 21 := hk.2.1.2.2.1
  have hNow : isState c 303 := hk.2.1.2.2.2.1
  have hSpr : isState c 338 := hk.2.1.2.2.2.2.1
  have hPl : isPlan c pl := hk.2.2.2.1.2.1
  obtain ⟨h10, hM, hP, hS, hG⟩ := hI.ld hl
  rw [up_eqv h0] at hM hP hS hG
  obtain ⟨p0, p1, p2, p3, p4, p5, p6, p7⟩ := hP.1
  have hc1 := c_chase1 (A := A) (J := J) hk h10
  have h38 := hM.1.2.1
  have h910 := hM.1.2.2.2.2.2.2.2
  have hcr := c_row1 (A := A) (J := J) hk h10 r (by rw [p1]; exact hr) (by rw [p1]; exact h38.2)
  have hr8 : 0 ≤ r ∧ r < 8 := by omega
  have hR := hNow.row r hr8
  have hrr := hS.2 r hr.1 (by omega)
  have hgr := hG.1.1 r hr.1 (by omega)
  have hck := c_kind1 (A := A) (J := J) hk k (by rw [p7]; exact hkd) (by rw [p7]; omega)
  have hL := hG.GL k hkd.1 (by omega)
  have htp := c_takesPiece (c := c) hk hNow hPl r k hr8 (by omega) hM hS hG.1.1 p0 p2 (hP.2.1 k hkd.1 hkd.2).2 hL
  rw [if_neg q] at htp
  rw [fX6_put, lkV hk, hcr, k_C, q_R, lkV hk, hck, k_C, q_V, lkV hk, htp, k_C, q_I, if_pos i00, t_E]
theorem d_buyK (hI : Inv C0 N0 n pl sp tv cap c A J M g) (hl : M 0 1 = 1) (h0 : M 0 0 = 0) (k L : Int) (hkd : ¬ (0 ≤ k ∧ k < M 0 9)) (hib : -2147483648 ≤ k ∧ k < 2147483648) : fX6_buy 0 (ii k) (ii L) (CW c A J) = some (.inr "java/lang/IndexOutOfBoundsException", CW (cU c) A J) := by
  have hk := hI.1
  have hRd : isReader c 1 := hk.2.1.1
  have hSv : isSolver c 4 := hk.2.1.2.1
  have hHi : isHist c 21 := hk.2.1.2.2.1
  have hNow : isState c 303 := hk.2.1.2.2.2.1
  have hSpr : isState c 338 := hk.2.1.2.2.2.2.1
  have hPl : isPlan c pl := hk.2.2.2.1.2.1
  obtain ⟨h10, hM, hP, hS, hG⟩ := hI.ld hl
  rw [up_eqv h0] at hM hP hS hG
  obtain ⟨p0, p1, p2, p3, p4, p5, p6, p7⟩ := hP.1
  have hc1 := c_chase1 (A := A) (J := J) hk h10
  have h38 := hM.1.2.1
  have h910 := hM.1.2.2.2.2.2.2.2
  have hck := c_kind0 (A := A) (J := J) hk k (by rw [p7]; exact hkd) (by rw [p7]; omega) hib
  rw [fX6_buy, lkV hk, hc1, k_C, q_V, lkV hk, hck, k_E]
theorem d_buyN (hI : Inv C0 N0 n pl sp tv cap c A J M g) (hl : M 0 1 = 1) (h0 : M 0 0 = 0) (k L : Int) (hkd : 0 ≤ k ∧ k < M 0 9) (q : ¬ ((1 ≤ L ∧ L ≤ 99) ∧ g (6 + k) + L ≤ 99)) (hLb : -2147483648 ≤ L ∧ L < 2147483648) : fX6_buy 0 (ii k) (ii L) (CW c A J) = some (.inr "java/lang/IllegalArgumentException", CW (cU c) A J) := by
  have hk := hI.1
  have hRd : isReader c 1 := hk.2.1.1
  have hSv : isSolver c 4 := hk.2.1.2.1
  have hHi : isHist c 21 := hk.2.1.2.2.1
  have hNow : isState c 303 := hk.2.1.2.2.2.1
  have hSpr : isState c 338 := hk.2.1.2.2.2.2.1
  have hPl : isPlan c pl := hk.2.2.2.1.2.1
  obtain ⟨h10, hM, hP, hS, hG⟩ := hI.ld hl
  rw [up_eqv h0] at hM hP hS hG
  obtain ⟨p0, p1, p2, p3, p4, p5, p6, p7⟩ := hP.1
  have hc1 := c_chase1 (A := A) (J := J) hk h10
  have h38 := hM.1.2.1
  have h910 := hM.1.2.2.2.2.2.2.2
  have hck := c_kind1 (A := A) (J := J) hk k (by rw [p7]; exact hkd) (by rw [p7]; omega)
  have hL := hG.GL k hkd.1 (by omega)
  have x1 := hS.1.2 k hkd.1 (by omega)
  by_cases y : 1 ≤ L ∧ L ≤ 99
  · have y2 : ¬ g (6 + k) + L ≤ 99 := fun z => q ⟨y, z⟩
    simp (disch := first | assumption | omega) only [fX6_buy, lkV hk, lkR0 hk, lkR1 hk, lkR2 hk, lkR3 hk, lkR4 hk, lkR5 hk, lkR6 hk, lkR7 hk, lkR8 hk, lkR9 hk, lkI hk, k_E, t_E, hc1, hck, rwI1, rwS1, rwI2, rwS2, rwI4, rwS4, rwI5, rwS5, rwI7, rwS7, rwI8, rwS8, rwI9, rwS9, rwR0, rwR3, rwR6, rwA1, rwU1, rwA3, rwU3, rwV, rwJ, rwUJ, plI0, plS0, plI1, plS1, plI2, plS2, plI3, plS3, plI4, plS4, plI5, plS5, plI6, plS6, plI7, plS7, plR8, plR9, plR10, plA1, plU1, plA2, plU2, plA3, plU3, plV, stI2, stS2, stI3, stS3, stI4, stS4, stI5, stS5, stI6, stS6, stI7, stS7, stR0, stR1, stA2, stU2, stV, stRow, svI5, svS5, svI6, svS6, svI7, svS7, svR0, svR1, svR2, svR3, svR4, svA13, svU13, svA14, svU14, svA15, svU15, svA16, svU16, svV, svRow, svF, svUF, hiI1, hiS1, hiI2, hiS2, hiR0, hiV, hiRow, rdI2, rdS2, rdI3, rdS3, rdI4, rdS4, rdI5, rdS5, rdI6, rdS6, rdI7, rdS7, rdI8, rdS8, rdR0, rdR1, rdA1, rdU1, rdA2, rdU2, rdV, k_C, ↓reduceIte, tr_lt, fa_lt, tr_le, fa_le, tr_eq, fa_eq, and_true, true_and, and_false, false_and, il0, il1, il2, il3, il4, il5, il6, il7, il8, il9, il10, il11, il12, il15, il16, il20, il24, il31, il32, il44, il45, il48, il50, il57, il58, il59, il63, il91, il93, il97, il99, il100, il109, il113, il119, il120, il122, il200, il255, il480, il500, il501, il512, il999, il4112, il41120, il1000000, il1000003, ii_add, ii_sub, ii_mul, ii_neg, ii_le, ii_lt, ii_eq, ii_div, q_I, q_V, q_R, lt_q, rZ_q, md_M, md_16, md_4, md_8, md_10, if_true, if_false, if_pos, if_neg, x1, t_E]
  · by_cases q2 : L < 1
    · rw [fX6_buy, lkV hk, hc1, k_C, q_V, lkV hk, hck, k_C, q_V, il1, if_pos (by rw [ii_lt _ _ (by omega)]; exact q2), t_E]
    · rw [fX6_buy, lkV hk, hc1, k_C, q_V, lkV hk, hck, k_C, q_V, il1, il99, if_neg (by rw [ii_lt _ _ (by omega)]; exact q2), if_pos (by rw [ii_lt _ _ (by omega)]; omega), t_E]
theorem d_quoinN (hI : Inv C0 N0 n pl sp tv cap c A J M g) (hl : M 0 1 = 1) (h0 : M 0 0 = 0) (r m : Int) (hr : 0 ≤ r ∧ r < M 0 3) (q : m = 0 ∧ cel g r 2 = -1 ∨ m = 1 ∧ (cel g r 2 ≠ -1 ∨ g 0 = 0 ∨ ¬ M 0 4 ≤ gapM M g r)) : fX6_quoin 0 (ii r) (ii m) (CW c A J) = some (.inr "java/lang/IllegalArgumentException", CW (cU c) A J) := by
  have hk := hI.1
  have hRd : isReader c 1 := hk.2.1.1
  have hSv : isSolver c 4 := hk.2.1.2.1
  have hHi : isHist c 21 := hk.2.1.2.2.1
  have hNow : isState c 303 := hk.2.1.2.2.2.1
  have hSpr : isState c 338 := hk.2.1.2.2.2.2.1
  have hPl : isPlan c pl := hk.2.2.2.1.2.1
  obtain ⟨h10, hM, hP, hS, hG⟩ := hI.ld hl
  rw [up_eqv h0] at hM hP hS hG
  obtain ⟨p0, p1, p2, p3, p4, p5, p6, p7⟩ := hP.1
  have hc1 := c_chase1 (A := A) (J := J) hk h10
  have h38 := hM.1.2.1
  have h910 := hM.1.2.2.2.2.2.2.2
  have hcr := c_row1 (A := A) (J := J) hk h10 r (by rw [p1]; exact hr) (by rw [p1]; exact h38.2)
  have hr8 : 0 ≤ r ∧ r < 8 := by omega
  have hR := hNow.row r hr8
  have hrr := hS.2 r hr.1 (by omega)
  have hgr := hG.1.1 r hr.1 (by omega)
  have x7 := hrr.1.2.2.2.2.1
  have h7 := hgr.2.2.2.2.1
  have hcq := c_hasQuoin (c := c) (A := A) (J := J) hR (by rw [x7]; exact h7)
  rw [x7] at hcq
  have hg0 := hG.h0
  have x2 := hS.1.1.1
  have h4 := hM.1.2.2.1
  have hgb := gapM_b hM hgr
  have hgpA := c_gapIn (c := c) hR hPl hrr hgr p0 p2
  rcases q with ⟨rfl, h2⟩ | ⟨rfl, q⟩
  · rw [if_pos h2] at hcq
    simp (disch := first | assumption | omega) only [fX6_quoin, lkV hk, lkR0 hk, lkR1 hk, lkR2 hk, lkR3 hk, lkR4 hk, lkR5 hk, lkR6 hk, lkR7 hk, lkR8 hk, lkR9 hk, lkI hk, k_E, t_E, hcr, rwI1, rwS1, rwI2, rwS2, rwI4, rwS4, rwI5, rwS5, rwI7, rwS7, rwI8, rwS8, rwI9, rwS9, rwR0, rwR3, rwR6, rwA1, rwU1, rwA3, rwU3, rwV, rwJ, rwUJ, plI0, plS0, plI1, plS1, plI2, plS2, plI3, plS3, plI4, plS4, plI5, plS5, plI6, plS6, plI7, plS7, plR8, plR9, plR10, plA1, plU1, plA2, plU2, plA3, plU3, plV, stI2, stS2, stI3, stS3, stI4, stS4, stI5, stS5, stI6, stS6, stI7, stS7, stR0, stR1, stA2, stU2, stV, stRow, svI5, svS5, svI6, svS6, svI7, svS7, svR0, svR1, svR2, svR3, svR4, svA13, svU13, svA14, svU14, svA15, svU15, svA16, svU16, svV, svRow, svF, svUF, hiI1, hiS1, hiI2, hiS2, hiR0, hiV, hiRow, rdI2, rdS2, rdI3, rdS3, rdI4, rdS4, rdI5, rdS5, rdI6, rdS6, rdI7, rdS7, rdI8, rdS8, rdR0, rdR1, rdA1, rdU1, rdA2, rdU2, rdV, k_C, ↓reduceIte, tr_lt, fa_lt, tr_le, fa_le, tr_eq, fa_eq, and_true, true_and, and_false, false_and, il0, il1, il2, il3, il4, il5, il6, il7, il8, il9, il10, il11, il12, il15, il16, il20, il24, il31, il32, il44, il45, il48, il50, il57, il58, il59, il63, il91, il93, il97, il99, il100, il109, il113, il119, il120, il122, il200, il255, il480, il500, il501, il512, il999, il4112, il41120, il1000000, il1000003, ii_add, ii_sub, ii_mul, ii_neg, ii_le, ii_lt, ii_eq, ii_div, q_I, q_V, q_R, lt_q, rZ_q, md_M, md_16, md_4, md_8, md_10, if_true, if_false, if_pos, if_neg, hcq, t_E]
  · by_cases h2 : cel g r 2 = -1
    · rw [if_pos h2] at hcq
      by_cases h3 : g 0 = 0
      · simp (disch := first | assumption | omega) only [fX6_quoin, lkV hk, lkR0 hk, lkR1 hk, lkR2 hk, lkR3 hk, lkR4 hk, lkR5 hk, lkR6 hk, lkR7 hk, lkR8 hk, lkR9 hk, lkI hk, k_E, t_E, hcr, rwI1, rwS1, rwI2, rwS2, rwI4, rwS4, rwI5, rwS5, rwI7, rwS7, rwI8, rwS8, rwI9, rwS9, rwR0, rwR3, rwR6, rwA1, rwU1, rwA3, rwU3, rwV, rwJ, rwUJ, plI0, plS0, plI1, plS1, plI2, plS2, plI3, plS3, plI4, plS4, plI5, plS5, plI6, plS6, plI7, plS7, plR8, plR9, plR10, plA1, plU1, plA2, plU2, plA3, plU3, plV, stI2, stS2, stI3, stS3, stI4, stS4, stI5, stS5, stI6, stS6, stI7, stS7, stR0, stR1, stA2, stU2, stV, stRow, svI5, svS5, svI6, svS6, svI7, svS7, svR0, svR1, svR2, svR3, svR4, svA13, svU13, svA14, svU14, svA15, svU15, svA16, svU16, svV, svRow, svF, svUF, hiI1, hiS1, hiI2, hiS2, hiR0, hiV, hiRow, rdI2, rdS2, rdI3, rdS3, rdI4, rdS4, rdI5, rdS5, rdI6, rdS6, rdI7, rdS7, rdI8, rdS8, rdR0, rdR1, rdA1, rdU1, rdA2, rdU2, rdV, k_C, ↓reduceIte, tr_lt, fa_lt, tr_le, fa_le, tr_eq, fa_eq, and_true, true_and, and_false, false_and, il0, il1, il2, il3, il4, il5, il6, il7, il8, il9, il10, il11, il12, il15, il16, il20, il24, il31, il32, il44, il45, il48, il50, il57, il58, il59, il63, il91, il93, il97, il99, il100, il109, il113, il119, il120, il122, il200, il255, il480, il500, il501, il512, il999, il4112, il41120, il1000000, il1000003, ii_add, ii_sub, ii_mul, ii_neg, ii_le, ii_lt, ii_eq, ii_div, q_I, q_V, q_R, lt_q, rZ_q, md_M, md_16, md_4, md_8, md_10, if_true, if_false, if_pos, if_neg, hcq, x2, t_E]
      · have hq : ¬ M 0 4 ≤ gapM M g r := by
          rcases q with q | q | q
          · exact absurd h2 q
          · exact absurd q h3
          · exact q
        simp (disch := first | assumption | omega) only [fX6_quoin, lkV hk, lkR0 hk, lkR1 hk, lkR2 hk, lkR3 hk, lkR4 hk, lkR5 hk, lkR6 hk, lkR7 hk, lkR8 hk, lkR9 hk, lkI hk, k_E, t_E, hcr, rwI1, rwS1, rwI2, rwS2, rwI4, rwS4, rwI5, rwS5, rwI7, rwS7, rwI8, rwS8, rwI9, rwS9, rwR0, rwR3, rwR6, rwA1, rwU1, rwA3, rwU3, rwV, rwJ, rwUJ, plI0, plS0, plI1, plS1, plI2, plS2, plI3, plS3, plI4, plS4, plI5, plS5, plI6, plS6, plI7, plS7, plR8, plR9, plR10, plA1, plU1, plA2, plU2, plA3, plU3, plV, stI2, stS2, stI3, stS3, stI4, stS4, stI5, stS5, stI6, stS6, stI7, stS7, stR0, stR1, stA2, stU2, stV, stRow, svI5, svS5, svI6, svS6, svI7, svS7, svR0, svR1, svR2, svR3, svR4, svA13, svU13, svA14, svU14, svA15, svU15, svA16, svU16, svV, svRow, svF, svUF, hiI1, hiS1, hiI2, hiS2, hiR0, hiV, hiRow, rdI2, rdS2, rdI3, rdS3, rdI4, rdS4, rdI5, rdS5, rdI6, rdS6, rdI7, rdS7, rdI8, rdS8, rdR0, rdR1, rdA1, rdU1, rdA2, rdU2, rdV, k_C, ↓reduceIte, tr_lt, fa_lt, tr_le, fa_le, tr_eq, fa_eq, and_true, true_and, and_false, false_and, il0, il1, il2, il3, il4, il5, il6, il7, il8, il9, il10, il11, il12, il15, il16, il20, il24, il31, il32, il44, il45, il48, il50, il57, il58, il59, il63, il91, il93, il97, il99, il100, il109, il113, il119, il120, il122, il200, il255, il480, il500, il501, il512, il999, il4112, il41120, il1000000, il1000003, ii_add, ii_sub, ii_mul, ii_neg, ii_le, ii_lt, ii_eq, ii_div, q_I, q_V, q_R, lt_q, rZ_q, md_M, md_16, md_4, md_8, md_10, if_true, if_false, if_pos, if_neg, hcq, x2, p2, hgpA, t_E]
    · rw [if_neg h2] at hcq
      simp (disch := first | assumption | omega) only [fX6_quoin, lkV hk, lkR0 hk, lkR1 hk, lkR2 hk, lkR3 hk, lkR4 hk, lkR5 hk, lkR6 hk, lkR7 hk, lkR8 hk, lkR9 hk, lkI hk, k_E, t_E, hcr, rwI1, rwS1, rwI2, rwS2, rwI4, rwS4, rwI5, rwS5, rwI7, rwS7, rwI8, rwS8, rwI9, rwS9, rwR0, rwR3, rwR6, rwA1, rwU1, rwA3, rwU3, rwV, rwJ, rwUJ, plI0, plS0, plI1, plS1, plI2, plS2, plI3, plS3, plI4, plS4, plI5, plS5, plI6, plS6, plI7, plS7, plR8, plR9, plR10, plA1, plU1, plA2, plU2, plA3, plU3, plV, stI2, stS2, stI3, stS3, stI4, stS4, stI5, stS5, stI6, stS6, stI7, stS7, stR0, stR1, stA2, stU2, stV, stRow, svI5, svS5, svI6, svS6, svI7, svS7, svR0, svR1, svR2, svR3, svR4, svA13, svU13, svA14, svU14, svA15, svU15, svA16, svU16, svV, svRow, svF, svUF, hiI1, hiS1, hiI2, hiS2, hiR0, hiV, hiRow, rdI2, rdS2, rdI3, rdS3, rdI4, rdS4, rdI5, rdS5, rdI6, rdS6, rdI7, rdS7, rdI8, rdS8, rdR0, rdR1, rdA1, rdU1, rdA2, rdU2, rdV, k_C, ↓reduceIte, tr_lt, fa_lt, tr_le, fa_le, tr_eq, fa_eq, and_true, true_and, and_false, false_and, il0, il1, il2, il3, il4, il5, il6, il7, il8, il9, il10, il11, il12, il15, il16, il20, il24, il31, il32, il44, il45, il48, il50, il57, il58, il59, il63, il91, il93, il97, il99, il100, il109, il113, il119, il120, il122, il200, il255, il480, il500, il501, il512, il999, il4112, il41120, il1000000, il1000003, ii_add, ii_sub, ii_mul, ii_neg, ii_le, ii_lt, ii_eq, ii_div, q_I, q_V, q_R, lt_q, rZ_q, md_M, md_16, md_4, md_8, md_10, if_true, if_false, if_pos, if_neg, hcq, t_E]
theorem d_openN (hI : Inv C0 N0 n pl sp tv cap c A J M g) (hl : M 0 1 = 1) (h0 : M 0 0 = 0) (r o : Int) (hr : 0 ≤ r ∧ r < M 0 3) (hib : 0 ≤ o ∧ o ≤ 1000) (q : cel g r 2 = -1 ∨ M 0 5 < o ∨ ¬ M 0 4 + o ≤ needM M g r) : fX6_open 0 (ii r) (ii o) (CW c A J) = some (.inr "java/lang/IllegalArgumentException", CW (cU c) A J) := by
  have hk := hI.1
  have hRd : isReader c 1 := hk.2.1.1
  have hSv : isSolver c 4 := hk.2.1.2.1
  have hHi : isHist c 21 := hk.2.1.2.2.1
  have hNow : isState c 303 := hk.2.1.2.2.2.1
  have hSpr : isState c 338 := hk.2.1.2.2.2.2.1
  have hPl : isPlan c pl := hk.2.2.2.1.2.1
  obtain ⟨h10, hM, hP, hS, hG⟩ := hI.ld hl
  rw [up_eqv h0] at hM hP hS hG
  obtain ⟨p0, p1, p2, p3, p4, p5, p6, p7⟩ := hP.1
  have hc1 := c_chase1 (A := A) (J := J) hk h10
  have h38 := hM.1.2.1
  have h910 := hM.1.2.2.2.2.2.2.2
  have hcr := c_row1 (A := A) (J := J) hk h10 r (by rw [p1]; exact hr) (by rw [p1]; exact h38.2)
  have hr8 : 0 ≤ r ∧ r < 8 := by omega
  have hR := hNow.row r hr8
  have hrr := hS.2 r hr.1 (by omega)
  have hgr := hG.1.1 r hr.1 (by omega)
  have x7 := hrr.1.2.2.2.2.1
  have h7 := hgr.2.2.2.2.1
  have hcq := c_hasQuoin (c := c) (A := A) (J := J) hR (by rw [x7]; exact h7)
  rw [x7] at hcq
  have h4 := hM.1.2.2.1
  have h5 := hM.1.2.2.2.1
  have hN := (hG.need hM hr).1
  by_cases h2 : cel g r 2 = -1
  · rw [if_pos h2] at hcq
    simp (disch := first | assumption | omega) only [fX6_open, lkV hk, lkR0 hk, lkR1 hk, lkR2 hk, lkR3 hk, lkR4 hk, lkR5 hk, lkR6 hk, lkR7 hk, lkR8 hk, lkR9 hk, lkI hk, k_E, t_E, hcr, rwI1, rwS1, rwI2, rwS2, rwI4, rwS4, rwI5, rwS5, rwI7, rwS7, rwI8, rwS8, rwI9, rwS9, rwR0, rwR3, rwR6, rwA1, rwU1, rwA3, rwU3, rwV, rwJ, rwUJ, plI0, plS0, plI1, plS1, plI2, plS2, plI3, plS3, plI4, plS4, plI5, plS5, plI6, plS6, plI7, plS7, plR8, plR9, plR10, plA1, plU1, plA2, plU2, plA3, plU3, plV, stI2, stS2, stI3, stS3, stI4, stS4, stI5, stS5, stI6, stS6, stI7, stS7, stR0, stR1, stA2, stU2, stV, stRow, svI5, svS5, svI6, svS6, svI7, svS7, svR0, svR1, svR2, svR3, svR4, svA13, svU13, svA14, svU14, svA15, svU15, svA16, svU16, svV, svRow, svF, svUF, hiI1, hiS1, hiI2, hiS2, hiR0, hiV, hiRow, rdI2, rdS2, rdI3, rdS3, rdI4, rdS4, rdI5, rdS5, rdI6, rdS6, rdI7, rdS7, rdI8, rdS8, rdR0, rdR1, rdA1, rdU1, rdA2, rdU2, rdV, k_C, ↓reduceIte, tr_lt, fa_lt, tr_le, fa_le, tr_eq, fa_eq, and_true, true_and, and_false, false_and, il0, il1, il2, il3, il4, il5, il6, il7, il8, il9, il10, il11, il12, il15, il16, il20, il24, il31, il32, il44, il45, il48, il50, il57, il58, il59, il63, il91, il93, il97, il99, il100, il109, il113, il119, il120, il122, il200, il255, il480, il500, il501, il512, il999, il4112, il41120, il1000000, il1000003, ii_add, ii_sub, ii_mul, ii_neg, ii_le, ii_lt, ii_eq, ii_div, q_I, q_V, q_R, lt_q, rZ_q, md_M, md_16, md_4, md_8, md_10, if_true, if_false, if_pos, if_neg, hcq, t_E]
  · rw [if_neg h2] at hcq
    by_cases ho : o ≤ M 0 5
    · have hq : ¬ M 0 4 + o ≤ needM M g r := by omega
      have hrmA := c_roomM (c := c) hR hPl hrr p0
      simp (disch := first | assumption | omega) only [fX6_open, lkV hk, lkR0 hk, lkR1 hk, lkR2 hk, lkR3 hk, lkR4 hk, lkR5 hk, lkR6 hk, lkR7 hk, lkR8 hk, lkR9 hk, lkI hk, k_E, t_E, hcr, rwI1, rwS1, rwI2, rwS2, rwI4, rwS4, rwI5, rwS5, rwI7, rwS7, rwI8, rwS8, rwI9, rwS9, rwR0, rwR3, rwR6, rwA1, rwU1, rwA3, rwU3, rwV, rwJ, rwUJ, plI0, plS0, plI1, plS1, plI2, plS2, plI3, plS3, plI4, plS4, plI5, plS5, plI6, plS6, plI7, plS7, plR8, plR9, plR10, plA1, plU1, plA2, plU2, plA3, plU3, plV, stI2, stS2, stI3, stS3, stI4, stS4, stI5, stS5, stI6, stS6, stI7, stS7, stR0, stR1, stA2, stU2, stV, stRow, svI5, svS5, svI6, svS6, svI7, svS7, svR0, svR1, svR2, svR3, svR4, svA13, svU13, svA14, svU14, svA15, svU15, svA16, svU16, svV, svRow, svF, svUF, hiI1, hiS1, hiI2, hiS2, hiR0, hiV, hiRow, rdI2, rdS2, rdI3, rdS3, rdI4, rdS4, rdI5, rdS5, rdI6, rdS6, rdI7, rdS7, rdI8, rdS8, rdR0, rdR1, rdA1, rdU1, rdA2, rdU2, rdV, k_C, ↓reduceIte, tr_lt, fa_lt, tr_le, fa_le, tr_eq, fa_eq, and_true, true_and, and_false, false_and, il0, il1, il2, il3, il4, il5, il6, il7, il8, il9, il10, il11, il12, il15, il16, il20, il24, il31, il32, il44, il45, il48, il50, il57, il58, il59, il63, il91, il93, il97, il99, il100, il109, il113, il119, il120, il122, il200, il255, il480, il500, il501, il512, il999, il4112, il41120, il1000000, il1000003, ii_add, ii_sub, ii_mul, ii_neg, ii_le, ii_lt, ii_eq, ii_div, q_I, q_V, q_R, lt_q, rZ_q, md_M, md_16, md_4, md_8, md_10, if_true, if_false, if_pos, if_neg, hcq, p2, p3, hrmA, t_E]
    · simp (disch := first | assumption | omega) only [fX6_open, lkV hk, lkR0 hk, lkR1 hk, lkR2 hk, lkR3 hk, lkR4 hk, lkR5 hk, lkR6 hk, lkR7 hk, lkR8 hk, lkR9 hk, lkI hk, k_E, t_E, hcr, rwI1, rwS1, rwI2, rwS2, rwI4, rwS4, rwI5, rwS5, rwI7, rwS7, rwI8, rwS8, rwI9, rwS9, rwR0, rwR3, rwR6, rwA1, rwU1, rwA3, rwU3, rwV, rwJ, rwUJ, plI0, plS0, plI1, plS1, plI2, plS2, plI3, plS3, plI4, plS4, plI5, plS5, plI6, plS6, plI7, plS7, plR8, plR9, plR10, plA1, plU1, plA2, plU2, plA3, plU3, plV, stI2, stS2, stI3, stS3, stI4, stS4, stI5, stS5, stI6, stS6, stI7, stS7, stR0, stR1, stA2, stU2, stV, stRow, svI5, svS5, svI6, svS6, svI7, svS7, svR0, svR1, svR2, svR3, svR4, svA13, svU13, svA14, svU14, svA15, svU15, svA16, svU16, svV, svRow, svF, svUF, hiI1, hiS1, hiI2, hiS2, hiR0, hiV, hiRow, rdI2, rdS2, rdI3, rdS3, rdI4, rdS4, rdI5, rdS5, rdI6, rdS6, rdI7, rdS7, rdI8, rdS8, rdR0, rdR1, rdA1, rdU1, rdA2, rdU2, rdV, k_C, ↓reduceIte, tr_lt, fa_lt, tr_le, fa_le, tr_eq, fa_eq, and_true, true_and, and_false, false_and, il0, il1, il2, il3, il4, il5, il6, il7, il8, il9, il10, il11, il12, il15, il16, il20, il24, il31, il32, il44, il45, il48, il50, il57, il58, il59, il63, il91, il93, il97, il99, il100, il109, il113, il119, il120, il122, il200, il255, il480, il500, il501, il512, il999, il4112, il41120, il1000000, il1000003, ii_add, ii_sub, ii_mul, ii_neg, ii_le, ii_lt, ii_eq, ii_div, q_I, q_V, q_R, lt_q, rZ_q, md_M, md_16, md_4, md_8, md_10, if_true, if_false, if_pos, if_neg, hcq, p3, t_E]
theorem d_tightenN (hI : Inv C0 N0 n pl sp tv cap c A J M g) (hl : M 0 1 = 1) (h0 : M 0 0 = 0) (r : Int) (hr : 0 ≤ r ∧ r < M 0 3) (h2 : cel g r 2 = -1) : fX6_tighten 0 (ii r) (CW c A J) = some (.inr "java/lang/IllegalArgumentException", CW (cU c) A J) := by
  have hk := hI.1
  have hRd : isReader c 1 := hk.2.1.1
  have hSv : isSolver c 4 := hk.2.1.2.1
  have hHi : isHist c 21 := hk.2.1.2.2.1
  have hNow : isState c 303 := hk.2.1.2.2.2.1
  have hSpr : isState c 338 := hk.2.1.2.2.2.2.1
  have hPl : isPlan c pl := hk.2.2.2.1.2.1
  obtain ⟨h10, hM, hP, hS, hG⟩ := hI.ld hl
  rw [up_eqv h0] at hM hP hS hG
  obtain ⟨p0, p1, p2, p3, p4, p5, p6, p7⟩ := hP.1
  have hc1 := c_chase1 (A := A) (J := J) hk h10
  have h38 := hM.1.2.1
  have h910 := hM.1.2.2.2.2.2.2.2
  have hcr := c_row1 (A := A) (J := J) hk h10 r (by rw [p1]; exact hr) (by rw [p1]; exact h38.2)
  have hr8 : 0 ≤ r ∧ r < 8 := by omega
  have hR := hNow.row r hr8
  have hrr := hS.2 r hr.1 (by omega)
  have hgr := hG.1.1 r hr.1 (by omega)
  have x7 := hrr.1.2.2.2.2.1
  have h7 := hgr.2.2.2.2.1
  have hcq := c_hasQuoin (c := c) (A := A) (J := J) hR (by rw [x7]; exact h7)
  rw [x7, if_pos h2] at hcq
  simp (disch := first | assumption | omega) only [fX6_tighten, lkV hk, lkR0 hk, lkR1 hk, lkR2 hk, lkR3 hk, lkR4 hk, lkR5 hk, lkR6 hk, lkR7 hk, lkR8 hk, lkR9 hk, lkI hk, k_E, t_E, hcr, rwI1, rwS1, rwI2, rwS2, rwI4, rwS4, rwI5, rwS5, rwI7, rwS7, rwI8, rwS8, rwI9, rwS9, rwR0, rwR3, rwR6, rwA1, rwU1, rwA3, rwU3, rwV, rwJ, rwUJ, plI0, plS0, plI1, plS1, plI2, plS2, plI3, plS3, plI4, plS4, plI5, plS5, plI6, plS6, plI7, plS7, plR8, plR9, plR10, plA1, plU1, plA2, plU2, plA3, plU3, plV, stI2, stS2, stI3, stS3, stI4, stS4, stI5, stS5, stI6, stS6, stI7, stS7, stR0, stR1, stA2, stU2, stV, stRow, svI5, svS5, svI6, svS6, svI7, svS7, svR0, svR1, svR2, svR3, svR4, svA13, svU13, svA14, svU14, svA15, svU15, svA16, svU16, svV, svRow, svF, svUF, hiI1, hiS1, hiI2, hiS2, hiR0, hiV, hiRow, rdI2, rdS2, rdI3, rdS3, rdI4, rdS4, rdI5, rdS5, rdI6, rdS6, rdI7, rdS7, rdI8, rdS8, rdR0, rdR1, rdA1, rdU1, rdA2, rdU2, rdV, k_C, ↓reduceIte, tr_lt, fa_lt, tr_le, fa_le, tr_eq, fa_eq, and_true, true_and, and_false, false_and, il0, il1, il2, il3, il4, il5, il6, il7, il8, il9, il10, il11, il12, il15, il16, il20, il24, il31, il32, il44, il45, il48, il50, il57, il58, il59, il63, il91, il93, il97, il99, il100, il109, il113, il119, il120, il122, il200, il255, il480, il500, il501, il512, il999, il4112, il41120, il1000000, il1000003, ii_add, ii_sub, ii_mul, ii_neg, ii_le, ii_lt, ii_eq, ii_div, q_I, q_V, q_R, lt_q, rZ_q, md_M, md_16, md_4, md_8, md_10, if_true, if_false, if_pos, if_neg, hcq, t_E]
/-! before a text was loaded -/
theorem d_count0 (hI : Inv C0 N0 n pl sp tv cap c A J M g) (hl : M 0 1 = 0) (w : Int) : fX6_count 0 (ii w) (CW c A J) = some (.inr "java/lang/IllegalStateException", CW (cU c) A J) := by
  obtain ⟨h10, h1⟩ := hI.nl (by omega)
  rw [fX6_count, lkV hI.1, c_chase0 hI.1 h10, k_E]
theorem d_print0 (hI : Inv C0 N0 n pl sp tv cap c A J M g) (hl : M 0 1 = 0) (w : Int) : fX6_print 0 (ii w) (CW c A J) = some (.inr "java/lang/IllegalStateException", CW (cU c) A J) := by
  obtain ⟨h10, h1⟩ := hI.nl (by omega)
  rw [fX6_print, lkV hI.1, c_chase0 hI.1 h10, k_E]
theorem d_undo0 (hI : Inv C0 N0 n pl sp tv cap c A J M g) (hl : M 0 1 = 0) : fX6_undo 0 (CW c A J) = some (.inr "java/lang/IllegalStateException", CW (cU c) A J) := by
  have hk := hI.1
  have hHi : isHist c 21 := hk.2.1.2.2.1
  have e1 := hI.2.2.2.2.2.2.2.2.1.1.1
  have e2 := (hI.2.2.2.2.2.2.2.1 hl).1
  rw [e2] at e1
  rw [fX6_undo, lkR2 hk, hiI2 hHi, e1, if_pos (show ii 0 = (0 : Int32) from rfl), t_E]
theorem d_undoable0 (hI : Inv C0 N0 n pl sp tv cap c A J M g) (hl : M 0 1 = 0) : fX6_undoable 0 (CW c A J) = some (Sum.inl (some (Value.int (ii (0)))), CW c A J) := by
  have hk := hI.1
  have hHi : isHist c 21 := hk.2.1.2.2.1
  have e1 := hI.2.2.2.2.2.2.2.2.1.1.1
  have e2 := (hI.2.2.2.2.2.2.2.1 hl).1
  rw [e2] at e1
  rw [fX6_undoable, lkR2 hk, hiI2 hHi, e1]
theorem d_rowFor0 (hI : Inv C0 N0 n pl sp tv cap c A J M g) (hl : M 0 1 = 0) (w : Int) : fX6_rowFor 0 (ii w) (CW c A J) = some (.inr "java/lang/IllegalStateException", CW (cU c) A J) := by
  obtain ⟨h10, h1⟩ := hI.nl (by omega)
  rw [fX6_rowFor, lkV hI.1, c_chase0 hI.1 h10, k_E]
end THD
