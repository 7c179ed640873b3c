/-! CALLS THAT SOLVE: nearest, lockable, II -/
section OPS13
variable {C0 N0 n : Nat} {K : Nat × Nat} {c : CC} {A : AI} {J : JI} {M : AI} {g g' o : Int → Int} {pl sp tv cap : Nat} {f B : Int}
abbrev nrF (M : AI) (g o : Int → Int) : Int → Int := FW (M 0 9) o (M 2) (stM M g) 0
abbrev nrV (M : AI) (g o : Int → Int) (r : Int) : Int := if cel g r 2 = -1 then nr (nrF M g o) (needM M g r) 0 else nr (nrF M g o) (needM M g r - M 0 4) (M 0 5)
theorem c_nrLoop (hk : isLock c pl sp tv cap) (hM : SA M) (hv : svA A pl M g o) (R t : Int) (hR : 0 ≤ R ∧ R ≤ M 0 2) (ht : 0 ≤ t ∧ t ≤ 20) : fX6_nearest_79 FU 0 (ii R) (ii t) (ii R) (CW c A J) = some (Sum.inl (some (Value.int (ii (nr (nrF M g o) R t)))), CW c A J) := by
  have hSv : isSolver c 4 := hk.2.1.2.1
  have h2 := hM.1.1
  refine lpd (fun m i (_ : Unit) => fX6_nearest_79 m 0 (ii R) (ii t) (ii i) (CW c A J)) (fun x => x = _) (fun i _ => i ≤ R ∧ lg (nrF M g o) R = lg (nrF M g o) i) 0 ?_ ?_ FU R () (by omega) ⟨by omega, rfl⟩ (by have := FU_e; omega)
  · rintro m i _ hi ⟨hJ, hs⟩
    have hc := c_mk (c := c) (J := J) hSv hM hv i (by omega)
    rw [lg_s _ i hi] at hs
    by_cases y : nrF M g o i < 1000000
    · refine Or.inl ?_
      rw [if_pos y] at hs hc
      unfold nr
      rw [hs]
      by_cases w : 0 < R - i - t
      · rw [if_pos w]
        simp (disch := first | assumption | omega) only [fX6_nearest_79, fX6_nearest_96, lkV hk, lkR0 hk, lkR1 hk, lkR2 hk, lkR3 hk, lkR4 hk, lkR5 hk, lkR6 hk, lkR7 hk, lkR8 hk, lkR9 hk, lkI hk, k_E, t_E, rwI1, rwS1, rwI2, rwS2, rwI4, rwS4, rwI5, rwS5, rwI7, rwS7, rwI8, rwS8, rwI9, rwS9, rwR0, rwR3, rwR6, rwA1, rwU1, rwA3, rwU3, rwV, rwJ, rwUJ, plI0, plS0, plI1, plS1, plI2, plS2, plI3, plS3, plI4, plS4, plI5, plS5, plI6, plS6, plI7, plS7, plR8, plR9, plR10, plA1, plU1, plA2, plU2, plA3, plU3, plV, stI2, stS2, stI3, stS3, stI4, stS4, stI5, stS5, stI6, stS6, stI7, stS7, stR0, stR1, stA2, stU2, stV, stRow, svI5, svS5, svI6, svS6, svI7, svS7, svR0, svR1, svR2, svR3, svR4, svA13, svU13, svA14, svU14, svA15, svU15, svA16, svU16, svV, svRow, svF, svUF, hiI1, hiS1, hiI2, hiS2, hiR0, hiV, hiRow, rdI2, rdS2, rdI3, rdS3, rdI4, rdS4, rdI5, rdS5, rdI6, rdS6, rdI7, rdS7, rdI8, rdS8, rdR0, rdR1, rdA1, rdU1, rdA2, rdU2, rdV, k_C, ↓reduceIte, tr_lt, fa_lt, tr_le, fa_le, tr_eq, fa_eq, and_true, true_and, and_false, false_and, il0, il1, il2, il3, il4, il5, il6, il7, il8, il9, il10, il11, il12, il15, il16, il20, il24, il31, il32, il44, il45, il48, il50, il57, il58, il59, il63, il91, il93, il97, il99, il100, il109, il113, il119, il120, il122, il200, il255, il480, il500, il501, il512, il999, il4112, il41120, il1000000, il1000003, ii_add, ii_sub, ii_mul, ii_neg, ii_le, ii_lt, ii_eq, ii_div, q_I, q_V, q_R, lt_q, rZ_q, md_M, md_16, md_4, md_8, md_10, if_true, if_false, if_pos, if_neg, hc]
      · rw [if_neg w]
        simp (disch := first | assumption | omega) only [fX6_nearest_79, fX6_nearest_96, lkV hk, lkR0 hk, lkR1 hk, lkR2 hk, lkR3 hk, lkR4 hk, lkR5 hk, lkR6 hk, lkR7 hk, lkR8 hk, lkR9 hk, lkI hk, k_E, t_E, rwI1, rwS1, rwI2, rwS2, rwI4, rwS4, rwI5, rwS5, rwI7, rwS7, rwI8, rwS8, rwI9, rwS9, rwR0, rwR3, rwR6, rwA1, rwU1, rwA3, rwU3, rwV, rwJ, rwUJ, plI0, plS0, plI1, plS1, plI2, plS2, plI3, plS3, plI4, plS4, plI5, plS5, plI6, plS6, plI7, plS7, plR8, plR9, plR10, plA1, plU1, plA2, plU2, plA3, plU3, plV, stI2, stS2, stI3, stS3, stI4, stS4, stI5, stS5, stI6, stS6, stI7, stS7, stR0, stR1, stA2, stU2, stV, stRow, svI5, svS5, svI6, svS6, svI7, svS7, svR0, svR1, svR2, svR3, svR4, svA13, svU13, svA14, svU14, svA15, svU15, svA16, svU16, svV, svRow, svF, svUF, hiI1, hiS1, hiI2, hiS2, hiR0, hiV, hiRow, rdI2, rdS2, rdI3, rdS3, rdI4, rdS4, rdI5, rdS5, rdI6, rdS6, rdI7, rdS7, rdI8, rdS8, rdR0, rdR1, rdA1, rdU1, rdA2, rdU2, rdV, k_C, ↓reduceIte, tr_lt, fa_lt, tr_le, fa_le, tr_eq, fa_eq, and_true, true_and, and_false, false_and, il0, il1, il2, il3, il4, il5, il6, il7, il8, il9, il10, il11, il12, il15, il16, il20, il24, il31, il32, il44, il45, il48, il50, il57, il58, il59, il63, il91, il93, il97, il99, il100, il109, il113, il119, il120, il122, il200, il255, il480, il500, il501, il512, il999, il4112, il41120, il1000000, il1000003, ii_add, ii_sub, ii_mul, ii_neg, ii_le, ii_lt, ii_eq, ii_div, q_I, q_V, q_R, lt_q, rZ_q, md_M, md_16, md_4, md_8, md_10, if_true, if_false, if_pos, if_neg, hc]
    · rw [if_neg y] at hs hc
      refine Or.inr ⟨(), ⟨by omega, hs⟩, ?_⟩
      simp (disch := first | assumption | omega) only [fX6_nearest_79, lkV hk, lkR0 hk, lkR1 hk, lkR2 hk, lkR3 hk, lkR4 hk, lkR5 hk, lkR6 hk, lkR7 hk, lkR8 hk, lkR9 hk, lkI hk, k_E, t_E, rwI1, rwS1, rwI2, rwS2, rwI4, rwS4, rwI5, rwS5, rwI7, rwS7, rwI8, rwS8, rwI9, rwS9, rwR0, rwR3, rwR6, rwA1, rwU1, rwA3, rwU3, rwV, rwJ, rwUJ, plI0, plS0, plI1, plS1, plI2, plS2, plI3, plS3, plI4, plS4, plI5, plS5, plI6, plS6, plI7, plS7, plR8, plR9, plR10, plA1, plU1, plA2, plU2, plA3, plU3, plV, stI2, stS2, stI3, stS3, stI4, stS4, stI5, stS5, stI6, stS6, stI7, stS7, stR0, stR1, stA2, stU2, stV, stRow, svI5, svS5, svI6, svS6, svI7, svS7, svR0, svR1, svR2, svR3, svR4, svA13, svU13, svA14, svU14, svA15, svU15, svA16, svU16, svV, svRow, svF, svUF, hiI1, hiS1, hiI2, hiS2, hiR0, hiV, hiRow, rdI2, rdS2, rdI3, rdS3, rdI4, rdS4, rdI5, rdS5, rdI6, rdS6, rdI7, rdS7, rdI8, rdS8, rdR0, rdR1, rdA1, rdU1, rdA2, rdU2, rdV, k_C, ↓reduceIte, tr_lt, fa_lt, tr_le, fa_le, tr_eq, fa_eq, and_true, true_and, and_false, false_and, il0, il1, il2, il3, il4, il5, il6, il7, il8, il9, il10, il11, il12, il15, il16, il20, il24, il31, il32, il44, il45, il48, il50, il57, il58, il59, il63, il91, il93, il97, il99, il100, il109, il113, il119, il120, il122, il200, il255, il480, il500, il501, il512, il999, il4112, il41120, il1000000, il1000003, ii_add, ii_sub, ii_mul, ii_neg, ii_le, ii_lt, ii_eq, ii_div, q_I, q_V, q_R, lt_q, rZ_q, md_M, md_16, md_4, md_8, md_10, if_true, if_false, if_pos, if_neg, hc]
      rw [show i + -1 = i - 1 by omega]
  · rintro m _ ⟨hJ, hs⟩
    have h0 : lg (nrF M g o) 0 = 0 := rfl
    unfold nr
    rw [hs, h0, Int.sub_zero]
    by_cases w : 0 < R - t
    · rw [if_pos w]
      simp (disch := first | assumption | omega) only [fX6_nearest_79, fX6_nearest_114, lkV hk, lkR0 hk, lkR1 hk, lkR2 hk, lkR3 hk, lkR4 hk, lkR5 hk, lkR6 hk, lkR7 hk, lkR8 hk, lkR9 hk, lkI hk, k_E, t_E, rwI1, rwS1, rwI2, rwS2, rwI4, rwS4, rwI5, rwS5, rwI7, rwS7, rwI8, rwS8, rwI9, rwS9, rwR0, rwR3, rwR6, rwA1, rwU1, rwA3, rwU3, rwV, rwJ, rwUJ, plI0, plS0, plI1, plS1, plI2, plS2, plI3, plS3, plI4, plS4, plI5, plS5, plI6, plS6, plI7, plS7, plR8, plR9, plR10, plA1, plU1, plA2, plU2, plA3, plU3, plV, stI2, stS2, stI3, stS3, stI4, stS4, stI5, stS5, stI6, stS6, stI7, stS7, stR0, stR1, stA2, stU2, stV, stRow, svI5, svS5, svI6, svS6, svI7, svS7, svR0, svR1, svR2, svR3, svR4, svA13, svU13, svA14, svU14, svA15, svU15, svA16, svU16, svV, svRow, svF, svUF, hiI1, hiS1, hiI2, hiS2, hiR0, hiV, hiRow, rdI2, rdS2, rdI3, rdS3, rdI4, rdS4, rdI5, rdS5, rdI6, rdS6, rdI7, rdS7, rdI8, rdS8, rdR0, rdR1, rdA1, rdU1, rdA2, rdU2, rdV, k_C, ↓reduceIte, tr_lt, fa_lt, tr_le, fa_le, tr_eq, fa_eq, and_true, true_and, and_false, false_and, il0, il1, il2, il3, il4, il5, il6, il7, il8, il9, il10, il11, il12, il15, il16, il20, il24, il31, il32, il44, il45, il48, il50, il57, il58, il59, il63, il91, il93, il97, il99, il100, il109, il113, il119, il120, il122, il200, il255, il480, il500, il501, il512, il999, il4112, il41120, il1000000, il1000003, ii_add, ii_sub, ii_mul, ii_neg, ii_le, ii_lt, ii_eq, ii_div, q_I, q_V, q_R, lt_q, rZ_q, md_M, md_16, md_4, md_8, md_10, if_true, if_false, if_pos, if_neg]
    · rw [if_neg w]
      simp (disch := first | assumption | omega) only [fX6_nearest_79, fX6_nearest_114, lkV hk, lkR0 hk, lkR1 hk, lkR2 hk, lkR3 hk, lkR4 hk, lkR5 hk, lkR6 hk, lkR7 hk, lkR8 hk, lkR9 hk, lkI hk, k_E, t_E, rwI1, rwS1, rwI2, rwS2, rwI4, rwS4, rwI5, rwS5, rwI7, rwS7, rwI8, rwS8, rwI9, rwS9, rwR0, rwR3, rwR6, rwA1, rwU1, rwA3, rwU3, rwV, rwJ, rwUJ, plI0, plS0, plI1, plS1, plI2, plS2, plI3, plS3, plI4, plS4, plI5, plS5, plI6, plS6, plI7, plS7, plR8, plR9, plR10, plA1, plU1, plA2, plU2, plA3, plU3, plV, stI2, stS2, stI3, stS3, stI4, stS4, stI5, stS5, stI6, stS6, stI7, stS7, stR0, stR1, stA2, stU2, stV, stRow, svI5, svS5, svI6, svS6, svI7, svS7, svR0, svR1, svR2, svR3, svR4, svA13, svU13, svA14, svU14, svA15, svU15, svA16, svU16, svV, svRow, svF, svUF, hiI1, hiS1, hiI2, hiS2, hiR0, hiV, hiRow, rdI2, rdS2, rdI3, rdS3, rdI4, rdS4, rdI5, rdS5, rdI6, rdS6, rdI7, rdS7, rdI8, rdS8, rdR0, rdR1, rdA1, rdU1, rdA2, rdU2, rdV, k_C, ↓reduceIte, tr_lt, fa_lt, tr_le, fa_le, tr_eq, fa_eq, and_true, true_and, and_false, false_and, il0, il1, il2, il3, il4, il5, il6, il7, il8, il9, il10, il11, il12, il15, il16, il20, il24, il31, il32, il44, il45, il48, il50, il57, il58, il59, il63, il91, il93, il97, il99, il100, il109, il113, il119, il120, il122, il200, il255, il480, il500, il501, il512, il999, il4112, il41120, il1000000, il1000003, ii_add, ii_sub, ii_mul, ii_neg, ii_le, ii_lt, ii_eq, ii_div, q_I, q_V, q_R, lt_q, rZ_q, md_M, md_16, md_4, md_8, md_10, if_true, if_false, if_pos, if_neg]
theorem c_nearest (K : Nat × Nat) (hI : Inv C0 N0 n pl sp tv cap c A J M g) (r : Int) (hl : M 0 1 = 1) (hr : 0 ≤ r ∧ r < up M 0 0 0 0 3) : ∃ A', fX6_nearest 0 (ii r) (CW c A J) = some (Sum.inl (some (Value.int (ii (nrV (up M 0 0 0) g (A (pl + 3)) r)))), CW c A' J) ∧ frm scC A A' J J := by
  have hk := hI.1
  have hRd : isReader c 1 := hk.2.1.1
  have hSv : isSolver c 4 := hk.2.1.2.1
  have hHi : isHist c 21 := hk.2.1.2.2.1
  have hNow : isState c 303 := hk.2.1.2.2.2.1
  have hSpr : isState c 338 := hk.2.1.2.2.2.2.1
  have hPl : isPlan c pl := hk.2.2.2.1.2.1
  have h00 : up M 0 0 0 0 0 = 0 := up_s _ _ _ _
  obtain ⟨h10, hM, hP, hS, hG⟩ := hI.ld hl
  obtain ⟨p0, p1, p2, p3, p4, p5, p6, p7⟩ := hP.1
  have hc1 := c_chase1 (A := A) (J := J) hk h10
  have e3 : up M 0 0 0 0 3 = M 0 3 := up_n _ _ _ _ _ _ (by omega)
  have e9 : up M 0 0 0 0 9 = M 0 9 := up_n _ _ _ _ _ _ (by omega)
  have h38 := hM.1.2.1
  have h910 := hM.1.2.2.2.2.2.2.2
  have hcr := c_row1 (A := A) (J := J) hk h10 r (by rw [p1]; exact hr) (by rw [p1]; exact h38.2)
  have hmr := e_noRow1 (K := K) (M := M) (g := g) hl r (by rw [← e3]; exact hr) (by rw [← e3]; exact h38.2)
  have hr8 : 0 ≤ r ∧ r < 8 := by omega
  have hR := hNow.row r hr8
  have hrr := hS.2 r hr.1 (by omega)
  have hgr := hG.1.1 r hr.1 (by omega)
  have h37 : up M 0 0 0 0 37 = -1 := (up_n _ _ _ _ _ _ (by omega)).trans hI.2.2.2.1
  have hN := hG.need hM hr
  have h4 := hM.1.2.2.1
  have h5 := hM.1.2.2.2.1
  have h2 := hM.1.1
  have hap := hk.2.2.2.1.1
  obtain ⟨A1, A2, e1, e2, v2, f2⟩ := c_studied (c := c) (J := J) hk hNow (by omega) hS hP hM hG.GL h37
  have hrm := c_room (c := c) hPl hNow hS p0 hM hG r hr
  have e7 := hrr.1.2.2.2.2.1
  have b7 := hgr.2.2.2.2.1
  have hq := c_hasQuoin (A := A) (J := J) hR (by rw [e7]; exact b7)
  rw [e7] at hq
  refine ⟨A2, ?_, fun b z hb => f2 b z (fun x => hb (Or.inl x)), fun _ _ _ => rfl⟩
  unfold nrV
  by_cases y : cel g r 2 = -1
  · rw [if_pos y] at hq ⊢
    have hL := c_nrLoop (c := c) (A := A2) (J := J) hk hM v2 (needM (up M 0 0 0) g r) 0 ⟨hN.1.1, hN.2.2⟩ (by omega)
    simp (disch := first | assumption | omega) only [fX6_nearest, fX6_nearest_32, fX6_nearest_52, lkV hk, lkR0 hk, lkR1 hk, lkR2 hk, lkR3 hk, lkR4 hk, lkR5 hk, lkR6 hk, lkR7 hk, lkR8 hk, lkR9 hk, lkI hk, k_E, t_E, hcr, rwI1, rwS1, rwI2, rwS2, rwI4, rwS4, rwI5, rwS5, rwI7, rwS7, rwI8, rwS8, rwI9, rwS9, rwR0, rwR3, rwR6, rwA1, rwU1, rwA3, rwU3, rwV, rwJ, rwUJ, plI0, plS0, plI1, plS1, plI2, plS2, plI3, plS3, plI4, plS4, plI5, plS5, plI6, plS6, plI7, plS7, plR8, plR9, plR10, plA1, plU1, plA2, plU2, plA3, plU3, plV, stI2, stS2, stI3, stS3, stI4, stS4, stI5, stS5, stI6, stS6, stI7, stS7, stR0, stR1, stA2, stU2, stV, stRow, svI5, svS5, svI6, svS6, svI7, svS7, svR0, svR1, svR2, svR3, svR4, svA13, svU13, svA14, svU14, svA15, svU15, svA16, svU16, svV, svRow, svF, svUF, hiI1, hiS1, hiI2, hiS2, hiR0, hiV, hiRow, rdI2, rdS2, rdI3, rdS3, rdI4, rdS4, rdI5, rdS5, rdI6, rdS6, rdI7, rdS7, rdI8, rdS8, rdR0, rdR1, rdA1, rdU1, rdA2, rdU2, rdV, k_C, ↓reduceIte, tr_lt, fa_lt, tr_le, fa_le, tr_eq, fa_eq, and_true, true_and, and_false, false_and, il0, il1, il2, il3, il4, il5, il6, il7, il8, il9, il10, il11, il12, il15, il16, il20, il24, il31, il32, il44, il45, il48, il50, il57, il58, il59, il63, il91, il93, il97, il99, il100, il109, il113, il119, il120, il122, il200, il255, il480, il500, il501, il512, il999, il4112, il41120, il1000000, il1000003, ii_add, ii_sub, ii_mul, ii_neg, ii_le, ii_lt, ii_eq, ii_div, q_I, q_V, q_R, lt_q, rZ_q, md_M, md_16, md_4, md_8, md_10, if_true, if_false, if_pos, if_neg, hrm, hq, Int.sub_zero, e1, e2, hL]
  · rw [if_neg y] at hq ⊢
    have hgap := hG.2.2.2.2 r hr.1 hr.2
    have b8 := hgr.2.2.2.2.2.1
    have hu : uQ (up M 0 0 0 0 4) g r = up M 0 0 0 0 4 + (cel g r 2 - cel g r 3) ∨ uQ (up M 0 0 0 0 4) g r = up M 0 0 0 0 4 + cel g r 2 := by
      unfold uQ
      rw [if_neg y]
      omega
    have ht := (hG.2.2.2.1 r hr.1 (by omega) y)
    have hR0 : 0 ≤ needM (up M 0 0 0) g r - up M 0 0 0 0 4 := by
      unfold needM
      omega
    have hL := c_nrLoop (c := c) (A := A2) (J := J) hk hM v2 (needM (up M 0 0 0) g r - up M 0 0 0 0 4) (up M 0 0 0 0 5) ⟨hR0, by omega⟩ h5
    simp (disch := first | assumption | omega) only [fX6_nearest, fX6_nearest_32, fX6_nearest_52, lkV hk, lkR0 hk, lkR1 hk, lkR2 hk, lkR3 hk, lkR4 hk, lkR5 hk, lkR6 hk, lkR7 hk, lkR8 hk, lkR9 hk, lkI hk, k_E, t_E, hcr, rwI1, rwS1, rwI2, rwS2, rwI4, rwS4, rwI5, rwS5, rwI7, rwS7, rwI8, rwS8, rwI9, rwS9, rwR0, rwR3, rwR6, rwA1, rwU1, rwA3, rwU3, rwV, rwJ, rwUJ, plI0, plS0, plI1, plS1, plI2, plS2, plI3, plS3, plI4, plS4, plI5, plS5, plI6, plS6, plI7, plS7, plR8, plR9, plR10, plA1, plU1, plA2, plU2, plA3, plU3, plV, stI2, stS2, stI3, stS3, stI4, stS4, stI5, stS5, stI6, stS6, stI7, stS7, stR0, stR1, stA2, stU2, stV, stRow, svI5, svS5, svI6, svS6, svI7, svS7, svR0, svR1, svR2, svR3, svR4, svA13, svU13, svA14, svU14, svA15, svU15, svA16, svU16, svV, svRow, svF, svUF, hiI1, hiS1, hiI2, hiS2, hiR0, hiV, hiRow, rdI2, rdS2, rdI3, rdS3, rdI4, rdS4, rdI5, rdS5, rdI6, rdS6, rdI7, rdS7, rdI8, rdS8, rdR0, rdR1, rdA1, rdU1, rdA2, rdU2, rdV, k_C, ↓reduceIte, tr_lt, fa_lt, tr_le, fa_le, tr_eq, fa_eq, and_true, true_and, and_false, false_and, il0, il1, il2, il3, il4, il5, il6, il7, il8, il9, il10, il11, il12, il15, il16, il20, il24, il31, il32, il44, il45, il48, il50, il57, il58, il59, il63, il91, il93, il97, il99, il100, il109, il113, il119, il120, il122, il200, il255, il480, il500, il501, il512, il999, il4112, il41120, il1000000, il1000003, ii_add, ii_sub, ii_mul, ii_neg, ii_le, ii_lt, ii_eq, ii_div, q_I, q_V, q_R, lt_q, rZ_q, md_M, md_16, md_4, md_8, md_10, if_true, if_false, if_pos, if_neg, hrm, hq, p2, p3, e1, e2, hL]
theorem m_nearest (hI : Inv C0 N0 n pl sp tv cap c A J M g) (r : Int) (hl : M 0 1 = 1) (hr : 0 ≤ r ∧ r < up M 0 0 0 0 3) : ∃ M', fX7_nearest 0 (ii r) (NW K (mg M g)) = some (Sum.inl (some (Value.int (ii (nrV (up M 0 0 0) g (A (pl + 3)) r)))), NW K (mg M' g)) ∧ scr (up M 0 0 0) M' := by
  have hk := hI.1
  have hRd : isReader c 1 := hk.2.1.1
  have hSv : isSolver c 4 := hk.2.1.2.1
  have hHi : isHist c 21 := hk.2.1.2.2.1
  have hNow : isState c 303 := hk.2.1.2.2.2.1
  have hSpr : isState c 338 := hk.2.1.2.2.2.2.1
  have hPl : isPlan c pl := hk.2.2.2.1.2.1
  have h00 : up M 0 0 0 0 0 = 0 := up_s _ _ _ _
  obtain ⟨h10, hM, hP, hS, hG⟩ := hI.ld hl
  obtain ⟨p0, p1, p2, p3, p4, p5, p6, p7⟩ := hP.1
  have hc1 := c_chase1 (A := A) (J := J) hk h10
  have e3 : up M 0 0 0 0 3 = M 0 3 := up_n _ _ _ _ _ _ (by omega)
  have e9 : up M 0 0 0 0 9 = M 0 9 := up_n _ _ _ _ _ _ (by omega)
  have h38 := hM.1.2.1
  have h910 := hM.1.2.2.2.2.2.2.2
  have hcr := c_row1 (A := A) (J := J) hk h10 r (by rw [p1]; exact hr) (by rw [p1]; exact h38.2)
  have hmr := e_noRow1 (K := K) (M := M) (g := g) hl r (by rw [← e3]; exact hr) (by rw [← e3]; exact h38.2)
  have hr8 : 0 ≤ r ∧ r < 8 := by omega
  have hR := hNow.row r hr8
  have hrr := hS.2 r hr.1 (by omega)
  have hgr := hG.1.1 r hr.1 (by omega)
  have h37 : up M 0 0 0 0 37 = -1 := (up_n _ _ _ _ _ _ (by omega)).trans hI.2.2.2.1
  have hN := hG.need hM hr
  have h4 := hM.1.2.2.1
  have h5 := hM.1.2.2.2.1
  have h2 := hM.1.1
  have hO := hP.2.2
  have hnd := e_need (K := K) hM hr8 hgr
  obtain ⟨M', m1, ms, m12, m13⟩ := e_laysFewest (K := K) hM hG.GL (by omega) hO (needM (up M 0 0 0) g r) hN.1
  have hM' := scr_SA ms hM
  have m5 : M' 0 5 = up M 0 0 0 0 5 := ms.1 5 (by omega)
  have m4 : M' 0 4 = up M 0 0 0 0 4 := ms.1 4 (by omega)
  have hq := e_hasQuoin (K := K) (A := M') hr8 hgr
  have h0 : nrF (up M 0 0 0) g (A (pl + 3)) 0 < 1000000 := by
    have := FW_0 (n := up M 0 0 0 0 9) (o := A (pl + 3)) (len := up M 0 0 0 2) (st := stM (up M 0 0 0) g) (fun p a b => (stM_b hG.GL _ (by have := hO.1 p a b; omega)).1) (up M 0 0 0 0 9).toNat 0 (by omega) (by omega)
    show FW _ _ _ _ 0 0 < 1000000
    omega
  have hT : ∀ s, 0 ≤ s → s ≤ needM (up M 0 0 0) g r → M' 13 s = nrF (up M 0 0 0) g (A (pl + 3)) s := fun s a b => by
    have ht := m13 0 s (by omega) h910.1 a b
    rw [show 501 * 0 + s = s by omega] at ht
    exact ht
  refine ⟨M', ?_, ms⟩
  unfold nrV
  by_cases y : cel g r 2 = -1
  · rw [if_pos y] at hq ⊢
    have hsum := e_sumFor (K := K) hM' hr8 hgr (-1) (by omega)
    rw [if_pos rfl, scr_need ms] at hsum
    have hlb := lg_b (nrF (up M 0 0 0) g (A (pl + 3))) _ hN.1.1
    obtain ⟨m2, hFU⟩ : ∃ m, FU = m + 1 + 1 := ⟨99999998, rfl⟩
    have hin := m_nrIn (K := K) (M := M') (g := g) (nrF (up M 0 0 0) g (A (pl + 3))) (fun z => FW_b _ _ _ _ _ _) h0 r 1000000 (-1) (-1) (needM (up M 0 0 0) g r) (by omega) (by omega) (by omega) hT (m2 + 1)
    rw [if_pos hN.1.1, if_pos (by omega)] at hin
    have hL : fX7_nearest_61 FU 0 (ii r) (ii (-1)) (ii 1000000) (ii (-1)) (NW K (mg M' g)) = some (Sum.inl (some (Value.int (ii (nr (nrF (up M 0 0 0) g (A (pl + 3))) (needM (up M 0 0 0) g r) 0)))), NW K (mg M' g)) := by
      rw [hFU, fX7_nearest_61, if_neg (by rw [ii_lt _ _ (by omega)]; omega), nV, hsum, nC, q_I, il0, hin, fX7_nearest_61]
      rw [if_pos (by rw [ii_lt _ _ (by omega)]; omega)]
      unfold nr
      by_cases w : 0 < needM (up M 0 0 0) g r - lg (nrF (up M 0 0 0) g (A (pl + 3))) (needM (up M 0 0 0) g r) - 0
      · rw [if_pos w]; exact vcg (by omega)
      · rw [if_neg w]; exact vcg (by omega)
    simp (disch := first | assumption | omega) only [fX7_nearest, fX7_nearest_34, fX7_nearest_51, nR1, nA1, nU1, nR2, nA2, nU2, nR3, nA3, nU3, nR4, nA4, nU4, nR5, nA5, nU5, nR6, nA6, nU6, nR7, nA7, nU7, nR8, nA8, nU8, nR9, nA9, nU9, nR10, nA10, nU10, nR11, nA11, nU11, nR12, nA12, nU12, nR13, nA13, nU13, nR14, nA14, nU14, nR15, nA15, nU15, nR16, nA16, nU16, nI0, nS0, nI1, nS1, nI2, nS2, nI3, nS3, nI4, nS4, nI5, nS5, nI6, nS6, nI7, nS7, nI8, nS8, nI9, nS9, nI15, nS15, nI18, nS18, nI19, nS19, nI20, nS20, nI21, nS21, nI22, nS22, nI23, nS23, nI24, nS24, nI25, nS25, nI26, nS26, nI27, nS27, nI32, nS32, nI36, nS36, nI37, nS37, nI40, nS40, nSZ1, nV, nC, ↓reduceIte, tr_lt, fa_lt, tr_le, fa_le, tr_eq, fa_eq, and_true, true_and, and_false, false_and, il0, il1, il2, il3, il4, il5, il6, il7, il8, il9, il10, il11, il12, il15, il16, il20, il24, il31, il32, il44, il45, il48, il50, il57, il58, il59, il63, il91, il93, il97, il99, il100, il109, il113, il119, il120, il122, il200, il255, il480, il500, il501, il512, il999, il4112, il41120, il1000000, il1000003, ii_add, ii_sub, ii_mul, ii_neg, ii_le, ii_lt, ii_eq, ii_div, q_I, q_V, q_R, lt_q, rZ_q, md_M, md_16, md_4, md_8, md_10, if_true, if_false, if_pos, if_neg, mg_3, mg_0, mg_1, mg_2, mg_k, mg_up3, mg_upk, hmr, hnd, m1, hq, hL]
  · rw [if_neg y] at hq ⊢
    have hgap := hG.2.2.2.2 r hr.1 hr.2
    have b8 := hgr.2.2.2.2.2.1
    have hu : uQ (up M 0 0 0 0 4) g r = up M 0 0 0 0 4 + (cel g r 2 - cel g r 3) ∨ uQ (up M 0 0 0 0 4) g r = up M 0 0 0 0 4 + cel g r 2 := by
      unfold uQ
      rw [if_neg y]
      omega
    have ht := (hG.2.2.2.1 r hr.1 (by omega) y)
    have hR0 : 0 ≤ needM (up M 0 0 0) g r - up M 0 0 0 0 4 := by
      unfold needM
      omega
    have hL : fX7_nearest_61 FU 0 (ii r) (ii (up M 0 0 0 0 5)) (ii 1000000) (ii 0) (NW K (mg M' g)) = some (Sum.inl (some (Value.int (ii (nr (nrF (up M 0 0 0) g (A (pl + 3))) (needM (up M 0 0 0) g r - up M 0 0 0 0 4) (up M 0 0 0 0 5))))), NW K (mg M' g)) := by
      refine lp (fun m i (s : Int) => fX7_nearest_61 m 0 (ii r) (ii (up M 0 0 0 0 5)) (ii s) (ii i) (NW K (mg M' g))) (fun x => x = _) (fun i s => 0 ≤ i ∧ s = if i = 0 then 1000000 else nr (nrF (up M 0 0 0) g (A (pl + 3))) (needM (up M 0 0 0) g r - up M 0 0 0 0 4) (i - 1)) (up M 0 0 0 0 5 + 1) ?_ ?_ FU 0 1000000 (by omega) ⟨by omega, by rw [if_pos rfl]⟩ (by have := FU_e; omega)
      · rintro m i s hi ⟨hJ, hs⟩
        have hlb := lg_b (nrF (up M 0 0 0) g (A (pl + 3))) _ hR0
        have hsb : 0 ≤ s ∧ s ≤ 1000000 := by
          rw [hs]
          unfold nr
          split
          · omega
          · split <;> omega
        have hsum := e_sumFor (K := K) hM' hr8 hgr i (by omega)
        rw [if_neg (by omega), scr_need ms, m4] at hsum
        have hin := m_nrIn (K := K) (M := M') (g := g) (nrF (up M 0 0 0) g (A (pl + 3))) (fun z => FW_b _ _ _ _ _ _) h0 r s (up M 0 0 0 0 5) i (needM (up M 0 0 0) g r - up M 0 0 0 0 4 - i) hsb (by omega) (by omega) (fun s a b => hT s a (by omega)) m
        refine Or.inr ⟨_, ⟨by omega, rfl⟩, ?_⟩
        rw [fX7_nearest_61, if_neg (by rw [ii_lt _ _ (by omega)]; omega), nV, hsum, nC, q_I, il0, hin, if_neg (show ¬ i + 1 = 0 by omega), show i + 1 - 1 = i by omega]
        congr 2
        by_cases z : i = 0
        · rw [if_pos z] at hs
          rw [z, Int.sub_zero, hs, if_pos hR0, if_pos (by omega)]
          unfold nr
          rw [Int.sub_zero]
          split <;> omega
        · rw [if_neg z] at hs
          rw [hs, nr_s _ _ i hR0 (by omega)]
      · rintro m s ⟨hJ, hs⟩
        rw [if_neg (by omega), show up M 0 0 0 0 5 + 1 - 1 = up M 0 0 0 0 5 by omega] at hs
        rw [← hs]
        simp (disch := first | assumption | omega) only [fX7_nearest_61, nR1, nA1, nU1, nR2, nA2, nU2, nR3, nA3, nU3, nR4, nA4, nU4, nR5, nA5, nU5, nR6, nA6, nU6, nR7, nA7, nU7, nR8, nA8, nU8, nR9, nA9, nU9, nR10, nA10, nU10, nR11, nA11, nU11, nR12, nA12, nU12, nR13, nA13, nU13, nR14, nA14, nU14, nR15, nA15, nU15, nR16, nA16, nU16, nI0, nS0, nI1, nS1, nI2, nS2, nI3, nS3, nI4, nS4, nI5, nS5, nI6, nS6, nI7, nS7, nI8, nS8, nI9, nS9, nI15, nS15, nI18, nS18, nI19, nS19, nI20, nS20, nI21, nS21, nI22, nS22, nI23, nS23, nI24, nS24, nI25, nS25, nI26, nS26, nI27, nS27, nI32, nS32, nI36, nS36, nI37, nS37, nI40, nS40, nSZ1, nV, nC, ↓reduceIte, tr_lt, fa_lt, tr_le, fa_le, tr_eq, fa_eq, and_true, true_and, and_false, false_and, il0, il1, il2, il3, il4, il5, il6, il7, il8, il9, il10, il11, il12, il15, il16, il20, il24, il31, il32, il44, il45, il48, il50, il57, il58, il59, il63, il91, il93, il97, il99, il100, il109, il113, il119, il120, il122, il200, il255, il480, il500, il501, il512, il999, il4112, il41120, il1000000, il1000003, ii_add, ii_sub, ii_mul, ii_neg, ii_le, ii_lt, ii_eq, ii_div, q_I, q_V, q_R, lt_q, rZ_q, md_M, md_16, md_4, md_8, md_10, if_true, if_false, if_pos, if_neg, mg_3, mg_0, mg_1, mg_2, mg_k, mg_up3, mg_upk]
    simp (disch := first | assumption | omega) only [fX7_nearest, fX7_nearest_34, fX7_nearest_51, nR1, nA1, nU1, nR2, nA2, nU2, nR3, nA3, nU3, nR4, nA4, nU4, nR5, nA5, nU5, nR6, nA6, nU6, nR7, nA7, nU7, nR8, nA8, nU8, nR9, nA9, nU9, nR10, nA10, nU10, nR11, nA11, nU11, nR12, nA12, nU12, nR13, nA13, nU13, nR14, nA14, nU14, nR15, nA15, nU15, nR16, nA16, nU16, nI0, nS0, nI1, nS1, nI2, nS2, nI3, nS3, nI4, nS4, nI5, nS5, nI6, nS6, nI7, nS7, nI8, nS8, nI9, nS9, nI15, nS15, nI18, nS18, nI19, nS19, nI20, nS20, nI21, nS21, nI22, nS22, nI23, nS23, nI24, nS24, nI25, nS25, nI26, nS26, nI27, nS27, nI32, nS32, nI36, nS36, nI37, nS37, nI40, nS40, nSZ1, nV, nC, ↓reduceIte, tr_lt, fa_lt, tr_le, fa_le, tr_eq, fa_eq, and_true, true_and, and_false, false_and, il0, il1, il2, il3, il4, il5, il6, il7, il8, il9, il10, il11, il12, il15, il16, il20, il24, il31, il32, il44, il45, il48, il50, il57, il58, il59, il63, il91, il93, il97, il99, il100, il109, il113, il119, il120, il122, il200, il255, il480, il500, il501, il512, il999, il4112, il41120, il1000000, il1000003, ii_add, ii_sub, ii_mul, ii_neg, ii_le, ii_lt, ii_eq, ii_div, q_I, q_V, q_R, lt_q, rZ_q, md_M, md_16, md_4, md_8, md_10, if_true, if_false, if_pos, if_neg, mg_3, mg_0, mg_1, mg_2, mg_k, mg_up3, mg_upk, hmr, hnd, m1, hq, m5, hL]
theorem g_nearest (hI : Inv C0 N0 n pl sp tv cap c A J M g) (r : Int) (hrb : -2147483648 ≤ r ∧ r < 2147483648) : Good C0 N0 n K (fL_nearest 0 (ii r) 455 (CW c A J)) (fX7_nearest 0 (ii r) (NW K (mg M g))) := by
  have hk := hI.1
  have hRd : isReader c 1 := hk.2.1.1
  have hSv : isSolver c 4 := hk.2.1.2.1
  have hHi : isHist c 21 := hk.2.1.2.2.1
  have hNow : isState c 303 := hk.2.1.2.2.2.1
  have hSpr : isState c 338 := hk.2.1.2.2.2.2.1
  have hPl : isPlan c pl := hk.2.2.2.1.2.1
  have h00 : up M 0 0 0 0 0 = 0 := up_s _ _ _ _
  by_cases hl : M 0 1 = 1
  · obtain ⟨h10, hM, hP, hS, hG⟩ := hI.ld hl
    obtain ⟨p0, p1, p2, p3, p4, p5, p6, p7⟩ := hP.1
    have hc1 := c_chase1 (A := A) (J := J) hk h10
    have e3 : up M 0 0 0 0 3 = M 0 3 := up_n _ _ _ _ _ _ (by omega)
    have e9 : up M 0 0 0 0 9 = M 0 9 := up_n _ _ _ _ _ _ (by omega)
    have h38 := hM.1.2.1
    have h910 := hM.1.2.2.2.2.2.2.2
    by_cases hr : 0 ≤ r ∧ r < up M 0 0 0 0 3
    · obtain ⟨A', e1, hf⟩ := c_nearest K hI r hl hr
      obtain ⟨M', m1, ms⟩ := m_nearest (K := K) hI r hl hr
      exact Good_read hI e1 hf m1 ms ((ms.1 0 (by omega)).trans h00)
    · refine Good_no (code := 2) hI (E := "java/lang/IndexOutOfBoundsException") (A' := A) (J' := J) ?_ (frm.refl _ _ _) (fun τ => (hF2 _ _ _ _ _ _ (by decide)).trans (hF1 _ _ 2 rfl _ _ _)) (by omega) (v := 0) ?_
      · have hcr := c_row0 (A := A) (J := J) hk h10 r (by rw [p1]; exact hr) (by rw [p1]; omega) (by omega)
        rw [fX6_nearest, lkV hk, hcr, k_E]
      · have hmr := e_noRow0 (K := K) (M := M) (g := g) hl r (by rw [← e3]; exact hr) (by rw [← e3]; omega) (by omega)
        rw [fX7_nearest, nV, hmr, nC, q_I, if_neg (show ¬ ii 1 = (0 : Int32) by decide)]
        rfl
  · obtain ⟨h10, h1⟩ := hI.nl hl
    refine Good_nl hI (v := 0) ?_ (hF_IS _ 1 rfl _ _) ?_
    · rw [fX6_nearest, lkV hk, c_rowN hk h10, k_E]
    · rw [fX7_nearest, nV, e_noRowN h1, nC, q_I, if_neg (show ¬ ii 1 = (0 : Int32) by decide)]
      rfl
end OPS13
