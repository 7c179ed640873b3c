/-! A CALL THAT LOCKS AS IF: lockedAll -/
section OPS16
variable {C0 N0 n : Nat} {K : Nat × Nat} {c : CC} {A : AI} {J : JI} {M : AI} {g g' o : Int → Int} {pl sp tv cap : Nat} {f B : Int}
/-- what locking a row makes of the content -/
noncomputable def lcN (M : AI) (o : Int → Int) (h : Int → Int) (i : Int) : Int → Int := if (chL M h o i).1 < 1000000 then gLock h i o (tk (M 0 9) o (M 2) (stM M h) (chS M h o i)) (M 0 9) (chL M h o i).2 else h
noncomputable def laN (M : AI) (o g : Int → Int) : Nat → Int → Int
  | 0 => g
  | i + 1 => lcN M o (laN M o g i) i
theorem laN_s (M : AI) (o g : Int → Int) (i : Int) (h : 0 ≤ i) : laN M o g (i + 1).toNat = lcN M o (laN M o g i.toNat) i := by
  rw [show (i + 1).toNat = i.toNat + 1 by omega]
  show lcN M o (laN M o g i.toNat) (i.toNat : Int) = _
  rw [show ((i.toNat : Nat) : Int) = i by omega]
theorem lcN_GC (hM : SA M) (hG : GC M g B) (h37 : M 0 37 = -1) (hO : ordOK (M 1) (M 2) (M 0 9) o) (i : Int) (hi : 0 ≤ i ∧ i < M 0 3) (hB : 0 ≤ B ∧ B ≤ 600000000) : GC M (lcN M o g i) B := by
  unfold lcN
  by_cases y : (chL M g o i).1 < 1000000
  · rw [if_pos y]; exact hG.lock hM h37 hO hi hB y
  · rw [if_neg y]; exact hG
theorem ch4_L {M2 : AI} (hf : scr4 M M2) (h o : Int → Int) (r : Int) : chL M2 h o r = chL M h o r := by
  rw [chL_cg hf.c4]; rfl
theorem ch4_S {M2 : AI} (hf : scr4 M M2) (h o : Int → Int) (r : Int) : chS M2 h o r = chS M h o r := by
  unfold chS
  rw [ch4_L hf, scr_need hf.c4, hf.1 4 (by omega)]; rfl
theorem ch4_st {M2 : AI} (hf : scr4 M M2) (h : Int → Int) : stM M2 h = stM M h := by
  rw [scr_st hf.c4]; rfl
theorem c_lockedAll (hI : Inv C0 N0 n pl sp tv cap c A J M g) (hn : n ≤ 600) (hl : M 0 1 = 1) : ∃ A' J', fX6_lockedAll 0 (CW c A J) = some (Sum.inl (some (Value.int (ii (sm (fun r => if gapM (up M 0 0 0) (laN (up M 0 0 0) (A (pl + 3)) g (up M 0 0 0 0 3).toNat) r = 0 ∧ cel (laN (up M 0 0 0) (A (pl + 3)) g (up M 0 0 0 0 3).toNat) r 4 = 0 then 1 else 0) 8)))), CW c A' J') ∧ frm scC A A' J J' ∧ GC (up M 0 0 0) (laN (up M 0 0 0) (A (pl + 3)) g (up M 0 0 0 0 3).toNat) (Bn n) := by
  have hk := hI.1
  have hRd : isReader c 1 := hk.2.1.1
  have hSv : isSolver c 4 := hk.2.1.2.1
  have hHi : isHist c 21 := hk.2.1.2.2.1
  have hNow : isState c 303 := hk.2.1.2.2.2.1
  have hSpr : isState c 338 := hk.2.1.2.2.2.2.1
  have hPl : isPlan c pl := hk.2.2.2.1.2.1
  have h00 : up M 0 0 0 0 0 = 0 := up_s _ _ _ _
  obtain ⟨h10, hM, hP, hS, hG⟩ := hI.ld hl
  obtain ⟨p0, p1, p2, p3, p4, p5, p6, p7⟩ := hP.1
  have hc1 := c_chase1 (A := A) (J := J) hk h10
  have e3 : up M 0 0 0 0 3 = M 0 3 := up_n _ _ _ _ _ _ (by omega)
  have e9 : up M 0 0 0 0 9 = M 0 9 := up_n _ _ _ _ _ _ (by omega)
  have h38 := hM.1.2.1
  have h910 := hM.1.2.2.2.2.2.2.2
  have h37 : up M 0 0 0 0 37 = -1 := (up_n _ _ _ _ _ _ (by omega)).trans hI.2.2.2.1
  have hap := hk.2.2.2.1.1
  have hO := hP.2.2
  have hBn : 0 ≤ Bn n ∧ Bn n ≤ 600000000 := by unfold Bn; omega
  obtain ⟨A1, J1, e1, s1, f1⟩ := s_copy (c := c) hSpr hNow (by omega) hS hG.1.1
  have hX : ∃ A' J', fX6_lockedAll_17 FU 0 (ii 0) (CW c A1 J1) = some (Sum.inl (some (Value.int (ii (sm (fun r => if gapM (up M 0 0 0) (laN (up M 0 0 0) (A (pl + 3)) g (up M 0 0 0 0 3).toNat) r = 0 ∧ cel (laN (up M 0 0 0) (A (pl + 3)) g (up M 0 0 0 0 3).toNat) r 4 = 0 then 1 else 0) 8)))), CW c A' J') ∧ frm scC A A' J J' ∧ GC (up M 0 0 0) (laN (up M 0 0 0) (A (pl + 3)) g (up M 0 0 0 0 3).toNat) (Bn n) := by
    refine lp (fun m i (s : AI × JI) => fX6_lockedAll_17 m 0 (ii i) (CW c s.1 s.2)) (fun x => ∃ A' J', x = some (Sum.inl (some (Value.int (ii (sm (fun r => if gapM (up M 0 0 0) (laN (up M 0 0 0) (A (pl + 3)) g (up M 0 0 0 0 3).toNat) r = 0 ∧ cel (laN (up M 0 0 0) (A (pl + 3)) g (up M 0 0 0 0 3).toNat) r 4 = 0 then 1 else 0) 8)))), CW c A' J') ∧ frm scC A A' J J' ∧ GC (up M 0 0 0) (laN (up M 0 0 0) (A (pl + 3)) g (up M 0 0 0 0 3).toNat) (Bn n))
      (fun i s => 0 ≤ i ∧ SR s.1 s.2 338 (up M 0 0 0 2) (laN (up M 0 0 0) (A (pl + 3)) g i.toNat) (g 5) ∧ frm scC A s.1 J s.2 ∧ GC (up M 0 0 0) (laN (up M 0 0 0) (A (pl + 3)) g i.toNat) (Bn n)) (up M 0 0 0 0 3) ?_ ?_ FU 0 (A1, J1) (by omega) ⟨by omega, s1, f1.mono fun b hb => Or.inr hb, hG⟩ (by have := FU_e; omega)
    · rintro m i ⟨S, T⟩ hi ⟨hJ, hs, hf, hg⟩
      dsimp only at hs hf ⊢
      have fp : ∀ (b : Nat) (z : Int), (pl ≤ b ∧ b < pl + 4) → S b z = A b z := fun b z hb => hf.1 b z (fun x => by
        rcases x with x | x
        · unfold inV at x; omega
        · unfold inS at x; omega)
      have hP2 := PR_frm hP fp
      have hpo : S (pl + 3) = A (pl + 3) := funext fun z => fp _ z (by omega)
      obtain ⟨q0, q1, -⟩ := hP2.1
      obtain ⟨A3, A4, e3, v1, v2, k3, f3⟩ := c_solve (c := c) (J := T) hk hSpr ⟨by omega, Or.inr (by omega)⟩ hs hP2 hM hg h37 i ⟨hJ, hi⟩
      rw [hpo] at e3 v1 v2 k3
      have hR := hSpr.row i (by omega)
      have e := laN_s (up M 0 0 0) (A (pl + 3)) g i hJ
      have hg2 := lcN_GC (o := A (pl + 3)) hM hg h37 hO i ⟨hJ, hi⟩ hBn
      rw [← e] at hg2
      have hf4 : frm scC A A4 J T := ⟨fun b z hb => (f3 b z (fun x => hb (Or.inl x))).trans (hf.1 b z hb), hf.2⟩
      have hs4 : SR A4 T 338 (up M 0 0 0 2) (laN (up M 0 0 0) (A (pl + 3)) g i.toNat) (g 5) := SR_frame hs hg.1.1 (fun b z hb => f3 b z (by unfold inS at hb; unfold inV; omega)) (fun _ _ _ => rfl)
      by_cases y : (chL (up M 0 0 0) (laN (up M 0 0 0) (A (pl + 3)) g i.toNat) (A (pl + 3)) i).1 < 1000000
      · rw [if_pos y] at e3
        obtain ⟨⟨k5, k6, k7⟩, k20⟩ := k3.1 y
        have hP4 : PR A4 pl (up M 0 0 0) := PR_frm hP2 (fun b z hb => f3 b z (by unfold inV; omega))
        have hpo4 : A4 (pl + 3) = A (pl + 3) := funext fun z => by rw [f3 _ _ (by unfold inV; omega)]; exact fp _ z (by omega)
        obtain ⟨hc1', hc2'⟩ := hg.lockB (o := A (pl + 3)) hM hO ⟨hJ, hi⟩ y
        have hcb := (chL_b (o := A (pl + 3)) hM (hg.need hM ⟨hJ, hi⟩).1).2.1
        have h5 := hM.1.2.2.2.1
        obtain ⟨A5, J5, e5, s5, f5⟩ := s_fill (c := c) (A := A4) (J := T) hSpr hPl hSv (by omega) (by omega) hs4 hg.1.1 hM hP4 i (chL (up M 0 0 0) (laN (up M 0 0 0) (A (pl + 3)) g i.toNat) (A (pl + 3)) i).2 (by omega) (by omega) (tk (up M 0 0 0 0 9) (A (pl + 3)) (up M 0 0 0 2) (stM (up M 0 0 0) (laN (up M 0 0 0) (A (pl + 3)) g i.toNat)) (chS (up M 0 0 0) (laN (up M 0 0 0) (A (pl + 3)) g i.toNat) (A (pl + 3)) i)) k7 (fun p a b => by rw [hpo4]; exact k20 p a b) hc1' hc2'
        rw [hpo4] at s5
        refine Or.inr ⟨(A5, J5), ⟨by omega, ?_, ?_, hg2⟩, ?_⟩
        · rw [e]
          unfold lcN
          rw [if_pos y]
          exact s5
        · exact hf4.trans (f5.mono fun b hb => Or.inr hb)
        · simp (disch := first | assumption | omega) only [fX6_lockedAll_17, fX6_lockedAll_64, lkV hk, lkR0 hk, lkR1 hk, lkR2 hk, lkR3 hk, lkR4 hk, lkR5 hk, lkR6 hk, lkR7 hk, lkR8 hk, lkR9 hk, lkI hk, k_E, t_E, rwI1, rwS1, rwI2, rwS2, rwI4, rwS4, rwI5, rwS5, rwI7, rwS7, rwI8, rwS8, rwI9, rwS9, rwR0, rwR3, rwR6, rwA1, rwU1, rwA3, rwU3, rwV, rwJ, rwUJ, plI0, plS0, plI1, plS1, plI2, plS2, plI3, plS3, plI4, plS4, plI5, plS5, plI6, plS6, plI7, plS7, plR8, plR9, plR10, plA1, plU1, plA2, plU2, plA3, plU3, plV, stI2, stS2, stI3, stS3, stI4, stS4, stI5, stS5, stI6, stS6, stI7, stS7, stR0, stR1, stA2, stU2, stV, stRow, svI5, svS5, svI6, svS6, svI7, svS7, svR0, svR1, svR2, svR3, svR4, svA13, svU13, svA14, svU14, svA15, svU15, svA16, svU16, svV, svRow, svF, svUF, hiI1, hiS1, hiI2, hiS2, hiR0, hiV, hiRow, rdI2, rdS2, rdI3, rdS3, rdI4, rdS4, rdI5, rdS5, rdI6, rdS6, rdI7, rdS7, rdI8, rdS8, rdR0, rdR1, rdA1, rdU1, rdA2, rdU2, rdV, k_C, ↓reduceIte, tr_lt, fa_lt, tr_le, fa_le, tr_eq, fa_eq, and_true, true_and, and_false, false_and, il0, il1, il2, il3, il4, il5, il6, il7, il8, il9, il10, il11, il12, il15, il16, il20, il24, il31, il32, il44, il45, il48, il50, il57, il58, il59, il63, il91, il93, il97, il99, il100, il109, il113, il119, il120, il122, il200, il255, il480, il500, il501, il512, il999, il4112, il41120, il1000000, il1000003, ii_add, ii_sub, ii_mul, ii_neg, ii_le, ii_lt, ii_eq, ii_div, q_I, q_V, q_R, lt_q, rZ_q, md_M, md_16, md_4, md_8, md_10, if_true, if_false, if_pos, if_neg, q1, e3, e5]
      · rw [if_neg y] at e3
        refine Or.inr ⟨(A4, T), ⟨by omega, ?_, hf4, hg2⟩, ?_⟩
        · rw [e]
          unfold lcN
          rw [if_neg y]
          exact hs4
        · simp (disch := first | assumption | omega) only [fX6_lockedAll_17, fX6_lockedAll_64, lkV hk, lkR0 hk, lkR1 hk, lkR2 hk, lkR3 hk, lkR4 hk, lkR5 hk, lkR6 hk, lkR7 hk, lkR8 hk, lkR9 hk, lkI hk, k_E, t_E, rwI1, rwS1, rwI2, rwS2, rwI4, rwS4, rwI5, rwS5, rwI7, rwS7, rwI8, rwS8, rwI9, rwS9, rwR0, rwR3, rwR6, rwA1, rwU1, rwA3, rwU3, rwV, rwJ, rwUJ, plI0, plS0, plI1, plS1, plI2, plS2, plI3, plS3, plI4, plS4, plI5, plS5, plI6, plS6, plI7, plS7, plR8, plR9, plR10, plA1, plU1, plA2, plU2, plA3, plU3, plV, stI2, stS2, stI3, stS3, stI4, stS4, stI5, stS5, stI6, stS6, stI7, stS7, stR0, stR1, stA2, stU2, stV, stRow, svI5, svS5, svI6, svS6, svI7, svS7, svR0, svR1, svR2, svR3, svR4, svA13, svU13, svA14, svU14, svA15, svU15, svA16, svU16, svV, svRow, svF, svUF, hiI1, hiS1, hiI2, hiS2, hiR0, hiV, hiRow, rdI2, rdS2, rdI3, rdS3, rdI4, rdS4, rdI5, rdS5, rdI6, rdS6, rdI7, rdS7, rdI8, rdS8, rdR0, rdR1, rdA1, rdU1, rdA2, rdU2, rdV, k_C, ↓reduceIte, tr_lt, fa_lt, tr_le, fa_le, tr_eq, fa_eq, and_true, true_and, and_false, false_and, il0, il1, il2, il3, il4, il5, il6, il7, il8, il9, il10, il11, il12, il15, il16, il20, il24, il31, il32, il44, il45, il48, il50, il57, il58, il59, il63, il91, il93, il97, il99, il100, il109, il113, il119, il120, il122, il200, il255, il480, il500, il501, il512, il999, il4112, il41120, il1000000, il1000003, ii_add, ii_sub, ii_mul, ii_neg, ii_le, ii_lt, ii_eq, ii_div, q_I, q_V, q_R, lt_q, rZ_q, md_M, md_16, md_4, md_8, md_10, if_true, if_false, if_pos, if_neg, q1, e3]
    · rintro m ⟨S, T⟩ ⟨hJ, hs, hf, hg⟩
      dsimp only at hs hf ⊢
      have fp : ∀ (b : Nat) (z : Int), (pl ≤ b ∧ b < pl + 4) → S b z = A b z := fun b z hb => hf.1 b z (fun x => by
        rcases x with x | x
        · unfold inV at x; omega
        · unfold inS at x; omega)
      obtain ⟨q0, q1, q2, -⟩ := (PR_frm hP fp).1
      have ht := s_tight (c := c) hSpr hPl hs hg.1.1 hM ⟨q0, q2⟩
      refine ⟨S, T, ?_, hf, hg⟩
      simp (disch := first | assumption | omega) only [fX6_lockedAll_17, fX6_lockedAll_70, lkV hk, lkR0 hk, lkR1 hk, lkR2 hk, lkR3 hk, lkR4 hk, lkR5 hk, lkR6 hk, lkR7 hk, lkR8 hk, lkR9 hk, lkI hk, k_E, t_E, rwI1, rwS1, rwI2, rwS2, rwI4, rwS4, rwI5, rwS5, rwI7, rwS7, rwI8, rwS8, rwI9, rwS9, rwR0, rwR3, rwR6, rwA1, rwU1, rwA3, rwU3, rwV, rwJ, rwUJ, plI0, plS0, plI1, plS1, plI2, plS2, plI3, plS3, plI4, plS4, plI5, plS5, plI6, plS6, plI7, plS7, plR8, plR9, plR10, plA1, plU1, plA2, plU2, plA3, plU3, plV, stI2, stS2, stI3, stS3, stI4, stS4, stI5, stS5, stI6, stS6, stI7, stS7, stR0, stR1, stA2, stU2, stV, stRow, svI5, svS5, svI6, svS6, svI7, svS7, svR0, svR1, svR2, svR3, svR4, svA13, svU13, svA14, svU14, svA15, svU15, svA16, svU16, svV, svRow, svF, svUF, hiI1, hiS1, hiI2, hiS2, hiR0, hiV, hiRow, rdI2, rdS2, rdI3, rdS3, rdI4, rdS4, rdI5, rdS5, rdI6, rdS6, rdI7, rdS7, rdI8, rdS8, rdR0, rdR1, rdA1, rdU1, rdA2, rdU2, rdV, k_C, ↓reduceIte, tr_lt, fa_lt, tr_le, fa_le, tr_eq, fa_eq, and_true, true_and, and_false, false_and, il0, il1, il2, il3, il4, il5, il6, il7, il8, il9, il10, il11, il12, il15, il16, il20, il24, il31, il32, il44, il45, il48, il50, il57, il58, il59, il63, il91, il93, il97, il99, il100, il109, il113, il119, il120, il122, il200, il255, il480, il500, il501, il512, il999, il4112, il41120, il1000000, il1000003, ii_add, ii_sub, ii_mul, ii_neg, ii_le, ii_lt, ii_eq, ii_div, q_I, q_V, q_R, lt_q, rZ_q, md_M, md_16, md_4, md_8, md_10, if_true, if_false, if_pos, if_neg, q1, ht]
  obtain ⟨A', J', x1, x2, x3⟩ := hX
  refine ⟨A', J', ?_, x2, x3⟩
  simp (disch := first | assumption | omega) only [fX6_lockedAll, lkV hk, lkR0 hk, lkR1 hk, lkR2 hk, lkR3 hk, lkR4 hk, lkR5 hk, lkR6 hk, lkR7 hk, lkR8 hk, lkR9 hk, lkI hk, k_E, t_E, hc1, rwI1, rwS1, rwI2, rwS2, rwI4, rwS4, rwI5, rwS5, rwI7, rwS7, rwI8, rwS8, rwI9, rwS9, rwR0, rwR3, rwR6, rwA1, rwU1, rwA3, rwU3, rwV, rwJ, rwUJ, plI0, plS0, plI1, plS1, plI2, plS2, plI3, plS3, plI4, plS4, plI5, plS5, plI6, plS6, plI7, plS7, plR8, plR9, plR10, plA1, plU1, plA2, plU2, plA3, plU3, plV, stI2, stS2, stI3, stS3, stI4, stS4, stI5, stS5, stI6, stS6, stI7, stS7, stR0, stR1, stA2, stU2, stV, stRow, svI5, svS5, svI6, svS6, svI7, svS7, svR0, svR1, svR2, svR3, svR4, svA13, svU13, svA14, svU14, svA15, svU15, svA16, svU16, svV, svRow, svF, svUF, hiI1, hiS1, hiI2, hiS2, hiR0, hiV, hiRow, rdI2, rdS2, rdI3, rdS3, rdI4, rdS4, rdI5, rdS5, rdI6, rdS6, rdI7, rdS7, rdI8, rdS8, rdR0, rdR1, rdA1, rdU1, rdA2, rdU2, rdV, k_C, ↓reduceIte, tr_lt, fa_lt, tr_le, fa_le, tr_eq, fa_eq, and_true, true_and, and_false, false_and, il0, il1, il2, il3, il4, il5, il6, il7, il8, il9, il10, il11, il12, il15, il16, il20, il24, il31, il32, il44, il45, il48, il50, il57, il58, il59, il63, il91, il93, il97, il99, il100, il109, il113, il119, il120, il122, il200, il255, il480, il500, il501, il512, il999, il4112, il41120, il1000000, il1000003, ii_add, ii_sub, ii_mul, ii_neg, ii_le, ii_lt, ii_eq, ii_div, q_I, q_V, q_R, lt_q, rZ_q, md_M, md_16, md_4, md_8, md_10, if_true, if_false, if_pos, if_neg, e1, x1]
end OPS16
