/-! CALLS THAT SOLVE: lockable, freshChoice -/
section OPS14
variable {C0 N0 n : Nat} {K : Nat × Nat} {c : CC} {A : AI} {J : JI} {M : AI} {g g' o : Int → Int} {pl sp tv cap : Nat} {f B : Int}
theorem c_lockable (hI : Inv C0 N0 n pl sp tv cap c A J M g) (hl : M 0 1 = 1) : ∃ A', fX6_lockable 0 (CW c A J) = some (Sum.inl (some (Value.int (ii (lbN (fun r => (chL (up M 0 0 0) g (A (pl + 3)) r).1) (up M 0 0 0 0 3).toNat)))), CW c A' J) ∧ frm scC A A' J J := by
  have hk := hI.1
  have hRd : isReader c 1 := hk.2.1.1
  have hSv : isSolver c 4 := hk.2.1.2.1
  have hHi : isHist c 21 := hk.2.1.2.2.1
  have hNow : isState c 303 := hk.2.1.2.2.2.1
  have hSpr : isState c 338 := hk.2.1.2.2.2.2.1
  have hPl : isPlan c pl := hk.2.2.2.1.2.1
  have h00 : up M 0 0 0 0 0 = 0 := up_s _ _ _ _
  obtain ⟨h10, hM, hP, hS, hG⟩ := hI.ld hl
  obtain ⟨p0, p1, p2, p3, p4, p5, p6, p7⟩ := hP.1
  have hc1 := c_chase1 (A := A) (J := J) hk h10
  have e3 : up M 0 0 0 0 3 = M 0 3 := up_n _ _ _ _ _ _ (by omega)
  have e9 : up M 0 0 0 0 9 = M 0 9 := up_n _ _ _ _ _ _ (by omega)
  have h38 := hM.1.2.1
  have h910 := hM.1.2.2.2.2.2.2.2
  have h37 : up M 0 0 0 0 37 = -1 := (up_n _ _ _ _ _ _ (by omega)).trans hI.2.2.2.1
  have hap := hk.2.2.2.1.1
  have hO := hP.2.2
  obtain ⟨A1, A2, e1, e2, v2, f2⟩ := c_studied hk hNow (by omega) hS hP hM hG.GL h37
  have hX : ∃ A', fX6_lockable_30 FU 0 (ii 0) (ii 0) (CW c A2 J) = some (Sum.inl (some (Value.int (ii (lbN (fun r => (chL (up M 0 0 0) g (A (pl + 3)) r).1) (up M 0 0 0 0 3).toNat)))), CW c A' J) ∧ ∀ (b : Nat) (z : Int), b ≠ 4 → b ≠ 20 → A' b z = A2 b z := by
    refine lp (fun m i (s : Int × AI) => fX6_lockable_30 m 0 (ii s.1) (ii i) (CW c s.2 J)) (fun x => ∃ A', x = some (Sum.inl (some (Value.int (ii (lbN (fun r => (chL (up M 0 0 0) g (A (pl + 3)) r).1) (up M 0 0 0 0 3).toNat)))), CW c A' J) ∧ ∀ (b : Nat) (z : Int), b ≠ 4 → b ≠ 20 → A' b z = A2 b z)
      (fun i s => 0 ≤ i ∧ s.1 = lbN (fun r => (chL (up M 0 0 0) g (A (pl + 3)) r).1) i.toNat ∧ ∀ (b : Nat) (z : Int), b ≠ 4 → b ≠ 20 → s.2 b z = A2 b z) (up M 0 0 0 0 3) ?_ ?_ FU 0 (0, A2) (by omega) ⟨by omega, rfl, fun _ _ _ _ => rfl⟩ (by have := FU_e; omega)
    · rintro m i ⟨s, S⟩ hi ⟨hJ, hs, hf⟩
      dsimp only at hs hf ⊢
      have hs1 : SR S J 303 (up M 0 0 0 2) g (g 5) := SR_frame hS hG.1.1 (fun b z hb => by rw [hf b z (by unfold inS at hb; omega) (by unfold inS at hb; omega)]; exact f2 b z (by unfold inS at hb; unfold inV; omega)) (fun _ _ _ => rfl)
      obtain ⟨q0, q1, q2, q3, -⟩ := (PR_frm hP (A' := S) (fun b z hb => by rw [hf b z (by omega) (by omega)]; exact f2 b z (by unfold inV; omega))).1
      obtain ⟨A', e5, k5⟩ := c_chose (c := c) (A := S) (J := J) hk hNow hs1 q0 q2 q3 hM hG h37 hO (svA.keep v2 (by omega) hf h910.2) i ⟨hJ, hi⟩
      have hrm := c_room (c := c) hPl hNow hs1 q0 hM hG i ⟨hJ, hi⟩
      have hch := s_canHave hNow hs1 hG.1.1 i (by omega) hG.h0
      have hR := hNow.row i (by omega)
      have e := lbN_s (fun r => (chL (up M 0 0 0) g (A (pl + 3)) r).1) i hJ
      have hb := lbN_b (fun r => (chL (up M 0 0 0) g (A (pl + 3)) r).1) i.toNat
      rw [← hs] at e hb
      have hb2 := bit_or s i ⟨hb, by omega⟩
      by_cases y : (chL (up M 0 0 0) g (A (pl + 3)) i).1 < 1000000
      · rw [if_pos y] at e e5
        refine Or.inr ⟨(s + 2 ^ i.toNat, A'), ⟨by omega, e.symm, fun b z x y => by dsimp only; rw [k5.2 b z x y]; exact hf b z x y⟩, ?_⟩
        simp (disch := first | assumption | omega) only [fX6_lockable_30, fX6_lockable_87, lkV hk, lkR0 hk, lkR1 hk, lkR2 hk, lkR3 hk, lkR4 hk, lkR5 hk, lkR6 hk, lkR7 hk, lkR8 hk, lkR9 hk, lkI hk, k_E, t_E, rwI1, rwS1, rwI2, rwS2, rwI4, rwS4, rwI5, rwS5, rwI7, rwS7, rwI8, rwS8, rwI9, rwS9, rwR0, rwR3, rwR6, rwA1, rwU1, rwA3, rwU3, rwV, rwJ, rwUJ, plI0, plS0, plI1, plS1, plI2, plS2, plI3, plS3, plI4, plS4, plI5, plS5, plI6, plS6, plI7, plS7, plR8, plR9, plR10, plA1, plU1, plA2, plU2, plA3, plU3, plV, stI2, stS2, stI3, stS3, stI4, stS4, stI5, stS5, stI6, stS6, stI7, stS7, stR0, stR1, stA2, stU2, stV, stRow, svI5, svS5, svI6, svS6, svI7, svS7, svR0, svR1, svR2, svR3, svR4, svA13, svU13, svA14, svU14, svA15, svU15, svA16, svU16, svV, svRow, svF, svUF, hiI1, hiS1, hiI2, hiS2, hiR0, hiV, hiRow, rdI2, rdS2, rdI3, rdS3, rdI4, rdS4, rdI5, rdS5, rdI6, rdS6, rdI7, rdS7, rdI8, rdS8, rdR0, rdR1, rdA1, rdU1, rdA2, rdU2, rdV, k_C, ↓reduceIte, tr_lt, fa_lt, tr_le, fa_le, tr_eq, fa_eq, and_true, true_and, and_false, false_and, il0, il1, il2, il3, il4, il5, il6, il7, il8, il9, il10, il11, il12, il15, il16, il20, il24, il31, il32, il44, il45, il48, il50, il57, il58, il59, il63, il91, il93, il97, il99, il100, il109, il113, il119, il120, il122, il200, il255, il480, il500, il501, il512, il999, il4112, il41120, il1000000, il1000003, ii_add, ii_sub, ii_mul, ii_neg, ii_le, ii_lt, ii_eq, ii_div, q_I, q_V, q_R, lt_q, rZ_q, md_M, md_16, md_4, md_8, md_10, if_true, if_false, if_pos, if_neg, q1, hrm, hch, e5, hb2]
      · rw [if_neg y] at e e5
        refine Or.inr ⟨(s, A'), ⟨by omega, e.symm, fun b z x y => by dsimp only; rw [k5.2 b z x y]; exact hf b z x y⟩, ?_⟩
        simp (disch := first | assumption | omega) only [fX6_lockable_30, fX6_lockable_87, lkV hk, lkR0 hk, lkR1 hk, lkR2 hk, lkR3 hk, lkR4 hk, lkR5 hk, lkR6 hk, lkR7 hk, lkR8 hk, lkR9 hk, lkI hk, k_E, t_E, rwI1, rwS1, rwI2, rwS2, rwI4, rwS4, rwI5, rwS5, rwI7, rwS7, rwI8, rwS8, rwI9, rwS9, rwR0, rwR3, rwR6, rwA1, rwU1, rwA3, rwU3, rwV, rwJ, rwUJ, plI0, plS0, plI1, plS1, plI2, plS2, plI3, plS3, plI4, plS4, plI5, plS5, plI6, plS6, plI7, plS7, plR8, plR9, plR10, plA1, plU1, plA2, plU2, plA3, plU3, plV, stI2, stS2, stI3, stS3, stI4, stS4, stI5, stS5, stI6, stS6, stI7, stS7, stR0, stR1, stA2, stU2, stV, stRow, svI5, svS5, svI6, svS6, svI7, svS7, svR0, svR1, svR2, svR3, svR4, svA13, svU13, svA14, svU14, svA15, svU15, svA16, svU16, svV, svRow, svF, svUF, hiI1, hiS1, hiI2, hiS2, hiR0, hiV, hiRow, rdI2, rdS2, rdI3, rdS3, rdI4, rdS4, rdI5, rdS5, rdI6, rdS6, rdI7, rdS7, rdI8, rdS8, rdR0, rdR1, rdA1, rdU1, rdA2, rdU2, rdV, k_C, ↓reduceIte, tr_lt, fa_lt, tr_le, fa_le, tr_eq, fa_eq, and_true, true_and, and_false, false_and, il0, il1, il2, il3, il4, il5, il6, il7, il8, il9, il10, il11, il12, il15, il16, il20, il24, il31, il32, il44, il45, il48, il50, il57, il58, il59, il63, il91, il93, il97, il99, il100, il109, il113, il119, il120, il122, il200, il255, il480, il500, il501, il512, il999, il4112, il41120, il1000000, il1000003, ii_add, ii_sub, ii_mul, ii_neg, ii_le, ii_lt, ii_eq, ii_div, q_I, q_V, q_R, lt_q, rZ_q, md_M, md_16, md_4, md_8, md_10, if_true, if_false, if_pos, if_neg, q1, hrm, hch, e5]
    · rintro m ⟨s, S⟩ ⟨hJ, hs, hf⟩
      dsimp only at hs hf ⊢
      obtain ⟨q0, q1, -⟩ := (PR_frm hP (A' := S) (fun b z hb => by rw [hf b z (by omega) (by omega)]; exact f2 b z (by unfold inV; omega))).1
      refine ⟨S, ?_, hf⟩
      rw [← hs]
      simp (disch := first | assumption | omega) only [fX6_lockable_30, lkV hk, lkR0 hk, lkR1 hk, lkR2 hk, lkR3 hk, lkR4 hk, lkR5 hk, lkR6 hk, lkR7 hk, lkR8 hk, lkR9 hk, lkI hk, k_E, t_E, rwI1, rwS1, rwI2, rwS2, rwI4, rwS4, rwI5, rwS5, rwI7, rwS7, rwI8, rwS8, rwI9, rwS9, rwR0, rwR3, rwR6, rwA1, rwU1, rwA3, rwU3, rwV, rwJ, rwUJ, plI0, plS0, plI1, plS1, plI2, plS2, plI3, plS3, plI4, plS4, plI5, plS5, plI6, plS6, plI7, plS7, plR8, plR9, plR10, plA1, plU1, plA2, plU2, plA3, plU3, plV, stI2, stS2, stI3, stS3, stI4, stS4, stI5, stS5, stI6, stS6, stI7, stS7, stR0, stR1, stA2, stU2, stV, stRow, svI5, svS5, svI6, svS6, svI7, svS7, svR0, svR1, svR2, svR3, svR4, svA13, svU13, svA14, svU14, svA15, svU15, svA16, svU16, svV, svRow, svF, svUF, hiI1, hiS1, hiI2, hiS2, hiR0, hiV, hiRow, rdI2, rdS2, rdI3, rdS3, rdI4, rdS4, rdI5, rdS5, rdI6, rdS6, rdI7, rdS7, rdI8, rdS8, rdR0, rdR1, rdA1, rdU1, rdA2, rdU2, rdV, k_C, ↓reduceIte, tr_lt, fa_lt, tr_le, fa_le, tr_eq, fa_eq, and_true, true_and, and_false, false_and, il0, il1, il2, il3, il4, il5, il6, il7, il8, il9, il10, il11, il12, il15, il16, il20, il24, il31, il32, il44, il45, il48, il50, il57, il58, il59, il63, il91, il93, il97, il99, il100, il109, il113, il119, il120, il122, il200, il255, il480, il500, il501, il512, il999, il4112, il41120, il1000000, il1000003, ii_add, ii_sub, ii_mul, ii_neg, ii_le, ii_lt, ii_eq, ii_div, q_I, q_V, q_R, lt_q, rZ_q, md_M, md_16, md_4, md_8, md_10, if_true, if_false, if_pos, if_neg, q1]
  obtain ⟨A', x1, x2⟩ := hX
  refine ⟨A', ?_, fun b z hb => ?_, fun _ _ _ => rfl⟩
  · simp (disch := first | assumption | omega) only [fX6_lockable, lkV hk, lkR0 hk, lkR1 hk, lkR2 hk, lkR3 hk, lkR4 hk, lkR5 hk, lkR6 hk, lkR7 hk, lkR8 hk, lkR9 hk, lkI hk, k_E, t_E, hc1, rwI1, rwS1, rwI2, rwS2, rwI4, rwS4, rwI5, rwS5, rwI7, rwS7, rwI8, rwS8, rwI9, rwS9, rwR0, rwR3, rwR6, rwA1, rwU1, rwA3, rwU3, rwV, rwJ, rwUJ, plI0, plS0, plI1, plS1, plI2, plS2, plI3, plS3, plI4, plS4, plI5, plS5, plI6, plS6, plI7, plS7, plR8, plR9, plR10, plA1, plU1, plA2, plU2, plA3, plU3, plV, stI2, stS2, stI3, stS3, stI4, stS4, stI5, stS5, stI6, stS6, stI7, stS7, stR0, stR1, stA2, stU2, stV, stRow, svI5, svS5, svI6, svS6, svI7, svS7, svR0, svR1, svR2, svR3, svR4, svA13, svU13, svA14, svU14, svA15, svU15, svA16, svU16, svV, svRow, svF, svUF, hiI1, hiS1, hiI2, hiS2, hiR0, hiV, hiRow, rdI2, rdS2, rdI3, rdS3, rdI4, rdS4, rdI5, rdS5, rdI6, rdS6, rdI7, rdS7, rdI8, rdS8, rdR0, rdR1, rdA1, rdU1, rdA2, rdU2, rdV, k_C, ↓reduceIte, tr_lt, fa_lt, tr_le, fa_le, tr_eq, fa_eq, and_true, true_and, and_false, false_and, il0, il1, il2, il3, il4, il5, il6, il7, il8, il9, il10, il11, il12, il15, il16, il20, il24, il31, il32, il44, il45, il48, il50, il57, il58, il59, il63, il91, il93, il97, il99, il100, il109, il113, il119, il120, il122, il200, il255, il480, il500, il501, il512, il999, il4112, il41120, il1000000, il1000003, ii_add, ii_sub, ii_mul, ii_neg, ii_le, ii_lt, ii_eq, ii_div, q_I, q_V, q_R, lt_q, rZ_q, md_M, md_16, md_4, md_8, md_10, if_true, if_false, if_pos, if_neg, e1, e2, x1]
  · have hb2 : ¬ inV 4 b := fun x => hb (Or.inl x)
    rw [x2 b z (fun x => hb2 (by unfold inV; omega)) (fun x => hb2 (by unfold inV; omega)), f2 b z hb2]
theorem m_lockable (hI : Inv C0 N0 n pl sp tv cap c A J M g) (hl : M 0 1 = 1) : ∃ M', fX7_lockable 0 (NW K (mg M g)) = some (Sum.inl (some (Value.int (ii (lbN (fun r => (chL (up M 0 0 0) g (A (pl + 3)) r).1) (up M 0 0 0 0 3).toNat)))), NW K (mg M' g)) ∧ scr (up M 0 0 0) M' := by
  have hk := hI.1
  have hRd : isReader c 1 := hk.2.1.1
  have hSv : isSolver c 4 := hk.2.1.2.1
  have hHi : isHist c 21 := hk.2.1.2.2.1
  have hNow : isState c 303 := hk.2.1.2.2.2.1
  have hSpr : isState c 338 := hk.2.1.2.2.2.2.1
  have hPl : isPlan c pl := hk.2.2.2.1.2.1
  have h00 : up M 0 0 0 0 0 = 0 := up_s _ _ _ _
  obtain ⟨h10, hM, hP, hS, hG⟩ := hI.ld hl
  obtain ⟨p0, p1, p2, p3, p4, p5, p6, p7⟩ := hP.1
  have hc1 := c_chase1 (A := A) (J := J) hk h10
  have e3 : up M 0 0 0 0 3 = M 0 3 := up_n _ _ _ _ _ _ (by omega)
  have e9 : up M 0 0 0 0 9 = M 0 9 := up_n _ _ _ _ _ _ (by omega)
  have h38 := hM.1.2.1
  have h910 := hM.1.2.2.2.2.2.2.2
  have h37 : up M 0 0 0 0 37 = -1 := (up_n _ _ _ _ _ _ (by omega)).trans hI.2.2.2.1
  have hO := hP.2.2
  have hX : ∃ M', fX7_lockable_13 FU 0 (ii 0) (ii 0) (NW K (mg (up M 0 0 0) g)) = some (Sum.inl (some (Value.int (ii (lbN (fun r => (chL (up M 0 0 0) g (A (pl + 3)) r).1) (up M 0 0 0 0 3).toNat)))), NW K (mg M' g)) ∧ scr (up M 0 0 0) M' := by
    refine lp (fun m i (s : Int × AI) => fX7_lockable_13 m 0 (ii s.1) (ii i) (NW K (mg s.2 g))) (fun x => ∃ M', x = some (Sum.inl (some (Value.int (ii (lbN (fun r => (chL (up M 0 0 0) g (A (pl + 3)) r).1) (up M 0 0 0 0 3).toNat)))), NW K (mg M' g)) ∧ scr (up M 0 0 0) M')
      (fun i s => 0 ≤ i ∧ s.1 = lbN (fun r => (chL (up M 0 0 0) g (A (pl + 3)) r).1) i.toNat ∧ scr (up M 0 0 0) s.2) (up M 0 0 0 0 3) ?_ ?_ FU 0 (0, up M 0 0 0) (by omega) ⟨by omega, rfl, scr.refl _⟩ (by have := FU_e; omega)
    · rintro m i ⟨s, M2⟩ hi ⟨hJ, hs, hf⟩
      dsimp only at hs hf ⊢
      have n3 : M2 0 3 = up M 0 0 0 0 3 := hf.1 3 (by omega)
      have n9 : M2 0 9 = up M 0 0 0 0 9 := hf.1 9 (by omega)
      obtain ⟨M3, n1, t3, -, -, -⟩ := e_chooses (K := K) (A := M2) (o := A (pl + 3)) (r := i) (scr_SA hf hM) hG.GL (by rw [hf.1 37 (by omega)]; omega) (by rw [hf.c1, hf.c2, n9]; exact hO) (by omega) (hG.1.1 i hJ (by omega)) hG.h0 (by rw [scr_need hf]; exact (hG.need hM ⟨hJ, hi⟩).1)
      rw [chL_cg hf] at n1
      have e := lbN_s (fun r => (chL (up M 0 0 0) g (A (pl + 3)) r).1) i hJ
      have hb := lbN_b (fun r => (chL (up M 0 0 0) g (A (pl + 3)) r).1) i.toNat
      rw [← hs] at e hb
      have hb2 := bit_or s i ⟨hb, by omega⟩
      by_cases y : (chL (up M 0 0 0) g (A (pl + 3)) i).1 < 1000000
      · rw [if_pos y] at e n1
        refine Or.inr ⟨(s + 2 ^ i.toNat, M3), ⟨by omega, e.symm, hf.trans t3⟩, ?_⟩
        simp (disch := first | assumption | omega) only [fX7_lockable_13, fX7_lockable_37, nR1, nA1, nU1, nR2, nA2, nU2, nR3, nA3, nU3, nR4, nA4, nU4, nR5, nA5, nU5, nR6, nA6, nU6, nR7, nA7, nU7, nR8, nA8, nU8, nR9, nA9, nU9, nR10, nA10, nU10, nR11, nA11, nU11, nR12, nA12, nU12, nR13, nA13, nU13, nR14, nA14, nU14, nR15, nA15, nU15, nR16, nA16, nU16, nI0, nS0, nI1, nS1, nI2, nS2, nI3, nS3, nI4, nS4, nI5, nS5, nI6, nS6, nI7, nS7, nI8, nS8, nI9, nS9, nI15, nS15, nI18, nS18, nI19, nS19, nI20, nS20, nI21, nS21, nI22, nS22, nI23, nS23, nI24, nS24, nI25, nS25, nI26, nS26, nI27, nS27, nI32, nS32, nI36, nS36, nI37, nS37, nI40, nS40, nSZ1, nV, nC, ↓reduceIte, tr_lt, fa_lt, tr_le, fa_le, tr_eq, fa_eq, and_true, true_and, and_false, false_and, il0, il1, il2, il3, il4, il5, il6, il7, il8, il9, il10, il11, il12, il15, il16, il20, il24, il31, il32, il44, il45, il48, il50, il57, il58, il59, il63, il91, il93, il97, il99, il100, il109, il113, il119, il120, il122, il200, il255, il480, il500, il501, il512, il999, il4112, il41120, il1000000, il1000003, ii_add, ii_sub, ii_mul, ii_neg, ii_le, ii_lt, ii_eq, ii_div, q_I, q_V, q_R, lt_q, rZ_q, md_M, md_16, md_4, md_8, md_10, if_true, if_false, if_pos, if_neg, mg_3, mg_0, mg_1, mg_2, mg_k, mg_up3, mg_upk, n3, n1, hb2]
      · rw [if_neg y] at e n1
        refine Or.inr ⟨(s, M3), ⟨by omega, e.symm, hf.trans t3⟩, ?_⟩
        simp (disch := first | assumption | omega) only [fX7_lockable_13, fX7_lockable_37, nR1, nA1, nU1, nR2, nA2, nU2, nR3, nA3, nU3, nR4, nA4, nU4, nR5, nA5, nU5, nR6, nA6, nU6, nR7, nA7, nU7, nR8, nA8, nU8, nR9, nA9, nU9, nR10, nA10, nU10, nR11, nA11, nU11, nR12, nA12, nU12, nR13, nA13, nU13, nR14, nA14, nU14, nR15, nA15, nU15, nR16, nA16, nU16, nI0, nS0, nI1, nS1, nI2, nS2, nI3, nS3, nI4, nS4, nI5, nS5, nI6, nS6, nI7, nS7, nI8, nS8, nI9, nS9, nI15, nS15, nI18, nS18, nI19, nS19, nI20, nS20, nI21, nS21, nI22, nS22, nI23, nS23, nI24, nS24, nI25, nS25, nI26, nS26, nI27, nS27, nI32, nS32, nI36, nS36, nI37, nS37, nI40, nS40, nSZ1, nV, nC, ↓reduceIte, tr_lt, fa_lt, tr_le, fa_le, tr_eq, fa_eq, and_true, true_and, and_false, false_and, il0, il1, il2, il3, il4, il5, il6, il7, il8, il9, il10, il11, il12, il15, il16, il20, il24, il31, il32, il44, il45, il48, il50, il57, il58, il59, il63, il91, il93, il97, il99, il100, il109, il113, il119, il120, il122, il200, il255, il480, il500, il501, il512, il999, il4112, il41120, il1000000, il1000003, ii_add, ii_sub, ii_mul, ii_neg, ii_le, ii_lt, ii_eq, ii_div, q_I, q_V, q_R, lt_q, rZ_q, md_M, md_16, md_4, md_8, md_10, if_true, if_false, if_pos, if_neg, mg_3, mg_0, mg_1, mg_2, mg_k, mg_up3, mg_upk, n3, n1, or_0]
    · rintro m ⟨s, M2⟩ ⟨hJ, hs, hf⟩
      dsimp only at hs hf ⊢
      have n3 : M2 0 3 = up M 0 0 0 0 3 := hf.1 3 (by omega)
      refine ⟨M2, ?_, hf⟩
      rw [← hs]
      simp (disch := first | assumption | omega) only [fX7_lockable_13, nR1, nA1, nU1, nR2, nA2, nU2, nR3, nA3, nU3, nR4, nA4, nU4, nR5, nA5, nU5, nR6, nA6, nU6, nR7, nA7, nU7, nR8, nA8, nU8, nR9, nA9, nU9, nR10, nA10, nU10, nR11, nA11, nU11, nR12, nA12, nU12, nR13, nA13, nU13, nR14, nA14, nU14, nR15, nA15, nU15, nR16, nA16, nU16, nI0, nS0, nI1, nS1, nI2, nS2, nI3, nS3, nI4, nS4, nI5, nS5, nI6, nS6, nI7, nS7, nI8, nS8, nI9, nS9, nI15, nS15, nI18, nS18, nI19, nS19, nI20, nS20, nI21, nS21, nI22, nS22, nI23, nS23, nI24, nS24, nI25, nS25, nI26, nS26, nI27, nS27, nI32, nS32, nI36, nS36, nI37, nS37, nI40, nS40, nSZ1, nV, nC, ↓reduceIte, tr_lt, fa_lt, tr_le, fa_le, tr_eq, fa_eq, and_true, true_and, and_false, false_and, il0, il1, il2, il3, il4, il5, il6, il7, il8, il9, il10, il11, il12, il15, il16, il20, il24, il31, il32, il44, il45, il48, il50, il57, il58, il59, il63, il91, il93, il97, il99, il100, il109, il113, il119, il120, il122, il200, il255, il480, il500, il501, il512, il999, il4112, il41120, il1000000, il1000003, ii_add, ii_sub, ii_mul, ii_neg, ii_le, ii_lt, ii_eq, ii_div, q_I, q_V, q_R, lt_q, rZ_q, md_M, md_16, md_4, md_8, md_10, if_true, if_false, if_pos, if_neg, mg_3, mg_0, mg_1, mg_2, mg_k, mg_up3, mg_upk, n3]
  obtain ⟨M', x1, x2⟩ := hX
  refine ⟨M', ?_, x2⟩
  simp (disch := first | assumption | omega) only [fX7_lockable, nR1, nA1, nU1, nR2, nA2, nU2, nR3, nA3, nU3, nR4, nA4, nU4, nR5, nA5, nU5, nR6, nA6, nU6, nR7, nA7, nU7, nR8, nA8, nU8, nR9, nA9, nU9, nR10, nA10, nU10, nR11, nA11, nU11, nR12, nA12, nU12, nR13, nA13, nU13, nR14, nA14, nU14, nR15, nA15, nU15, nR16, nA16, nU16, nI0, nS0, nI1, nS1, nI2, nS2, nI3, nS3, nI4, nS4, nI5, nS5, nI6, nS6, nI7, nS7, nI8, nS8, nI9, nS9, nI15, nS15, nI18, nS18, nI19, nS19, nI20, nS20, nI21, nS21, nI22, nS22, nI23, nS23, nI24, nS24, nI25, nS25, nI26, nS26, nI27, nS27, nI32, nS32, nI36, nS36, nI37, nS37, nI40, nS40, nSZ1, nV, nC, ↓reduceIte, tr_lt, fa_lt, tr_le, fa_le, tr_eq, fa_eq, and_true, true_and, and_false, false_and, il0, il1, il2, il3, il4, il5, il6, il7, il8, il9, il10, il11, il12, il15, il16, il20, il24, il31, il32, il44, il45, il48, il50, il57, il58, il59, il63, il91, il93, il97, il99, il100, il109, il113, il119, il120, il122, il200, il255, il480, il500, il501, il512, il999, il4112, il41120, il1000000, il1000003, ii_add, ii_sub, ii_mul, ii_neg, ii_le, ii_lt, ii_eq, ii_div, q_I, q_V, q_R, lt_q, rZ_q, md_M, md_16, md_4, md_8, md_10, if_true, if_false, if_pos, if_neg, mg_3, mg_0, mg_1, mg_2, mg_k, mg_up3, mg_upk, e_notL1, x1]
theorem g_lockable (hI : Inv C0 N0 n pl sp tv cap c A J M g) : Good C0 N0 n K (fL_lockable 0 455 (CW c A J)) (fX7_lockable 0 (NW K (mg M g))) := by
  have hk := hI.1
  have hRd : isReader c 1 := hk.2.1.1
  have hSv : isSolver c 4 := hk.2.1.2.1
  have hHi : isHist c 21 := hk.2.1.2.2.1
  have hNow : isState c 303 := hk.2.1.2.2.2.1
  have hSpr : isState c 338 := hk.2.1.2.2.2.2.1
  have hPl : isPlan c pl := hk.2.2.2.1.2.1
  have h00 : up M 0 0 0 0 0 = 0 := up_s _ _ _ _
  by_cases hl : M 0 1 = 1
  · obtain ⟨A', e1, hf⟩ := c_lockable hI hl
    obtain ⟨M', m1, ms⟩ := m_lockable (K := K) hI hl
    exact Good_read hI e1 hf m1 ms ((ms.1 0 (by omega)).trans h00)
  · obtain ⟨h10, h1⟩ := hI.nl hl
    refine Good_nl hI (v := 0) ?_ (hF_IS _ 1 rfl _ _) ?_
    · rw [fX6_lockable, lkV hk, c_chase0 hk h10, k_E]
    · simp (disch := first | assumption | omega) only [fX7_lockable, nR1, nA1, nU1, nR2, nA2, nU2, nR3, nA3, nU3, nR4, nA4, nU4, nR5, nA5, nU5, nR6, nA6, nU6, nR7, nA7, nU7, nR8, nA8, nU8, nR9, nA9, nU9, nR10, nA10, nU10, nR11, nA11, nU11, nR12, nA12, nU12, nR13, nA13, nU13, nR14, nA14, nU14, nR15, nA15, nU15, nR16, nA16, nU16, nI0, nS0, nI1, nS1, nI2, nS2, nI3, nS3, nI4, nS4, nI5, nS5, nI6, nS6, nI7, nS7, nI8, nS8, nI9, nS9, nI15, nS15, nI18, nS18, nI19, nS19, nI20, nS20, nI21, nS21, nI22, nS22, nI23, nS23, nI24, nS24, nI25, nS25, nI26, nS26, nI27, nS27, nI32, nS32, nI36, nS36, nI37, nS37, nI40, nS40, nSZ1, nV, nC, ↓reduceIte, tr_lt, fa_lt, tr_le, fa_le, tr_eq, fa_eq, and_true, true_and, and_false, false_and, il0, il1, il2, il3, il4, il5, il6, il7, il8, il9, il10, il11, il12, il15, il16, il20, il24, il31, il32, il44, il45, il48, il50, il57, il58, il59, il63, il91, il93, il97, il99, il100, il109, il113, il119, il120, il122, il200, il255, il480, il500, il501, il512, il999, il4112, il41120, il1000000, il1000003, ii_add, ii_sub, ii_mul, ii_neg, ii_le, ii_lt, ii_eq, ii_div, q_I, q_V, q_R, lt_q, rZ_q, md_M, md_16, md_4, md_8, md_10, if_true, if_false, if_pos, if_neg, mg_3, mg_0, mg_1, mg_2, mg_k, mg_up3, mg_upk, e_notL0]
theorem c_fresh (K : Nat × Nat) (hI : Inv C0 N0 n pl sp tv cap c A J M g) (r : Int) (hl : M 0 1 = 1) (hr : 0 ≤ r ∧ r < up M 0 0 0 0 3) : ∃ A' J', fX6_freshChoice 0 (ii r) (CW c A J) = some (Sum.inl (some (Value.int (ii (if (chL (up M 0 0 0) (gEmp g r) (A (pl + 3)) r).1 < 1000000 then (chL (up M 0 0 0) (gEmp g r) (A (pl + 3)) r).1 else -1)))), CW c A' J') ∧ frm scC A A' J J' := by
  have hk := hI.1
  have hRd : isReader c 1 := hk.2.1.1
  have hSv : isSolver c 4 := hk.2.1.2.1
  have hHi : isHist c 21 := hk.2.1.2.2.1
  have hNow : isState c 303 := hk.2.1.2.2.2.1
  have hSpr : isState c 338 := hk.2.1.2.2.2.2.1
  have hPl : isPlan c pl := hk.2.2.2.1.2.1
  have h00 : up M 0 0 0 0 0 = 0 := up_s _ _ _ _
  obtain ⟨h10, hM, hP, hS, hG⟩ := hI.ld hl
  obtain ⟨p0, p1, p2, p3, p4, p5, p6, p7⟩ := hP.1
  have hc1 := c_chase1 (A := A) (J := J) hk h10
  have e3 : up M 0 0 0 0 3 = M 0 3 := up_n _ _ _ _ _ _ (by omega)
  have e9 : up M 0 0 0 0 9 = M 0 9 := up_n _ _ _ _ _ _ (by omega)
  have h38 := hM.1.2.1
  have h910 := hM.1.2.2.2.2.2.2.2
  have hcr := c_row1 (A := A) (J := J) hk h10 r (by rw [p1]; exact hr) (by rw [p1]; exact h38.2)
  have hmr := e_noRow1 (K := K) (M := M) (g := g) hl r (by rw [← e3]; exact hr) (by rw [← e3]; exact h38.2)
  have hr8 : 0 ≤ r ∧ r < 8 := by omega
  have hR := hNow.row r hr8
  have hrr := hS.2 r hr.1 (by omega)
  have hgr := hG.1.1 r hr.1 (by omega)
  have h37 : up M 0 0 0 0 37 = -1 := (up_n _ _ _ _ _ _ (by omega)).trans hI.2.2.2.1
  have hap := hk.2.2.2.1.1
  have hO := hP.2.2
  obtain ⟨A1, J1, e1, s1, f1⟩ := s_copy (c := c) hSpr hNow (by omega) hS hG.1.1
  obtain ⟨A2, e2, s2, f2⟩ := s_empty (c := c) hSpr s1 hG.1.1 hG.1.2.1 r hr8
  have hGe : GC (up M 0 0 0) (gEmp g r) (Bn n) := hG.emp hM hr (by unfold Bn; omega)
  have hP2 : PR A2 pl (up M 0 0 0) := PR_S (PR_S hP (by omega) f1) (by omega) f2
  have hpo : A2 (pl + 3) = A (pl + 3) := funext fun z => by rw [f2.1 _ _ (by unfold inS; omega), f1.1 _ _ (by unfold inS; omega)]
  obtain ⟨A3, A', e3, v1, v2, k3, f3⟩ := c_solve (c := c) hk hSpr ⟨by omega, Or.inr (by omega)⟩ s2 hP2 hM hGe h37 r hr
  rw [hpo] at e3 v1 v2 k3
  have hb := (chL_b (o := A (pl + 3)) hM (hGe.need hM hr).1).1
  refine ⟨A', J1, ?_, fun b z hb => ?_, fun b z hb => f1.2 b z (fun x => hb (Or.inr x))⟩
  · by_cases y : (chL (up M 0 0 0) (gEmp g r) (A (pl + 3)) r).1 < 1000000
    · rw [if_pos y] at e3 ⊢
      have k5 := (k3.1 y).1.1
      simp (disch := first | assumption | omega) only [fX6_freshChoice, lkV hk, lkR0 hk, lkR1 hk, lkR2 hk, lkR3 hk, lkR4 hk, lkR5 hk, lkR6 hk, lkR7 hk, lkR8 hk, lkR9 hk, lkI hk, k_E, t_E, hcr, rwI1, rwS1, rwI2, rwS2, rwI4, rwS4, rwI5, rwS5, rwI7, rwS7, rwI8, rwS8, rwI9, rwS9, rwR0, rwR3, rwR6, rwA1, rwU1, rwA3, rwU3, rwV, rwJ, rwUJ, plI0, plS0, plI1, plS1, plI2, plS2, plI3, plS3, plI4, plS4, plI5, plS5, plI6, plS6, plI7, plS7, plR8, plR9, plR10, plA1, plU1, plA2, plU2, plA3, plU3, plV, stI2, stS2, stI3, stS3, stI4, stS4, stI5, stS5, stI6, stS6, stI7, stS7, stR0, stR1, stA2, stU2, stV, stRow, svI5, svS5, svI6, svS6, svI7, svS7, svR0, svR1, svR2, svR3, svR4, svA13, svU13, svA14, svU14, svA15, svU15, svA16, svU16, svV, svRow, svF, svUF, hiI1, hiS1, hiI2, hiS2, hiR0, hiV, hiRow, rdI2, rdS2, rdI3, rdS3, rdI4, rdS4, rdI5, rdS5, rdI6, rdS6, rdI7, rdS7, rdI8, rdS8, rdR0, rdR1, rdA1, rdU1, rdA2, rdU2, rdV, k_C, ↓reduceIte, tr_lt, fa_lt, tr_le, fa_le, tr_eq, fa_eq, and_true, true_and, and_false, false_and, il0, il1, il2, il3, il4, il5, il6, il7, il8, il9, il10, il11, il12, il15, il16, il20, il24, il31, il32, il44, il45, il48, il50, il57, il58, il59, il63, il91, il93, il97, il99, il100, il109, il113, il119, il120, il122, il200, il255, il480, il500, il501, il512, il999, il4112, il41120, il1000000, il1000003, ii_add, ii_sub, ii_mul, ii_neg, ii_le, ii_lt, ii_eq, ii_div, q_I, q_V, q_R, lt_q, rZ_q, md_M, md_16, md_4, md_8, md_10, if_true, if_false, if_pos, if_neg, e1, e2, e3, k5]
    · rw [if_neg y] at e3 ⊢
      simp (disch := first | assumption | omega) only [fX6_freshChoice, lkV hk, lkR0 hk, lkR1 hk, lkR2 hk, lkR3 hk, lkR4 hk, lkR5 hk, lkR6 hk, lkR7 hk, lkR8 hk, lkR9 hk, lkI hk, k_E, t_E, hcr, rwI1, rwS1, rwI2, rwS2, rwI4, rwS4, rwI5, rwS5, rwI7, rwS7, rwI8, rwS8, rwI9, rwS9, rwR0, rwR3, rwR6, rwA1, rwU1, rwA3, rwU3, rwV, rwJ, rwUJ, plI0, plS0, plI1, plS1, plI2, plS2, plI3, plS3, plI4, plS4, plI5, plS5, plI6, plS6, plI7, plS7, plR8, plR9, plR10, plA1, plU1, plA2, plU2, plA3, plU3, plV, stI2, stS2, stI3, stS3, stI4, stS4, stI5, stS5, stI6, stS6, stI7, stS7, stR0, stR1, stA2, stU2, stV, stRow, svI5, svS5, svI6, svS6, svI7, svS7, svR0, svR1, svR2, svR3, svR4, svA13, svU13, svA14, svU14, svA15, svU15, svA16, svU16, svV, svRow, svF, svUF, hiI1, hiS1, hiI2, hiS2, hiR0, hiV, hiRow, rdI2, rdS2, rdI3, rdS3, rdI4, rdS4, rdI5, rdS5, rdI6, rdS6, rdI7, rdS7, rdI8, rdS8, rdR0, rdR1, rdA1, rdU1, rdA2, rdU2, rdV, k_C, ↓reduceIte, tr_lt, fa_lt, tr_le, fa_le, tr_eq, fa_eq, and_true, true_and, and_false, false_and, il0, il1, il2, il3, il4, il5, il6, il7, il8, il9, il10, il11, il12, il15, il16, il20, il24, il31, il32, il44, il45, il48, il50, il57, il58, il59, il63, il91, il93, il97, il99, il100, il109, il113, il119, il120, il122, il200, il255, il480, il500, il501, il512, il999, il4112, il41120, il1000000, il1000003, ii_add, ii_sub, ii_mul, ii_neg, ii_le, ii_lt, ii_eq, ii_div, q_I, q_V, q_R, lt_q, rZ_q, md_M, md_16, md_4, md_8, md_10, if_true, if_false, if_pos, if_neg, e1, e2, e3]
  · have hb1 : ¬ inV 4 b := fun x => hb (Or.inl x)
    have hb2 : ¬ inS 338 b := fun x => hb (Or.inr x)
    rw [f3 b z hb1, f2.1 b z hb2, f1.1 b z hb2]
theorem m_fresh (hI : Inv C0 N0 n pl sp tv cap c A J M g) (r : Int) (hl : M 0 1 = 1) (hr : 0 ≤ r ∧ r < up M 0 0 0 0 3) : ∃ M' g', fX7_freshChoice 0 (ii r) (NW K (mg M g)) = some (Sum.inl (some (Value.int (ii (if (chL (up M 0 0 0) (gEmp g r) (A (pl + 3)) r).1 < 1000000 then (chL (up M 0 0 0) (gEmp g r) (A (pl + 3)) r).1 else -1)))), NW K (mg M' g')) ∧ scr4 (up M 0 0 0) M' ∧ ∀ z, 0 ≤ z → z < 4112 → g' z = g z := by
  have hk := hI.1
  have hRd : isReader c 1 := hk.2.1.1
  have hSv : isSolver c 4 := hk.2.1.2.1
  have hHi : isHist c 21 := hk.2.1.2.2.1
  have hNow : isState c 303 := hk.2.1.2.2.2.1
  have hSpr : isState c 338 := hk.2.1.2.2.2.2.1
  have hPl : isPlan c pl := hk.2.2.2.1.2.1
  have h00 : up M 0 0 0 0 0 = 0 := up_s _ _ _ _
  obtain ⟨h10, hM, hP, hS, hG⟩ := hI.ld hl
  obtain ⟨p0, p1, p2, p3, p4, p5, p6, p7⟩ := hP.1
  have hc1 := c_chase1 (A := A) (J := J) hk h10
  have e3 : up M 0 0 0 0 3 = M 0 3 := up_n _ _ _ _ _ _ (by omega)
  have e9 : up M 0 0 0 0 9 = M 0 9 := up_n _ _ _ _ _ _ (by omega)
  have h38 := hM.1.2.1
  have h910 := hM.1.2.2.2.2.2.2.2
  have hcr := c_row1 (A := A) (J := J) hk h10 r (by rw [p1]; exact hr) (by rw [p1]; exact h38.2)
  have hmr := e_noRow1 (K := K) (M := M) (g := g) hl r (by rw [← e3]; exact hr) (by rw [← e3]; exact h38.2)
  have hr8 : 0 ≤ r ∧ r < 8 := by omega
  have hR := hNow.row r hr8
  have hrr := hS.2 r hr.1 (by omega)
  have hgr := hG.1.1 r hr.1 (by omega)
  have h37 : up M 0 0 0 0 37 = -1 := (up_n _ _ _ _ _ _ (by omega)).trans hI.2.2.2.1
  have hO := hP.2.2
  obtain ⟨X, x1, x2⟩ := e_putsAside (K := K) (M := up M 0 0 0) (g := g)
  have hM4 : SA (cA4 (up M 0 0 0) X) := hM
  have hGe : GC (cA4 (up M 0 0 0) X) (gEmp g r) (Bn n) := hG.emp hM hr (by unfold Bn; omega)
  have hgr2 := hGe.1.1 r hr.1 (by omega)
  have a1 := e_empties (K := K) (A := cA4 (up M 0 0 0) X) hr8 hgr
  obtain ⟨M', m1, ms, m36, m12, m14⟩ := e_chooses (K := K) (A := cA4 (up M 0 0 0) X) (o := A (pl + 3)) hM4 hGe.GL (by show -1 ≤ up M 0 0 0 0 37 ∧ up M 0 0 0 0 37 < 10; omega) hO hr8 hgr2 hGe.h0 (hGe.need hM4 hr).1
  have es : scr4 (up M 0 0 0) M' := (scr4_c4 _ X).trans ms.s4
  have e4 : ∀ z, M' 4 z = X z := fun z => ms.2 4 z (by omega) (by omega)
  have ec : chL (cA4 (up M 0 0 0) X) (gEmp g r) (A (pl + 3)) r = chL (up M 0 0 0) (gEmp g r) (A (pl + 3)) r := rfl
  rw [ec] at m1
  by_cases w : (chL (up M 0 0 0) (gEmp g r) (A (pl + 3)) r).1 < 1000000
  · rw [if_pos w] at m1 ⊢
    obtain ⟨s1, -⟩ := m_many (o := A (pl + 3)) hM4 hGe.GL hO r (hGe.need hM4 hr).1 w ms (m14 w)
    rw [ec] at s1
    have h14 := e_chosenMany0 (K := K) (A := M') (g := gEmp g r) (by rw [ms.1 9 (by omega)]; exact h910)
    rw [s1] at h14
    obtain ⟨h, b1, b2⟩ := e_fetchesBack (K := K) (M := M') (g := gEmp g r) (chL (up M 0 0 0) (gEmp g r) (A (pl + 3)) r).1
    refine ⟨M', h, ?_, es, fun z a b => by rw [b2 z a b, e4, x2 z a b]⟩
    simp (disch := first | assumption | omega) only [fX7_freshChoice, fX7_freshChoice_40, nR1, nA1, nU1, nR2, nA2, nU2, nR3, nA3, nU3, nR4, nA4, nU4, nR5, nA5, nU5, nR6, nA6, nU6, nR7, nA7, nU7, nR8, nA8, nU8, nR9, nA9, nU9, nR10, nA10, nU10, nR11, nA11, nU11, nR12, nA12, nU12, nR13, nA13, nU13, nR14, nA14, nU14, nR15, nA15, nU15, nR16, nA16, nU16, nI0, nS0, nI1, nS1, nI2, nS2, nI3, nS3, nI4, nS4, nI5, nS5, nI6, nS6, nI7, nS7, nI8, nS8, nI9, nS9, nI15, nS15, nI18, nS18, nI19, nS19, nI20, nS20, nI21, nS21, nI22, nS22, nI23, nS23, nI24, nS24, nI25, nS25, nI26, nS26, nI27, nS27, nI32, nS32, nI36, nS36, nI37, nS37, nI40, nS40, nSZ1, nV, nC, ↓reduceIte, tr_lt, fa_lt, tr_le, fa_le, tr_eq, fa_eq, and_true, true_and, and_false, false_and, il0, il1, il2, il3, il4, il5, il6, il7, il8, il9, il10, il11, il12, il15, il16, il20, il24, il31, il32, il44, il45, il48, il50, il57, il58, il59, il63, il91, il93, il97, il99, il100, il109, il113, il119, il120, il122, il200, il255, il480, il500, il501, il512, il999, il4112, il41120, il1000000, il1000003, ii_add, ii_sub, ii_mul, ii_neg, ii_le, ii_lt, ii_eq, ii_div, q_I, q_V, q_R, lt_q, rZ_q, md_M, md_16, md_4, md_8, md_10, if_true, if_false, if_pos, if_neg, mg_3, mg_0, mg_1, mg_2, mg_k, mg_up3, mg_upk, hmr, x1, a1, m1, h14, b1]
  · rw [if_neg w] at m1 ⊢
    obtain ⟨h, b1, b2⟩ := e_fetchesBack (K := K) (M := M') (g := gEmp g r) (-1)
    refine ⟨M', h, ?_, es, fun z a b => by rw [b2 z a b, e4, x2 z a b]⟩
    simp (disch := first | assumption | omega) only [fX7_freshChoice, fX7_freshChoice_40, nR1, nA1, nU1, nR2, nA2, nU2, nR3, nA3, nU3, nR4, nA4, nU4, nR5, nA5, nU5, nR6, nA6, nU6, nR7, nA7, nU7, nR8, nA8, nU8, nR9, nA9, nU9, nR10, nA10, nU10, nR11, nA11, nU11, nR12, nA12, nU12, nR13, nA13, nU13, nR14, nA14, nU14, nR15, nA15, nU15, nR16, nA16, nU16, nI0, nS0, nI1, nS1, nI2, nS2, nI3, nS3, nI4, nS4, nI5, nS5, nI6, nS6, nI7, nS7, nI8, nS8, nI9, nS9, nI15, nS15, nI18, nS18, nI19, nS19, nI20, nS20, nI21, nS21, nI22, nS22, nI23, nS23, nI24, nS24, nI25, nS25, nI26, nS26, nI27, nS27, nI32, nS32, nI36, nS36, nI37, nS37, nI40, nS40, nSZ1, nV, nC, ↓reduceIte, tr_lt, fa_lt, tr_le, fa_le, tr_eq, fa_eq, and_true, true_and, and_false, false_and, il0, il1, il2, il3, il4, il5, il6, il7, il8, il9, il10, il11, il12, il15, il16, il20, il24, il31, il32, il44, il45, il48, il50, il57, il58, il59, il63, il91, il93, il97, il99, il100, il109, il113, il119, il120, il122, il200, il255, il480, il500, il501, il512, il999, il4112, il41120, il1000000, il1000003, ii_add, ii_sub, ii_mul, ii_neg, ii_le, ii_lt, ii_eq, ii_div, q_I, q_V, q_R, lt_q, rZ_q, md_M, md_16, md_4, md_8, md_10, if_true, if_false, if_pos, if_neg, mg_3, mg_0, mg_1, mg_2, mg_k, mg_up3, mg_upk, hmr, x1, a1, m1, b1]
theorem g_freshChoice (hI : Inv C0 N0 n pl sp tv cap c A J M g) (r : Int) (hrb : -2147483648 ≤ r ∧ r < 2147483648) : Good C0 N0 n K (fL_freshChoice 0 (ii r) 455 (CW c A J)) (fX7_freshChoice 0 (ii r) (NW K (mg M g))) := by
  have hk := hI.1
  have hRd : isReader c 1 := hk.2.1.1
  have hSv : isSolver c 4 := hk.2.1.2.1
  have hHi : isHist c 21 := hk.2.1.2.2.1
  have hNow : isState c 303 := hk.2.1.2.2.2.1
  have hSpr : isState c 338 := hk.2.1.2.2.2.2.1
  have hPl : isPlan c pl := hk.2.2.2.1.2.1
  have h00 : up M 0 0 0 0 0 = 0 := up_s _ _ _ _
  by_cases hl : M 0 1 = 1
  · obtain ⟨h10, hM, hP, hS, hG⟩ := hI.ld hl
    obtain ⟨p0, p1, p2, p3, p4, p5, p6, p7⟩ := hP.1
    have hc1 := c_chase1 (A := A) (J := J) hk h10
    have e3 : up M 0 0 0 0 3 = M 0 3 := up_n _ _ _ _ _ _ (by omega)
    have e9 : up M 0 0 0 0 9 = M 0 9 := up_n _ _ _ _ _ _ (by omega)
    have h38 := hM.1.2.1
    have h910 := hM.1.2.2.2.2.2.2.2
    by_cases hr : 0 ≤ r ∧ r < up M 0 0 0 0 3
    · obtain ⟨A', J', e1, hf⟩ := c_fresh K hI r hl hr
      obtain ⟨M', g', m1, ms, mg⟩ := m_fresh (K := K) hI r hl hr
      exact Good_aside hI e1 hf m1 ms mg
    · refine Good_no (code := 2) hI (E := "java/lang/IndexOutOfBoundsException") (A' := A) (J' := J) ?_ (frm.refl _ _ _) (fun τ => (hF2 _ _ _ _ _ _ (by decide)).trans (hF1 _ _ 2 rfl _ _ _)) (by omega) (v := 0) ?_
      · have hcr := c_row0 (A := A) (J := J) hk h10 r (by rw [p1]; exact hr) (by rw [p1]; omega) (by omega)
        rw [fX6_freshChoice, lkV hk, hcr, k_E]
      · have hmr := e_noRow0 (K := K) (M := M) (g := g) hl r (by rw [← e3]; exact hr) (by rw [← e3]; omega) (by omega)
        rw [fX7_freshChoice, nV, hmr, nC, q_I, if_neg (show ¬ ii 1 = (0 : Int32) by decide)]
        rfl
  · obtain ⟨h10, h1⟩ := hI.nl hl
    refine Good_nl hI (v := 0) ?_ (hF_IS _ 1 rfl _ _) ?_
    · rw [fX6_freshChoice, lkV hk, c_rowN hk h10, k_E]
    · rw [fX7_freshChoice, nV, e_noRowN h1, nC, q_I, if_neg (show ¬ ii 1 = (0 : Int32) by decide)]
      rfl
end OPS14
