/-! CALLS THAT SOLVE: fillable, lockable, nearest -/
theorem FW_0 {n : Int} {o len st : Int → Int} (hs : ∀ p, 0 ≤ p → p < n → 0 ≤ st (o p)) : ∀ (j : Nat) (p : Int), 0 ≤ p → n - p = j → FW n o len st p 0 = 0
  | 0, p, h, e => by
    rw [show p = n by omega, FW_n, if_pos rfl]
  | j + 1, p, h, e => by
    have ih := FW_0 (len := len) hs j (p + 1) (by omega) (by omega)
    have hb := (FW_b n o len st p 0).1
    rw [FW_p _ _ _ _ _ _ (by omega)] at hb ⊢
    have h2 := hs p h (by omega)
    have h3 : 1 ≤ bnd (len (o p)) (st (o p)) 0 := by
      unfold bnd
      rw [Int.zero_ediv]
      split <;> omega
    have h4 := (mnN_is (FW n o len st (p + 1)) (len (o p)) 0 (bnd (len (o p)) (st (o p)) 0).toNat).2.1 0 (by omega) (by omega)
    rw [Int.zero_mul, Int.sub_zero, ih] at h4
    unfold mnb at hb ⊢
    omega
noncomputable def lbN (F : Int → Int) : Nat → Int
  | 0 => 0
  | i + 1 => if F i < 1000000 then lbN F i + 2 ^ i else lbN F i
theorem lbN_b (F : Int → Int) : ∀ n : Nat, 0 ≤ lbN F n ∧ lbN F n < 2 ^ n
  | 0 => by show (0 : Int) ≤ 0 ∧ (0 : Int) < 1; omega
  | n + 1 => by
    have ih := lbN_b F n
    rw [Int.pow_succ]
    unfold lbN
    split
    · omega
    · omega
theorem lbN_s (F : Int → Int) (i : Int) (h : 0 ≤ i) : lbN F (i + 1).toNat = if F i < 1000000 then lbN F i.toNat + 2 ^ i.toNat else lbN F i.toNat := by
  rw [show (i + 1).toNat = i.toNat + 1 by omega]
  show (if F (i.toNat : Int) < 1000000 then lbN F i.toNat + 2 ^ i.toNat else lbN F i.toNat) = _
  rw [show ((i.toNat : Nat) : Int) = i by omega]
theorem or_0 (x : Int32) : x ||| ii 0 = x := Int32.or_zero
section OPS11
variable {C0 N0 n : Nat} {K : Nat × Nat} {c : CC} {A : AI} {J : JI} {M : AI} {g g' o : Int → Int} {pl sp tv cap : Nat} {f B : Int}
theorem c_mk (hSv : isSolver c 4) (hM : SA M) (hv : svA A pl M g o) (x : Int) (hx : 0 ≤ x ∧ x ≤ M 0 2) : fX4_canMake 4 (ii x) (CW c A J) = some (Sum.inl (some (Value.int (ii (if FW (M 0 9) o (M 2) (stM M g) 0 x < 1000000 then 1 else 0)))), CW c A J) := by
  have h9 := hM.1.2.2.2.2.2.2.2
  have h2 := hM.1.1
  have h := v_canMake (c := c) (A := A) (J := J) hSv x (by omega) (FW (M 0 9) o (M 2) (stM M g) 0 x) (FW_b _ _ _ _ _ _) (fun a b => by rw [hv.2 0 x (by omega) h9.1 a b, if_pos hx.2])
  by_cases y : FW (M 0 9) o (M 2) (stM M g) 0 x < 1000000
  · rw [if_pos ⟨by omega, y⟩] at h
    rw [if_pos y]; exact h
  · rw [if_neg (fun z => y z.2)] at h
    rw [if_neg y]; exact h
theorem g_fillable (hI : Inv C0 N0 n pl sp tv cap c A J M g) (L : Int) (hib : -2147483648 ≤ L ∧ L < 2147483648) : Good C0 N0 n K (fL_fillable 0 (ii L) 455 (CW c A J)) (fX7_fillable 0 (ii L) (NW K (mg M g))) := by
  have hk := hI.1
  have hRd : isReader c 1 := hk.2.1.1
  have hSv : isSolver c 4 := hk.2.1.2.1
  have hHi : isHist c 21 := hk.2.1.2.2.1
  have hNow : isState c 303 := hk.2.1.2.2.2.1
  have hSpr : isState c 338 := hk.2.1.2.2.2.2.1
  have hPl : isPlan c pl := hk.2.2.2.1.2.1
  have h00 : up M 0 0 0 0 0 = 0 := up_s _ _ _ _
  by_cases hl : M 0 1 = 1
  · obtain ⟨h10, hM, hP, hS, hG⟩ := hI.ld hl
    obtain ⟨p0, p1, p2, p3, p4, p5, p6, p7⟩ := hP.1
    have hc1 := c_chase1 (A := A) (J := J) hk h10
    have e3 : up M 0 0 0 0 3 = M 0 3 := up_n _ _ _ _ _ _ (by omega)
    have e9 : up M 0 0 0 0 9 = M 0 9 := up_n _ _ _ _ _ _ (by omega)
    have h38 := hM.1.2.1
    have h910 := hM.1.2.2.2.2.2.2.2
    have h2 := hM.1.1
    have hin := e_in L 0 (up M 0 0 0 0 2) (by omega) (NW K (mg (up M 0 0 0) g))
    by_cases q : 0 ≤ L ∧ L ≤ up M 0 0 0 0 2
    · rw [if_pos q] at hin
      have h37 : up M 0 0 0 0 37 = -1 := (up_n _ _ _ _ _ _ (by omega)).trans hI.2.2.2.1
      have hap := hk.2.2.2.1.1
      have hO := hP.2.2
      obtain ⟨A1, A2, e1, e2, v2, f2⟩ := c_studied hk hNow (by omega) hS hP hM hG.GL h37
      obtain ⟨M', m1, ms, m12, m13⟩ := e_laysFewest (K := K) hM hG.GL (by omega) hO L (by omega)
      have hX : fX6_fillable_56 FU 0 (ii L) (ii 0) (ii 0) (CW c A2 J) = some (Sum.inl (some (Value.int (ii (sm (fun s => if FW (up M 0 0 0 0 9) (A (pl + 3)) (up M 0 0 0 2) (stM (up M 0 0 0) g) 0 s < 1000000 then 1 else 0) (L + 1))))), CW c A2 J) := by
        refine lp (fun m i (s : Int) => fX6_fillable_56 m 0 (ii L) (ii s) (ii i) (CW c A2 J)) (fun x => x = _) (fun i s => 0 ≤ i ∧ s = sm (fun s => if FW (up M 0 0 0 0 9) (A (pl + 3)) (up M 0 0 0 2) (stM (up M 0 0 0) g) 0 s < 1000000 then 1 else 0) i) (L + 1) ?_ ?_ FU 0 0 (by omega) ⟨by omega, rfl⟩ (by have := FU_e; omega)
        · rintro m i s hi ⟨hJ, hs⟩
          have hc := c_mk (c := c) (J := J) hSv hM v2 i (by omega)
          refine Or.inr ⟨s + (if FW (up M 0 0 0 0 9) (A (pl + 3)) (up M 0 0 0 2) (stM (up M 0 0 0) g) 0 i < 1000000 then 1 else 0), ⟨by omega, by rw [sm_s _ _ hJ, ← hs]⟩, ?_⟩
          by_cases y : FW (up M 0 0 0 0 9) (A (pl + 3)) (up M 0 0 0 2) (stM (up M 0 0 0) g) 0 i < 1000000
          · rw [if_pos y] at hc ⊢
            simp (disch := first | assumption | omega) only [fX6_fillable_56, fX6_fillable_75, lkV hk, lkR0 hk, lkR1 hk, lkR2 hk, lkR3 hk, lkR4 hk, lkR5 hk, lkR6 hk, lkR7 hk, lkR8 hk, lkR9 hk, lkI hk, k_E, t_E, rwI1, rwS1, rwI2, rwS2, rwI4, rwS4, rwI5, rwS5, rwI7, rwS7, rwI8, rwS8, rwI9, rwS9, rwR0, rwR3, rwR6, rwA1, rwU1, rwA3, rwU3, rwV, rwJ, rwUJ, plI0, plS0, plI1, plS1, plI2, plS2, plI3, plS3, plI4, plS4, plI5, plS5, plI6, plS6, plI7, plS7, plR8, plR9, plR10, plA1, plU1, plA2, plU2, plA3, plU3, plV, stI2, stS2, stI3, stS3, stI4, stS4, stI5, stS5, stI6, stS6, stI7, stS7, stR0, stR1, stA2, stU2, stV, stRow, svI5, svS5, svI6, svS6, svI7, svS7, svR0, svR1, svR2, svR3, svR4, svA13, svU13, svA14, svU14, svA15, svU15, svA16, svU16, svV, svRow, svF, svUF, hiI1, hiS1, hiI2, hiS2, hiR0, hiV, hiRow, rdI2, rdS2, rdI3, rdS3, rdI4, rdS4, rdI5, rdS5, rdI6, rdS6, rdI7, rdS7, rdI8, rdS8, rdR0, rdR1, rdA1, rdU1, rdA2, rdU2, rdV, k_C, ↓reduceIte, tr_lt, fa_lt, tr_le, fa_le, tr_eq, fa_eq, and_true, true_and, and_false, false_and, il0, il1, il2, il3, il4, il5, il6, il7, il8, il9, il10, il11, il12, il15, il16, il20, il24, il31, il32, il44, il45, il48, il50, il57, il58, il59, il63, il91, il93, il97, il99, il100, il109, il113, il119, il120, il122, il200, il255, il480, il500, il501, il512, il999, il4112, il41120, il1000000, il1000003, ii_add, ii_sub, ii_mul, ii_neg, ii_le, ii_lt, ii_eq, ii_div, q_I, q_V, q_R, lt_q, rZ_q, md_M, md_16, md_4, md_8, md_10, if_true, if_false, if_pos, if_neg, hc]
          · rw [if_neg y] at hc ⊢
            simp (disch := first | assumption | omega) only [fX6_fillable_56, fX6_fillable_75, lkV hk, lkR0 hk, lkR1 hk, lkR2 hk, lkR3 hk, lkR4 hk, lkR5 hk, lkR6 hk, lkR7 hk, lkR8 hk, lkR9 hk, lkI hk, k_E, t_E, rwI1, rwS1, rwI2, rwS2, rwI4, rwS4, rwI5, rwS5, rwI7, rwS7, rwI8, rwS8, rwI9, rwS9, rwR0, rwR3, rwR6, rwA1, rwU1, rwA3, rwU3, rwV, rwJ, rwUJ, plI0, plS0, plI1, plS1, plI2, plS2, plI3, plS3, plI4, plS4, plI5, plS5, plI6, plS6, plI7, plS7, plR8, plR9, plR10, plA1, plU1, plA2, plU2, plA3, plU3, plV, stI2, stS2, stI3, stS3, stI4, stS4, stI5, stS5, stI6, stS6, stI7, stS7, stR0, stR1, stA2, stU2, stV, stRow, svI5, svS5, svI6, svS6, svI7, svS7, svR0, svR1, svR2, svR3, svR4, svA13, svU13, svA14, svU14, svA15, svU15, svA16, svU16, svV, svRow, svF, svUF, hiI1, hiS1, hiI2, hiS2, hiR0, hiV, hiRow, rdI2, rdS2, rdI3, rdS3, rdI4, rdS4, rdI5, rdS5, rdI6, rdS6, rdI7, rdS7, rdI8, rdS8, rdR0, rdR1, rdA1, rdU1, rdA2, rdU2, rdV, k_C, ↓reduceIte, tr_lt, fa_lt, tr_le, fa_le, tr_eq, fa_eq, and_true, true_and, and_false, false_and, il0, il1, il2, il3, il4, il5, il6, il7, il8, il9, il10, il11, il12, il15, il16, il20, il24, il31, il32, il44, il45, il48, il50, il57, il58, il59, il63, il91, il93, il97, il99, il100, il109, il113, il119, il120, il122, il200, il255, il480, il500, il501, il512, il999, il4112, il41120, il1000000, il1000003, ii_add, ii_sub, ii_mul, ii_neg, ii_le, ii_lt, ii_eq, ii_div, q_I, q_V, q_R, lt_q, rZ_q, md_M, md_16, md_4, md_8, md_10, if_true, if_false, if_pos, if_neg, hc, Int.add_zero]
        · rintro m s ⟨hJ, hs⟩
          rw [← hs]
          simp (disch := first | assumption | omega) only [fX6_fillable_56, lkV hk, lkR0 hk, lkR1 hk, lkR2 hk, lkR3 hk, lkR4 hk, lkR5 hk, lkR6 hk, lkR7 hk, lkR8 hk, lkR9 hk, lkI hk, k_E, t_E, rwI1, rwS1, rwI2, rwS2, rwI4, rwS4, rwI5, rwS5, rwI7, rwS7, rwI8, rwS8, rwI9, rwS9, rwR0, rwR3, rwR6, rwA1, rwU1, rwA3, rwU3, rwV, rwJ, rwUJ, plI0, plS0, plI1, plS1, plI2, plS2, plI3, plS3, plI4, plS4, plI5, plS5, plI6, plS6, plI7, plS7, plR8, plR9, plR10, plA1, plU1, plA2, plU2, plA3, plU3, plV, stI2, stS2, stI3, stS3, stI4, stS4, stI5, stS5, stI6, stS6, stI7, stS7, stR0, stR1, stA2, stU2, stV, stRow, svI5, svS5, svI6, svS6, svI7, svS7, svR0, svR1, svR2, svR3, svR4, svA13, svU13, svA14, svU14, svA15, svU15, svA16, svU16, svV, svRow, svF, svUF, hiI1, hiS1, hiI2, hiS2, hiR0, hiV, hiRow, rdI2, rdS2, rdI3, rdS3, rdI4, rdS4, rdI5, rdS5, rdI6, rdS6, rdI7, rdS7, rdI8, rdS8, rdR0, rdR1, rdA1, rdU1, rdA2, rdU2, rdV, k_C, ↓reduceIte, tr_lt, fa_lt, tr_le, fa_le, tr_eq, fa_eq, and_true, true_and, and_false, false_and, il0, il1, il2, il3, il4, il5, il6, il7, il8, il9, il10, il11, il12, il15, il16, il20, il24, il31, il32, il44, il45, il48, il50, il57, il58, il59, il63, il91, il93, il97, il99, il100, il109, il113, il119, il120, il122, il200, il255, il480, il500, il501, il512, il999, il4112, il41120, il1000000, il1000003, ii_add, ii_sub, ii_mul, ii_neg, ii_le, ii_lt, ii_eq, ii_div, q_I, q_V, q_R, lt_q, rZ_q, md_M, md_16, md_4, md_8, md_10, if_true, if_false, if_pos, if_neg]
      have hY : fX7_fillable_43 FU 0 (ii L) (ii 0) (ii 0) (NW K (mg M' g)) = some (Sum.inl (some (Value.int (ii (sm (fun s => if FW (up M 0 0 0 0 9) (A (pl + 3)) (up M 0 0 0 2) (stM (up M 0 0 0) g) 0 s < 1000000 then 1 else 0) (L + 1))))), NW K (mg M' g)) := by
        refine lp (fun m i (s : Int) => fX7_fillable_43 m 0 (ii L) (ii s) (ii i) (NW K (mg M' g))) (fun x => x = _) (fun i s => 0 ≤ i ∧ s = sm (fun s => if FW (up M 0 0 0 0 9) (A (pl + 3)) (up M 0 0 0 2) (stM (up M 0 0 0) g) 0 s < 1000000 then 1 else 0) i) (L + 1) ?_ ?_ FU 0 0 (by omega) ⟨by omega, rfl⟩ (by have := FU_e; omega)
        · rintro m i s hi ⟨hJ, hs⟩
          have ht := m13 0 i (by omega) h910.1 hJ (by omega)
          rw [show 501 * 0 + i = i by omega] at ht
          have hb := FW_b (up M 0 0 0 0 9) (A (pl + 3)) (up M 0 0 0 2) (stM (up M 0 0 0) g) 0 i
          refine Or.inr ⟨s + (if FW (up M 0 0 0 0 9) (A (pl + 3)) (up M 0 0 0 2) (stM (up M 0 0 0) g) 0 i < 1000000 then 1 else 0), ⟨by omega, by rw [sm_s _ _ hJ, ← hs]⟩, ?_⟩
          by_cases y : FW (up M 0 0 0 0 9) (A (pl + 3)) (up M 0 0 0 2) (stM (up M 0 0 0) g) 0 i < 1000000
          · rw [if_pos y]
            simp (disch := first | assumption | omega) only [fX7_fillable_43, fX7_fillable_66, nR1, nA1, nU1, nR2, nA2, nU2, nR3, nA3, nU3, nR4, nA4, nU4, nR5, nA5, nU5, nR6, nA6, nU6, nR7, nA7, nU7, nR8, nA8, nU8, nR9, nA9, nU9, nR10, nA10, nU10, nR11, nA11, nU11, nR12, nA12, nU12, nR13, nA13, nU13, nR14, nA14, nU14, nR15, nA15, nU15, nR16, nA16, nU16, nI0, nS0, nI1, nS1, nI2, nS2, nI3, nS3, nI4, nS4, nI5, nS5, nI6, nS6, nI7, nS7, nI8, nS8, nI9, nS9, nI15, nS15, nI18, nS18, nI19, nS19, nI20, nS20, nI21, nS21, nI22, nS22, nI23, nS23, nI24, nS24, nI25, nS25, nI26, nS26, nI27, nS27, nI32, nS32, nI36, nS36, nI37, nS37, nI40, nS40, nSZ1, nV, nC, ↓reduceIte, tr_lt, fa_lt, tr_le, fa_le, tr_eq, fa_eq, and_true, true_and, and_false, false_and, il0, il1, il2, il3, il4, il5, il6, il7, il8, il9, il10, il11, il12, il15, il16, il20, il24, il31, il32, il44, il45, il48, il50, il57, il58, il59, il63, il91, il93, il97, il99, il100, il109, il113, il119, il120, il122, il200, il255, il480, il500, il501, il512, il999, il4112, il41120, il1000000, il1000003, ii_add, ii_sub, ii_mul, ii_neg, ii_le, ii_lt, ii_eq, ii_div, q_I, q_V, q_R, lt_q, rZ_q, md_M, md_16, md_4, md_8, md_10, if_true, if_false, if_pos, if_neg, mg_3, mg_0, mg_1, mg_2, mg_k, mg_up3, mg_upk, ht, e_flag]
          · rw [if_neg y]
            simp (disch := first | assumption | omega) only [fX7_fillable_43, fX7_fillable_66, nR1, nA1, nU1, nR2, nA2, nU2, nR3, nA3, nU3, nR4, nA4, nU4, nR5, nA5, nU5, nR6, nA6, nU6, nR7, nA7, nU7, nR8, nA8, nU8, nR9, nA9, nU9, nR10, nA10, nU10, nR11, nA11, nU11, nR12, nA12, nU12, nR13, nA13, nU13, nR14, nA14, nU14, nR15, nA15, nU15, nR16, nA16, nU16, nI0, nS0, nI1, nS1, nI2, nS2, nI3, nS3, nI4, nS4, nI5, nS5, nI6, nS6, nI7, nS7, nI8, nS8, nI9, nS9, nI15, nS15, nI18, nS18, nI19, nS19, nI20, nS20, nI21, nS21, nI22, nS22, nI23, nS23, nI24, nS24, nI25, nS25, nI26, nS26, nI27, nS27, nI32, nS32, nI36, nS36, nI37, nS37, nI40, nS40, nSZ1, nV, nC, ↓reduceIte, tr_lt, fa_lt, tr_le, fa_le, tr_eq, fa_eq, and_true, true_and, and_false, false_and, il0, il1, il2, il3, il4, il5, il6, il7, il8, il9, il10, il11, il12, il15, il16, il20, il24, il31, il32, il44, il45, il48, il50, il57, il58, il59, il63, il91, il93, il97, il99, il100, il109, il113, il119, il120, il122, il200, il255, il480, il500, il501, il512, il999, il4112, il41120, il1000000, il1000003, ii_add, ii_sub, ii_mul, ii_neg, ii_le, ii_lt, ii_eq, ii_div, q_I, q_V, q_R, lt_q, rZ_q, md_M, md_16, md_4, md_8, md_10, if_true, if_false, if_pos, if_neg, mg_3, mg_0, mg_1, mg_2, mg_k, mg_up3, mg_upk, ht, e_flag]
        · rintro m s ⟨hJ, hs⟩
          rw [← hs]
          simp (disch := first | assumption | omega) only [fX7_fillable_43, nR1, nA1, nU1, nR2, nA2, nU2, nR3, nA3, nU3, nR4, nA4, nU4, nR5, nA5, nU5, nR6, nA6, nU6, nR7, nA7, nU7, nR8, nA8, nU8, nR9, nA9, nU9, nR10, nA10, nU10, nR11, nA11, nU11, nR12, nA12, nU12, nR13, nA13, nU13, nR14, nA14, nU14, nR15, nA15, nU15, nR16, nA16, nU16, nI0, nS0, nI1, nS1, nI2, nS2, nI3, nS3, nI4, nS4, nI5, nS5, nI6, nS6, nI7, nS7, nI8, nS8, nI9, nS9, nI15, nS15, nI18, nS18, nI19, nS19, nI20, nS20, nI21, nS21, nI22, nS22, nI23, nS23, nI24, nS24, nI25, nS25, nI26, nS26, nI27, nS27, nI32, nS32, nI36, nS36, nI37, nS37, nI40, nS40, nSZ1, nV, nC, ↓reduceIte, tr_lt, fa_lt, tr_le, fa_le, tr_eq, fa_eq, and_true, true_and, and_false, false_and, il0, il1, il2, il3, il4, il5, il6, il7, il8, il9, il10, il11, il12, il15, il16, il20, il24, il31, il32, il44, il45, il48, il50, il57, il58, il59, il63, il91, il93, il97, il99, il100, il109, il113, il119, il120, il122, il200, il255, il480, il500, il501, il512, il999, il4112, il41120, il1000000, il1000003, ii_add, ii_sub, ii_mul, ii_neg, ii_le, ii_lt, ii_eq, ii_div, q_I, q_V, q_R, lt_q, rZ_q, md_M, md_16, md_4, md_8, md_10, if_true, if_false, if_pos, if_neg, mg_3, mg_0, mg_1, mg_2, mg_k, mg_up3, mg_upk]
      refine Good_read hI (v := sm (fun s => if FW (up M 0 0 0 0 9) (A (pl + 3)) (up M 0 0 0 2) (stM (up M 0 0 0) g) 0 s < 1000000 then 1 else 0) (L + 1)) (A' := A2) (J' := J) (M' := M') ?_ ⟨fun b z hb => f2 b z (fun x => hb (Or.inl x)), fun _ _ _ => rfl⟩ ?_ ms ((ms.1 0 (by omega)).trans h00)
      · simp (disch := first | assumption | omega) only [fX6_fillable, lkV hk, lkR0 hk, lkR1 hk, lkR2 hk, lkR3 hk, lkR4 hk, lkR5 hk, lkR6 hk, lkR7 hk, lkR8 hk, lkR9 hk, lkI hk, k_E, t_E, hc1, rwI1, rwS1, rwI2, rwS2, rwI4, rwS4, rwI5, rwS5, rwI7, rwS7, rwI8, rwS8, rwI9, rwS9, rwR0, rwR3, rwR6, rwA1, rwU1, rwA3, rwU3, rwV, rwJ, rwUJ, plI0, plS0, plI1, plS1, plI2, plS2, plI3, plS3, plI4, plS4, plI5, plS5, plI6, plS6, plI7, plS7, plR8, plR9, plR10, plA1, plU1, plA2, plU2, plA3, plU3, plV, stI2, stS2, stI3, stS3, stI4, stS4, stI5, stS5, stI6, stS6, stI7, stS7, stR0, stR1, stA2, stU2, stV, stRow, svI5, svS5, svI6, svS6, svI7, svS7, svR0, svR1, svR2, svR3, svR4, svA13, svU13, svA14, svU14, svA15, svU15, svA16, svU16, svV, svRow, svF, svUF, hiI1, hiS1, hiI2, hiS2, hiR0, hiV, hiRow, rdI2, rdS2, rdI3, rdS3, rdI4, rdS4, rdI5, rdS5, rdI6, rdS6, rdI7, rdS7, rdI8, rdS8, rdR0, rdR1, rdA1, rdU1, rdA2, rdU2, rdV, k_C, ↓reduceIte, tr_lt, fa_lt, tr_le, fa_le, tr_eq, fa_eq, and_true, true_and, and_false, false_and, il0, il1, il2, il3, il4, il5, il6, il7, il8, il9, il10, il11, il12, il15, il16, il20, il24, il31, il32, il44, il45, il48, il50, il57, il58, il59, il63, il91, il93, il97, il99, il100, il109, il113, il119, il120, il122, il200, il255, il480, il500, il501, il512, il999, il4112, il41120, il1000000, il1000003, ii_add, ii_sub, ii_mul, ii_neg, ii_le, ii_lt, ii_eq, ii_div, q_I, q_V, q_R, lt_q, rZ_q, md_M, md_16, md_4, md_8, md_10, if_true, if_false, if_pos, if_neg, p0, e1, e2, hX]
      · simp (disch := first | assumption | omega) only [fX7_fillable, fX7_fillable_25, nR1, nA1, nU1, nR2, nA2, nU2, nR3, nA3, nU3, nR4, nA4, nU4, nR5, nA5, nU5, nR6, nA6, nU6, nR7, nA7, nU7, nR8, nA8, nU8, nR9, nA9, nU9, nR10, nA10, nU10, nR11, nA11, nU11, nR12, nA12, nU12, nR13, nA13, nU13, nR14, nA14, nU14, nR15, nA15, nU15, nR16, nA16, nU16, nI0, nS0, nI1, nS1, nI2, nS2, nI3, nS3, nI4, nS4, nI5, nS5, nI6, nS6, nI7, nS7, nI8, nS8, nI9, nS9, nI15, nS15, nI18, nS18, nI19, nS19, nI20, nS20, nI21, nS21, nI22, nS22, nI23, nS23, nI24, nS24, nI25, nS25, nI26, nS26, nI27, nS27, nI32, nS32, nI36, nS36, nI37, nS37, nI40, nS40, nSZ1, nV, nC, ↓reduceIte, tr_lt, fa_lt, tr_le, fa_le, tr_eq, fa_eq, and_true, true_and, and_false, false_and, il0, il1, il2, il3, il4, il5, il6, il7, il8, il9, il10, il11, il12, il15, il16, il20, il24, il31, il32, il44, il45, il48, il50, il57, il58, il59, il63, il91, il93, il97, il99, il100, il109, il113, il119, il120, il122, il200, il255, il480, il500, il501, il512, il999, il4112, il41120, il1000000, il1000003, ii_add, ii_sub, ii_mul, ii_neg, ii_le, ii_lt, ii_eq, ii_div, q_I, q_V, q_R, lt_q, rZ_q, md_M, md_16, md_4, md_8, md_10, if_true, if_false, if_pos, if_neg, mg_3, mg_0, mg_1, mg_2, mg_k, mg_up3, mg_upk, e_notL1, hin, e_ref0, m1, hY]
    · rw [if_neg q] at hin
      refine Good_no (code := 2) hI (E := "java/lang/IllegalArgumentException") (A' := A) (J' := J) ?_ (frm.refl _ _ _) (fun τ => (hF2 _ _ _ _ _ _ (by decide)).trans (hF1 _ _ 2 rfl _ _ _)) (by omega) (v := 0) ?_
      · by_cases q2 : L < 0
        · rw [fX6_fillable, lkV hk, hc1, k_C, q_V, il0, if_pos (by rw [ii_lt _ _ (by omega)]; exact q2), t_E]
        · rw [fX6_fillable, lkV hk, hc1, k_C, q_V, il0, if_neg (by rw [ii_lt _ _ (by omega)]; exact q2), lkR8 hk, plI0 hPl, p0, if_neg (by rw [ii_le _ _ (by omega)]; omega), t_E]
      · have hrf := e_ref1 (K := K) (M := up M 0 0 0) (g := g) h00 2 (by omega)
        simp (disch := first | assumption | omega) only [fX7_fillable, nR1, nA1, nU1, nR2, nA2, nU2, nR3, nA3, nU3, nR4, nA4, nU4, nR5, nA5, nU5, nR6, nA6, nU6, nR7, nA7, nU7, nR8, nA8, nU8, nR9, nA9, nU9, nR10, nA10, nU10, nR11, nA11, nU11, nR12, nA12, nU12, nR13, nA13, nU13, nR14, nA14, nU14, nR15, nA15, nU15, nR16, nA16, nU16, nI0, nS0, nI1, nS1, nI2, nS2, nI3, nS3, nI4, nS4, nI5, nS5, nI6, nS6, nI7, nS7, nI8, nS8, nI9, nS9, nI15, nS15, nI18, nS18, nI19, nS19, nI20, nS20, nI21, nS21, nI22, nS22, nI23, nS23, nI24, nS24, nI25, nS25, nI26, nS26, nI27, nS27, nI32, nS32, nI36, nS36, nI37, nS37, nI40, nS40, nSZ1, nV, nC, ↓reduceIte, tr_lt, fa_lt, tr_le, fa_le, tr_eq, fa_eq, and_true, true_and, and_false, false_and, il0, il1, il2, il3, il4, il5, il6, il7, il8, il9, il10, il11, il12, il15, il16, il20, il24, il31, il32, il44, il45, il48, il50, il57, il58, il59, il63, il91, il93, il97, il99, il100, il109, il113, il119, il120, il122, il200, il255, il480, il500, il501, il512, il999, il4112, il41120, il1000000, il1000003, ii_add, ii_sub, ii_mul, ii_neg, ii_le, ii_lt, ii_eq, ii_div, q_I, q_V, q_R, lt_q, rZ_q, md_M, md_16, md_4, md_8, md_10, if_true, if_false, if_pos, if_neg, mg_3, mg_0, mg_1, mg_2, mg_k, mg_up3, mg_upk, e_notL1, hin]
        rw [fX7_fillable_25, nV, il2, hrf, nC, q_I, if_neg (show ¬ ii 1 = (0 : Int32) by decide), up_up]
        rfl
  · obtain ⟨h10, h1⟩ := hI.nl hl
    refine Good_nl hI (v := 0) ?_ (hF_IS _ 1 rfl _ _) ?_
    · rw [fX6_fillable, lkV hk, c_chase0 hk h10, k_E]
    · rw [fX7_fillable, nV, e_notL0 h1, nC, q_I, if_neg (show ¬ ii 1 = (0 : Int32) by decide)]
      rfl
end OPS11
