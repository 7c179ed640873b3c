/-! A CALL THAT LOCKS AS IF: lockedAll, II -/
section OPS17
variable {C0 N0 n : Nat} {K : Nat × Nat} {c : CC} {A : AI} {J : JI} {M : AI} {g g' o : Int → Int} {pl sp tv cap : Nat} {f B : Int}
theorem m_lockedAll (hI : Inv C0 N0 n pl sp tv cap c A J M g) (hn : n ≤ 600) (hl : M 0 1 = 1) : ∃ M' g', fX7_lockedAll 0 (NW K (mg M g)) = some (Sum.inl (some (Value.int (ii (sm (fun r => if gapM (up M 0 0 0) (laN (up M 0 0 0) (A (pl + 3)) g (up M 0 0 0 0 3).toNat) r = 0 ∧ cel (laN (up M 0 0 0) (A (pl + 3)) g (up M 0 0 0 0 3).toNat) r 4 = 0 then 1 else 0) (up M 0 0 0 0 3))))), NW K (mg M' g')) ∧ scr4 (up M 0 0 0) M' ∧ ∀ z, 0 ≤ z → z < 4112 → g' z = g z := by
  have hk := hI.1
  have hRd : isReader c 1 := hk.2.1.1
  have hSv : isSolver c 4 := hk.2.1.2.1
  have hHi : isHist c 21 := hk.2.1.2.2.1
  have hNow : isState c 303 := hk.2.1.2.2.2.1
  have hSpr : isState c 338 := hk.2.1.2.2.2.2.1
  have hPl : isPlan c pl := hk.2.2.2.1.2.1
  have h00 : up M 0 0 0 0 0 = 0 := up_s _ _ _ _
  obtain ⟨h10, hM, hP, hS, hG⟩ := hI.ld hl
  obtain ⟨p0, p1, p2, p3, p4, p5, p6, p7⟩ := hP.1
  have hc1 := c_chase1 (A := A) (J := J) hk h10
  have e3 : up M 0 0 0 0 3 = M 0 3 := up_n _ _ _ _ _ _ (by omega)
  have e9 : up M 0 0 0 0 9 = M 0 9 := up_n _ _ _ _ _ _ (by omega)
  have h38 := hM.1.2.1
  have h910 := hM.1.2.2.2.2.2.2.2
  have h37 : up M 0 0 0 0 37 = -1 := (up_n _ _ _ _ _ _ (by omega)).trans hI.2.2.2.1
  have hO := hP.2.2
  have hBn : 0 ≤ Bn n ∧ Bn n ≤ 600000000 := by unfold Bn; omega
  obtain ⟨X, x1, x2⟩ := e_putsAside (K := K) (M := up M 0 0 0) (g := g)
  have hX : ∃ M' g', fX7_lockedAll_15 FU 0 (ii 0) (NW K (mg (cA4 (up M 0 0 0) X) g)) = some (Sum.inl (some (Value.int (ii (sm (fun r => if gapM (up M 0 0 0) (laN (up M 0 0 0) (A (pl + 3)) g (up M 0 0 0 0 3).toNat) r = 0 ∧ cel (laN (up M 0 0 0) (A (pl + 3)) g (up M 0 0 0 0 3).toNat) r 4 = 0 then 1 else 0) (up M 0 0 0 0 3))))), NW K (mg M' g')) ∧ scr4 (up M 0 0 0) M' ∧ ∀ z, 0 ≤ z → z < 4112 → g' z = g z := by
    refine lp (fun m i (s : AI × (Int → Int)) => fX7_lockedAll_15 m 0 (ii i) (NW K (mg s.1 s.2))) (fun x => ∃ M' g', x = some (Sum.inl (some (Value.int (ii (sm (fun r => if gapM (up M 0 0 0) (laN (up M 0 0 0) (A (pl + 3)) g (up M 0 0 0 0 3).toNat) r = 0 ∧ cel (laN (up M 0 0 0) (A (pl + 3)) g (up M 0 0 0 0 3).toNat) r 4 = 0 then 1 else 0) (up M 0 0 0 0 3))))), NW K (mg M' g')) ∧ scr4 (up M 0 0 0) M' ∧ ∀ z, 0 ≤ z → z < 4112 → g' z = g z)
      (fun i s => 0 ≤ i ∧ s.2 = laN (up M 0 0 0) (A (pl + 3)) g i.toNat ∧ (scr4 (up M 0 0 0) s.1 ∧ ∀ z, s.1 4 z = X z) ∧ GC (up M 0 0 0) s.2 (Bn n)) (up M 0 0 0 0 3) ?_ ?_ FU 0 (cA4 (up M 0 0 0) X, g) (by omega) ⟨by omega, rfl, ⟨scr4_c4 _ X, fun _ => rfl⟩, hG⟩ (by have := FU_e; omega)
    · rintro m i ⟨M2, h⟩ hi ⟨hJ, hs, ⟨hf, h4⟩, hg⟩
      dsimp only at hs hf h4 hg ⊢
      have n3 : M2 0 3 = up M 0 0 0 0 3 := hf.1 3 (by omega)
      have n9 : M2 0 9 = up M 0 0 0 0 9 := hf.1 9 (by omega)
      have n1 : M2 1 = up M 0 0 0 1 := funext fun z => hf.2 1 z (by omega) (by omega) (by omega)
      have n2 : M2 2 = up M 0 0 0 2 := funext fun z => hf.2 2 z (by omega) (by omega) (by omega)
      have nn : needM M2 h i = needM (up M 0 0 0) h i := by rw [scr_need hf.c4]; rfl
      obtain ⟨M3, k1, k2, -⟩ := e_locks (K := K) (A := M2) (g := h) (o := A (pl + 3)) (r := i) (SA_4 hf hM) hg.GL (by rw [hf.1 37 (by omega)]; omega) (by rw [n1, n2, n9]; exact hO) (by omega) (hg.1.1 i hJ (by omega)) hg.h0 (by rw [nn]; exact (hg.need hM ⟨hJ, hi⟩).1)
        (fun z p a b => by
          rw [ch4_L hf] at z
          rw [n9, n2, ch4_st hf, ch4_S hf]
          rw [n9] at b
          exact (hg.lockB (o := A (pl + 3)) hM hO ⟨hJ, hi⟩ z).2 p a b)
      rw [ch4_L hf, n9, n2, ch4_st hf, ch4_S hf] at k1
      have e := laN_s (up M 0 0 0) (A (pl + 3)) g i hJ
      rw [← hs] at e
      have hg2 := lcN_GC (o := A (pl + 3)) hM hg h37 hO i ⟨hJ, hi⟩ hBn
      have k1' : fX7_locks 0 (ii i) (NW K (mg M2 h)) = some (Sum.inl (some (Value.int (ii (if (chL (up M 0 0 0) h (A (pl + 3)) i).1 < 1000000 then 1 else 0)))), NW K (mg M3 (lcN (up M 0 0 0) (A (pl + 3)) h i))) := k1
      refine Or.inr ⟨(M3, lcN (up M 0 0 0) (A (pl + 3)) h i), ⟨by omega, e.symm, ⟨hf.trans k2.s4, fun z => (k2.2 4 z (by omega) (by omega)).trans (h4 z)⟩, hg2⟩, ?_⟩
      simp (disch := first | assumption | omega) only [fX7_lockedAll_15, nR1, nA1, nU1, nR2, nA2, nU2, nR3, nA3, nU3, nR4, nA4, nU4, nR5, nA5, nU5, nR6, nA6, nU6, nR7, nA7, nU7, nR8, nA8, nU8, nR9, nA9, nU9, nR10, nA10, nU10, nR11, nA11, nU11, nR12, nA12, nU12, nR13, nA13, nU13, nR14, nA14, nU14, nR15, nA15, nU15, nR16, nA16, nU16, nI0, nS0, nI1, nS1, nI2, nS2, nI3, nS3, nI4, nS4, nI5, nS5, nI6, nS6, nI7, nS7, nI8, nS8, nI9, nS9, nI15, nS15, nI18, nS18, nI19, nS19, nI20, nS20, nI21, nS21, nI22, nS22, nI23, nS23, nI24, nS24, nI25, nS25, nI26, nS26, nI27, nS27, nI32, nS32, nI36, nS36, nI37, nS37, nI40, nS40, nSZ1, nV, nC, ↓reduceIte, tr_lt, fa_lt, tr_le, fa_le, tr_eq, fa_eq, and_true, true_and, and_false, false_and, il0, il1, il2, il3, il4, il5, il6, il7, il8, il9, il10, il11, il12, il15, il16, il20, il24, il31, il32, il44, il45, il48, il50, il57, il58, il59, il63, il91, il93, il97, il99, il100, il109, il113, il119, il120, il122, il200, il255, il480, il500, il501, il512, il999, il4112, il41120, il1000000, il1000003, ii_add, ii_sub, ii_mul, ii_neg, ii_le, ii_lt, ii_eq, ii_div, q_I, q_V, q_R, lt_q, rZ_q, md_M, md_16, md_4, md_8, md_10, if_true, if_false, if_pos, if_neg, mg_3, mg_0, mg_1, mg_2, mg_k, mg_up3, mg_upk, n3, k1']
    · rintro m ⟨M2, h⟩ ⟨hJ, hs, ⟨hf, h4⟩, hg⟩
      dsimp only at hs hf h4 hg ⊢
      have n3 : M2 0 3 = up M 0 0 0 0 3 := hf.1 3 (by omega)
      have ht := e_tightRows (K := K) (A := M2) (g := h) (SA_4 hf hM) hg.1.1
      have gq : gapM M2 h = gapM (up M 0 0 0) h := funext fun r => by rw [scr_gap hf.c4]; rfl
      rw [n3, gq] at ht
      obtain ⟨h2, b1, b2⟩ := e_fetchesBack (K := K) (M := M2) (g := h) (sm (fun r => if gapM (up M 0 0 0) h r = 0 ∧ cel h r 4 = 0 then 1 else 0) (up M 0 0 0 0 3))
      rw [← hs]
      refine ⟨M2, h2, ?_, hf, fun z a b => by rw [b2 z a b, h4, x2 z a b]⟩
      simp (disch := first | assumption | omega) only [fX7_lockedAll_15, fX7_lockedAll_35, nR1, nA1, nU1, nR2, nA2, nU2, nR3, nA3, nU3, nR4, nA4, nU4, nR5, nA5, nU5, nR6, nA6, nU6, nR7, nA7, nU7, nR8, nA8, nU8, nR9, nA9, nU9, nR10, nA10, nU10, nR11, nA11, nU11, nR12, nA12, nU12, nR13, nA13, nU13, nR14, nA14, nU14, nR15, nA15, nU15, nR16, nA16, nU16, nI0, nS0, nI1, nS1, nI2, nS2, nI3, nS3, nI4, nS4, nI5, nS5, nI6, nS6, nI7, nS7, nI8, nS8, nI9, nS9, nI15, nS15, nI18, nS18, nI19, nS19, nI20, nS20, nI21, nS21, nI22, nS22, nI23, nS23, nI24, nS24, nI25, nS25, nI26, nS26, nI27, nS27, nI32, nS32, nI36, nS36, nI37, nS37, nI40, nS40, nSZ1, nV, nC, ↓reduceIte, tr_lt, fa_lt, tr_le, fa_le, tr_eq, fa_eq, and_true, true_and, and_false, false_and, il0, il1, il2, il3, il4, il5, il6, il7, il8, il9, il10, il11, il12, il15, il16, il20, il24, il31, il32, il44, il45, il48, il50, il57, il58, il59, il63, il91, il93, il97, il99, il100, il109, il113, il119, il120, il122, il200, il255, il480, il500, il501, il512, il999, il4112, il41120, il1000000, il1000003, ii_add, ii_sub, ii_mul, ii_neg, ii_le, ii_lt, ii_eq, ii_div, q_I, q_V, q_R, lt_q, rZ_q, md_M, md_16, md_4, md_8, md_10, if_true, if_false, if_pos, if_neg, mg_3, mg_0, mg_1, mg_2, mg_k, mg_up3, mg_upk, n3, ht, b1]
  obtain ⟨M', g2, y1, y2, y3⟩ := hX
  refine ⟨M', g2, ?_, y2, y3⟩
  simp (disch := first | assumption | omega) only [fX7_lockedAll, nR1, nA1, nU1, nR2, nA2, nU2, nR3, nA3, nU3, nR4, nA4, nU4, nR5, nA5, nU5, nR6, nA6, nU6, nR7, nA7, nU7, nR8, nA8, nU8, nR9, nA9, nU9, nR10, nA10, nU10, nR11, nA11, nU11, nR12, nA12, nU12, nR13, nA13, nU13, nR14, nA14, nU14, nR15, nA15, nU15, nR16, nA16, nU16, nI0, nS0, nI1, nS1, nI2, nS2, nI3, nS3, nI4, nS4, nI5, nS5, nI6, nS6, nI7, nS7, nI8, nS8, nI9, nS9, nI15, nS15, nI18, nS18, nI19, nS19, nI20, nS20, nI21, nS21, nI22, nS22, nI23, nS23, nI24, nS24, nI25, nS25, nI26, nS26, nI27, nS27, nI32, nS32, nI36, nS36, nI37, nS37, nI40, nS40, nSZ1, nV, nC, ↓reduceIte, tr_lt, fa_lt, tr_le, fa_le, tr_eq, fa_eq, and_true, true_and, and_false, false_and, il0, il1, il2, il3, il4, il5, il6, il7, il8, il9, il10, il11, il12, il15, il16, il20, il24, il31, il32, il44, il45, il48, il50, il57, il58, il59, il63, il91, il93, il97, il99, il100, il109, il113, il119, il120, il122, il200, il255, il480, il500, il501, il512, il999, il4112, il41120, il1000000, il1000003, ii_add, ii_sub, ii_mul, ii_neg, ii_le, ii_lt, ii_eq, ii_div, q_I, q_V, q_R, lt_q, rZ_q, md_M, md_16, md_4, md_8, md_10, if_true, if_false, if_pos, if_neg, mg_3, mg_0, mg_1, mg_2, mg_k, mg_up3, mg_upk, e_notL1, x1, y1]
theorem g_lockedAll (hI : Inv C0 N0 n pl sp tv cap c A J M g) (hn : n ≤ 600) : Good C0 N0 n K (fL_lockedAll 0 455 (CW c A J)) (fX7_lockedAll 0 (NW K (mg M g))) := by
  have hk := hI.1
  have hRd : isReader c 1 := hk.2.1.1
  have hSv : isSolver c 4 := hk.2.1.2.1
  have hHi : isHist c 21 := hk.2.1.2.2.1
  have hNow : isState c 303 := hk.2.1.2.2.2.1
  have hSpr : isState c 338 := hk.2.1.2.2.2.2.1
  have hPl : isPlan c pl := hk.2.2.2.1.2.1
  have h00 : up M 0 0 0 0 0 = 0 := up_s _ _ _ _
  by_cases hl : M 0 1 = 1
  · obtain ⟨h10, hM, hP, hS, hG⟩ := hI.ld hl
    obtain ⟨p0, p1, p2, p3, p4, p5, p6, p7⟩ := hP.1
    have hc1 := c_chase1 (A := A) (J := J) hk h10
    have e3 : up M 0 0 0 0 3 = M 0 3 := up_n _ _ _ _ _ _ (by omega)
    have e9 : up M 0 0 0 0 9 = M 0 9 := up_n _ _ _ _ _ _ (by omega)
    have h38 := hM.1.2.1
    have h910 := hM.1.2.2.2.2.2.2.2
    obtain ⟨A', J', e1, hf, hg⟩ := c_lockedAll hI hn hl
    obtain ⟨M', g', m1, ms, mg⟩ := m_lockedAll (K := K) hI hn hl
    rw [sm8 (up M 0 0 0) _ (by omega) (fun r a b => if_neg (fun z => by
      have h0 := (hg.1.2.2.1 r a b)
      have h1 : gapM (up M 0 0 0) (laN (up M 0 0 0) (A (pl + 3)) g (up M 0 0 0 0 3).toNat) r = up M 0 0 0 0 2 := by
        unfold gapM suB suP uQ
        rw [h0.1, h0.2.1, sm_0, sm_0, if_pos h0.2.2.1]
        omega
      have h2 := hM.1.1
      omega))] at e1
    exact Good_aside hI e1 hf m1 ms mg
  · obtain ⟨h10, h1⟩ := hI.nl hl
    refine Good_nl hI (v := 0) ?_ (hF_IS _ 1 rfl _ _) ?_
    · rw [fX6_lockedAll, lkV hk, c_chase0 hk h10, k_E]
    · simp (disch := first | assumption | omega) only [fX7_lockedAll, nR1, nA1, nU1, nR2, nA2, nU2, nR3, nA3, nU3, nR4, nA4, nU4, nR5, nA5, nU5, nR6, nA6, nU6, nR7, nA7, nU7, nR8, nA8, nU8, nR9, nA9, nU9, nR10, nA10, nU10, nR11, nA11, nU11, nR12, nA12, nU12, nR13, nA13, nU13, nR14, nA14, nU14, nR15, nA15, nU15, nR16, nA16, nU16, nI0, nS0, nI1, nS1, nI2, nS2, nI3, nS3, nI4, nS4, nI5, nS5, nI6, nS6, nI7, nS7, nI8, nS8, nI9, nS9, nI15, nS15, nI18, nS18, nI19, nS19, nI20, nS20, nI21, nS21, nI22, nS22, nI23, nS23, nI24, nS24, nI25, nS25, nI26, nS26, nI27, nS27, nI32, nS32, nI36, nS36, nI37, nS37, nI40, nS40, nSZ1, nV, nC, ↓reduceIte, tr_lt, fa_lt, tr_le, fa_le, tr_eq, fa_eq, and_true, true_and, and_false, false_and, il0, il1, il2, il3, il4, il5, il6, il7, il8, il9, il10, il11, il12, il15, il16, il20, il24, il31, il32, il44, il45, il48, il50, il57, il58, il59, il63, il91, il93, il97, il99, il100, il109, il113, il119, il120, il122, il200, il255, il480, il500, il501, il512, il999, il4112, il41120, il1000000, il1000003, ii_add, ii_sub, ii_mul, ii_neg, ii_le, ii_lt, ii_eq, ii_div, q_I, q_V, q_R, lt_q, rZ_q, md_M, md_16, md_4, md_8, md_10, if_true, if_false, if_pos, if_neg, mg_3, mg_0, mg_1, mg_2, mg_k, mg_up3, mg_upk, e_notL0]
end OPS17
