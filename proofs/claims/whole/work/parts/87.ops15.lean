/-! A CALL THAT PRINTS AS IF: goodIn -/
section CGN
variable {A A' : AI} {g : Int → Int}
theorem gap_eq (h0 : A' 0 = A 0) (h2 : A' 2 = A 2) : gapM A' = gapM A := by
  funext g r
  unfold gapM
  rw [h0, h2]
theorem shN_cg (h0 : A' 0 = A 0) : ∀ n : Nat, shN A' g n = shN A g n
  | 0 => rfl
  | n + 1 => by unfold shN; rw [shN_cg h0 n, h0]
theorem daN_cg (h0 : A' 0 = A 0) (h1 : A' 1 = A 1) : ∀ n : Nat, daN A' g n = daN A g n
  | 0 => rfl
  | n + 1 => by unfold daN; rw [daN_cg h0 h1 n, h0, h1]
theorem lkN_cg (h0 : A' 0 = A 0) (h2 : A' 2 = A 2) : ∀ n : Nat, lkN A' g n = lkN A g n
  | 0 => rfl
  | n + 1 => by unfold lkN; rw [lkN_cg h0 h2 n, h0, gap_eq h0 h2]
theorem gdN_cg (h0 : A' 0 = A 0) (h2 : A' 2 = A 2) : ∀ n : Nat, gdN A' g n = gdN A g n
  | 0 => rfl
  | n + 1 => by unfold gdN; rw [gdN_cg h0 h2 n, gap_eq h0 h2]
theorem gPr_cg (h0 : A' 0 = A 0) (h2 : A' 2 = A 2) : gPr A' g = gPr A g := by
  unfold gPr
  rw [h0, shN_cg h0, lkN_cg h0 h2, gdN_cg h0 h2]
theorem gDa_cg (h0 : A' 0 = A 0) (h1 : A' 1 = A 1) (h2 : A' 2 = A 2) : gDa A' g = gDa A g := by
  unfold gDa
  rw [h0, daN_cg h0 h1, lkN_cg h0 h2]
end CGN
section OPS15
variable {C0 N0 n : Nat} {K : Nat × Nat} {c : CC} {A : AI} {J : JI} {M : AI} {g g' o : Int → Int} {pl sp tv cap : Nat} {f B : Int}
theorem m_goodLoop (hM : SA M) (hI : GI M g B) (X : Int → Int) (hB : 0 ≤ B ∧ B + 54 * 200 ≤ 500000000) (L : Int) (hL : 0 ≤ L ∧ L ≤ 200) (hX : ∀ z, 0 ≤ z → z < 4112 → X z = g z) :
    ∃ h : Int → Int, fX7_goodIn_46 FU 0 (ii L) (ii (g 2)) (ii 0) (NW K (mg (cA4 M X) g)) = some (Sum.inl (some (Value.int (ii (prN M g L.toNat 2 - g 2)))), NW K (mg (cA4 M X) h)) ∧ ∀ z, 0 ≤ z → z < 4112 → h z = g z := by
  refine lp (fun m i (s : Int → Int) => fX7_goodIn_46 m 0 (ii L) (ii (g 2)) (ii i) (NW K (mg (cA4 M X) s))) (fun x => ∃ h : Int → Int, x = some (Sum.inl (some (Value.int (ii (prN M g L.toNat 2 - g 2)))), NW K (mg (cA4 M X) h)) ∧ ∀ z, 0 ≤ z → z < 4112 → h z = g z)
    (fun i s => 0 ≤ i ∧ s = prN M g i.toNat ∧ GI M s (B + 54 * i)) L ?_ ?_ FU 0 g (by omega) ⟨by omega, rfl, by rw [show B + 54 * 0 = B by omega]; exact hI⟩ (by have := FU_e; omega)
  · rintro m i s hi ⟨hJ, hs, hg⟩
    have hp := e_prints (K := K) (A := cA4 M X) (g := s) hM hg.1 (fun r a b => by have := hg.2.2.2.2 r a b; omega)
    rw [gPr_cg (A' := cA4 M X) (A := M) rfl rfl] at hp
    have hn := GI.pr hM (by omega) hg
    refine Or.inr ⟨(gPr M s).2, ⟨by omega, ?_, ?_⟩, ?_⟩
    · rw [show (i + 1).toNat = i.toNat + 1 by omega, hs]; rfl
    · rw [show B + 54 * (i + 1) = B + 54 * i + 54 by omega]; exact hn
    · simp (disch := first | assumption | omega) only [fX7_goodIn_46, nR1, nA1, nU1, nR2, nA2, nU2, nR3, nA3, nU3, nR4, nA4, nU4, nR5, nA5, nU5, nR6, nA6, nU6, nR7, nA7, nU7, nR8, nA8, nU8, nR9, nA9, nU9, nR10, nA10, nU10, nR11, nA11, nU11, nR12, nA12, nU12, nR13, nA13, nU13, nR14, nA14, nU14, nR15, nA15, nU15, nR16, nA16, nU16, nI0, nS0, nI1, nS1, nI2, nS2, nI3, nS3, nI4, nS4, nI5, nS5, nI6, nS6, nI7, nS7, nI8, nS8, nI9, nS9, nI15, nS15, nI18, nS18, nI19, nS19, nI20, nS20, nI21, nS21, nI22, nS22, nI23, nS23, nI24, nS24, nI25, nS25, nI26, nS26, nI27, nS27, nI32, nS32, nI36, nS36, nI37, nS37, nI40, nS40, nSZ1, nV, nC, ↓reduceIte, tr_lt, fa_lt, tr_le, fa_le, tr_eq, fa_eq, and_true, true_and, and_false, false_and, il0, il1, il2, il3, il4, il5, il6, il7, il8, il9, il10, il11, il12, il15, il16, il20, il24, il31, il32, il44, il45, il48, il50, il57, il58, il59, il63, il91, il93, il97, il99, il100, il109, il113, il119, il120, il122, il200, il255, il480, il500, il501, il512, il999, il4112, il41120, il1000000, il1000003, ii_add, ii_sub, ii_mul, ii_neg, ii_le, ii_lt, ii_eq, ii_div, q_I, q_V, q_R, lt_q, rZ_q, md_M, md_16, md_4, md_8, md_10, if_true, if_false, if_pos, if_neg, mg_3, mg_0, mg_1, mg_2, mg_k, mg_up3, mg_upk, hp]
  · rintro m s ⟨hJ, hs, hg⟩
    obtain ⟨h, b1, b2⟩ := e_fetchesBack (K := K) (M := cA4 M X) (g := s) (s 2 - g 2)
    rw [← hs]
    refine ⟨h, ?_, fun z a b => (b2 z a b).trans (hX z a b)⟩
    simp (disch := first | assumption | omega) only [fX7_goodIn_46, fX7_goodIn_63, nR1, nA1, nU1, nR2, nA2, nU2, nR3, nA3, nU3, nR4, nA4, nU4, nR5, nA5, nU5, nR6, nA6, nU6, nR7, nA7, nU7, nR8, nA8, nU8, nR9, nA9, nU9, nR10, nA10, nU10, nR11, nA11, nU11, nR12, nA12, nU12, nR13, nA13, nU13, nR14, nA14, nU14, nR15, nA15, nU15, nR16, nA16, nU16, nI0, nS0, nI1, nS1, nI2, nS2, nI3, nS3, nI4, nS4, nI5, nS5, nI6, nS6, nI7, nS7, nI8, nS8, nI9, nS9, nI15, nS15, nI18, nS18, nI19, nS19, nI20, nS20, nI21, nS21, nI22, nS22, nI23, nS23, nI24, nS24, nI25, nS25, nI26, nS26, nI27, nS27, nI32, nS32, nI36, nS36, nI37, nS37, nI40, nS40, nSZ1, nV, nC, ↓reduceIte, tr_lt, fa_lt, tr_le, fa_le, tr_eq, fa_eq, and_true, true_and, and_false, false_and, il0, il1, il2, il3, il4, il5, il6, il7, il8, il9, il10, il11, il12, il15, il16, il20, il24, il31, il32, il44, il45, il48, il50, il57, il58, il59, il63, il91, il93, il97, il99, il100, il109, il113, il119, il120, il122, il200, il255, il480, il500, il501, il512, il999, il4112, il41120, il1000000, il1000003, ii_add, ii_sub, ii_mul, ii_neg, ii_le, ii_lt, ii_eq, ii_div, q_I, q_V, q_R, lt_q, rZ_q, md_M, md_16, md_4, md_8, md_10, if_true, if_false, if_pos, if_neg, mg_3, mg_0, mg_1, mg_2, mg_k, mg_up3, mg_upk, b1]
theorem g_goodIn (hI : Inv C0 N0 n pl sp tv cap c A J M g) (hn : n ≤ 600) (L : Int) (hib : -2147483648 ≤ L ∧ L < 2147483648) : Good C0 N0 n K (fL_goodIn 0 (ii L) 455 (CW c A J)) (fX7_goodIn 0 (ii L) (NW K (mg M g))) := by
  have hk := hI.1
  have hRd : isReader c 1 := hk.2.1.1
  have hSv : isSolver c 4 := hk.2.1.2.1
  have hHi : isHist c 21 := hk.2.1.2.2.1
  have hNow : isState c 303 := hk.2.1.2.2.2.1
  have hSpr : isState c 338 := hk.2.1.2.2.2.2.1
  have hPl : isPlan c pl := hk.2.2.2.1.2.1
  have h00 : up M 0 0 0 0 0 = 0 := up_s _ _ _ _
  by_cases hl : M 0 1 = 1
  · obtain ⟨h10, hM, hP, hS, hG⟩ := hI.ld hl
    obtain ⟨p0, p1, p2, p3, p4, p5, p6, p7⟩ := hP.1
    have hc1 := c_chase1 (A := A) (J := J) hk h10
    have e3 : up M 0 0 0 0 3 = M 0 3 := up_n _ _ _ _ _ _ (by omega)
    have e9 : up M 0 0 0 0 9 = M 0 9 := up_n _ _ _ _ _ _ (by omega)
    have h38 := hM.1.2.1
    have h910 := hM.1.2.2.2.2.2.2.2
    have hin := e_in L 0 200 (by omega) (NW K (mg (up M 0 0 0) g))
    by_cases q : 0 ≤ L ∧ L ≤ 200
    · rw [if_pos q] at hin
      have hap := hk.2.2.2.1.1
      have hBn : 0 ≤ Bn n ∧ Bn n + 54 * 200 ≤ 500000000 := by unfold Bn; omega
      obtain ⟨A1, J1, e1, s1, f1⟩ := s_copy (c := c) hSpr hNow (by omega) hS hG.1.1
      obtain ⟨A2, e2, s2, f2⟩ := s_often (c := c) hSpr hPl (by omega) s1 hM (PR_S hP (by omega) f1) hG.1 L q hBn
      obtain ⟨X, x1, x2⟩ := e_putsAside (K := K) (M := up M 0 0 0) (g := g)
      obtain ⟨h, m1, m2⟩ := m_goodLoop (K := K) hM hG.1 X hBn L q x2
      refine Good_aside hI (v := prN (up M 0 0 0) g L.toNat 2 - g 2) (A' := A2) (J' := J1) (M' := cA4 (up M 0 0 0) X) (g' := h) ?_ ((f1.trans f2).mono fun b hb => Or.inr hb) ?_ (scr4_c4 _ X) m2
      · simp (disch := first | assumption | omega) only [fX6_goodIn, lkV hk, lkR0 hk, lkR1 hk, lkR2 hk, lkR3 hk, lkR4 hk, lkR5 hk, lkR6 hk, lkR7 hk, lkR8 hk, lkR9 hk, lkI hk, k_E, t_E, hc1, rwI1, rwS1, rwI2, rwS2, rwI4, rwS4, rwI5, rwS5, rwI7, rwS7, rwI8, rwS8, rwI9, rwS9, rwR0, rwR3, rwR6, rwA1, rwU1, rwA3, rwU3, rwV, rwJ, rwUJ, plI0, plS0, plI1, plS1, plI2, plS2, plI3, plS3, plI4, plS4, plI5, plS5, plI6, plS6, plI7, plS7, plR8, plR9, plR10, plA1, plU1, plA2, plU2, plA3, plU3, plV, stI2, stS2, stI3, stS3, stI4, stS4, stI5, stS5, stI6, stS6, stI7, stS7, stR0, stR1, stA2, stU2, stV, stRow, svI5, svS5, svI6, svS6, svI7, svS7, svR0, svR1, svR2, svR3, svR4, svA13, svU13, svA14, svU14, svA15, svU15, svA16, svU16, svV, svRow, svF, svUF, hiI1, hiS1, hiI2, hiS2, hiR0, hiV, hiRow, rdI2, rdS2, rdI3, rdS3, rdI4, rdS4, rdI5, rdS5, rdI6, rdS6, rdI7, rdS7, rdI8, rdS8, rdR0, rdR1, rdA1, rdU1, rdA2, rdU2, rdV, k_C, ↓reduceIte, tr_lt, fa_lt, tr_le, fa_le, tr_eq, fa_eq, and_true, true_and, and_false, false_and, il0, il1, il2, il3, il4, il5, il6, il7, il8, il9, il10, il11, il12, il15, il16, il20, il24, il31, il32, il44, il45, il48, il50, il57, il58, il59, il63, il91, il93, il97, il99, il100, il109, il113, il119, il120, il122, il200, il255, il480, il500, il501, il512, il999, il4112, il41120, il1000000, il1000003, ii_add, ii_sub, ii_mul, ii_neg, ii_le, ii_lt, ii_eq, ii_div, q_I, q_V, q_R, lt_q, rZ_q, md_M, md_16, md_4, md_8, md_10, if_true, if_false, if_pos, if_neg, e1, e2]
      · simp (disch := first | assumption | omega) only [fX7_goodIn, fX7_goodIn_24, nR1, nA1, nU1, nR2, nA2, nU2, nR3, nA3, nU3, nR4, nA4, nU4, nR5, nA5, nU5, nR6, nA6, nU6, nR7, nA7, nU7, nR8, nA8, nU8, nR9, nA9, nU9, nR10, nA10, nU10, nR11, nA11, nU11, nR12, nA12, nU12, nR13, nA13, nU13, nR14, nA14, nU14, nR15, nA15, nU15, nR16, nA16, nU16, nI0, nS0, nI1, nS1, nI2, nS2, nI3, nS3, nI4, nS4, nI5, nS5, nI6, nS6, nI7, nS7, nI8, nS8, nI9, nS9, nI15, nS15, nI18, nS18, nI19, nS19, nI20, nS20, nI21, nS21, nI22, nS22, nI23, nS23, nI24, nS24, nI25, nS25, nI26, nS26, nI27, nS27, nI32, nS32, nI36, nS36, nI37, nS37, nI40, nS40, nSZ1, nV, nC, ↓reduceIte, tr_lt, fa_lt, tr_le, fa_le, tr_eq, fa_eq, and_true, true_and, and_false, false_and, il0, il1, il2, il3, il4, il5, il6, il7, il8, il9, il10, il11, il12, il15, il16, il20, il24, il31, il32, il44, il45, il48, il50, il57, il58, il59, il63, il91, il93, il97, il99, il100, il109, il113, il119, il120, il122, il200, il255, il480, il500, il501, il512, il999, il4112, il41120, il1000000, il1000003, ii_add, ii_sub, ii_mul, ii_neg, ii_le, ii_lt, ii_eq, ii_div, q_I, q_V, q_R, lt_q, rZ_q, md_M, md_16, md_4, md_8, md_10, if_true, if_false, if_pos, if_neg, mg_3, mg_0, mg_1, mg_2, mg_k, mg_up3, mg_upk, e_notL1, hin, e_ref0, x1, m1]
    · rw [if_neg q] at hin
      refine Good_no (code := 2) hI (E := "java/lang/IllegalArgumentException") (A' := A) (J' := J) ?_ (frm.refl _ _ _) (fun τ => (hF2 _ _ _ _ _ _ (by decide)).trans (hF1 _ _ 2 rfl _ _ _)) (by omega) (v := 0) ?_
      · by_cases q2 : L < 0
        · rw [fX6_goodIn, lkV hk, hc1, k_C, q_V, il0, if_pos (by rw [ii_lt _ _ (by omega)]; exact q2), t_E]
        · rw [fX6_goodIn, lkV hk, hc1, k_C, q_V, il0, il200, if_neg (by rw [ii_lt _ _ (by omega)]; exact q2), if_neg (by rw [ii_le _ _ (by omega)]; omega), t_E]
      · have hrf := e_ref1 (K := K) (M := up M 0 0 0) (g := g) h00 2 (by omega)
        simp (disch := first | assumption | omega) only [fX7_goodIn, nR1, nA1, nU1, nR2, nA2, nU2, nR3, nA3, nU3, nR4, nA4, nU4, nR5, nA5, nU5, nR6, nA6, nU6, nR7, nA7, nU7, nR8, nA8, nU8, nR9, nA9, nU9, nR10, nA10, nU10, nR11, nA11, nU11, nR12, nA12, nU12, nR13, nA13, nU13, nR14, nA14, nU14, nR15, nA15, nU15, nR16, nA16, nU16, nI0, nS0, nI1, nS1, nI2, nS2, nI3, nS3, nI4, nS4, nI5, nS5, nI6, nS6, nI7, nS7, nI8, nS8, nI9, nS9, nI15, nS15, nI18, nS18, nI19, nS19, nI20, nS20, nI21, nS21, nI22, nS22, nI23, nS23, nI24, nS24, nI25, nS25, nI26, nS26, nI27, nS27, nI32, nS32, nI36, nS36, nI37, nS37, nI40, nS40, nSZ1, nV, nC, ↓reduceIte, tr_lt, fa_lt, tr_le, fa_le, tr_eq, fa_eq, and_true, true_and, and_false, false_and, il0, il1, il2, il3, il4, il5, il6, il7, il8, il9, il10, il11, il12, il15, il16, il20, il24, il31, il32, il44, il45, il48, il50, il57, il58, il59, il63, il91, il93, il97, il99, il100, il109, il113, il119, il120, il122, il200, il255, il480, il500, il501, il512, il999, il4112, il41120, il1000000, il1000003, ii_add, ii_sub, ii_mul, ii_neg, ii_le, ii_lt, ii_eq, ii_div, q_I, q_V, q_R, lt_q, rZ_q, md_M, md_16, md_4, md_8, md_10, if_true, if_false, if_pos, if_neg, mg_3, mg_0, mg_1, mg_2, mg_k, mg_up3, mg_upk, e_notL1, hin]
        rw [fX7_goodIn_24, nV, il2, hrf, nC, q_I, if_neg (show ¬ ii 1 = (0 : Int32) by decide), up_up]
        rfl
  · obtain ⟨h10, h1⟩ := hI.nl hl
    refine Good_nl hI (v := 0) ?_ (hF_IS _ 1 rfl _ _) ?_
    · rw [fX6_goodIn, lkV hk, c_chase0 hk h10, k_E]
    · rw [fX7_goodIn, nV, e_notL0 h1, nC, q_I, if_neg (show ¬ ii 1 = (0 : Int32) by decide)]
      rfl
end OPS15
