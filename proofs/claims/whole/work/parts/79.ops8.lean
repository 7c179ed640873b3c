/-! CALLS THAT SOLVE, IV -/
section OPS8
variable {C0 N0 n : Nat} {K : Nat × Nat} {c : CC} {A : AI} {J : JI} {M : AI} {g o : Int → Int} {pl sp tv cap S : Nat} {f B : Int}
abbrev missP (M : AI) (g o : Int → Int) (r : Int) : Int → Prop := fun k => (chL (up M 0 37 k) g o r).1 < 1000000
theorem c_missing (K : Nat × Nat) (hI : Inv C0 N0 n pl sp tv cap c A J M g) (r : Int) (hl : M 0 1 = 1) (hr : 0 ≤ r ∧ r < up M 0 0 0 0 3) : ∃ (v : Int) (A' : AI), fX6_missing 0 (ii r) (CW c A J) = some (Sum.inl (some (Value.int (ii (v)))), CW c A' J) ∧ frm scC A A' J J ∧ ((chL (up M 0 0 0) g (A (pl + 3)) r).1 < 1000000 → v = -1) ∧ (¬ (chL (up M 0 0 0) g (A (pl + 3)) r).1 < 1000000 → isFst (missP (up M 0 0 0) g (A (pl + 3)) r) (A (pl + 3)) (up M 0 0 0 0 9) v) := by
  have hk := hI.1
  have hRd : isReader c 1 := hk.2.1.1
  have hSv : isSolver c 4 := hk.2.1.2.1
  have hHi : isHist c 21 := hk.2.1.2.2.1
  have hNow : isState c 303 := hk.2.1.2.2.2.1
  have hSpr : isState c 338 := hk.2.1.2.2.2.2.1
  have hPl : isPlan c pl := hk.2.2.2.1.2.1
  have h00 : up M 0 0 0 0 0 = 0 := up_s _ _ _ _
  obtain ⟨h10, hM, hP, hS, hG⟩ := hI.ld hl
  obtain ⟨p0, p1, p2, p3, p4, p5, p6, p7⟩ := hP.1
  have hc1 := c_chase1 (A := A) (J := J) hk h10
  have e3 : up M 0 0 0 0 3 = M 0 3 := up_n _ _ _ _ _ _ (by omega)
  have e9 : up M 0 0 0 0 9 = M 0 9 := up_n _ _ _ _ _ _ (by omega)
  have h38 := hM.1.2.1
  have h910 := hM.1.2.2.2.2.2.2.2
  have hcr := c_row1 (A := A) (J := J) hk h10 r (by rw [p1]; exact hr) (by rw [p1]; exact h38.2)
  have hmr := e_noRow1 (K := K) (M := M) (g := g) hl r (by rw [← e3]; exact hr) (by rw [← e3]; exact h38.2)
  have hr8 : 0 ≤ r ∧ r < 8 := by omega
  have hR := hNow.row r hr8
  have hrr := hS.2 r hr.1 (by omega)
  have hgr := hG.1.1 r hr.1 (by omega)
  have h37 : up M 0 0 0 0 37 = -1 := (up_n _ _ _ _ _ _ (by omega)).trans hI.2.2.2.1
  have hN := (hG.need hM hr).1
  have h4 := hM.1.2.2.1
  have h5 := hM.1.2.2.2.1
  have hap := hk.2.2.2.1.1
  have hO := hP.2.2
  have hB := svB_of hM hG.GL h37 hO
  obtain ⟨A1, A', e1, v1, v2, k1, f1⟩ := c_solve (c := c) hk hNow ⟨by omega, Or.inl rfl⟩ hS hP hM hG h37 r hr
  by_cases y : (chL (up M 0 0 0) g (A (pl + 3)) r).1 < 1000000
  · rw [if_pos y] at e1
    refine ⟨-1, A', ?_, ⟨fun b z hb => f1 b z (fun x => hb (Or.inl x)), fun _ _ _ => rfl⟩, fun _ => rfl, fun z => absurd y z⟩
    simp (disch := first | assumption | omega) only [fX6_missing, lkV hk, lkR0 hk, lkR1 hk, lkR2 hk, lkR3 hk, lkR4 hk, lkR5 hk, lkR6 hk, lkR7 hk, lkR8 hk, lkR9 hk, lkI hk, k_E, t_E, hcr, rwI1, rwS1, rwI2, rwS2, rwI4, rwS4, rwI5, rwS5, rwI7, rwS7, rwI8, rwS8, rwI9, rwS9, rwR0, rwR3, rwR6, rwA1, rwU1, rwA3, rwU3, rwV, rwJ, rwUJ, plI0, plS0, plI1, plS1, plI2, plS2, plI3, plS3, plI4, plS4, plI5, plS5, plI6, plS6, plI7, plS7, plR8, plR9, plR10, plA1, plU1, plA2, plU2, plA3, plU3, plV, stI2, stS2, stI3, stS3, stI4, stS4, stI5, stS5, stI6, stS6, stI7, stS7, stR0, stR1, stA2, stU2, stV, stRow, svI5, svS5, svI6, svS6, svI7, svS7, svR0, svR1, svR2, svR3, svR4, svA13, svU13, svA14, svU14, svA15, svU15, svA16, svU16, svV, svRow, svF, svUF, hiI1, hiS1, hiI2, hiS2, hiR0, hiV, hiRow, rdI2, rdS2, rdI3, rdS3, rdI4, rdS4, rdI5, rdS5, rdI6, rdS6, rdI7, rdS7, rdI8, rdS8, rdR0, rdR1, rdA1, rdU1, rdA2, rdU2, rdV, k_C, ↓reduceIte, tr_lt, fa_lt, tr_le, fa_le, tr_eq, fa_eq, and_true, true_and, and_false, false_and, il0, il1, il2, il3, il4, il5, il6, il7, il8, il9, il10, il11, il12, il15, il16, il20, il24, il31, il32, il44, il45, il48, il50, il57, il58, il59, il63, il91, il93, il97, il99, il100, il109, il113, il119, il120, il122, il200, il255, il480, il500, il501, il512, il999, il4112, il41120, il1000000, il1000003, ii_add, ii_sub, ii_mul, ii_neg, ii_le, ii_lt, ii_eq, ii_div, q_I, q_V, q_R, lt_q, rZ_q, md_M, md_16, md_4, md_8, md_10, if_true, if_false, if_pos, if_neg, e1]
  · rw [if_neg y] at e1
    have hS2 : SR A' J 303 (up M 0 0 0 2) g (g 5) := SR_frame hS hG.1.1 (fun b z hb => f1 b z (by unfold inS at hb; unfold inV; omega)) (fun _ _ _ => rfl)
    obtain ⟨q0, -, q2, q3, -⟩ := (PR_frm hP (A' := A') (fun b z hb => f1 b z (by unfold inV; omega))).1
    have hrm := c_room (c := c) hPl hNow hS2 q0 hM hG r hr
    have hch := s_canHave hNow hS2 hG.1.1 r hr8 hG.h0
    obtain ⟨v, A2, e2, i2, f2⟩ := v_missing (c := c) (A := A') (J := J) hSv hPl (by omega) (up M 0 0 0 0 9) (up M 0 0 0 0 2) (A (pl + 3)) (up M 0 0 0 2) (stM (up M 0 0 0) g) h910 (by have := hM.1.1; omega) v2.1 hB (fun k a b => by have := hG.GL k a (by omega); rw [stM_0 h37 g k a]; omega)
      (fun p q a b d e => ord_inj hO p q ⟨a, b⟩ ⟨d, e⟩) v2.2 q0 (if canO g r then 1 else 0) (needM (up M 0 0 0) g r) (up M 0 0 0 0 4) (up M 0 0 0 0 5) (by split <;> omega) ⟨hN.1, (hG.need hM hr).2.2⟩ q2 q3 h4 h5
    have e37 := fun k => chX_37 (M := up M 0 0 0) (g := g) (o := A (pl + 3)) (r := r) (k := k) h37 (fun p a b => (hO.1 p a b).1)
    simp only [e37] at i2
    refine ⟨v, A2, ?_, ⟨fun b z hb => ?_, fun _ _ _ => rfl⟩, fun z => absurd z y, fun _ => i2⟩
    · simp (disch := first | assumption | omega) only [fX6_missing, lkV hk, lkR0 hk, lkR1 hk, lkR2 hk, lkR3 hk, lkR4 hk, lkR5 hk, lkR6 hk, lkR7 hk, lkR8 hk, lkR9 hk, lkI hk, k_E, t_E, hcr, rwI1, rwS1, rwI2, rwS2, rwI4, rwS4, rwI5, rwS5, rwI7, rwS7, rwI8, rwS8, rwI9, rwS9, rwR0, rwR3, rwR6, rwA1, rwU1, rwA3, rwU3, rwV, rwJ, rwUJ, plI0, plS0, plI1, plS1, plI2, plS2, plI3, plS3, plI4, plS4, plI5, plS5, plI6, plS6, plI7, plS7, plR8, plR9, plR10, plA1, plU1, plA2, plU2, plA3, plU3, plV, stI2, stS2, stI3, stS3, stI4, stS4, stI5, stS5, stI6, stS6, stI7, stS7, stR0, stR1, stA2, stU2, stV, stRow, svI5, svS5, svI6, svS6, svI7, svS7, svR0, svR1, svR2, svR3, svR4, svA13, svU13, svA14, svU14, svA15, svU15, svA16, svU16, svV, svRow, svF, svUF, hiI1, hiS1, hiI2, hiS2, hiR0, hiV, hiRow, rdI2, rdS2, rdI3, rdS3, rdI4, rdS4, rdI5, rdS5, rdI6, rdS6, rdI7, rdS7, rdI8, rdS8, rdR0, rdR1, rdA1, rdU1, rdA2, rdU2, rdV, k_C, ↓reduceIte, tr_lt, fa_lt, tr_le, fa_le, tr_eq, fa_eq, and_true, true_and, and_false, false_and, il0, il1, il2, il3, il4, il5, il6, il7, il8, il9, il10, il11, il12, il15, il16, il20, il24, il31, il32, il44, il45, il48, il50, il57, il58, il59, il63, il91, il93, il97, il99, il100, il109, il113, il119, il120, il122, il200, il255, il480, il500, il501, il512, il999, il4112, il41120, il1000000, il1000003, ii_add, ii_sub, ii_mul, ii_neg, ii_le, ii_lt, ii_eq, ii_div, q_I, q_V, q_R, lt_q, rZ_q, md_M, md_16, md_4, md_8, md_10, if_true, if_false, if_pos, if_neg, e1, hrm, hch, e2]
    · have hb2 : ¬ inV 4 b := fun x => hb (Or.inl x)
      rw [f2 b z hb2, f1 b z hb2]
theorem m_missing (hI : Inv C0 N0 n pl sp tv cap c A J M g) (r : Int) (hl : M 0 1 = 1) (hr : 0 ≤ r ∧ r < up M 0 0 0 0 3) : ∃ (v : Int) (M' : AI), fX7_missing 0 (ii r) (NW K (mg M g)) = some (Sum.inl (some (Value.int (ii (v)))), NW K (mg M' g)) ∧ scr (up M 0 0 0) M' ∧ ((chL (up M 0 0 0) g (A (pl + 3)) r).1 < 1000000 → v = -1) ∧ (¬ (chL (up M 0 0 0) g (A (pl + 3)) r).1 < 1000000 → isBst (missP (up M 0 0 0) g (A (pl + 3)) r) (up M 0 0 0 1) (up M 0 0 0 2) (up M 0 0 0 0 9) v) := by
  have hk := hI.1
  have hRd : isReader c 1 := hk.2.1.1
  have hSv : isSolver c 4 := hk.2.1.2.1
  have hHi : isHist c 21 := hk.2.1.2.2.1
  have hNow : isState c 303 := hk.2.1.2.2.2.1
  have hSpr : isState c 338 := hk.2.1.2.2.2.2.1
  have hPl : isPlan c pl := hk.2.2.2.1.2.1
  have h00 : up M 0 0 0 0 0 = 0 := up_s _ _ _ _
  obtain ⟨h10, hM, hP, hS, hG⟩ := hI.ld hl
  obtain ⟨p0, p1, p2, p3, p4, p5, p6, p7⟩ := hP.1
  have hc1 := c_chase1 (A := A) (J := J) hk h10
  have e3 : up M 0 0 0 0 3 = M 0 3 := up_n _ _ _ _ _ _ (by omega)
  have e9 : up M 0 0 0 0 9 = M 0 9 := up_n _ _ _ _ _ _ (by omega)
  have h38 := hM.1.2.1
  have h910 := hM.1.2.2.2.2.2.2.2
  have hcr := c_row1 (A := A) (J := J) hk h10 r (by rw [p1]; exact hr) (by rw [p1]; exact h38.2)
  have hmr := e_noRow1 (K := K) (M := M) (g := g) hl r (by rw [← e3]; exact hr) (by rw [← e3]; exact h38.2)
  have hr8 : 0 ≤ r ∧ r < 8 := by omega
  have hR := hNow.row r hr8
  have hrr := hS.2 r hr.1 (by omega)
  have hgr := hG.1.1 r hr.1 (by omega)
  have h37 : up M 0 0 0 0 37 = -1 := (up_n _ _ _ _ _ _ (by omega)).trans hI.2.2.2.1
  have hN := (hG.need hM hr).1
  have hO := hP.2.2
  obtain ⟨M', m1, ms, -, -, -⟩ := e_chooses (K := K) hM hG.GL (by omega) hO hr8 hgr hG.h0 hN
  by_cases y : (chL (up M 0 0 0) g (A (pl + 3)) r).1 < 1000000
  · rw [if_pos y] at m1
    refine ⟨-1, M', ?_, ms, fun _ => rfl, fun z => absurd y z⟩
    simp (disch := first | assumption | omega) only [fX7_missing, nR1, nA1, nU1, nR2, nA2, nU2, nR3, nA3, nU3, nR4, nA4, nU4, nR5, nA5, nU5, nR6, nA6, nU6, nR7, nA7, nU7, nR8, nA8, nU8, nR9, nA9, nU9, nR10, nA10, nU10, nR11, nA11, nU11, nR12, nA12, nU12, nR13, nA13, nU13, nR14, nA14, nU14, nR15, nA15, nU15, nR16, nA16, nU16, nI0, nS0, nI1, nS1, nI2, nS2, nI3, nS3, nI4, nS4, nI5, nS5, nI6, nS6, nI7, nS7, nI8, nS8, nI9, nS9, nI15, nS15, nI18, nS18, nI19, nS19, nI20, nS20, nI21, nS21, nI22, nS22, nI23, nS23, nI24, nS24, nI25, nS25, nI26, nS26, nI27, nS27, nI32, nS32, nI36, nS36, nI37, nS37, nI40, nS40, nSZ1, nV, nC, ↓reduceIte, tr_lt, fa_lt, tr_le, fa_le, tr_eq, fa_eq, and_true, true_and, and_false, false_and, il0, il1, il2, il3, il4, il5, il6, il7, il8, il9, il10, il11, il12, il15, il16, il20, il24, il31, il32, il44, il45, il48, il50, il57, il58, il59, il63, il91, il93, il97, il99, il100, il109, il113, il119, il120, il122, il200, il255, il480, il500, il501, il512, il999, il4112, il41120, il1000000, il1000003, ii_add, ii_sub, ii_mul, ii_neg, ii_le, ii_lt, ii_eq, ii_div, q_I, q_V, q_R, lt_q, rZ_q, md_M, md_16, md_4, md_8, md_10, if_true, if_false, if_pos, if_neg, mg_3, mg_0, mg_1, mg_2, mg_k, mg_up3, mg_upk, hmr, m1]
  · rw [if_neg y] at m1
    have key : ∃ (v : Int) (M2 : AI), fX7_missing_24 FU 0 (ii r) (ii (-1)) (ii 0) (NW K (mg M' g)) = some (Sum.inl (some (Value.int (ii (v)))), NW K (mg M2 g)) ∧ scr (up M 0 0 0) M2 ∧ isBst (missP (up M 0 0 0) g (A (pl + 3)) r) (up M 0 0 0 1) (up M 0 0 0 2) (up M 0 0 0 0 9) v := by
      refine lp (fun m i (s : Int × AI) => fX7_missing_24 m 0 (ii r) (ii s.1) (ii i) (NW K (mg s.2 g))) (fun x => ∃ (v : Int) (M2 : AI), x = some (Sum.inl (some (Value.int (ii (v)))), NW K (mg M2 g)) ∧ scr (up M 0 0 0) M2 ∧ isBst (missP (up M 0 0 0) g (A (pl + 3)) r) (up M 0 0 0 1) (up M 0 0 0 2) (up M 0 0 0 0 9) v)
        (fun i s => 0 ≤ i ∧ scr (up M 0 0 0) s.2 ∧ isBst (missP (up M 0 0 0) g (A (pl + 3)) r) (up M 0 0 0 1) (up M 0 0 0 2) i s.1) (up M 0 0 0 0 9) ?_ ?_ FU 0 (-1, M') (by omega) ⟨by omega, ms, Or.inl ⟨rfl, fun q a b => by omega⟩⟩ (by have := FU_e; omega)
      · rintro m i ⟨b, M2⟩ hi ⟨hJ, s2, hs⟩
        dsimp only at hs s2 ⊢
        have n9 : M2 0 9 = up M 0 0 0 0 9 := s2.1 9 (by omega)
        have s3 := scr37 s2 i
        have hM2 : SA M2 := scr_SA s2 hM
        have hM3 : SA (up M2 0 37 i) := hM2
        obtain ⟨M3, n1, t3, -, -, -⟩ := e_chooses (K := K) (A := up M2 0 37 i) (o := A (pl + 3)) (r := r) hM3 hG.GL (by rw [up_s]; omega) (by
          have a1 : up M2 0 37 i 1 = up M 0 0 0 1 := s2.c1
          have a2 : up M2 0 37 i 2 = up M 0 0 0 2 := s2.c2
          rw [a1, a2, up_n _ _ _ _ _ _ (by omega), n9]; exact hO) hr8 hgr hG.h0 (by rw [need37, scr_need s2]; exact hN)
        rw [chL_cg s3] at n1
        have s4 := scr37b s2 h37 i t3
        have hM4 : SA (up M3 0 37 (-1)) := scr_SA s4 hM
        by_cases w : missP (up M 0 0 0) g (A (pl + 3)) r i
        · have n1' := n1.trans (by rw [if_pos w])
          rcases hs with ⟨rfl, hn⟩ | ⟨hb, hb1, hb2⟩
          · refine Or.inr ⟨(i, up M3 0 37 (-1)), ⟨by omega, s4, Or.inr ⟨by omega, w, fun k a b z => ?_⟩⟩, ?_⟩
            · by_cases w2 : k = i
              · exact Or.inl w2
              · exact absurd z (hn k a (by omega))
            · simp (disch := first | assumption | omega) only [fX7_missing_24, fX7_missing_70, fX7_missing_68, nR1, nA1, nU1, nR2, nA2, nU2, nR3, nA3, nU3, nR4, nA4, nU4, nR5, nA5, nU5, nR6, nA6, nU6, nR7, nA7, nU7, nR8, nA8, nU8, nR9, nA9, nU9, nR10, nA10, nU10, nR11, nA11, nU11, nR12, nA12, nU12, nR13, nA13, nU13, nR14, nA14, nU14, nR15, nA15, nU15, nR16, nA16, nU16, nI0, nS0, nI1, nS1, nI2, nS2, nI3, nS3, nI4, nS4, nI5, nS5, nI6, nS6, nI7, nS7, nI8, nS8, nI9, nS9, nI15, nS15, nI18, nS18, nI19, nS19, nI20, nS20, nI21, nS21, nI22, nS22, nI23, nS23, nI24, nS24, nI25, nS25, nI26, nS26, nI27, nS27, nI32, nS32, nI36, nS36, nI37, nS37, nI40, nS40, nSZ1, nV, nC, ↓reduceIte, tr_lt, fa_lt, tr_le, fa_le, tr_eq, fa_eq, and_true, true_and, and_false, false_and, il0, il1, il2, il3, il4, il5, il6, il7, il8, il9, il10, il11, il12, il15, il16, il20, il24, il31, il32, il44, il45, il48, il50, il57, il58, il59, il63, il91, il93, il97, il99, il100, il109, il113, il119, il120, il122, il200, il255, il480, il500, il501, il512, il999, il4112, il41120, il1000000, il1000003, ii_add, ii_sub, ii_mul, ii_neg, ii_le, ii_lt, ii_eq, ii_div, q_I, q_V, q_R, lt_q, rZ_q, md_M, md_16, md_4, md_8, md_10, if_true, if_false, if_pos, if_neg, mg_3, mg_0, mg_1, mg_2, mg_k, mg_up3, mg_upk, n9, n1']
          · have ha := e_isAhead (K := K) (g := g) hM4 i b (by omega) (by omega)
            rw [s4.c1, s4.c2] at ha
            by_cases w3 : ahd (up M 0 0 0 1) (up M 0 0 0 2) i b
            · rw [if_pos w3] at ha
              refine Or.inr ⟨(i, up M3 0 37 (-1)), ⟨by omega, s4, Or.inr ⟨by omega, w, fun k a b2 z => ?_⟩⟩, ?_⟩
              · by_cases w2 : k = i
                · exact Or.inl w2
                · refine Or.inr ?_
                  rcases hb2 k a (by omega) z with w4 | w4
                  · rw [w4]; exact w3
                  · have bk := hM.2.1 k a (by omega)
                    have bi := hM.2.1 i hJ (by omega)
                    have bb := hM.2.1 b (by omega) (by omega)
                    dsimp only
                    omega
              · simp (disch := first | assumption | omega) only [fX7_missing_24, fX7_missing_70, fX7_missing_68, nR1, nA1, nU1, nR2, nA2, nU2, nR3, nA3, nU3, nR4, nA4, nU4, nR5, nA5, nU5, nR6, nA6, nU6, nR7, nA7, nU7, nR8, nA8, nU8, nR9, nA9, nU9, nR10, nA10, nU10, nR11, nA11, nU11, nR12, nA12, nU12, nR13, nA13, nU13, nR14, nA14, nU14, nR15, nA15, nU15, nR16, nA16, nU16, nI0, nS0, nI1, nS1, nI2, nS2, nI3, nS3, nI4, nS4, nI5, nS5, nI6, nS6, nI7, nS7, nI8, nS8, nI9, nS9, nI15, nS15, nI18, nS18, nI19, nS19, nI20, nS20, nI21, nS21, nI22, nS22, nI23, nS23, nI24, nS24, nI25, nS25, nI26, nS26, nI27, nS27, nI32, nS32, nI36, nS36, nI37, nS37, nI40, nS40, nSZ1, nV, nC, ↓reduceIte, tr_lt, fa_lt, tr_le, fa_le, tr_eq, fa_eq, and_true, true_and, and_false, false_and, il0, il1, il2, il3, il4, il5, il6, il7, il8, il9, il10, il11, il12, il15, il16, il20, il24, il31, il32, il44, il45, il48, il50, il57, il58, il59, il63, il91, il93, il97, il99, il100, il109, il113, il119, il120, il122, il200, il255, il480, il500, il501, il512, il999, il4112, il41120, il1000000, il1000003, ii_add, ii_sub, ii_mul, ii_neg, ii_le, ii_lt, ii_eq, ii_div, q_I, q_V, q_R, lt_q, rZ_q, md_M, md_16, md_4, md_8, md_10, if_true, if_false, if_pos, if_neg, mg_3, mg_0, mg_1, mg_2, mg_k, mg_up3, mg_upk, n9, n1', ha]
            · rw [if_neg w3] at ha
              refine Or.inr ⟨(b, up M3 0 37 (-1)), ⟨by omega, s4, Or.inr ⟨by dsimp only; omega, hb1, fun k a b2 z => ?_⟩⟩, ?_⟩
              · by_cases w2 : k = i
                · rw [w2]
                  refine Or.inr ?_
                  rcases ord_tot hO i b ⟨hJ, hi⟩ (by omega) (by omega) with w5 | w5
                  · exact absurd w5 w3
                  · exact w5
                · exact hb2 k a (by omega) z
              · simp (disch := first | assumption | omega) only [fX7_missing_24, fX7_missing_70, fX7_missing_68, nR1, nA1, nU1, nR2, nA2, nU2, nR3, nA3, nU3, nR4, nA4, nU4, nR5, nA5, nU5, nR6, nA6, nU6, nR7, nA7, nU7, nR8, nA8, nU8, nR9, nA9, nU9, nR10, nA10, nU10, nR11, nA11, nU11, nR12, nA12, nU12, nR13, nA13, nU13, nR14, nA14, nU14, nR15, nA15, nU15, nR16, nA16, nU16, nI0, nS0, nI1, nS1, nI2, nS2, nI3, nS3, nI4, nS4, nI5, nS5, nI6, nS6, nI7, nS7, nI8, nS8, nI9, nS9, nI15, nS15, nI18, nS18, nI19, nS19, nI20, nS20, nI21, nS21, nI22, nS22, nI23, nS23, nI24, nS24, nI25, nS25, nI26, nS26, nI27, nS27, nI32, nS32, nI36, nS36, nI37, nS37, nI40, nS40, nSZ1, nV, nC, ↓reduceIte, tr_lt, fa_lt, tr_le, fa_le, tr_eq, fa_eq, and_true, true_and, and_false, false_and, il0, il1, il2, il3, il4, il5, il6, il7, il8, il9, il10, il11, il12, il15, il16, il20, il24, il31, il32, il44, il45, il48, il50, il57, il58, il59, il63, il91, il93, il97, il99, il100, il109, il113, il119, il120, il122, il200, il255, il480, il500, il501, il512, il999, il4112, il41120, il1000000, il1000003, ii_add, ii_sub, ii_mul, ii_neg, ii_le, ii_lt, ii_eq, ii_div, q_I, q_V, q_R, lt_q, rZ_q, md_M, md_16, md_4, md_8, md_10, if_true, if_false, if_pos, if_neg, mg_3, mg_0, mg_1, mg_2, mg_k, mg_up3, mg_upk, n9, n1', ha]
        · have n1' := n1.trans (by rw [if_neg w])
          refine Or.inr ⟨(b, up M3 0 37 (-1)), ⟨by omega, s4, ?_⟩, ?_⟩
          · rcases hs with ⟨hb, hn⟩ | ⟨hb, hb1, hb2⟩
            · refine Or.inl ⟨hb, fun k a b2 => ?_⟩
              by_cases w2 : k = i
              · rw [w2]; exact w
              · exact hn k a (by omega)
            · refine Or.inr ⟨by dsimp only; omega, hb1, fun k a b2 z => ?_⟩
              by_cases w2 : k = i
              · rw [w2] at z; exact absurd z w
              · exact hb2 k a (by omega) z
          · simp (disch := first | assumption | omega) only [fX7_missing_24, fX7_missing_70, fX7_missing_68, nR1, nA1, nU1, nR2, nA2, nU2, nR3, nA3, nU3, nR4, nA4, nU4, nR5, nA5, nU5, nR6, nA6, nU6, nR7, nA7, nU7, nR8, nA8, nU8, nR9, nA9, nU9, nR10, nA10, nU10, nR11, nA11, nU11, nR12, nA12, nU12, nR13, nA13, nU13, nR14, nA14, nU14, nR15, nA15, nU15, nR16, nA16, nU16, nI0, nS0, nI1, nS1, nI2, nS2, nI3, nS3, nI4, nS4, nI5, nS5, nI6, nS6, nI7, nS7, nI8, nS8, nI9, nS9, nI15, nS15, nI18, nS18, nI19, nS19, nI20, nS20, nI21, nS21, nI22, nS22, nI23, nS23, nI24, nS24, nI25, nS25, nI26, nS26, nI27, nS27, nI32, nS32, nI36, nS36, nI37, nS37, nI40, nS40, nSZ1, nV, nC, ↓reduceIte, tr_lt, fa_lt, tr_le, fa_le, tr_eq, fa_eq, and_true, true_and, and_false, false_and, il0, il1, il2, il3, il4, il5, il6, il7, il8, il9, il10, il11, il12, il15, il16, il20, il24, il31, il32, il44, il45, il48, il50, il57, il58, il59, il63, il91, il93, il97, il99, il100, il109, il113, il119, il120, il122, il200, il255, il480, il500, il501, il512, il999, il4112, il41120, il1000000, il1000003, ii_add, ii_sub, ii_mul, ii_neg, ii_le, ii_lt, ii_eq, ii_div, q_I, q_V, q_R, lt_q, rZ_q, md_M, md_16, md_4, md_8, md_10, if_true, if_false, if_pos, if_neg, mg_3, mg_0, mg_1, mg_2, mg_k, mg_up3, mg_upk, n9, n1']
      · rintro m ⟨b, M2⟩ ⟨hJ, s2, hs⟩
        dsimp only at hs s2 ⊢
        have n9 : M2 0 9 = up M 0 0 0 0 9 := s2.1 9 (by omega)
        refine ⟨b, M2, ?_, s2, hs⟩
        simp (disch := first | assumption | omega) only [fX7_missing_24, nR1, nA1, nU1, nR2, nA2, nU2, nR3, nA3, nU3, nR4, nA4, nU4, nR5, nA5, nU5, nR6, nA6, nU6, nR7, nA7, nU7, nR8, nA8, nU8, nR9, nA9, nU9, nR10, nA10, nU10, nR11, nA11, nU11, nR12, nA12, nU12, nR13, nA13, nU13, nR14, nA14, nU14, nR15, nA15, nU15, nR16, nA16, nU16, nI0, nS0, nI1, nS1, nI2, nS2, nI3, nS3, nI4, nS4, nI5, nS5, nI6, nS6, nI7, nS7, nI8, nS8, nI9, nS9, nI15, nS15, nI18, nS18, nI19, nS19, nI20, nS20, nI21, nS21, nI22, nS22, nI23, nS23, nI24, nS24, nI25, nS25, nI26, nS26, nI27, nS27, nI32, nS32, nI36, nS36, nI37, nS37, nI40, nS40, nSZ1, nV, nC, ↓reduceIte, tr_lt, fa_lt, tr_le, fa_le, tr_eq, fa_eq, and_true, true_and, and_false, false_and, il0, il1, il2, il3, il4, il5, il6, il7, il8, il9, il10, il11, il12, il15, il16, il20, il24, il31, il32, il44, il45, il48, il50, il57, il58, il59, il63, il91, il93, il97, il99, il100, il109, il113, il119, il120, il122, il200, il255, il480, il500, il501, il512, il999, il4112, il41120, il1000000, il1000003, ii_add, ii_sub, ii_mul, ii_neg, ii_le, ii_lt, ii_eq, ii_div, q_I, q_V, q_R, lt_q, rZ_q, md_M, md_16, md_4, md_8, md_10, if_true, if_false, if_pos, if_neg, mg_3, mg_0, mg_1, mg_2, mg_k, mg_up3, mg_upk, n9]
    obtain ⟨v, M2, k1, k2, k3⟩ := key
    refine ⟨v, M2, ?_, k2, fun z => absurd z y, fun _ => k3⟩
    simp (disch := first | assumption | omega) only [fX7_missing, nR1, nA1, nU1, nR2, nA2, nU2, nR3, nA3, nU3, nR4, nA4, nU4, nR5, nA5, nU5, nR6, nA6, nU6, nR7, nA7, nU7, nR8, nA8, nU8, nR9, nA9, nU9, nR10, nA10, nU10, nR11, nA11, nU11, nR12, nA12, nU12, nR13, nA13, nU13, nR14, nA14, nU14, nR15, nA15, nU15, nR16, nA16, nU16, nI0, nS0, nI1, nS1, nI2, nS2, nI3, nS3, nI4, nS4, nI5, nS5, nI6, nS6, nI7, nS7, nI8, nS8, nI9, nS9, nI15, nS15, nI18, nS18, nI19, nS19, nI20, nS20, nI21, nS21, nI22, nS22, nI23, nS23, nI24, nS24, nI25, nS25, nI26, nS26, nI27, nS27, nI32, nS32, nI36, nS36, nI37, nS37, nI40, nS40, nSZ1, nV, nC, ↓reduceIte, tr_lt, fa_lt, tr_le, fa_le, tr_eq, fa_eq, and_true, true_and, and_false, false_and, il0, il1, il2, il3, il4, il5, il6, il7, il8, il9, il10, il11, il12, il15, il16, il20, il24, il31, il32, il44, il45, il48, il50, il57, il58, il59, il63, il91, il93, il97, il99, il100, il109, il113, il119, il120, il122, il200, il255, il480, il500, il501, il512, il999, il4112, il41120, il1000000, il1000003, ii_add, ii_sub, ii_mul, ii_neg, ii_le, ii_lt, ii_eq, ii_div, q_I, q_V, q_R, lt_q, rZ_q, md_M, md_16, md_4, md_8, md_10, if_true, if_false, if_pos, if_neg, mg_3, mg_0, mg_1, mg_2, mg_k, mg_up3, mg_upk, hmr, m1, k1]
theorem g_missing (hI : Inv C0 N0 n pl sp tv cap c A J M g) (r : Int) (hrb : -2147483648 ≤ r ∧ r < 2147483648) : Good C0 N0 n K (fL_missing 0 (ii r) 455 (CW c A J)) (fX7_missing 0 (ii r) (NW K (mg M g))) := by
  have hk := hI.1
  have hRd : isReader c 1 := hk.2.1.1
  have hSv : isSolver c 4 := hk.2.1.2.1
  have hHi : isHist c 21 := hk.2.1.2.2.1
  have hNow : isState c 303 := hk.2.1.2.2.2.1
  have hSpr : isState c 338 := hk.2.1.2.2.2.2.1
  have hPl : isPlan c pl := hk.2.2.2.1.2.1
  have h00 : up M 0 0 0 0 0 = 0 := up_s _ _ _ _
  by_cases hl : M 0 1 = 1
  · obtain ⟨h10, hM, hP, hS, hG⟩ := hI.ld hl
    obtain ⟨p0, p1, p2, p3, p4, p5, p6, p7⟩ := hP.1
    have hc1 := c_chase1 (A := A) (J := J) hk h10
    have e3 : up M 0 0 0 0 3 = M 0 3 := up_n _ _ _ _ _ _ (by omega)
    have e9 : up M 0 0 0 0 9 = M 0 9 := up_n _ _ _ _ _ _ (by omega)
    have h38 := hM.1.2.1
    have h910 := hM.1.2.2.2.2.2.2.2
    by_cases hr : 0 ≤ r ∧ r < up M 0 0 0 0 3
    · obtain ⟨v, A', e1, hf, b1, b2⟩ := c_missing K hI r hl hr
      obtain ⟨w, M', m1, ms, d1, d2⟩ := m_missing (K := K) hI r hl hr
      have hvw : v = w := by
        by_cases y : (chL (up M 0 0 0) g (A (pl + 3)) r).1 < 1000000
        · rw [b1 y, d1 y]
        · exact best_first _ hP.2.2 (b2 y) (d2 y)
      subst hvw
      exact Good_read hI e1 hf m1 ms ((ms.1 0 (by omega)).trans h00)
    · refine Good_no (code := 2) hI (E := "java/lang/IndexOutOfBoundsException") (A' := A) (J' := J) ?_ (frm.refl _ _ _) (fun τ => (hF2 _ _ _ _ _ _ (by decide)).trans (hF1 _ _ 2 rfl _ _ _)) (by omega) (v := 0) ?_
      · have hcr := c_row0 (A := A) (J := J) hk h10 r (by rw [p1]; exact hr) (by rw [p1]; omega) (by omega)
        rw [fX6_missing, lkV hk, hcr, k_E]
      · have hmr := e_noRow0 (K := K) (M := M) (g := g) hl r (by rw [← e3]; exact hr) (by rw [← e3]; omega) (by omega)
        rw [fX7_missing, nV, hmr, nC, q_I, if_neg (show ¬ ii 1 = (0 : Int32) by decide)]
        rfl
  · obtain ⟨h10, h1⟩ := hI.nl hl
    refine Good_nl hI (v := 0) ?_ (hF_IS _ 1 rfl _ _) ?_
    · rw [fX6_missing, lkV hk, c_rowN hk h10, k_E]
    · rw [fX7_missing, nV, e_noRowN h1, nC, q_I, if_neg (show ¬ ii 1 = (0 : Int32) by decide)]
      rfl
end OPS8
