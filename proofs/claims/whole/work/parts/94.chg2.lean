/-! CHANGES: put, take, unlock, buy -/
section CHS2
variable {c : CC} {A : AI} {J : JI} {S : Nat} {len g : Int → Int} {f : Int} {K : Nat × Nat} {M : AI} {r : Int}
theorem SR_stock (h : SR A J S len g f) (hg : GR g) (k v : Int) (hk : 0 ≤ k ∧ k < 10) : SR (up A (S + 2) k v) J S len (gu g (6 + k) v) f := by
  refine ⟨⟨?_, fun j a b => ?_⟩, fun r a b => RR.frame (h.2 r a b) (hg r a b) (fun x z hx => up_n _ _ _ _ _ _ (fun e => (rc_in ⟨a, b⟩ hx).1.2.2 e.1)) (fun _ _ _ => rfl) (fun w c d => cel_gu g (6 + k) v r w ⟨by omega, a, c⟩)⟩
  · rw [gu_n _ _ _ _ (by omega), gu_n _ _ _ _ (by omega), gu_n _ _ _ _ (by omega), gu_n _ _ _ _ (by omega), gu_n _ _ _ _ (by omega)]
    simp (disch := first | assumption | omega) only [up_n]
    exact h.1.1
  · by_cases y : j = k
    · rw [y, up_s, gu_s]
    · rw [up_n _ _ _ _ _ _ (fun e => y e.2), gu_n _ _ _ _ (by omega)]
      exact h.1.2 j a b
end CHS2
section CHG2
variable {C0 N0 n : Nat} {K : Nat × Nat} {c : CC} {A : AI} {J : JI} {M : AI} {g g' o : Int → Int} {pl sp tv cap : Nat} {f B : Int}
theorem g_put_1 (hI : Inv C0 N0 n pl sp tv cap c A J M g) (r k : Int) (hl : M 0 1 = 1) (hr : 0 ≤ r ∧ r < up M 0 0 0 0 3) (hkd : 0 ≤ k ∧ k < up M 0 0 0 0 9) (y : 0 < g (6 + k)) (z : up M 0 0 0 2 k ≤ gapM (up M 0 0 0) g r) : Good C0 N0 n K (fL_put 0 (ii r) (ii k) 455 (CW c A J)) (fX7_put 0 (ii r) (ii k) (NW K (mg M g))) := by
  have hk := hI.1
  have hRd : isReader c 1 := hk.2.1.1
  have hSv : isSolver c 4 := hk.2.1.2.1
  have hHi : isHist c 21 := hk.2.1.2.2.1
  have hNow : isState c 303 := hk.2.1.2.2.2.1
  have hSpr : isState c 338 := hk.2.1.2.2.2.2.1
  have hPl : isPlan c pl := hk.2.2.2.1.2.1
  have h00 : up M 0 0 0 0 0 = 0 := up_s _ _ _ _
  obtain ⟨h10, hM, hP, hS, hG⟩ := hI.ld hl
  obtain ⟨p0, p1, p2, p3, p4, p5, p6, p7⟩ := hP.1
  have hc1 := c_chase1 (A := A) (J := J) hk h10
  have e3 : up M 0 0 0 0 3 = M 0 3 := up_n _ _ _ _ _ _ (by omega)
  have e9 : up M 0 0 0 0 9 = M 0 9 := up_n _ _ _ _ _ _ (by omega)
  have h38 := hM.1.2.1
  have h910 := hM.1.2.2.2.2.2.2.2
  have hcr := c_row1 (A := A) (J := J) hk h10 r (by rw [p1]; exact hr) (by rw [p1]; exact h38.2)
  have hmr := e_noRow1 (K := K) (M := M) (g := g) hl r (by rw [← e3]; exact hr) (by rw [← e3]; exact h38.2)
  have hr8 : 0 ≤ r ∧ r < 8 := by omega
  have hR := hNow.row r hr8
  have hrr := hS.2 r hr.1 (by omega)
  have hgr := hG.1.1 r hr.1 (by omega)
  have hI0 := hI.thr 0
  have hl0 : up M 0 0 0 0 1 = 1 := (up_n _ _ _ _ _ _ (by omega)).trans hl
  obtain ⟨A1, J1, M1, w1, w2, hI1, ⟨w3, w4⟩, wf⟩ := remB (K := K) hI0 hl0
  have hl1 : M1 0 1 = 1 := (w3 1 (by omega)).trans hl0
  obtain ⟨hM1, hP1, hS1, hG1⟩ := hI1.li hl1
  have h01 : M1 0 0 = 0 := (w3 0 (by omega)).trans h00
  have y2 : M1 2 = up M 0 0 0 2 := funext fun z => (w4 2 z (by omega) (by omega))
  have y3 : M1 0 3 = up M 0 0 0 0 3 := w3 3 (by omega)
  have y5 : M1 0 5 = up M 0 0 0 0 5 := w3 5 (by omega)
  have y9 : M1 0 9 = up M 0 0 0 0 9 := w3 9 (by omega)
  have y4 : M1 0 4 = up M 0 0 0 0 4 := w3 4 (by omega)
  have gq : ∀ (h : Int → Int) (r : Int), gapM M1 h r = gapM (up M 0 0 0) h r := fun h r => gapM_at (w3 2 (by omega)) y4 y2
  have nq : ∀ (h : Int → Int) (r : Int), needM M1 h r = needM (up M 0 0 0) h r := fun h r => by unfold needM; rw [gq, y4]
  have hap := hk.2.2.2.1.1
  have hBs : Bn n ≤ Bn (n + 1) := Bn_s n
  have hr1 : 0 ≤ r ∧ r < M1 0 3 := by rw [y3]; exact hr
  have hrr1 := hS1.2 r hr.1 (by omega)
  have hik := e_isKind (K := K) (M := up M 0 0 0) (g := g) (by omega) k (by omega)
  rw [if_pos (by omega)] at hik
  have hck := c_kind1 (A := A) (J := J) hk k (by rw [p7]; exact hkd) (by rw [p7]; omega)
  have hL := hG.GL k hkd.1 (by omega)
  have htp := c_takesPiece (c := c) hk hNow hPl r k hr8 (by omega) hM hS hG.1.1 p0 p2 (hP.2.1 k hkd.1 hkd.2).2 hL
  rw [if_pos ⟨y, z⟩] at htp
  have hgb := gapM_b hM hgr
  have hb := hM.2.2.1 k hkd.1 (by omega)
  obtain ⟨hG2, h5⟩ := hG1.put hM1 hr1 k (by rw [y9]; exact hkd) y (by rw [gq, y2]; exact z)
  obtain ⟨A2, J2, e2, s2, f2⟩ := s_moveIn (c := c) hNow hPl (by omega) hS1 hG1.1.1 r k hr8 (by omega) (hP1.2.1 k hkd.1 (by rw [y9]; exact hkd.2)).2 h5
  have hgr2 := hG2.1.1 r hr.1 hr8.2
  have hP2 : PR A2 pl M1 := PR_S hP1 (by omega) f2
  have z0 := hP2.1.1
  have z2 := hP2.1.2.2.1
  have hgp := c_gapIn (c := c) hR hPl (s2.2 r hr.1 (by omega)) hgr2 z0 z2
  have hd10 : 0 ≤ k ∧ k < 10 := by omega
  refine Good_chg hI (v := gapM M1 (gPut g r k) r) (A' := A2) (J' := J2) (M' := M1) (g' := gPut g r k) ?_ ?_ h01 (hI1.chg hl1 (f2.mono fun b hb => Or.inl hb) (scr.refl M1).s4 ?_ (hG2.mono hBs))
  · simp (disch := first | assumption | omega) only [fX6_put, lkV hk, lkR0 hk, lkR1 hk, lkR2 hk, lkR3 hk, lkR4 hk, lkR5 hk, lkR6 hk, lkR7 hk, lkR8 hk, lkR9 hk, lkI hk, k_E, t_E, hcr, hck, rwI1, rwS1, rwI2, rwS2, rwI4, rwS4, rwI5, rwS5, rwI7, rwS7, rwI8, rwS8, rwI9, rwS9, rwR0, rwR3, rwR6, rwA1, rwU1, rwA3, rwU3, rwV, rwJ, rwUJ, plI0, plS0, plI1, plS1, plI2, plS2, plI3, plS3, plI4, plS4, plI5, plS5, plI6, plS6, plI7, plS7, plR8, plR9, plR10, plA1, plU1, plA2, plU2, plA3, plU3, plV, stI2, stS2, stI3, stS3, stI4, stS4, stI5, stS5, stI6, stS6, stI7, stS7, stR0, stR1, stA2, stU2, stV, stRow, svI5, svS5, svI6, svS6, svI7, svS7, svR0, svR1, svR2, svR3, svR4, svA13, svU13, svA14, svU14, svA15, svU15, svA16, svU16, svV, svRow, svF, svUF, hiI1, hiS1, hiI2, hiS2, hiR0, hiV, hiRow, rdI2, rdS2, rdI3, rdS3, rdI4, rdS4, rdI5, rdS5, rdI6, rdS6, rdI7, rdS7, rdI8, rdS8, rdR0, rdR1, rdA1, rdU1, rdA2, rdU2, rdV, k_C, ↓reduceIte, tr_lt, fa_lt, tr_le, fa_le, tr_eq, fa_eq, and_true, true_and, and_false, false_and, il0, il1, il2, il3, il4, il5, il6, il7, il8, il9, il10, il11, il12, il15, il16, il20, il24, il31, il32, il44, il45, il48, il50, il57, il58, il59, il63, il91, il93, il97, il99, il100, il109, il113, il119, il120, il122, il200, il255, il480, il500, il501, il512, il999, il4112, il41120, il1000000, il1000003, ii_add, ii_sub, ii_mul, ii_neg, ii_le, ii_lt, ii_eq, ii_div, q_I, q_V, q_R, lt_q, rZ_q, md_M, md_16, md_4, md_8, md_10, if_true, if_false, if_pos, if_neg, htp, w1, e2, hgp]
  · simp (disch := first | assumption | omega) only [fX7_put, fX7_put_22, fX7_put_61, nR1, nA1, nU1, nR2, nA2, nU2, nR3, nA3, nU3, nR4, nA4, nU4, nR5, nA5, nU5, nR6, nA6, nU6, nR7, nA7, nU7, nR8, nA8, nU8, nR9, nA9, nU9, nR10, nA10, nU10, nR11, nA11, nU11, nR12, nA12, nU12, nR13, nA13, nU13, nR14, nA14, nU14, nR15, nA15, nU15, nR16, nA16, nU16, nI0, nS0, nI1, nS1, nI2, nS2, nI3, nS3, nI4, nS4, nI5, nS5, nI6, nS6, nI7, nS7, nI8, nS8, nI9, nS9, nI15, nS15, nI18, nS18, nI19, nS19, nI20, nS20, nI21, nS21, nI22, nS22, nI23, nS23, nI24, nS24, nI25, nS25, nI26, nS26, nI27, nS27, nI32, nS32, nI36, nS36, nI37, nS37, nI40, nS40, nSZ1, nV, nC, ↓reduceIte, tr_lt, fa_lt, tr_le, fa_le, tr_eq, fa_eq, and_true, true_and, and_false, false_and, il0, il1, il2, il3, il4, il5, il6, il7, il8, il9, il10, il11, il12, il15, il16, il20, il24, il31, il32, il44, il45, il48, il50, il57, il58, il59, il63, il91, il93, il97, il99, il100, il109, il113, il119, il120, il122, il200, il255, il480, il500, il501, il512, il999, il4112, il41120, il1000000, il1000003, ii_add, ii_sub, ii_mul, ii_neg, ii_le, ii_lt, ii_eq, ii_div, q_I, q_V, q_R, lt_q, rZ_q, md_M, md_16, md_4, md_8, md_10, if_true, if_false, if_pos, if_neg, mg_3, mg_0, mg_1, mg_2, mg_k, mg_up3, mg_upk, hmr, hik, e_of, e_gap, e_ref0, w2, e_putsPiece]
  · rw [lo_gPut g r k 5 (by have := hgr.2.1; omega), if_neg (by omega)]; exact s2
theorem g_put (hI : Inv C0 N0 n pl sp tv cap c A J M g) (r k : Int) (hrb : -2147483648 ≤ r ∧ r < 2147483648) (hib : -2147483648 ≤ k ∧ k < 2147483648) : Good C0 N0 n K (fL_put 0 (ii r) (ii k) 455 (CW c A J)) (fX7_put 0 (ii r) (ii k) (NW K (mg M g))) := by
  have hk := hI.1
  have hRd : isReader c 1 := hk.2.1.1
  have hSv : isSolver c 4 := hk.2.1.2.1
  have hHi : isHist c 21 := hk.2.1.2.2.1
  have hNow : isState c 303 := hk.2.1.2.2.2.1
  have hSpr : isState c 338 := hk.2.1.2.2.2.2.1
  have hPl : isPlan c pl := hk.2.2.2.1.2.1
  have h00 : up M 0 0 0 0 0 = 0 := up_s _ _ _ _
  by_cases hl : M 0 1 = 1
  · obtain ⟨h10, hM, hP, hS, hG⟩ := hI.ld hl
    obtain ⟨p0, p1, p2, p3, p4, p5, p6, p7⟩ := hP.1
    have hc1 := c_chase1 (A := A) (J := J) hk h10
    have e3 : up M 0 0 0 0 3 = M 0 3 := up_n _ _ _ _ _ _ (by omega)
    have e9 : up M 0 0 0 0 9 = M 0 9 := up_n _ _ _ _ _ _ (by omega)
    have h38 := hM.1.2.1
    have h910 := hM.1.2.2.2.2.2.2.2
    by_cases hr : 0 ≤ r ∧ r < up M 0 0 0 0 3
    · have hik := e_isKind (K := K) (M := up M 0 0 0) (g := g) (by omega) k hib
      by_cases hkd : 0 ≤ k ∧ k < up M 0 0 0 0 9
      · by_cases q : 0 < g (6 + k) ∧ up M 0 0 0 2 k ≤ gapM (up M 0 0 0) g r
        · exact g_put_1 hI r k hl hr hkd q.1 q.2
        · have hcr := c_row1 (A := A) (J := J) hk h10 r (by rw [p1]; exact hr) (by rw [p1]; exact h38.2)
          have hmr := e_noRow1 (K := K) (M := M) (g := g) hl r (by rw [← e3]; exact hr) (by rw [← e3]; exact h38.2)
          have hr8 : 0 ≤ r ∧ r < 8 := by omega
          have hR := hNow.row r hr8
          have hrr := hS.2 r hr.1 (by omega)
          have hgr := hG.1.1 r hr.1 (by omega)
          rw [if_pos (by omega)] at hik
          have hck := c_kind1 (A := A) (J := J) hk k (by rw [p7]; exact hkd) (by rw [p7]; omega)
          have hL := hG.GL k hkd.1 (by omega)
          have htp := c_takesPiece (c := c) hk hNow hPl r k hr8 (by omega) hM hS hG.1.1 p0 p2 (hP.2.1 k hkd.1 hkd.2).2 hL
          rw [if_neg q] at htp
          have hgb := gapM_b hM hgr
          have hb := hM.2.2.1 k hkd.1 (by omega)
          have hrf := e_ref1 (K := K) (M := up M 0 0 0) (g := g) h00 3 (by omega)
          refine Good_no (code := 3) hI (E := "java/lang/IllegalArgumentException") (A' := A) (J' := J) ?_ (frm.refl _ _ _) (fun τ => (hF2 _ _ _ _ _ _ (by decide)).trans ((hF2 _ _ _ _ _ _ (by decide)).trans (hF1 _ _ 3 rfl _ _ _))) (by omega) (v := 0) ?_
          · rw [fX6_put, lkV hk, hcr, k_C, q_R, lkV hk, hck, k_C, q_V, lkV hk, htp, k_C, q_I, if_pos i00, t_E]
          · by_cases y : g (6 + k) = 0
            · simp (disch := first | assumption | omega) only [fX7_put, fX7_put_22, fX7_put_56, nR1, nA1, nU1, nR2, nA2, nU2, nR3, nA3, nU3, nR4, nA4, nU4, nR5, nA5, nU5, nR6, nA6, nU6, nR7, nA7, nU7, nR8, nA8, nU8, nR9, nA9, nU9, nR10, nA10, nU10, nR11, nA11, nU11, nR12, nA12, nU12, nR13, nA13, nU13, nR14, nA14, nU14, nR15, nA15, nU15, nR16, nA16, nU16, nI0, nS0, nI1, nS1, nI2, nS2, nI3, nS3, nI4, nS4, nI5, nS5, nI6, nS6, nI7, nS7, nI8, nS8, nI9, nS9, nI15, nS15, nI18, nS18, nI19, nS19, nI20, nS20, nI21, nS21, nI22, nS22, nI23, nS23, nI24, nS24, nI25, nS25, nI26, nS26, nI27, nS27, nI32, nS32, nI36, nS36, nI37, nS37, nI40, nS40, nSZ1, nV, nC, ↓reduceIte, tr_lt, fa_lt, tr_le, fa_le, tr_eq, fa_eq, and_true, true_and, and_false, false_and, il0, il1, il2, il3, il4, il5, il6, il7, il8, il9, il10, il11, il12, il15, il16, il20, il24, il31, il32, il44, il45, il48, il50, il57, il58, il59, il63, il91, il93, il97, il99, il100, il109, il113, il119, il120, il122, il200, il255, il480, il500, il501, il512, il999, il4112, il41120, il1000000, il1000003, ii_add, ii_sub, ii_mul, ii_neg, ii_le, ii_lt, ii_eq, ii_div, q_I, q_V, q_R, lt_q, rZ_q, md_M, md_16, md_4, md_8, md_10, if_true, if_false, if_pos, if_neg, mg_3, mg_0, mg_1, mg_2, mg_k, mg_up3, mg_upk, hmr, hik, e_ref0]
              rw [fX7_put_61, nV, il3, hrf, nC, q_I, if_neg (show ¬ ii 1 = (0 : Int32) by decide), up_up]
              rfl
            · have z : ¬ up M 0 0 0 2 k ≤ gapM (up M 0 0 0) g r := fun x => q ⟨by omega, x⟩
              simp (disch := first | assumption | omega) only [fX7_put, fX7_put_22, fX7_put_56, nR1, nA1, nU1, nR2, nA2, nU2, nR3, nA3, nU3, nR4, nA4, nU4, nR5, nA5, nU5, nR6, nA6, nU6, nR7, nA7, nU7, nR8, nA8, nU8, nR9, nA9, nU9, nR10, nA10, nU10, nR11, nA11, nU11, nR12, nA12, nU12, nR13, nA13, nU13, nR14, nA14, nU14, nR15, nA15, nU15, nR16, nA16, nU16, nI0, nS0, nI1, nS1, nI2, nS2, nI3, nS3, nI4, nS4, nI5, nS5, nI6, nS6, nI7, nS7, nI8, nS8, nI9, nS9, nI15, nS15, nI18, nS18, nI19, nS19, nI20, nS20, nI21, nS21, nI22, nS22, nI23, nS23, nI24, nS24, nI25, nS25, nI26, nS26, nI27, nS27, nI32, nS32, nI36, nS36, nI37, nS37, nI40, nS40, nSZ1, nV, nC, ↓reduceIte, tr_lt, fa_lt, tr_le, fa_le, tr_eq, fa_eq, and_true, true_and, and_false, false_and, il0, il1, il2, il3, il4, il5, il6, il7, il8, il9, il10, il11, il12, il15, il16, il20, il24, il31, il32, il44, il45, il48, il50, il57, il58, il59, il63, il91, il93, il97, il99, il100, il109, il113, il119, il120, il122, il200, il255, il480, il500, il501, il512, il999, il4112, il41120, il1000000, il1000003, ii_add, ii_sub, ii_mul, ii_neg, ii_le, ii_lt, ii_eq, ii_div, q_I, q_V, q_R, lt_q, rZ_q, md_M, md_16, md_4, md_8, md_10, if_true, if_false, if_pos, if_neg, mg_3, mg_0, mg_1, mg_2, mg_k, mg_up3, mg_upk, hmr, hik, e_ref0, e_gap]
              rw [fX7_put_61, nV, il3, hrf, nC, q_I, if_neg (show ¬ ii 1 = (0 : Int32) by decide), up_up]
              rfl
      · have hcr := c_row1 (A := A) (J := J) hk h10 r (by rw [p1]; exact hr) (by rw [p1]; exact h38.2)
        have hmr := e_noRow1 (K := K) (M := M) (g := g) hl r (by rw [← e3]; exact hr) (by rw [← e3]; exact h38.2)
        have hr8 : 0 ≤ r ∧ r < 8 := by omega
        have hR := hNow.row r hr8
        have hrr := hS.2 r hr.1 (by omega)
        have hgr := hG.1.1 r hr.1 (by omega)
        rw [if_neg (by omega)] at hik
        have hck := c_kind0 (A := A) (J := J) hk k (by rw [p7]; exact hkd) (by rw [p7]; omega) hib
        have hrf := e_ref1 (K := K) (M := up M 0 0 0) (g := g) h00 2 (by omega)
        refine Good_no (code := 2) hI (E := "java/lang/IndexOutOfBoundsException") (A' := A) (J' := J) ?_ (frm.refl _ _ _) (fun τ => (hF2 _ _ _ _ _ _ (by decide)).trans (hF1 _ _ 2 rfl _ _ _)) (by omega) (v := 0) ?_
        · rw [fX6_put, lkV hk, hcr, k_C, q_R, lkV hk, hck, k_E]
        · simp (disch := first | assumption | omega) only [fX7_put, nR1, nA1, nU1, nR2, nA2, nU2, nR3, nA3, nU3, nR4, nA4, nU4, nR5, nA5, nU5, nR6, nA6, nU6, nR7, nA7, nU7, nR8, nA8, nU8, nR9, nA9, nU9, nR10, nA10, nU10, nR11, nA11, nU11, nR12, nA12, nU12, nR13, nA13, nU13, nR14, nA14, nU14, nR15, nA15, nU15, nR16, nA16, nU16, nI0, nS0, nI1, nS1, nI2, nS2, nI3, nS3, nI4, nS4, nI5, nS5, nI6, nS6, nI7, nS7, nI8, nS8, nI9, nS9, nI15, nS15, nI18, nS18, nI19, nS19, nI20, nS20, nI21, nS21, nI22, nS22, nI23, nS23, nI24, nS24, nI25, nS25, nI26, nS26, nI27, nS27, nI32, nS32, nI36, nS36, nI37, nS37, nI40, nS40, nSZ1, nV, nC, ↓reduceIte, tr_lt, fa_lt, tr_le, fa_le, tr_eq, fa_eq, and_true, true_and, and_false, false_and, il0, il1, il2, il3, il4, il5, il6, il7, il8, il9, il10, il11, il12, il15, il16, il20, il24, il31, il32, il44, il45, il48, il50, il57, il58, il59, il63, il91, il93, il97, il99, il100, il109, il113, il119, il120, il122, il200, il255, il480, il500, il501, il512, il999, il4112, il41120, il1000000, il1000003, ii_add, ii_sub, ii_mul, ii_neg, ii_le, ii_lt, ii_eq, ii_div, q_I, q_V, q_R, lt_q, rZ_q, md_M, md_16, md_4, md_8, md_10, if_true, if_false, if_pos, if_neg, mg_3, mg_0, mg_1, mg_2, mg_k, mg_up3, mg_upk, hmr, hik]
          rw [fX7_put_22, nV, il2, hrf, nC, q_I, if_neg (show ¬ ii 1 = (0 : Int32) by decide), up_up]
          rfl
    · refine Good_no (code := 2) hI (E := "java/lang/IndexOutOfBoundsException") (A' := A) (J' := J) ?_ (frm.refl _ _ _) (fun τ => (hF2 _ _ _ _ _ _ (by decide)).trans (hF1 _ _ 2 rfl _ _ _)) (by omega) (v := 0) ?_
      · have hcr := c_row0 (A := A) (J := J) hk h10 r (by rw [p1]; exact hr) (by rw [p1]; omega) (by omega)
        rw [fX6_put, lkV hk, hcr, k_E]
      · have hmr := e_noRow0 (K := K) (M := M) (g := g) hl r (by rw [← e3]; exact hr) (by rw [← e3]; omega) (by omega)
        rw [fX7_put, nV, hmr, nC, q_I, if_neg (show ¬ ii 1 = (0 : Int32) by decide)]
        rfl
  · obtain ⟨h10, h1⟩ := hI.nl hl
    refine Good_nl hI (v := 0) ?_ (hF_IS _ 1 rfl _ _) ?_
    · rw [fX6_put, lkV hk, c_rowN hk h10, k_E]
    · rw [fX7_put, nV, e_noRowN h1, nC, q_I, if_neg (show ¬ ii 1 = (0 : Int32) by decide)]
      rfl
theorem g_take (hI : Inv C0 N0 n pl sp tv cap c A J M g) (r i : Int) (hrb : -2147483648 ≤ r ∧ r < 2147483648) (hib : -2147483648 ≤ i ∧ i < 2147483648) : Good C0 N0 n K (fL_take 0 (ii r) (ii i) 455 (CW c A J)) (fX7_take 0 (ii r) (ii i) (NW K (mg M g))) := by
  have hk := hI.1
  have hRd : isReader c 1 := hk.2.1.1
  have hSv : isSolver c 4 := hk.2.1.2.1
  have hHi : isHist c 21 := hk.2.1.2.2.1
  have hNow : isState c 303 := hk.2.1.2.2.2.1
  have hSpr : isState c 338 := hk.2.1.2.2.2.2.1
  have hPl : isPlan c pl := hk.2.2.2.1.2.1
  have h00 : up M 0 0 0 0 0 = 0 := up_s _ _ _ _
  by_cases hl : M 0 1 = 1
  · obtain ⟨h10, hM, hP, hS, hG⟩ := hI.ld hl
    obtain ⟨p0, p1, p2, p3, p4, p5, p6, p7⟩ := hP.1
    have hc1 := c_chase1 (A := A) (J := J) hk h10
    have e3 : up M 0 0 0 0 3 = M 0 3 := up_n _ _ _ _ _ _ (by omega)
    have e9 : up M 0 0 0 0 9 = M 0 9 := up_n _ _ _ _ _ _ (by omega)
    have h38 := hM.1.2.1
    have h910 := hM.1.2.2.2.2.2.2.2
    by_cases hr : 0 ≤ r ∧ r < up M 0 0 0 0 3
    · have hcr := c_row1 (A := A) (J := J) hk h10 r (by rw [p1]; exact hr) (by rw [p1]; exact h38.2)
      have hmr := e_noRow1 (K := K) (M := M) (g := g) hl r (by rw [← e3]; exact hr) (by rw [← e3]; exact h38.2)
      have hr8 : 0 ≤ r ∧ r < 8 := by omega
      have hR := hNow.row r hr8
      have hrr := hS.2 r hr.1 (by omega)
      have hgr := hG.1.1 r hr.1 (by omega)
      have x1 := hrr.1.2.2.1
      have h1 := hgr.2.1
      have hin := e_in i 0 (cel g r 1 - 1) (by omega) (NW K (mg (up M 0 0 0) g))
      by_cases q : 0 ≤ i ∧ i < cel g r 1
      · rw [if_pos (by omega)] at hin
        have hI0 := hI.thr 0
        have hl0 : up M 0 0 0 0 1 = 1 := (up_n _ _ _ _ _ _ (by omega)).trans hl
        obtain ⟨A1, J1, M1, w1, w2, hI1, ⟨w3, w4⟩, wf⟩ := remB (K := K) hI0 hl0
        have hl1 : M1 0 1 = 1 := (w3 1 (by omega)).trans hl0
        obtain ⟨hM1, hP1, hS1, hG1⟩ := hI1.li hl1
        have h01 : M1 0 0 = 0 := (w3 0 (by omega)).trans h00
        have y2 : M1 2 = up M 0 0 0 2 := funext fun z => (w4 2 z (by omega) (by omega))
        have y3 : M1 0 3 = up M 0 0 0 0 3 := w3 3 (by omega)
        have y5 : M1 0 5 = up M 0 0 0 0 5 := w3 5 (by omega)
        have y9 : M1 0 9 = up M 0 0 0 0 9 := w3 9 (by omega)
        have y4 : M1 0 4 = up M 0 0 0 0 4 := w3 4 (by omega)
        have gq : ∀ (h : Int → Int) (r : Int), gapM M1 h r = gapM (up M 0 0 0) h r := fun h r => gapM_at (w3 2 (by omega)) y4 y2
        have nq : ∀ (h : Int → Int) (r : Int), needM M1 h r = needM (up M 0 0 0) h r := fun h r => by unfold needM; rw [gq, y4]
        have hap := hk.2.2.2.1.1
        have hBs : Bn n ≤ Bn (n + 1) := Bn_s n
        have hr1 : 0 ≤ r ∧ r < M1 0 3 := by rw [y3]; exact hr
        have hrr1 := hS1.2 r hr.1 (by omega)
        have hv := hgr.2.2.2.1 i q.1 q.2
        have hkb := hG1.1.2.2.2.1 r hr.1 hr8.2 i q.1 q.2
        obtain ⟨A2, J2, e2, s2, f2⟩ := s_moveOut (c := c) hNow hPl (by omega) hS1 hG1.1.1 r i hr8 q (hP1.2.1 _ hv.1 hkb).2
        have hG2 := hG1.take hM1 hr1 i q
        have hml := m_takeLoop (K := K) (M := M1) hr8 hgr i q
        refine Good_chg hI (v := cel g r (11 + i)) (A' := A2) (J' := J2) (M' := M1) (g' := gTake g r i) ?_ ?_ h01 (hI1.chg hl1 (f2.mono fun b hb => Or.inl hb) (scr.refl M1).s4 ?_ (hG2.mono hBs))
        · simp (disch := first | assumption | omega) only [fX6_take, lkV hk, lkR0 hk, lkR1 hk, lkR2 hk, lkR3 hk, lkR4 hk, lkR5 hk, lkR6 hk, lkR7 hk, lkR8 hk, lkR9 hk, lkI hk, k_E, t_E, hcr, rwI1, rwS1, rwI2, rwS2, rwI4, rwS4, rwI5, rwS5, rwI7, rwS7, rwI8, rwS8, rwI9, rwS9, rwR0, rwR3, rwR6, rwA1, rwU1, rwA3, rwU3, rwV, rwJ, rwUJ, plI0, plS0, plI1, plS1, plI2, plS2, plI3, plS3, plI4, plS4, plI5, plS5, plI6, plS6, plI7, plS7, plR8, plR9, plR10, plA1, plU1, plA2, plU2, plA3, plU3, plV, stI2, stS2, stI3, stS3, stI4, stS4, stI5, stS5, stI6, stS6, stI7, stS7, stR0, stR1, stA2, stU2, stV, stRow, svI5, svS5, svI6, svS6, svI7, svS7, svR0, svR1, svR2, svR3, svR4, svA13, svU13, svA14, svU14, svA15, svU15, svA16, svU16, svV, svRow, svF, svUF, hiI1, hiS1, hiI2, hiS2, hiR0, hiV, hiRow, rdI2, rdS2, rdI3, rdS3, rdI4, rdS4, rdI5, rdS5, rdI6, rdS6, rdI7, rdS7, rdI8, rdS8, rdR0, rdR1, rdA1, rdU1, rdA2, rdU2, rdV, k_C, ↓reduceIte, tr_lt, fa_lt, tr_le, fa_le, tr_eq, fa_eq, and_true, true_and, and_false, false_and, il0, il1, il2, il3, il4, il5, il6, il7, il8, il9, il10, il11, il12, il15, il16, il20, il24, il31, il32, il44, il45, il48, il50, il57, il58, il59, il63, il91, il93, il97, il99, il100, il109, il113, il119, il120, il122, il200, il255, il480, il500, il501, il512, il999, il4112, il41120, il1000000, il1000003, ii_add, ii_sub, ii_mul, ii_neg, ii_le, ii_lt, ii_eq, ii_div, q_I, q_V, q_R, lt_q, rZ_q, md_M, md_16, md_4, md_8, md_10, if_true, if_false, if_pos, if_neg, x1, c_index1, w1, e2]
        · simp (disch := first | assumption | omega) only [fX7_take, fX7_take_30, nR1, nA1, nU1, nR2, nA2, nU2, nR3, nA3, nU3, nR4, nA4, nU4, nR5, nA5, nU5, nR6, nA6, nU6, nR7, nA7, nU7, nR8, nA8, nU8, nR9, nA9, nU9, nR10, nA10, nU10, nR11, nA11, nU11, nR12, nA12, nU12, nR13, nA13, nU13, nR14, nA14, nU14, nR15, nA15, nU15, nR16, nA16, nU16, nI0, nS0, nI1, nS1, nI2, nS2, nI3, nS3, nI4, nS4, nI5, nS5, nI6, nS6, nI7, nS7, nI8, nS8, nI9, nS9, nI15, nS15, nI18, nS18, nI19, nS19, nI20, nS20, nI21, nS21, nI22, nS22, nI23, nS23, nI24, nS24, nI25, nS25, nI26, nS26, nI27, nS27, nI32, nS32, nI36, nS36, nI37, nS37, nI40, nS40, nSZ1, nV, nC, ↓reduceIte, tr_lt, fa_lt, tr_le, fa_le, tr_eq, fa_eq, and_true, true_and, and_false, false_and, il0, il1, il2, il3, il4, il5, il6, il7, il8, il9, il10, il11, il12, il15, il16, il20, il24, il31, il32, il44, il45, il48, il50, il57, il58, il59, il63, il91, il93, il97, il99, il100, il109, il113, il119, il120, il122, il200, il255, il480, il500, il501, il512, il999, il4112, il41120, il1000000, il1000003, ii_add, ii_sub, ii_mul, ii_neg, ii_le, ii_lt, ii_eq, ii_div, q_I, q_V, q_R, lt_q, rZ_q, md_M, md_16, md_4, md_8, md_10, if_true, if_false, if_pos, if_neg, mg_3, mg_0, mg_1, mg_2, mg_k, mg_up3, mg_upk, hmr, hin, e_of, e_ref0, w2, hml]
        · rw [lo_gTake g r i 5 (by omega), if_neg (by omega)]; exact s2
      · rw [if_neg (by omega)] at hin
        have hci := c_index0 (c := c) (A := A) (J := J) i (cel g r 1) q (by omega) hib
        have hrf := e_ref1 (K := K) (M := up M 0 0 0) (g := g) h00 2 (by omega)
        refine Good_no (code := 2) hI (E := "java/lang/IndexOutOfBoundsException") (A' := A) (J' := J) ?_ (frm.refl _ _ _) (fun τ => (hF2 _ _ _ _ _ _ (by decide)).trans (hF1 _ _ 2 rfl _ _ _)) (by omega) (v := 0) ?_
        · simp (disch := first | assumption | omega) only [fX6_take, lkV hk, lkR0 hk, lkR1 hk, lkR2 hk, lkR3 hk, lkR4 hk, lkR5 hk, lkR6 hk, lkR7 hk, lkR8 hk, lkR9 hk, lkI hk, k_E, t_E, hcr, rwI1, rwS1, rwI2, rwS2, rwI4, rwS4, rwI5, rwS5, rwI7, rwS7, rwI8, rwS8, rwI9, rwS9, rwR0, rwR3, rwR6, rwA1, rwU1, rwA3, rwU3, rwV, rwJ, rwUJ, plI0, plS0, plI1, plS1, plI2, plS2, plI3, plS3, plI4, plS4, plI5, plS5, plI6, plS6, plI7, plS7, plR8, plR9, plR10, plA1, plU1, plA2, plU2, plA3, plU3, plV, stI2, stS2, stI3, stS3, stI4, stS4, stI5, stS5, stI6, stS6, stI7, stS7, stR0, stR1, stA2, stU2, stV, stRow, svI5, svS5, svI6, svS6, svI7, svS7, svR0, svR1, svR2, svR3, svR4, svA13, svU13, svA14, svU14, svA15, svU15, svA16, svU16, svV, svRow, svF, svUF, hiI1, hiS1, hiI2, hiS2, hiR0, hiV, hiRow, rdI2, rdS2, rdI3, rdS3, rdI4, rdS4, rdI5, rdS5, rdI6, rdS6, rdI7, rdS7, rdI8, rdS8, rdR0, rdR1, rdA1, rdU1, rdA2, rdU2, rdV, k_C, ↓reduceIte, tr_lt, fa_lt, tr_le, fa_le, tr_eq, fa_eq, and_true, true_and, and_false, false_and, il0, il1, il2, il3, il4, il5, il6, il7, il8, il9, il10, il11, il12, il15, il16, il20, il24, il31, il32, il44, il45, il48, il50, il57, il58, il59, il63, il91, il93, il97, il99, il100, il109, il113, il119, il120, il122, il200, il255, il480, il500, il501, il512, il999, il4112, il41120, il1000000, il1000003, ii_add, ii_sub, ii_mul, ii_neg, ii_le, ii_lt, ii_eq, ii_div, q_I, q_V, q_R, lt_q, rZ_q, md_M, md_16, md_4, md_8, md_10, if_true, if_false, if_pos, if_neg, x1, hci]
        · simp (disch := first | assumption | omega) only [fX7_take, nR1, nA1, nU1, nR2, nA2, nU2, nR3, nA3, nU3, nR4, nA4, nU4, nR5, nA5, nU5, nR6, nA6, nU6, nR7, nA7, nU7, nR8, nA8, nU8, nR9, nA9, nU9, nR10, nA10, nU10, nR11, nA11, nU11, nR12, nA12, nU12, nR13, nA13, nU13, nR14, nA14, nU14, nR15, nA15, nU15, nR16, nA16, nU16, nI0, nS0, nI1, nS1, nI2, nS2, nI3, nS3, nI4, nS4, nI5, nS5, nI6, nS6, nI7, nS7, nI8, nS8, nI9, nS9, nI15, nS15, nI18, nS18, nI19, nS19, nI20, nS20, nI21, nS21, nI22, nS22, nI23, nS23, nI24, nS24, nI25, nS25, nI26, nS26, nI27, nS27, nI32, nS32, nI36, nS36, nI37, nS37, nI40, nS40, nSZ1, nV, nC, ↓reduceIte, tr_lt, fa_lt, tr_le, fa_le, tr_eq, fa_eq, and_true, true_and, and_false, false_and, il0, il1, il2, il3, il4, il5, il6, il7, il8, il9, il10, il11, il12, il15, il16, il20, il24, il31, il32, il44, il45, il48, il50, il57, il58, il59, il63, il91, il93, il97, il99, il100, il109, il113, il119, il120, il122, il200, il255, il480, il500, il501, il512, il999, il4112, il41120, il1000000, il1000003, ii_add, ii_sub, ii_mul, ii_neg, ii_le, ii_lt, ii_eq, ii_div, q_I, q_V, q_R, lt_q, rZ_q, md_M, md_16, md_4, md_8, md_10, if_true, if_false, if_pos, if_neg, mg_3, mg_0, mg_1, mg_2, mg_k, mg_up3, mg_upk, hmr, e_of, hin]
          rw [fX7_take_30, nV, il2, hrf, nC, q_I, if_neg (show ¬ ii 1 = (0 : Int32) by decide), up_up]
          rfl
    · refine Good_no (code := 2) hI (E := "java/lang/IndexOutOfBoundsException") (A' := A) (J' := J) ?_ (frm.refl _ _ _) (fun τ => (hF2 _ _ _ _ _ _ (by decide)).trans (hF1 _ _ 2 rfl _ _ _)) (by omega) (v := 0) ?_
      · have hcr := c_row0 (A := A) (J := J) hk h10 r (by rw [p1]; exact hr) (by rw [p1]; omega) (by omega)
        rw [fX6_take, lkV hk, hcr, k_E]
      · have hmr := e_noRow0 (K := K) (M := M) (g := g) hl r (by rw [← e3]; exact hr) (by rw [← e3]; omega) (by omega)
        rw [fX7_take, nV, hmr, nC, q_I, if_neg (show ¬ ii 1 = (0 : Int32) by decide)]
        rfl
  · obtain ⟨h10, h1⟩ := hI.nl hl
    refine Good_nl hI (v := 0) ?_ (hF_IS _ 1 rfl _ _) ?_
    · rw [fX6_take, lkV hk, c_rowN hk h10, k_E]
    · rw [fX7_take, nV, e_noRowN h1, nC, q_I, if_neg (show ¬ ii 1 = (0 : Int32) by decide)]
      rfl
theorem g_unlock (hI : Inv C0 N0 n pl sp tv cap c A J M g) (r : Int) (hrb : -2147483648 ≤ r ∧ r < 2147483648) : Good C0 N0 n K (fL_unlock 0 (ii r) 455 (CW c A J)) (fX7_unlock 0 (ii r) (NW K (mg M g))) := by
  have hk := hI.1
  have hRd : isReader c 1 := hk.2.1.1
  have hSv : isSolver c 4 := hk.2.1.2.1
  have hHi : isHist c 21 := hk.2.1.2.2.1
  have hNow : isState c 303 := hk.2.1.2.2.2.1
  have hSpr : isState c 338 := hk.2.1.2.2.2.2.1
  have hPl : isPlan c pl := hk.2.2.2.1.2.1
  have h00 : up M 0 0 0 0 0 = 0 := up_s _ _ _ _
  by_cases hl : M 0 1 = 1
  · obtain ⟨h10, hM, hP, hS, hG⟩ := hI.ld hl
    obtain ⟨p0, p1, p2, p3, p4, p5, p6, p7⟩ := hP.1
    have hc1 := c_chase1 (A := A) (J := J) hk h10
    have e3 : up M 0 0 0 0 3 = M 0 3 := up_n _ _ _ _ _ _ (by omega)
    have e9 : up M 0 0 0 0 9 = M 0 9 := up_n _ _ _ _ _ _ (by omega)
    have h38 := hM.1.2.1
    have h910 := hM.1.2.2.2.2.2.2.2
    by_cases hr : 0 ≤ r ∧ r < up M 0 0 0 0 3
    · have hcr := c_row1 (A := A) (J := J) hk h10 r (by rw [p1]; exact hr) (by rw [p1]; exact h38.2)
      have hmr := e_noRow1 (K := K) (M := M) (g := g) hl r (by rw [← e3]; exact hr) (by rw [← e3]; exact h38.2)
      have hr8 : 0 ≤ r ∧ r < 8 := by omega
      have hR := hNow.row r hr8
      have hrr := hS.2 r hr.1 (by omega)
      have hgr := hG.1.1 r hr.1 (by omega)
      have x1 := hrr.1.2.2.1
      have hI0 := hI.thr 0
      have hl0 : up M 0 0 0 0 1 = 1 := (up_n _ _ _ _ _ _ (by omega)).trans hl
      obtain ⟨A1, J1, M1, w1, w2, hI1, ⟨w3, w4⟩, wf⟩ := remB (K := K) hI0 hl0
      have hl1 : M1 0 1 = 1 := (w3 1 (by omega)).trans hl0
      obtain ⟨hM1, hP1, hS1, hG1⟩ := hI1.li hl1
      have h01 : M1 0 0 = 0 := (w3 0 (by omega)).trans h00
      have y2 : M1 2 = up M 0 0 0 2 := funext fun z => (w4 2 z (by omega) (by omega))
      have y3 : M1 0 3 = up M 0 0 0 0 3 := w3 3 (by omega)
      have y5 : M1 0 5 = up M 0 0 0 0 5 := w3 5 (by omega)
      have y9 : M1 0 9 = up M 0 0 0 0 9 := w3 9 (by omega)
      have y4 : M1 0 4 = up M 0 0 0 0 4 := w3 4 (by omega)
      have gq : ∀ (h : Int → Int) (r : Int), gapM M1 h r = gapM (up M 0 0 0) h r := fun h r => gapM_at (w3 2 (by omega)) y4 y2
      have nq : ∀ (h : Int → Int) (r : Int), needM M1 h r = needM (up M 0 0 0) h r := fun h r => by unfold needM; rw [gq, y4]
      have hap := hk.2.2.2.1.1
      have hBs : Bn n ≤ Bn (n + 1) := Bn_s n
      have hr1 : 0 ≤ r ∧ r < M1 0 3 := by rw [y3]; exact hr
      have hrr1 := hS1.2 r hr.1 (by omega)
      have hB0 : 0 ≤ Bn n := by unfold Bn; omega
      obtain ⟨A2, e2, s2, f2⟩ := s_empty (c := c) hNow hS1 hG1.1.1 hG1.1.2.1 r hr8
      have hG2 := hG1.emp hM1 hr1 hB0
      have hem := e_empties (K := K) (A := M1) hr8 hgr
      refine Good_chg hI (v := cel g r 1) (A' := A2) (J' := J1) (M' := M1) (g' := gEmp g r) ?_ ?_ h01 (hI1.chg hl1 (f2.mono fun b hb => Or.inl hb) (scr.refl M1).s4 ?_ (hG2.mono hBs))
      · simp (disch := first | assumption | omega) only [fX6_unlock, lkV hk, lkR0 hk, lkR1 hk, lkR2 hk, lkR3 hk, lkR4 hk, lkR5 hk, lkR6 hk, lkR7 hk, lkR8 hk, lkR9 hk, lkI hk, k_E, t_E, hcr, rwI1, rwS1, rwI2, rwS2, rwI4, rwS4, rwI5, rwS5, rwI7, rwS7, rwI8, rwS8, rwI9, rwS9, rwR0, rwR3, rwR6, rwA1, rwU1, rwA3, rwU3, rwV, rwJ, rwUJ, plI0, plS0, plI1, plS1, plI2, plS2, plI3, plS3, plI4, plS4, plI5, plS5, plI6, plS6, plI7, plS7, plR8, plR9, plR10, plA1, plU1, plA2, plU2, plA3, plU3, plV, stI2, stS2, stI3, stS3, stI4, stS4, stI5, stS5, stI6, stS6, stI7, stS7, stR0, stR1, stA2, stU2, stV, stRow, svI5, svS5, svI6, svS6, svI7, svS7, svR0, svR1, svR2, svR3, svR4, svA13, svU13, svA14, svU14, svA15, svU15, svA16, svU16, svV, svRow, svF, svUF, hiI1, hiS1, hiI2, hiS2, hiR0, hiV, hiRow, rdI2, rdS2, rdI3, rdS3, rdI4, rdS4, rdI5, rdS5, rdI6, rdS6, rdI7, rdS7, rdI8, rdS8, rdR0, rdR1, rdA1, rdU1, rdA2, rdU2, rdV, k_C, ↓reduceIte, tr_lt, fa_lt, tr_le, fa_le, tr_eq, fa_eq, and_true, true_and, and_false, false_and, il0, il1, il2, il3, il4, il5, il6, il7, il8, il9, il10, il11, il12, il15, il16, il20, il24, il31, il32, il44, il45, il48, il50, il57, il58, il59, il63, il91, il93, il97, il99, il100, il109, il113, il119, il120, il122, il200, il255, il480, il500, il501, il512, il999, il4112, il41120, il1000000, il1000003, ii_add, ii_sub, ii_mul, ii_neg, ii_le, ii_lt, ii_eq, ii_div, q_I, q_V, q_R, lt_q, rZ_q, md_M, md_16, md_4, md_8, md_10, if_true, if_false, if_pos, if_neg, x1, w1, e2]
      · simp (disch := first | assumption | omega) only [fX7_unlock, nR1, nA1, nU1, nR2, nA2, nU2, nR3, nA3, nU3, nR4, nA4, nU4, nR5, nA5, nU5, nR6, nA6, nU6, nR7, nA7, nU7, nR8, nA8, nU8, nR9, nA9, nU9, nR10, nA10, nU10, nR11, nA11, nU11, nR12, nA12, nU12, nR13, nA13, nU13, nR14, nA14, nU14, nR15, nA15, nU15, nR16, nA16, nU16, nI0, nS0, nI1, nS1, nI2, nS2, nI3, nS3, nI4, nS4, nI5, nS5, nI6, nS6, nI7, nS7, nI8, nS8, nI9, nS9, nI15, nS15, nI18, nS18, nI19, nS19, nI20, nS20, nI21, nS21, nI22, nS22, nI23, nS23, nI24, nS24, nI25, nS25, nI26, nS26, nI27, nS27, nI32, nS32, nI36, nS36, nI37, nS37, nI40, nS40, nSZ1, nV, nC, ↓reduceIte, tr_lt, fa_lt, tr_le, fa_le, tr_eq, fa_eq, and_true, true_and, and_false, false_and, il0, il1, il2, il3, il4, il5, il6, il7, il8, il9, il10, il11, il12, il15, il16, il20, il24, il31, il32, il44, il45, il48, il50, il57, il58, il59, il63, il91, il93, il97, il99, il100, il109, il113, il119, il120, il122, il200, il255, il480, il500, il501, il512, il999, il4112, il41120, il1000000, il1000003, ii_add, ii_sub, ii_mul, ii_neg, ii_le, ii_lt, ii_eq, ii_div, q_I, q_V, q_R, lt_q, rZ_q, md_M, md_16, md_4, md_8, md_10, if_true, if_false, if_pos, if_neg, mg_3, mg_0, mg_1, mg_2, mg_k, mg_up3, mg_upk, hmr, w2, hem]
      · rw [lo_gEmp g r 5 (by omega), if_neg (by omega), if_neg (by omega)]; exact s2
    · refine Good_no (code := 2) hI (E := "java/lang/IndexOutOfBoundsException") (A' := A) (J' := J) ?_ (frm.refl _ _ _) (fun τ => (hF2 _ _ _ _ _ _ (by decide)).trans (hF1 _ _ 2 rfl _ _ _)) (by omega) (v := 0) ?_
      · have hcr := c_row0 (A := A) (J := J) hk h10 r (by rw [p1]; exact hr) (by rw [p1]; omega) (by omega)
        rw [fX6_unlock, lkV hk, hcr, k_E]
      · have hmr := e_noRow0 (K := K) (M := M) (g := g) hl r (by rw [← e3]; exact hr) (by rw [← e3]; omega) (by omega)
        rw [fX7_unlock, nV, hmr, nC, q_I, if_neg (show ¬ ii 1 = (0 : Int32) by decide)]
        rfl
  · obtain ⟨h10, h1⟩ := hI.nl hl
    refine Good_nl hI (v := 0) ?_ (hF_IS _ 1 rfl _ _) ?_
    · rw [fX6_unlock, lkV hk, c_rowN hk h10, k_E]
    · rw [fX7_unlock, nV, e_noRowN h1, nC, q_I, if_neg (show ¬ ii 1 = (0 : Int32) by decide)]
      rfl
theorem g_buy_1 (hI : Inv C0 N0 n pl sp tv cap c A J M g) (k L : Int) (hl : M 0 1 = 1) (hkd : 0 ≤ k ∧ k < up M 0 0 0 0 9) (q : 1 ≤ L ∧ L ≤ 99) (y : g (6 + k) + L ≤ 99) : Good C0 N0 n K (fL_buy 0 (ii k) (ii L) 455 (CW c A J)) (fX7_buy 0 (ii k) (ii L) (NW K (mg M g))) := by
  have hk := hI.1
  have hRd : isReader c 1 := hk.2.1.1
  have hSv : isSolver c 4 := hk.2.1.2.1
  have hHi : isHist c 21 := hk.2.1.2.2.1
  have hNow : isState c 303 := hk.2.1.2.2.2.1
  have hSpr : isState c 338 := hk.2.1.2.2.2.2.1
  have hPl : isPlan c pl := hk.2.2.2.1.2.1
  have h00 : up M 0 0 0 0 0 = 0 := up_s _ _ _ _
  obtain ⟨h10, hM, hP, hS, hG⟩ := hI.ld hl
  obtain ⟨p0, p1, p2, p3, p4, p5, p6, p7⟩ := hP.1
  have hc1 := c_chase1 (A := A) (J := J) hk h10
  have e3 : up M 0 0 0 0 3 = M 0 3 := up_n _ _ _ _ _ _ (by omega)
  have e9 : up M 0 0 0 0 9 = M 0 9 := up_n _ _ _ _ _ _ (by omega)
  have h38 := hM.1.2.1
  have h910 := hM.1.2.2.2.2.2.2.2
  have hI0 := hI.thr 0
  have hl0 : up M 0 0 0 0 1 = 1 := (up_n _ _ _ _ _ _ (by omega)).trans hl
  obtain ⟨A1, J1, M1, w1, w2, hI1, ⟨w3, w4⟩, wf⟩ := remB (K := K) hI0 hl0
  have hl1 : M1 0 1 = 1 := (w3 1 (by omega)).trans hl0
  obtain ⟨hM1, hP1, hS1, hG1⟩ := hI1.li hl1
  have h01 : M1 0 0 = 0 := (w3 0 (by omega)).trans h00
  have y2 : M1 2 = up M 0 0 0 2 := funext fun z => (w4 2 z (by omega) (by omega))
  have y3 : M1 0 3 = up M 0 0 0 0 3 := w3 3 (by omega)
  have y5 : M1 0 5 = up M 0 0 0 0 5 := w3 5 (by omega)
  have y9 : M1 0 9 = up M 0 0 0 0 9 := w3 9 (by omega)
  have y4 : M1 0 4 = up M 0 0 0 0 4 := w3 4 (by omega)
  have gq : ∀ (h : Int → Int) (r : Int), gapM M1 h r = gapM (up M 0 0 0) h r := fun h r => gapM_at (w3 2 (by omega)) y4 y2
  have nq : ∀ (h : Int → Int) (r : Int), needM M1 h r = needM (up M 0 0 0) h r := fun h r => by unfold needM; rw [gq, y4]
  have hap := hk.2.2.2.1.1
  have hBs : Bn n ≤ Bn (n + 1) := Bn_s n
  have hin := e_in L 1 99 (by omega) (NW K (mg (up M 0 0 0) g))
  rw [if_pos q] at hin
  have hik := e_isKind (K := K) (M := up M 0 0 0) (g := g) (by omega) k (by omega)
  rw [if_pos (by omega)] at hik
  have hck := c_kind1 (A := A) (J := J) hk k (by rw [p7]; exact hkd) (by rw [p7]; omega)
  have hL := hG.GL k hkd.1 (by omega)
  have x1 := hS.1.2 k hkd.1 (by omega)
  have x2 := hS1.1.2 k hkd.1 (by omega)
  have s2 := SR_stock hS1 hG1.1.1 k (g (6 + k) + L) (by omega)
  have hG2 := hG1.buy hM1 k L (by rw [y9]; exact hkd) ⟨q.1, y⟩
  have f2 : frm (inS 303) A1 (up A1 (303 + 2) k (g (6 + k) + L)) J1 J1 := frm_up (frm.refl _ _ _) _ _ _ (by unfold inS; omega)
  refine Good_chg hI (v := g (6 + k) + L) (A' := up A1 (303 + 2) k (g (6 + k) + L)) (J' := J1) (M' := M1) (g' := gu g (6 + k) (g (6 + k) + L)) ?_ ?_ h01 (hI1.chg hl1 (f2.mono fun b hb => Or.inl hb) (scr.refl M1).s4 ?_ (hG2.mono hBs))
  · simp (disch := first | assumption | omega) only [fX6_buy, lkV hk, lkR0 hk, lkR1 hk, lkR2 hk, lkR3 hk, lkR4 hk, lkR5 hk, lkR6 hk, lkR7 hk, lkR8 hk, lkR9 hk, lkI hk, k_E, t_E, hc1, hck, rwI1, rwS1, rwI2, rwS2, rwI4, rwS4, rwI5, rwS5, rwI7, rwS7, rwI8, rwS8, rwI9, rwS9, rwR0, rwR3, rwR6, rwA1, rwU1, rwA3, rwU3, rwV, rwJ, rwUJ, plI0, plS0, plI1, plS1, plI2, plS2, plI3, plS3, plI4, plS4, plI5, plS5, plI6, plS6, plI7, plS7, plR8, plR9, plR10, plA1, plU1, plA2, plU2, plA3, plU3, plV, stI2, stS2, stI3, stS3, stI4, stS4, stI5, stS5, stI6, stS6, stI7, stS7, stR0, stR1, stA2, stU2, stV, stRow, svI5, svS5, svI6, svS6, svI7, svS7, svR0, svR1, svR2, svR3, svR4, svA13, svU13, svA14, svU14, svA15, svU15, svA16, svU16, svV, svRow, svF, svUF, hiI1, hiS1, hiI2, hiS2, hiR0, hiV, hiRow, rdI2, rdS2, rdI3, rdS3, rdI4, rdS4, rdI5, rdS5, rdI6, rdS6, rdI7, rdS7, rdI8, rdS8, rdR0, rdR1, rdA1, rdU1, rdA2, rdU2, rdV, k_C, ↓reduceIte, tr_lt, fa_lt, tr_le, fa_le, tr_eq, fa_eq, and_true, true_and, and_false, false_and, il0, il1, il2, il3, il4, il5, il6, il7, il8, il9, il10, il11, il12, il15, il16, il20, il24, il31, il32, il44, il45, il48, il50, il57, il58, il59, il63, il91, il93, il97, il99, il100, il109, il113, il119, il120, il122, il200, il255, il480, il500, il501, il512, il999, il4112, il41120, il1000000, il1000003, ii_add, ii_sub, ii_mul, ii_neg, ii_le, ii_lt, ii_eq, ii_div, q_I, q_V, q_R, lt_q, rZ_q, md_M, md_16, md_4, md_8, md_10, if_true, if_false, if_pos, if_neg, x1, w1, x2, up_s]
  · simp (disch := first | assumption | omega) only [fX7_buy, fX7_buy_21, fX7_buy_60, nR1, nA1, nU1, nR2, nA2, nU2, nR3, nA3, nU3, nR4, nA4, nU4, nR5, nA5, nU5, nR6, nA6, nU6, nR7, nA7, nU7, nR8, nA8, nU8, nR9, nA9, nU9, nR10, nA10, nU10, nR11, nA11, nU11, nR12, nA12, nU12, nR13, nA13, nU13, nR14, nA14, nU14, nR15, nA15, nU15, nR16, nA16, nU16, nI0, nS0, nI1, nS1, nI2, nS2, nI3, nS3, nI4, nS4, nI5, nS5, nI6, nS6, nI7, nS7, nI8, nS8, nI9, nS9, nI15, nS15, nI18, nS18, nI19, nS19, nI20, nS20, nI21, nS21, nI22, nS22, nI23, nS23, nI24, nS24, nI25, nS25, nI26, nS26, nI27, nS27, nI32, nS32, nI36, nS36, nI37, nS37, nI40, nS40, nSZ1, nV, nC, ↓reduceIte, tr_lt, fa_lt, tr_le, fa_le, tr_eq, fa_eq, and_true, true_and, and_false, false_and, il0, il1, il2, il3, il4, il5, il6, il7, il8, il9, il10, il11, il12, il15, il16, il20, il24, il31, il32, il44, il45, il48, il50, il57, il58, il59, il63, il91, il93, il97, il99, il100, il109, il113, il119, il120, il122, il200, il255, il480, il500, il501, il512, il999, il4112, il41120, il1000000, il1000003, ii_add, ii_sub, ii_mul, ii_neg, ii_le, ii_lt, ii_eq, ii_div, q_I, q_V, q_R, lt_q, rZ_q, md_M, md_16, md_4, md_8, md_10, if_true, if_false, if_pos, if_neg, mg_3, mg_0, mg_1, mg_2, mg_k, mg_up3, mg_upk, e_notL1, hin, hik, e_ref0, w2, gu_s]
  · rw [gu_n _ _ _ _ (by omega)]; exact s2
theorem g_buy (hI : Inv C0 N0 n pl sp tv cap c A J M g) (k L : Int) (hib : -2147483648 ≤ k ∧ k < 2147483648) (hLb : -2147483648 ≤ L ∧ L < 2147483648) : Good C0 N0 n K (fL_buy 0 (ii k) (ii L) 455 (CW c A J)) (fX7_buy 0 (ii k) (ii L) (NW K (mg M g))) := by
  have hk := hI.1
  have hRd : isReader c 1 := hk.2.1.1
  have hSv : isSolver c 4 := hk.2.1.2.1
  have hHi : isHist c 21 := hk.2.1.2.2.1
  have hNow : isState c 303 := hk.2.1.2.2.2.1
  have hSpr : isState c 338 := hk.2.1.2.2.2.2.1
  have hPl : isPlan c pl := hk.2.2.2.1.2.1
  have h00 : up M 0 0 0 0 0 = 0 := up_s _ _ _ _
  by_cases hl : M 0 1 = 1
  · obtain ⟨h10, hM, hP, hS, hG⟩ := hI.ld hl
    obtain ⟨p0, p1, p2, p3, p4, p5, p6, p7⟩ := hP.1
    have hc1 := c_chase1 (A := A) (J := J) hk h10
    have e3 : up M 0 0 0 0 3 = M 0 3 := up_n _ _ _ _ _ _ (by omega)
    have e9 : up M 0 0 0 0 9 = M 0 9 := up_n _ _ _ _ _ _ (by omega)
    have h38 := hM.1.2.1
    have h910 := hM.1.2.2.2.2.2.2.2
    have hnl := e_notL1 (K := K) (g := g) hl
    have hin := e_in L 1 99 (by omega) (NW K (mg (up M 0 0 0) g))
    have hik := e_isKind (K := K) (M := up M 0 0 0) (g := g) (by omega) k hib
    by_cases hkd : 0 ≤ k ∧ k < up M 0 0 0 0 9
    · rw [if_pos (by omega)] at hik
      have hck := c_kind1 (A := A) (J := J) hk k (by rw [p7]; exact hkd) (by rw [p7]; omega)
      have hL := hG.GL k hkd.1 (by omega)
      have x1 := hS.1.2 k hkd.1 (by omega)
      have hrf := e_ref1 (K := K) (M := up M 0 0 0) (g := g) h00 3 (by omega)
      by_cases q : 1 ≤ L ∧ L ≤ 99
      · rw [if_pos q] at hin
        by_cases y : g (6 + k) + L ≤ 99
        · exact g_buy_1 hI k L hl hkd q y
        · refine Good_no (code := 3) hI (E := "java/lang/IllegalArgumentException") (A' := A) (J' := J) ?_ (frm.refl _ _ _) (fun τ => (hF2 _ _ _ _ _ _ (by decide)).trans ((hF2 _ _ _ _ _ _ (by decide)).trans (hF1 _ _ 3 rfl _ _ _))) (by omega) (v := 0) ?_
          · simp (disch := first | assumption | omega) only [fX6_buy, lkV hk, lkR0 hk, lkR1 hk, lkR2 hk, lkR3 hk, lkR4 hk, lkR5 hk, lkR6 hk, lkR7 hk, lkR8 hk, lkR9 hk, lkI hk, k_E, t_E, hc1, hck, rwI1, rwS1, rwI2, rwS2, rwI4, rwS4, rwI5, rwS5, rwI7, rwS7, rwI8, rwS8, rwI9, rwS9, rwR0, rwR3, rwR6, rwA1, rwU1, rwA3, rwU3, rwV, rwJ, rwUJ, plI0, plS0, plI1, plS1, plI2, plS2, plI3, plS3, plI4, plS4, plI5, plS5, plI6, plS6, plI7, plS7, plR8, plR9, plR10, plA1, plU1, plA2, plU2, plA3, plU3, plV, stI2, stS2, stI3, stS3, stI4, stS4, stI5, stS5, stI6, stS6, stI7, stS7, stR0, stR1, stA2, stU2, stV, stRow, svI5, svS5, svI6, svS6, svI7, svS7, svR0, svR1, svR2, svR3, svR4, svA13, svU13, svA14, svU14, svA15, svU15, svA16, svU16, svV, svRow, svF, svUF, hiI1, hiS1, hiI2, hiS2, hiR0, hiV, hiRow, rdI2, rdS2, rdI3, rdS3, rdI4, rdS4, rdI5, rdS5, rdI6, rdS6, rdI7, rdS7, rdI8, rdS8, rdR0, rdR1, rdA1, rdU1, rdA2, rdU2, rdV, k_C, ↓reduceIte, tr_lt, fa_lt, tr_le, fa_le, tr_eq, fa_eq, and_true, true_and, and_false, false_and, il0, il1, il2, il3, il4, il5, il6, il7, il8, il9, il10, il11, il12, il15, il16, il20, il24, il31, il32, il44, il45, il48, il50, il57, il58, il59, il63, il91, il93, il97, il99, il100, il109, il113, il119, il120, il122, il200, il255, il480, il500, il501, il512, il999, il4112, il41120, il1000000, il1000003, ii_add, ii_sub, ii_mul, ii_neg, ii_le, ii_lt, ii_eq, ii_div, q_I, q_V, q_R, lt_q, rZ_q, md_M, md_16, md_4, md_8, md_10, if_true, if_false, if_pos, if_neg, x1, t_E]
          · simp (disch := first | assumption | omega) only [fX7_buy, fX7_buy_21, fX7_buy_55, nR1, nA1, nU1, nR2, nA2, nU2, nR3, nA3, nU3, nR4, nA4, nU4, nR5, nA5, nU5, nR6, nA6, nU6, nR7, nA7, nU7, nR8, nA8, nU8, nR9, nA9, nU9, nR10, nA10, nU10, nR11, nA11, nU11, nR12, nA12, nU12, nR13, nA13, nU13, nR14, nA14, nU14, nR15, nA15, nU15, nR16, nA16, nU16, nI0, nS0, nI1, nS1, nI2, nS2, nI3, nS3, nI4, nS4, nI5, nS5, nI6, nS6, nI7, nS7, nI8, nS8, nI9, nS9, nI15, nS15, nI18, nS18, nI19, nS19, nI20, nS20, nI21, nS21, nI22, nS22, nI23, nS23, nI24, nS24, nI25, nS25, nI26, nS26, nI27, nS27, nI32, nS32, nI36, nS36, nI37, nS37, nI40, nS40, nSZ1, nV, nC, ↓reduceIte, tr_lt, fa_lt, tr_le, fa_le, tr_eq, fa_eq, and_true, true_and, and_false, false_and, il0, il1, il2, il3, il4, il5, il6, il7, il8, il9, il10, il11, il12, il15, il16, il20, il24, il31, il32, il44, il45, il48, il50, il57, il58, il59, il63, il91, il93, il97, il99, il100, il109, il113, il119, il120, il122, il200, il255, il480, il500, il501, il512, il999, il4112, il41120, il1000000, il1000003, ii_add, ii_sub, ii_mul, ii_neg, ii_le, ii_lt, ii_eq, ii_div, q_I, q_V, q_R, lt_q, rZ_q, md_M, md_16, md_4, md_8, md_10, if_true, if_false, if_pos, if_neg, mg_3, mg_0, mg_1, mg_2, mg_k, mg_up3, mg_upk, hnl, hin, hik, e_ref0]
            rw [fX7_buy_60, nV, il3, hrf, nC, q_I, if_neg (show ¬ ii 1 = (0 : Int32) by decide), up_up]
            rfl
      · rw [if_neg q] at hin
        refine Good_no (code := 3) hI (E := "java/lang/IllegalArgumentException") (A' := A) (J' := J) ?_ (frm.refl _ _ _) (fun τ => (hF2 _ _ _ _ _ _ (by decide)).trans ((hF2 _ _ _ _ _ _ (by decide)).trans (hF1 _ _ 3 rfl _ _ _))) (by omega) (v := 0) ?_
        · by_cases q2 : L < 1
          · rw [fX6_buy, lkV hk, hc1, k_C, q_V, lkV hk, hck, k_C, q_V, il1, if_pos (by rw [ii_lt _ _ (by omega)]; exact q2), t_E]
          · rw [fX6_buy, lkV hk, hc1, k_C, q_V, lkV hk, hck, k_C, q_V, il1, il99, if_neg (by rw [ii_lt _ _ (by omega)]; exact q2), if_pos (by rw [ii_lt _ _ (by omega)]; omega), t_E]
        · simp (disch := first | assumption | omega) only [fX7_buy, fX7_buy_21, fX7_buy_55, nR1, nA1, nU1, nR2, nA2, nU2, nR3, nA3, nU3, nR4, nA4, nU4, nR5, nA5, nU5, nR6, nA6, nU6, nR7, nA7, nU7, nR8, nA8, nU8, nR9, nA9, nU9, nR10, nA10, nU10, nR11, nA11, nU11, nR12, nA12, nU12, nR13, nA13, nU13, nR14, nA14, nU14, nR15, nA15, nU15, nR16, nA16, nU16, nI0, nS0, nI1, nS1, nI2, nS2, nI3, nS3, nI4, nS4, nI5, nS5, nI6, nS6, nI7, nS7, nI8, nS8, nI9, nS9, nI15, nS15, nI18, nS18, nI19, nS19, nI20, nS20, nI21, nS21, nI22, nS22, nI23, nS23, nI24, nS24, nI25, nS25, nI26, nS26, nI27, nS27, nI32, nS32, nI36, nS36, nI37, nS37, nI40, nS40, nSZ1, nV, nC, ↓reduceIte, tr_lt, fa_lt, tr_le, fa_le, tr_eq, fa_eq, and_true, true_and, and_false, false_and, il0, il1, il2, il3, il4, il5, il6, il7, il8, il9, il10, il11, il12, il15, il16, il20, il24, il31, il32, il44, il45, il48, il50, il57, il58, il59, il63, il91, il93, il97, il99, il100, il109, il113, il119, il120, il122, il200, il255, il480, il500, il501, il512, il999, il4112, il41120, il1000000, il1000003, ii_add, ii_sub, ii_mul, ii_neg, ii_le, ii_lt, ii_eq, ii_div, q_I, q_V, q_R, lt_q, rZ_q, md_M, md_16, md_4, md_8, md_10, if_true, if_false, if_pos, if_neg, mg_3, mg_0, mg_1, mg_2, mg_k, mg_up3, mg_upk, hnl, hin, hik, e_ref0]
          rw [fX7_buy_60, nV, il3, hrf, nC, q_I, if_neg (show ¬ ii 1 = (0 : Int32) by decide), up_up]
          rfl
    · rw [if_neg (by omega)] at hik
      have hck := c_kind0 (A := A) (J := J) hk k (by rw [p7]; exact hkd) (by rw [p7]; omega) hib
      have hrf := e_ref1 (K := K) (M := up M 0 0 0) (g := g) h00 2 (by omega)
      refine Good_no (code := 2) hI (E := "java/lang/IndexOutOfBoundsException") (A' := A) (J' := J) ?_ (frm.refl _ _ _) (fun τ => (hF2 _ _ _ _ _ _ (by decide)).trans (hF1 _ _ 2 rfl _ _ _)) (by omega) (v := 0) ?_
      · rw [fX6_buy, lkV hk, hc1, k_C, q_V, lkV hk, hck, k_E]
      · simp (disch := first | assumption | omega) only [fX7_buy, nR1, nA1, nU1, nR2, nA2, nU2, nR3, nA3, nU3, nR4, nA4, nU4, nR5, nA5, nU5, nR6, nA6, nU6, nR7, nA7, nU7, nR8, nA8, nU8, nR9, nA9, nU9, nR10, nA10, nU10, nR11, nA11, nU11, nR12, nA12, nU12, nR13, nA13, nU13, nR14, nA14, nU14, nR15, nA15, nU15, nR16, nA16, nU16, nI0, nS0, nI1, nS1, nI2, nS2, nI3, nS3, nI4, nS4, nI5, nS5, nI6, nS6, nI7, nS7, nI8, nS8, nI9, nS9, nI15, nS15, nI18, nS18, nI19, nS19, nI20, nS20, nI21, nS21, nI22, nS22, nI23, nS23, nI24, nS24, nI25, nS25, nI26, nS26, nI27, nS27, nI32, nS32, nI36, nS36, nI37, nS37, nI40, nS40, nSZ1, nV, nC, ↓reduceIte, tr_lt, fa_lt, tr_le, fa_le, tr_eq, fa_eq, and_true, true_and, and_false, false_and, il0, il1, il2, il3, il4, il5, il6, il7, il8, il9, il10, il11, il12, il15, il16, il20, il24, il31, il32, il44, il45, il48, il50, il57, il58, il59, il63, il91, il93, il97, il99, il100, il109, il113, il119, il120, il122, il200, il255, il480, il500, il501, il512, il999, il4112, il41120, il1000000, il1000003, ii_add, ii_sub, ii_mul, ii_neg, ii_le, ii_lt, ii_eq, ii_div, q_I, q_V, q_R, lt_q, rZ_q, md_M, md_16, md_4, md_8, md_10, if_true, if_false, if_pos, if_neg, mg_3, mg_0, mg_1, mg_2, mg_k, mg_up3, mg_upk, hnl, hik]
        rw [fX7_buy_21, nV, il2, hrf, nC, q_I, if_neg (show ¬ ii 1 = (0 : Int32) by decide), up_up]
        rfl
  · obtain ⟨h10, h1⟩ := hI.nl hl
    refine Good_nl hI (v := 0) ?_ (hF_IS _ 1 rfl _ _) ?_
    · rw [fX6_buy, lkV hk, c_chase0 hk h10, k_E]
    · rw [fX7_buy, nV, e_notL0 h1, nC, q_I, if_neg (show ¬ ii 1 = (0 : Int32) by decide)]
      rfl
end CHG2
