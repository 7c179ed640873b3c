/-! CALLS THAT SOLVE WITH ONE BLOCK MORE -/
def fiN (M : AI) (g o : Int → Int) (r L : Int) : Int := if cel g r 0 < 6 ∧ L ≤ gapM M g r then (if (chL M (gAdds g r L) o r).1 < 1000000 then (chL M (gAdds g r L) o r).1 else -1) else -1
section OPS9
variable {C0 N0 n : Nat} {K : Nat × Nat} {c : CC} {A : AI} {J : JI} {M : AI} {g o : Int → Int} {pl sp tv cap : Nat} {f B : Int}
theorem need_adds (hM : SA M) (hG : GC M g B) (r : Int) (hr : 0 ≤ r ∧ r < M 0 3) (L : Int) (hL : (1 ≤ L ∧ L ≤ 200) ∧ L ≤ gapM M g r) (h6 : cel g r 0 < 6) : needM M (gAdds g r L) r = needM M g r - L := by
  have h38 := hM.1.2.1
  have hg := hG.1.1 r hr.1 (by omega)
  have h1 := hg.1
  have h2 := hg.2.1
  have e := fun (r2 w : Int) (a : 0 ≤ r2) (b : 0 ≤ w ∧ w < 512) => cel_gAdds g r L r2 w ⟨⟨⟨hr.1, a⟩, b⟩, hg.1⟩
  have e1 := e r 1 hr.1 (by omega)
  rw [if_neg (by omega), if_neg (by omega)] at e1
  have ep : ∀ k, 0 ≤ k → k < cel g r 1 → cel (gAdds g r L) r (11 + k) = cel g r (11 + k) := fun k a b => by rw [e r _ hr.1 (by omega), if_neg (by omega), if_neg (by omega)]
  rw [((hG.adds hM hr L hL h6).need hM hr).2.1, (hG.need hM hr).2.1, suB_adds hg hr.1 L, suP_cong e1 ep]
  omega
theorem canO_adds {r : Int} (hg : RG g r) (hr : 0 ≤ r) (L : Int) : canO (gAdds g r L) r ↔ canO g r := by
  have h1 := hg.1
  unfold canO
  rw [cel_gAdds g r L r 2 (by omega), if_neg (by omega), if_neg (by omega), lo_gAdds _ _ _ _ (by omega)]
theorem chX_adds (hM : SA M) (hG : GC M g B) (hO : ordOK (M 1) (M 2) (M 0 9) o) (r : Int) (hr : 0 ≤ r ∧ r < M 0 3) (L : Int) (hL : (1 ≤ L ∧ L ≤ 200) ∧ L ≤ gapM M g r) (h6 : cel g r 0 < 6) : chX (FW (M 0 9) o (M 2) (stM M g) 0) (if canO g r then 1 else 0) (needM M g r - L) (M 0 4) (M 0 5) = chL M (gAdds g r L) o r := by
  have h38 := hM.1.2.1
  have h9 := hM.1.2.2.2.2.2.2.2
  have hg := hG.1.1 r hr.1 (by omega)
  have h1 := hg.1
  have e : FW (M 0 9) o (M 2) (stM M (gAdds g r L)) 0 = FW (M 0 9) o (M 2) (stM M g) 0 := by
    funext s
    refine FW_cg _ _ _ _ _ _ _ fun q a b => ?_
    have := hO.1 q a b
    unfold stM
    rw [lo_gAdds _ _ _ _ (by omega)]
  rw [← ch_eq, e, need_adds hM hG r hr L hL h6]
  congr 1
  by_cases y : canO g r
  · rw [if_pos y, if_pos ((canO_adds hg hr.1 L).mpr y)]
  · rw [if_neg y, if_neg (fun z => y ((canO_adds hg hr.1 L).mp z))]
theorem c_fewestWith (hk : isLock c pl sp tv cap) (hS : SR A J 303 (M 2) g f) (p0 : A pl 0 = M 0 2) (p2 : A pl 2 = M 0 4) (p3 : A pl 3 = M 0 5) (hM : SA M) (hG : GC M g B) (h37 : M 0 37 = -1) (hO : ordOK (M 1) (M 2) (M 0 9) o) (hv : svA A pl M g o) (r : Int) (hr : 0 ≤ r ∧ r < M 0 3) (L : Int) (hL : 1 ≤ L ∧ L ≤ 200) :
    ∃ A', fX6_fewestWith 0 (rc 303 r) (ii L) (CW c A J) = some (Sum.inl (some (Value.int (ii (fiN M g o r L)))), CW c A' J) ∧ ∀ (b : Nat) (z : Int), b ≠ 4 → b ≠ 20 → A' b z = A b z := by
  have hNow : isState c 303 := hk.2.1.2.2.2.1
  have hSv : isSolver c 4 := hk.2.1.2.1
  have hPl : isPlan c pl := hk.2.2.2.1.2.1
  have hap := hk.2.2.2.1.1
  have h38 := hM.1.2.1
  have h9 := hM.1.2.2.2.2.2.2.2
  have hgr := hG.1.1 r hr.1 (by omega)
  have hR := hNow.row r (by omega)
  have htb := c_takesBlock hR hPl (hS.2 r hr.1 (by omega)) hgr hM p0 p2 L (by omega)
  have hrm := c_room (c := c) hPl hNow hS p0 hM hG r hr
  have hch := s_canHave hNow hS hG.1.1 r (by omega) hG.h0
  have hN := hG.need hM hr
  unfold fiN
  by_cases y : cel g r 0 < 6 ∧ L ≤ gapM M g r
  · rw [if_pos y] at htb
    rw [if_pos y]
    have hq : 0 ≤ (if canO g r then 1 else 0 : Int) ∧ (if canO g r then 1 else 0 : Int) ≤ 1 := by split <;> omega
    have hN2 := ((hG.adds hM hr L ⟨hL, y.2⟩ y.1).need hM hr).1
    have hna := need_adds hM hG r hr L ⟨hL, y.2⟩ y.1
    obtain ⟨A', e1, e2, e3⟩ := v_choose (c := c) (J := J) (A := A) hSv hPl (by omega) (M 0 9) (M 0 2) o (M 2) (stM M g) h9 (by have := hM.1.1; omega) hv.1 (svB_of hM hG.GL h37 hO) (fun p q a b d e => ord_inj hO p q ⟨a, b⟩ ⟨d, e⟩) hv.2 (if canO g r then 1 else 0) (needM M g r - L) (M 0 4) (M 0 5) hq (by omega) p2 p3 (by have := hM.1.2.2.1; omega) (by have := hM.1.2.2.2.1; omega)
    rw [chX_adds hM hG hO r hr L ⟨hL, y.2⟩ y.1] at e1 e2
    have hb1 := (chL_b (o := o) hM hN2).1
    refine ⟨A', ?_, e3⟩
    by_cases w : (chL M (gAdds g r L) o r).1 < 1000000
    · rw [if_pos w] at e1 ⊢
      have e5 := (e2 w).1.1
      simp (disch := first | assumption | omega) only [fX6_fewestWith, lkV hk, lkR0 hk, lkR1 hk, lkR2 hk, lkR3 hk, lkR4 hk, lkR5 hk, lkR6 hk, lkR7 hk, lkR8 hk, lkR9 hk, lkI hk, k_E, t_E, rwI1, rwS1, rwI2, rwS2, rwI4, rwS4, rwI5, rwS5, rwI7, rwS7, rwI8, rwS8, rwI9, rwS9, rwR0, rwR3, rwR6, rwA1, rwU1, rwA3, rwU3, rwV, rwJ, rwUJ, plI0, plS0, plI1, plS1, plI2, plS2, plI3, plS3, plI4, plS4, plI5, plS5, plI6, plS6, plI7, plS7, plR8, plR9, plR10, plA1, plU1, plA2, plU2, plA3, plU3, plV, stI2, stS2, stI3, stS3, stI4, stS4, stI5, stS5, stI6, stS6, stI7, stS7, stR0, stR1, stA2, stU2, stV, stRow, svI5, svS5, svI6, svS6, svI7, svS7, svR0, svR1, svR2, svR3, svR4, svA13, svU13, svA14, svU14, svA15, svU15, svA16, svU16, svV, svRow, svF, svUF, hiI1, hiS1, hiI2, hiS2, hiR0, hiV, hiRow, rdI2, rdS2, rdI3, rdS3, rdI4, rdS4, rdI5, rdS5, rdI6, rdS6, rdI7, rdS7, rdI8, rdS8, rdR0, rdR1, rdA1, rdU1, rdA2, rdU2, rdV, k_C, ↓reduceIte, tr_lt, fa_lt, tr_le, fa_le, tr_eq, fa_eq, and_true, true_and, and_false, false_and, il0, il1, il2, il3, il4, il5, il6, il7, il8, il9, il10, il11, il12, il15, il16, il20, il24, il31, il32, il44, il45, il48, il50, il57, il58, il59, il63, il91, il93, il97, il99, il100, il109, il113, il119, il120, il122, il200, il255, il480, il500, il501, il512, il999, il4112, il41120, il1000000, il1000003, ii_add, ii_sub, ii_mul, ii_neg, ii_le, ii_lt, ii_eq, ii_div, q_I, q_V, q_R, lt_q, rZ_q, md_M, md_16, md_4, md_8, md_10, if_true, if_false, if_pos, if_neg, htb, hrm, hch, e1, e5]
    · rw [if_neg w] at e1 ⊢
      simp (disch := first | assumption | omega) only [fX6_fewestWith, lkV hk, lkR0 hk, lkR1 hk, lkR2 hk, lkR3 hk, lkR4 hk, lkR5 hk, lkR6 hk, lkR7 hk, lkR8 hk, lkR9 hk, lkI hk, k_E, t_E, rwI1, rwS1, rwI2, rwS2, rwI4, rwS4, rwI5, rwS5, rwI7, rwS7, rwI8, rwS8, rwI9, rwS9, rwR0, rwR3, rwR6, rwA1, rwU1, rwA3, rwU3, rwV, rwJ, rwUJ, plI0, plS0, plI1, plS1, plI2, plS2, plI3, plS3, plI4, plS4, plI5, plS5, plI6, plS6, plI7, plS7, plR8, plR9, plR10, plA1, plU1, plA2, plU2, plA3, plU3, plV, stI2, stS2, stI3, stS3, stI4, stS4, stI5, stS5, stI6, stS6, stI7, stS7, stR0, stR1, stA2, stU2, stV, stRow, svI5, svS5, svI6, svS6, svI7, svS7, svR0, svR1, svR2, svR3, svR4, svA13, svU13, svA14, svU14, svA15, svU15, svA16, svU16, svV, svRow, svF, svUF, hiI1, hiS1, hiI2, hiS2, hiR0, hiV, hiRow, rdI2, rdS2, rdI3, rdS3, rdI4, rdS4, rdI5, rdS5, rdI6, rdS6, rdI7, rdS7, rdI8, rdS8, rdR0, rdR1, rdA1, rdU1, rdA2, rdU2, rdV, k_C, ↓reduceIte, tr_lt, fa_lt, tr_le, fa_le, tr_eq, fa_eq, and_true, true_and, and_false, false_and, il0, il1, il2, il3, il4, il5, il6, il7, il8, il9, il10, il11, il12, il15, il16, il20, il24, il31, il32, il44, il45, il48, il50, il57, il58, il59, il63, il91, il93, il97, il99, il100, il109, il113, il119, il120, il122, il200, il255, il480, il500, il501, il512, il999, il4112, il41120, il1000000, il1000003, ii_add, ii_sub, ii_mul, ii_neg, ii_le, ii_lt, ii_eq, ii_div, q_I, q_V, q_R, lt_q, rZ_q, md_M, md_16, md_4, md_8, md_10, if_true, if_false, if_pos, if_neg, htb, hrm, hch, e1]
  · rw [if_neg y] at htb
    rw [if_neg y]
    refine ⟨A, ?_, fun _ _ _ _ => rfl⟩
    simp (disch := first | assumption | omega) only [fX6_fewestWith, lkV hk, lkR0 hk, lkR1 hk, lkR2 hk, lkR3 hk, lkR4 hk, lkR5 hk, lkR6 hk, lkR7 hk, lkR8 hk, lkR9 hk, lkI hk, k_E, t_E, rwI1, rwS1, rwI2, rwS2, rwI4, rwS4, rwI5, rwS5, rwI7, rwS7, rwI8, rwS8, rwI9, rwS9, rwR0, rwR3, rwR6, rwA1, rwU1, rwA3, rwU3, rwV, rwJ, rwUJ, plI0, plS0, plI1, plS1, plI2, plS2, plI3, plS3, plI4, plS4, plI5, plS5, plI6, plS6, plI7, plS7, plR8, plR9, plR10, plA1, plU1, plA2, plU2, plA3, plU3, plV, stI2, stS2, stI3, stS3, stI4, stS4, stI5, stS5, stI6, stS6, stI7, stS7, stR0, stR1, stA2, stU2, stV, stRow, svI5, svS5, svI6, svS6, svI7, svS7, svR0, svR1, svR2, svR3, svR4, svA13, svU13, svA14, svU14, svA15, svU15, svA16, svU16, svV, svRow, svF, svUF, hiI1, hiS1, hiI2, hiS2, hiR0, hiV, hiRow, rdI2, rdS2, rdI3, rdS3, rdI4, rdS4, rdI5, rdS5, rdI6, rdS6, rdI7, rdS7, rdI8, rdS8, rdR0, rdR1, rdA1, rdU1, rdA2, rdU2, rdV, k_C, ↓reduceIte, tr_lt, fa_lt, tr_le, fa_le, tr_eq, fa_eq, and_true, true_and, and_false, false_and, il0, il1, il2, il3, il4, il5, il6, il7, il8, il9, il10, il11, il12, il15, il16, il20, il24, il31, il32, il44, il45, il48, il50, il57, il58, il59, il63, il91, il93, il97, il99, il100, il109, il113, il119, il120, il122, il200, il255, il480, il500, il501, il512, il999, il4112, il41120, il1000000, il1000003, ii_add, ii_sub, ii_mul, ii_neg, ii_le, ii_lt, ii_eq, ii_div, q_I, q_V, q_R, lt_q, rZ_q, md_M, md_16, md_4, md_8, md_10, if_true, if_false, if_pos, if_neg, htb]
theorem m_fewestIf (hM : SA M) (hG : GC M g B) (h37 : M 0 37 = -1) (hO : ordOK (M 1) (M 2) (M 0 9) o) (r : Int) (hr : 0 ≤ r ∧ r < M 0 3) (L : Int) (hL : 1 ≤ L ∧ L ≤ 200) :
    ∃ (M' : AI) (g' : Int → Int), fX7_fewestIf 0 (ii r) (ii L) (NW K (mg M g)) = some (Sum.inl (some (Value.int (ii (fiN M g o r L)))), NW K (mg M' g')) ∧ scr4 M M' ∧ ∀ z, 0 ≤ z → z < 4112 → g' z = g z := by
  have h38 := hM.1.2.1
  have h9 := hM.1.2.2.2.2.2.2.2
  have hr8 : 0 ≤ r ∧ r < 8 := by omega
  have hgr := hG.1.1 r hr.1 (by omega)
  have h1 := hgr.1
  have hgp := e_gap (K := K) hM hr8 hgr
  have hgb := gapM_b hM hgr
  unfold fiN
  by_cases y6 : cel g r 0 < 6
  · by_cases yL : L ≤ gapM M g r
    · rw [if_pos ⟨y6, yL⟩]
      obtain ⟨X, x1, x2⟩ := e_putsAside (K := K) (M := M) (g := g)
      have hM4 : SA (cA4 M X) := hM
      have hG4 : GC (cA4 M X) g B := hG
      have hGa : GC (cA4 M X) (gAdds g r L) B := hG4.adds hM4 hr L ⟨hL, yL⟩ y6
      have hgr2 := hGa.1.1 r hr.1 (by omega)
      have a1 := e_adds (K := K) (A := cA4 M X) L hr8 hgr
      obtain ⟨M', m1, ms, m36, m12, m14⟩ := e_chooses (K := K) (A := cA4 M X) (o := o) hM4 hGa.GL (by show -1 ≤ M 0 37 ∧ M 0 37 < 10; omega) hO hr8 hgr2 hGa.h0 (hGa.need hM4 hr).1
      have es : scr4 M M' := (scr4_c4 M X).trans ms.s4
      have e4 : ∀ z, M' 4 z = X z := fun z => ms.2 4 z (by omega) (by omega)
      have ec : chL (cA4 M X) (gAdds g r L) o r = chL M (gAdds g r L) o r := rfl
      rw [ec] at m1
      by_cases w : (chL M (gAdds g r L) o r).1 < 1000000
      · rw [if_pos w] at m1 ⊢
        obtain ⟨s1, -⟩ := m_many (o := o) hM4 hGa.GL hO r (hGa.need hM4 hr).1 w ms (m14 w)
        rw [ec] at s1
        have h14 := e_chosenMany0 (K := K) (A := M') (g := gAdds g r L) (by rw [ms.1 9 (by omega)]; exact h9)
        rw [s1] at h14
        obtain ⟨h, b1, b2⟩ := e_fetchesBack (K := K) (M := M') (g := gAdds g r L) (chL M (gAdds g r L) o r).1
        refine ⟨M', h, ?_, es, fun z a b => by rw [b2 z a b, e4, x2 z a b]⟩
        simp (disch := first | assumption | omega) only [fX7_fewestIf, fX7_fewestIf_52, nR1, nA1, nU1, nR2, nA2, nU2, nR3, nA3, nU3, nR4, nA4, nU4, nR5, nA5, nU5, nR6, nA6, nU6, nR7, nA7, nU7, nR8, nA8, nU8, nR9, nA9, nU9, nR10, nA10, nU10, nR11, nA11, nU11, nR12, nA12, nU12, nR13, nA13, nU13, nR14, nA14, nU14, nR15, nA15, nU15, nR16, nA16, nU16, nI0, nS0, nI1, nS1, nI2, nS2, nI3, nS3, nI4, nS4, nI5, nS5, nI6, nS6, nI7, nS7, nI8, nS8, nI9, nS9, nI15, nS15, nI18, nS18, nI19, nS19, nI20, nS20, nI21, nS21, nI22, nS22, nI23, nS23, nI24, nS24, nI25, nS25, nI26, nS26, nI27, nS27, nI32, nS32, nI36, nS36, nI37, nS37, nI40, nS40, nSZ1, nV, nC, ↓reduceIte, tr_lt, fa_lt, tr_le, fa_le, tr_eq, fa_eq, and_true, true_and, and_false, false_and, il0, il1, il2, il3, il4, il5, il6, il7, il8, il9, il10, il11, il12, il15, il16, il20, il24, il31, il32, il44, il45, il48, il50, il57, il58, il59, il63, il91, il93, il97, il99, il100, il109, il113, il119, il120, il122, il200, il255, il480, il500, il501, il512, il999, il4112, il41120, il1000000, il1000003, ii_add, ii_sub, ii_mul, ii_neg, ii_le, ii_lt, ii_eq, ii_div, q_I, q_V, q_R, lt_q, rZ_q, md_M, md_16, md_4, md_8, md_10, if_true, if_false, if_pos, if_neg, mg_3, mg_0, mg_1, mg_2, mg_k, mg_up3, mg_upk, e_of, hgp, x1, a1, m1, h14, b1]
      · rw [if_neg w] at m1 ⊢
        obtain ⟨h, b1, b2⟩ := e_fetchesBack (K := K) (M := M') (g := gAdds g r L) (-1)
        refine ⟨M', h, ?_, es, fun z a b => by rw [b2 z a b, e4, x2 z a b]⟩
        simp (disch := first | assumption | omega) only [fX7_fewestIf, fX7_fewestIf_52, nR1, nA1, nU1, nR2, nA2, nU2, nR3, nA3, nU3, nR4, nA4, nU4, nR5, nA5, nU5, nR6, nA6, nU6, nR7, nA7, nU7, nR8, nA8, nU8, nR9, nA9, nU9, nR10, nA10, nU10, nR11, nA11, nU11, nR12, nA12, nU12, nR13, nA13, nU13, nR14, nA14, nU14, nR15, nA15, nU15, nR16, nA16, nU16, nI0, nS0, nI1, nS1, nI2, nS2, nI3, nS3, nI4, nS4, nI5, nS5, nI6, nS6, nI7, nS7, nI8, nS8, nI9, nS9, nI15, nS15, nI18, nS18, nI19, nS19, nI20, nS20, nI21, nS21, nI22, nS22, nI23, nS23, nI24, nS24, nI25, nS25, nI26, nS26, nI27, nS27, nI32, nS32, nI36, nS36, nI37, nS37, nI40, nS40, nSZ1, nV, nC, ↓reduceIte, tr_lt, fa_lt, tr_le, fa_le, tr_eq, fa_eq, and_true, true_and, and_false, false_and, il0, il1, il2, il3, il4, il5, il6, il7, il8, il9, il10, il11, il12, il15, il16, il20, il24, il31, il32, il44, il45, il48, il50, il57, il58, il59, il63, il91, il93, il97, il99, il100, il109, il113, il119, il120, il122, il200, il255, il480, il500, il501, il512, il999, il4112, il41120, il1000000, il1000003, ii_add, ii_sub, ii_mul, ii_neg, ii_le, ii_lt, ii_eq, ii_div, q_I, q_V, q_R, lt_q, rZ_q, md_M, md_16, md_4, md_8, md_10, if_true, if_false, if_pos, if_neg, mg_3, mg_0, mg_1, mg_2, mg_k, mg_up3, mg_upk, e_of, hgp, x1, a1, m1, b1]
    · rw [if_neg (fun z => yL z.2)]
      refine ⟨M, g, ?_, (scr.refl M).s4, fun _ _ _ => rfl⟩
      simp (disch := first | assumption | omega) only [fX7_fewestIf, nR1, nA1, nU1, nR2, nA2, nU2, nR3, nA3, nU3, nR4, nA4, nU4, nR5, nA5, nU5, nR6, nA6, nU6, nR7, nA7, nU7, nR8, nA8, nU8, nR9, nA9, nU9, nR10, nA10, nU10, nR11, nA11, nU11, nR12, nA12, nU12, nR13, nA13, nU13, nR14, nA14, nU14, nR15, nA15, nU15, nR16, nA16, nU16, nI0, nS0, nI1, nS1, nI2, nS2, nI3, nS3, nI4, nS4, nI5, nS5, nI6, nS6, nI7, nS7, nI8, nS8, nI9, nS9, nI15, nS15, nI18, nS18, nI19, nS19, nI20, nS20, nI21, nS21, nI22, nS22, nI23, nS23, nI24, nS24, nI25, nS25, nI26, nS26, nI27, nS27, nI32, nS32, nI36, nS36, nI37, nS37, nI40, nS40, nSZ1, nV, nC, ↓reduceIte, tr_lt, fa_lt, tr_le, fa_le, tr_eq, fa_eq, and_true, true_and, and_false, false_and, il0, il1, il2, il3, il4, il5, il6, il7, il8, il9, il10, il11, il12, il15, il16, il20, il24, il31, il32, il44, il45, il48, il50, il57, il58, il59, il63, il91, il93, il97, il99, il100, il109, il113, il119, il120, il122, il200, il255, il480, il500, il501, il512, il999, il4112, il41120, il1000000, il1000003, ii_add, ii_sub, ii_mul, ii_neg, ii_le, ii_lt, ii_eq, ii_div, q_I, q_V, q_R, lt_q, rZ_q, md_M, md_16, md_4, md_8, md_10, if_true, if_false, if_pos, if_neg, mg_3, mg_0, mg_1, mg_2, mg_k, mg_up3, mg_upk, e_of, hgp]
  · rw [if_neg (fun z => y6 z.1)]
    refine ⟨M, g, ?_, (scr.refl M).s4, fun _ _ _ => rfl⟩
    simp (disch := first | assumption | omega) only [fX7_fewestIf, nR1, nA1, nU1, nR2, nA2, nU2, nR3, nA3, nU3, nR4, nA4, nU4, nR5, nA5, nU5, nR6, nA6, nU6, nR7, nA7, nU7, nR8, nA8, nU8, nR9, nA9, nU9, nR10, nA10, nU10, nR11, nA11, nU11, nR12, nA12, nU12, nR13, nA13, nU13, nR14, nA14, nU14, nR15, nA15, nU15, nR16, nA16, nU16, nI0, nS0, nI1, nS1, nI2, nS2, nI3, nS3, nI4, nS4, nI5, nS5, nI6, nS6, nI7, nS7, nI8, nS8, nI9, nS9, nI15, nS15, nI18, nS18, nI19, nS19, nI20, nS20, nI21, nS21, nI22, nS22, nI23, nS23, nI24, nS24, nI25, nS25, nI26, nS26, nI27, nS27, nI32, nS32, nI36, nS36, nI37, nS37, nI40, nS40, nSZ1, nV, nC, ↓reduceIte, tr_lt, fa_lt, tr_le, fa_le, tr_eq, fa_eq, and_true, true_and, and_false, false_and, il0, il1, il2, il3, il4, il5, il6, il7, il8, il9, il10, il11, il12, il15, il16, il20, il24, il31, il32, il44, il45, il48, il50, il57, il58, il59, il63, il91, il93, il97, il99, il100, il109, il113, il119, il120, il122, il200, il255, il480, il500, il501, il512, il999, il4112, il41120, il1000000, il1000003, ii_add, ii_sub, ii_mul, ii_neg, ii_le, ii_lt, ii_eq, ii_div, q_I, q_V, q_R, lt_q, rZ_q, md_M, md_16, md_4, md_8, md_10, if_true, if_false, if_pos, if_neg, mg_3, mg_0, mg_1, mg_2, mg_k, mg_up3, mg_upk, e_of]
end OPS9
