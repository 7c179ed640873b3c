/-! CALLS THAT SOLVE, III -/
theorem scr37 {M M2 : AI} (h : scr M M2) (k : Int) : scr (up M 0 37 k) (up M2 0 37 k) := by
  refine ⟨fun z q => ?_, fun b z q p => ?_⟩
  · by_cases y : z = 37
    · rw [y, up_s, up_s]
    · rw [up_n _ _ _ _ _ _ (fun e => y e.2), up_n _ _ _ _ _ _ (fun e => y e.2)]; exact h.1 z q
  · rw [up_n _ _ _ _ _ _ (by omega), up_n _ _ _ _ _ _ (by omega)]; exact h.2 b z q p
theorem scr37b {M M2 M3 : AI} (h : scr M M2) (h37 : M 0 37 = -1) (k : Int) (h3 : scr (up M2 0 37 k) M3) : scr M (up M3 0 37 (-1)) := by
  refine ⟨fun z q => ?_, fun b z q p => ?_⟩
  · by_cases y : z = 37
    · rw [y, up_s, h37]
    · rw [up_n _ _ _ _ _ _ (fun e => y e.2), h3.1 z q, up_n _ _ _ _ _ _ (fun e => y e.2)]; exact h.1 z q
  · rw [up_n _ _ _ _ _ _ (by omega), h3.2 b z q p, up_n _ _ _ _ _ _ (by omega)]; exact h.2 b z q p
theorem chL_cg {A A' : AI} (h : scr A A') (g o : Int → Int) (r : Int) : chL A' g o r = chL A g o r := by
  unfold chL
  rw [scr_need h, scr_st h, h.c2, h.1 9 (by omega), h.1 4 (by omega), h.1 5 (by omega)]
theorem need37 (M : AI) (k : Int) (g : Int → Int) (r : Int) : needM (up M 0 37 k) g r = needM M g r := rfl
theorem chX_37 {M : AI} {g o : Int → Int} {r k : Int} (h37 : M 0 37 = -1) (ho : ∀ p, 0 ≤ p → p < M 0 9 → 0 ≤ o p) : chX (FW (M 0 9) o (M 2) (stx (stM M g) k) 0) (if canO g r then 1 else 0) (needM M g r) (M 0 4) (M 0 5) = chL (up M 0 37 k) g o r := by
  have e : FW (up M 0 37 k 0 9) o (up M 0 37 k 2) (stM (up M 0 37 k) g) 0 = FW (M 0 9) o (M 2) (stx (stM M g) k) 0 := by
    funext s
    refine FW_cg _ _ _ _ _ _ _ fun q a b => ?_
    have h1 := ho q a b
    show g (6 + o q) + (if o q = up M 0 37 k 0 37 then 1 else 0) = (g (6 + o q) + (if o q = M 0 37 then 1 else 0)) + (if o q = k then 1 else 0)
    rw [up_s, if_neg (by omega : ¬ o q = M 0 37)]
    omega
  rw [← ch_eq, e, need37]
  rfl
section OPS7
variable {C0 N0 n : Nat} {K : Nat × Nat} {c : CC} {A : AI} {J : JI} {M : AI} {g o : Int → Int} {pl sp tv cap S : Nat} {f B : Int}
theorem c_stock (hk : isLock c pl sp tv cap) (hSt : isState c S) : fX4_stockFrom 4 S (CW c A J) = some (Sum.inl none, CW c (cpA A (S + 2) (4 + 15) 10) J) := by
  have hSv : isSolver c 4 := hk.2.1.2.1
  have hcp := k_cp (c := c) (A := A) (J := J) hSt.1.2.2 hSv.1.2.2.2.2.1 10 (by omega) (fun s3 => some (.inl none, s3))
  rw [fX4_stockFrom, k_gR hSt.1.1 hSt.2.1.2, k_gR hSv.1.1 hSv.2.1.2.2.2.1]
  exact hcp
theorem m_waysLoop (r : Int) (hM : SA M) (hr : 0 ≤ r ∧ r < 8) (hg : RG g r) (hN : 0 ≤ needM M g r ∧ needM M g r ≤ 500) (F : Int → Int) (hF : ∀ z, 0 ≤ F z ∧ F z < 1000003) (ht : ∀ z, 0 ≤ z → z ≤ needM M g r → M 15 z = F z) :
    fX7_ways_56 FU 0 (ii r) (ii (if canO g r then M 0 5 else -1)) (ii 0) (ii (if canO g r then 0 else -1)) (NW K (mg M g)) = some (Sum.inl (some (Value.int (ii (waX F (if canO g r then 1 else 0) (needM M g r) (M 0 4) (M 0 5))))), NW K (mg M g)) := by
  have h4 := hM.1.2.2.1
  have h5 := hM.1.2.2.2.1
  by_cases y : canO g r
  · rw [if_pos y, if_pos y, if_pos y]
    unfold waX
    rw [if_neg (by omega)]
    refine lp (fun m i (s : Int) => fX7_ways_56 m 0 (ii r) (ii (M 0 5)) (ii s) (ii i) (NW K (mg M g))) (fun x => x = _) (fun i s => 0 ≤ i ∧ s = waN F (needM M g r - M 0 4) i.toNat) (M 0 5 + 1) ?_ ?_ FU 0 0 (by omega) ⟨by omega, rfl⟩ (by have := FU_e; omega)
    · rintro m i s hi ⟨hI, hs⟩
      have hsb := waN_b F (needM M g r - M 0 4) i.toNat
      rw [← hs] at hsb
      have hsum := e_sumFor (K := K) hM hr hg i (by omega)
      rw [if_neg (by omega)] at hsum
      have e : waN F (needM M g r - M 0 4) (i + 1).toNat = if 0 ≤ needM M g r - M 0 4 - i then (s + F (needM M g r - M 0 4 - i)) % 1000003 else s := by
        rw [show (i + 1).toNat = i.toNat + 1 by omega]
        unfold waN
        rw [← hs, show ((i.toNat : Nat) : Int) = i by omega]
      refine Or.inr ⟨_, ⟨by omega, rfl⟩, ?_⟩
      rw [e]
      by_cases z : 0 ≤ needM M g r - M 0 4 - i
      · have hFb := hF (needM M g r - M 0 4 - i)
        have ht2 := ht _ z (by omega)
        simp (disch := first | assumption | omega) only [fX7_ways_56, fX7_ways_95, il1000003, nR1, nA1, nU1, nR2, nA2, nU2, nR3, nA3, nU3, nR4, nA4, nU4, nR5, nA5, nU5, nR6, nA6, nU6, nR7, nA7, nU7, nR8, nA8, nU8, nR9, nA9, nU9, nR10, nA10, nU10, nR11, nA11, nU11, nR12, nA12, nU12, nR13, nA13, nU13, nR14, nA14, nU14, nR15, nA15, nU15, nR16, nA16, nU16, nI0, nS0, nI1, nS1, nI2, nS2, nI3, nS3, nI4, nS4, nI5, nS5, nI6, nS6, nI7, nS7, nI8, nS8, nI9, nS9, nI15, nS15, nI18, nS18, nI19, nS19, nI20, nS20, nI21, nS21, nI22, nS22, nI23, nS23, nI24, nS24, nI25, nS25, nI26, nS26, nI27, nS27, nI32, nS32, nI36, nS36, nI37, nS37, nI40, nS40, nSZ1, nV, nC, ↓reduceIte, tr_lt, fa_lt, tr_le, fa_le, tr_eq, fa_eq, and_true, true_and, and_false, false_and, il0, il1, il2, il3, il4, il5, il6, il7, il8, il9, il10, il11, il12, il15, il16, il20, il24, il31, il32, il44, il45, il48, il50, il57, il58, il59, il63, il91, il93, il97, il99, il100, il109, il113, il119, il120, il122, il200, il255, il480, il500, il501, il512, il999, il4112, il41120, il1000000, il1000003, ii_add, ii_sub, ii_mul, ii_neg, ii_le, ii_lt, ii_eq, ii_div, q_I, q_V, q_R, lt_q, rZ_q, md_M, md_16, md_4, md_8, md_10, if_true, if_false, if_pos, if_neg, mg_3, mg_0, mg_1, mg_2, mg_k, mg_up3, mg_upk, hsum, ht2]
      · simp (disch := first | assumption | omega) only [fX7_ways_56, fX7_ways_95, il1000003, nR1, nA1, nU1, nR2, nA2, nU2, nR3, nA3, nU3, nR4, nA4, nU4, nR5, nA5, nU5, nR6, nA6, nU6, nR7, nA7, nU7, nR8, nA8, nU8, nR9, nA9, nU9, nR10, nA10, nU10, nR11, nA11, nU11, nR12, nA12, nU12, nR13, nA13, nU13, nR14, nA14, nU14, nR15, nA15, nU15, nR16, nA16, nU16, nI0, nS0, nI1, nS1, nI2, nS2, nI3, nS3, nI4, nS4, nI5, nS5, nI6, nS6, nI7, nS7, nI8, nS8, nI9, nS9, nI15, nS15, nI18, nS18, nI19, nS19, nI20, nS20, nI21, nS21, nI22, nS22, nI23, nS23, nI24, nS24, nI25, nS25, nI26, nS26, nI27, nS27, nI32, nS32, nI36, nS36, nI37, nS37, nI40, nS40, nSZ1, nV, nC, ↓reduceIte, tr_lt, fa_lt, tr_le, fa_le, tr_eq, fa_eq, and_true, true_and, and_false, false_and, il0, il1, il2, il3, il4, il5, il6, il7, il8, il9, il10, il11, il12, il15, il16, il20, il24, il31, il32, il44, il45, il48, il50, il57, il58, il59, il63, il91, il93, il97, il99, il100, il109, il113, il119, il120, il122, il200, il255, il480, il500, il501, il512, il999, il4112, il41120, il1000000, il1000003, ii_add, ii_sub, ii_mul, ii_neg, ii_le, ii_lt, ii_eq, ii_div, q_I, q_V, q_R, lt_q, rZ_q, md_M, md_16, md_4, md_8, md_10, if_true, if_false, if_pos, if_neg, mg_3, mg_0, mg_1, mg_2, mg_k, mg_up3, mg_upk, hsum]
    · rintro m s ⟨hI, hs⟩
      have : waN F (needM M g r - M 0 4) (M 0 5 + 1).toNat = s := hs.symm
      rw [this]
      simp (disch := first | assumption | omega) only [fX7_ways_56, nR1, nA1, nU1, nR2, nA2, nU2, nR3, nA3, nU3, nR4, nA4, nU4, nR5, nA5, nU5, nR6, nA6, nU6, nR7, nA7, nU7, nR8, nA8, nU8, nR9, nA9, nU9, nR10, nA10, nU10, nR11, nA11, nU11, nR12, nA12, nU12, nR13, nA13, nU13, nR14, nA14, nU14, nR15, nA15, nU15, nR16, nA16, nU16, nI0, nS0, nI1, nS1, nI2, nS2, nI3, nS3, nI4, nS4, nI5, nS5, nI6, nS6, nI7, nS7, nI8, nS8, nI9, nS9, nI15, nS15, nI18, nS18, nI19, nS19, nI20, nS20, nI21, nS21, nI22, nS22, nI23, nS23, nI24, nS24, nI25, nS25, nI26, nS26, nI27, nS27, nI32, nS32, nI36, nS36, nI37, nS37, nI40, nS40, nSZ1, nV, nC, ↓reduceIte, tr_lt, fa_lt, tr_le, fa_le, tr_eq, fa_eq, and_true, true_and, and_false, false_and, il0, il1, il2, il3, il4, il5, il6, il7, il8, il9, il10, il11, il12, il15, il16, il20, il24, il31, il32, il44, il45, il48, il50, il57, il58, il59, il63, il91, il93, il97, il99, il100, il109, il113, il119, il120, il122, il200, il255, il480, il500, il501, il512, il999, il4112, il41120, il1000000, il1000003, ii_add, ii_sub, ii_mul, ii_neg, ii_le, ii_lt, ii_eq, ii_div, q_I, q_V, q_R, lt_q, rZ_q, md_M, md_16, md_4, md_8, md_10, if_true, if_false, if_pos, if_neg, mg_3, mg_0, mg_1, mg_2, mg_k, mg_up3, mg_upk]
  · rw [if_neg y, if_neg y, if_neg y]
    unfold waX
    rw [if_pos rfl]
    obtain ⟨m2, hFU⟩ : ∃ m, FU = m + 1 + 1 := ⟨99999998, rfl⟩
    rw [hFU]
    have hsum := e_sumFor (K := K) hM hr hg (-1) (by omega)
    rw [if_pos rfl] at hsum
    have hFb := hF (needM M g r)
    have ht2 := ht _ hN.1 (by omega)
    simp (disch := first | assumption | omega) only [fX7_ways_56, fX7_ways_95, il1000003, nR1, nA1, nU1, nR2, nA2, nU2, nR3, nA3, nU3, nR4, nA4, nU4, nR5, nA5, nU5, nR6, nA6, nU6, nR7, nA7, nU7, nR8, nA8, nU8, nR9, nA9, nU9, nR10, nA10, nU10, nR11, nA11, nU11, nR12, nA12, nU12, nR13, nA13, nU13, nR14, nA14, nU14, nR15, nA15, nU15, nR16, nA16, nU16, nI0, nS0, nI1, nS1, nI2, nS2, nI3, nS3, nI4, nS4, nI5, nS5, nI6, nS6, nI7, nS7, nI8, nS8, nI9, nS9, nI15, nS15, nI18, nS18, nI19, nS19, nI20, nS20, nI21, nS21, nI22, nS22, nI23, nS23, nI24, nS24, nI25, nS25, nI26, nS26, nI27, nS27, nI32, nS32, nI36, nS36, nI37, nS37, nI40, nS40, nSZ1, nV, nC, ↓reduceIte, tr_lt, fa_lt, tr_le, fa_le, tr_eq, fa_eq, and_true, true_and, and_false, false_and, il0, il1, il2, il3, il4, il5, il6, il7, il8, il9, il10, il11, il12, il15, il16, il20, il24, il31, il32, il44, il45, il48, il50, il57, il58, il59, il63, il91, il93, il97, il99, il100, il109, il113, il119, il120, il122, il200, il255, il480, il500, il501, il512, il999, il4112, il41120, il1000000, il1000003, ii_add, ii_sub, ii_mul, ii_neg, ii_le, ii_lt, ii_eq, ii_div, q_I, q_V, q_R, lt_q, rZ_q, md_M, md_16, md_4, md_8, md_10, if_true, if_false, if_pos, if_neg, mg_3, mg_0, mg_1, mg_2, mg_k, mg_up3, mg_upk, hsum, ht2]
    exact vcg (by omega)
theorem c_ways (K : Nat × Nat) (hI : Inv C0 N0 n pl sp tv cap c A J M g) (r : Int) (hl : M 0 1 = 1) (hr : 0 ≤ r ∧ r < up M 0 0 0 0 3) : ∃ A', fX6_ways 0 (ii r) (CW c A J) = some (Sum.inl (some (Value.int (ii (waX (wyN (up M 0 0 0 2) (stM (up M 0 0 0) g) (up M 0 0 0 0 9).toNat) (if canO g r then 1 else 0) (needM (up M 0 0 0) g r) (up M 0 0 0 0 4) (up M 0 0 0 0 5))))), CW c A' J) ∧ frm scC A A' J J := by
  have hk := hI.1
  have hRd : isReader c 1 := hk.2.1.1
  have hSv : isSolver c 4 := hk.2.1.2.1
  have hHi : isHist c 21 := hk.2.1.2.2.1
  have hNow : isState c 303 := hk.2.1.2.2.2.1
  have hSpr : isState c 338 := hk.2.1.2.2.2.2.1
  have hPl : isPlan c pl := hk.2.2.2.1.2.1
  have h00 : up M 0 0 0 0 0 = 0 := up_s _ _ _ _
  obtain ⟨h10, hM, hP, hS, hG⟩ := hI.ld hl
  obtain ⟨p0, p1, p2, p3, p4, p5, p6, p7⟩ := hP.1
  have hc1 := c_chase1 (A := A) (J := J) hk h10
  have e3 : up M 0 0 0 0 3 = M 0 3 := up_n _ _ _ _ _ _ (by omega)
  have e9 : up M 0 0 0 0 9 = M 0 9 := up_n _ _ _ _ _ _ (by omega)
  have h38 := hM.1.2.1
  have h910 := hM.1.2.2.2.2.2.2.2
  have hcr := c_row1 (A := A) (J := J) hk h10 r (by rw [p1]; exact hr) (by rw [p1]; exact h38.2)
  have hmr := e_noRow1 (K := K) (M := M) (g := g) hl r (by rw [← e3]; exact hr) (by rw [← e3]; exact h38.2)
  have hr8 : 0 ≤ r ∧ r < 8 := by omega
  have hR := hNow.row r hr8
  have hrr := hS.2 r hr.1 (by omega)
  have hgr := hG.1.1 r hr.1 (by omega)
  have h37 : up M 0 0 0 0 37 = -1 := (up_n _ _ _ _ _ _ (by omega)).trans hI.2.2.2.1
  have hN := (hG.need hM hr).1
  have h4 := hM.1.2.2.1
  have h5 := hM.1.2.2.2.1
  have hap := hk.2.2.2.1.1
  have hB := svB_of hM hG.GL h37 hP.2.2
  have e19 : ∀ (b : Nat) (z : Int), b ≠ 19 → cpA A (303 + 2) (4 + 15) 10 b z = A b z := fun b z h => cpA_n _ _ _ _ _ _ (by omega)
  have hst := c_stock (A := A) (J := J) hk hNow
  have hS2 : SR (cpA A (303 + 2) (4 + 15) 10) J 303 (up M 0 0 0 2) g (g 5) := SR_frame hS hG.1.1 (fun b z hb => e19 b z (by unfold inS at hb; omega)) (fun _ _ _ => rfl)
  have q0 : cpA A (303 + 2) (4 + 15) 10 pl 0 = up M 0 0 0 0 2 := by rw [e19 _ _ (by omega)]; exact p0
  have hrm := c_room (c := c) hPl hNow hS2 q0 hM hG r hr
  have hch := s_canHave hNow hS2 hG.1.1 r hr8 hG.h0
  obtain ⟨A', e1, f1⟩ := v_countWays (c := c) (A := cpA A (303 + 2) (4 + 15) 10) (J := J) hSv hPl (by omega) (up M 0 0 0 0 9) (up M 0 0 0 2) (stM (up M 0 0 0) g) h910 (by rw [e19 _ _ (by omega)]; exact p7) (fun k a b => by rw [e19 _ _ (by omega)]; exact (hP.2.1 k a b).2)
    (fun k a b => by rw [cpA_s _ _ _ _ _ (by omega), hS.1.2 k a (by omega), stM_0 h37 g k a]) hB.2.1 hB.2.2 (if canO g r then 1 else 0) (needM (up M 0 0 0) g r) (up M 0 0 0 0 4) (up M 0 0 0 0 5) (by split <;> omega) hN (by rw [e19 _ _ (by omega)]; exact p2) (by rw [e19 _ _ (by omega)]; exact p3) h4 h5
  refine ⟨A', ?_, fun b z hb => ?_, fun _ _ _ => rfl⟩
  · simp (disch := first | assumption | omega) only [fX6_ways, lkV hk, lkR0 hk, lkR1 hk, lkR2 hk, lkR3 hk, lkR4 hk, lkR5 hk, lkR6 hk, lkR7 hk, lkR8 hk, lkR9 hk, lkI hk, k_E, t_E, hcr, rwI1, rwS1, rwI2, rwS2, rwI4, rwS4, rwI5, rwS5, rwI7, rwS7, rwI8, rwS8, rwI9, rwS9, rwR0, rwR3, rwR6, rwA1, rwU1, rwA3, rwU3, rwV, rwJ, rwUJ, plI0, plS0, plI1, plS1, plI2, plS2, plI3, plS3, plI4, plS4, plI5, plS5, plI6, plS6, plI7, plS7, plR8, plR9, plR10, plA1, plU1, plA2, plU2, plA3, plU3, plV, stI2, stS2, stI3, stS3, stI4, stS4, stI5, stS5, stI6, stS6, stI7, stS7, stR0, stR1, stA2, stU2, stV, stRow, svI5, svS5, svI6, svS6, svI7, svS7, svR0, svR1, svR2, svR3, svR4, svA13, svU13, svA14, svU14, svA15, svU15, svA16, svU16, svV, svRow, svF, svUF, hiI1, hiS1, hiI2, hiS2, hiR0, hiV, hiRow, rdI2, rdS2, rdI3, rdS3, rdI4, rdS4, rdI5, rdS5, rdI6, rdS6, rdI7, rdS7, rdI8, rdS8, rdR0, rdR1, rdA1, rdU1, rdA2, rdU2, rdV, k_C, ↓reduceIte, tr_lt, fa_lt, tr_le, fa_le, tr_eq, fa_eq, and_true, true_and, and_false, false_and, il0, il1, il2, il3, il4, il5, il6, il7, il8, il9, il10, il11, il12, il15, il16, il20, il24, il31, il32, il44, il45, il48, il50, il57, il58, il59, il63, il91, il93, il97, il99, il100, il109, il113, il119, il120, il122, il200, il255, il480, il500, il501, il512, il999, il4112, il41120, il1000000, il1000003, ii_add, ii_sub, ii_mul, ii_neg, ii_le, ii_lt, ii_eq, ii_div, q_I, q_V, q_R, lt_q, rZ_q, md_M, md_16, md_4, md_8, md_10, if_true, if_false, if_pos, if_neg, hst, hrm, hch, e1]
  · have hb2 : ¬ inV 4 b := fun x => hb (Or.inl x)
    rw [f1 b z hb2, e19 b z (by unfold inV at hb2; omega)]
theorem m_ways (hI : Inv C0 N0 n pl sp tv cap c A J M g) (r : Int) (hl : M 0 1 = 1) (hr : 0 ≤ r ∧ r < up M 0 0 0 0 3) : ∃ M', fX7_ways 0 (ii r) (NW K (mg M g)) = some (Sum.inl (some (Value.int (ii (waX (wyN (up M 0 0 0 2) (stM (up M 0 0 0) g) (up M 0 0 0 0 9).toNat) (if canO g r then 1 else 0) (needM (up M 0 0 0) g r) (up M 0 0 0 0 4) (up M 0 0 0 0 5))))), NW K (mg M' g)) ∧ scr (up M 0 0 0) M' := by
  have hk := hI.1
  have hRd : isReader c 1 := hk.2.1.1
  have hSv : isSolver c 4 := hk.2.1.2.1
  have hHi : isHist c 21 := hk.2.1.2.2.1
  have hNow : isState c 303 := hk.2.1.2.2.2.1
  have hSpr : isState c 338 := hk.2.1.2.2.2.2.1
  have hPl : isPlan c pl := hk.2.2.2.1.2.1
  have h00 : up M 0 0 0 0 0 = 0 := up_s _ _ _ _
  obtain ⟨h10, hM, hP, hS, hG⟩ := hI.ld hl
  obtain ⟨p0, p1, p2, p3, p4, p5, p6, p7⟩ := hP.1
  have hc1 := c_chase1 (A := A) (J := J) hk h10
  have e3 : up M 0 0 0 0 3 = M 0 3 := up_n _ _ _ _ _ _ (by omega)
  have e9 : up M 0 0 0 0 9 = M 0 9 := up_n _ _ _ _ _ _ (by omega)
  have h38 := hM.1.2.1
  have h910 := hM.1.2.2.2.2.2.2.2
  have hcr := c_row1 (A := A) (J := J) hk h10 r (by rw [p1]; exact hr) (by rw [p1]; exact h38.2)
  have hmr := e_noRow1 (K := K) (M := M) (g := g) hl r (by rw [← e3]; exact hr) (by rw [← e3]; exact h38.2)
  have hr8 : 0 ≤ r ∧ r < 8 := by omega
  have hR := hNow.row r hr8
  have hrr := hS.2 r hr.1 (by omega)
  have hgr := hG.1.1 r hr.1 (by omega)
  have h37 : up M 0 0 0 0 37 = -1 := (up_n _ _ _ _ _ _ (by omega)).trans hI.2.2.2.1
  have hN := (hG.need hM hr).1
  obtain ⟨M', m1, ms, mt⟩ := e_laysWays (K := K) hM hG.GL (by omega) (needM (up M 0 0 0) g r) hN
  have hnd := e_need (K := K) hM hr8 hgr
  have hco := e_canOpen (K := K) (A := M') hr8 hgr hG.h0
  have m5 : M' 0 5 = up M 0 0 0 0 5 := ms.1 5 (by omega)
  have hML := m_waysLoop (K := K) (M := M') r (scr_SA ms hM) hr8 hgr (by rw [scr_need ms]; exact hN) (wyN (up M 0 0 0 2) (stM (up M 0 0 0) g) (up M 0 0 0 0 9).toNat) (wyN_b _ _ _) (fun z a b => mt z a (by rw [scr_need ms] at b; exact b))
  rw [scr_need ms, m5, ms.1 4 (by omega)] at hML
  refine ⟨M', ?_, ms⟩
  by_cases y : canO g r
  · rw [if_pos y] at hco hML
    rw [if_pos y, if_pos y] at hML
    rw [if_pos y]
    simp (disch := first | assumption | omega) only [fX7_ways, fX7_ways_32, fX7_ways_49, nR1, nA1, nU1, nR2, nA2, nU2, nR3, nA3, nU3, nR4, nA4, nU4, nR5, nA5, nU5, nR6, nA6, nU6, nR7, nA7, nU7, nR8, nA8, nU8, nR9, nA9, nU9, nR10, nA10, nU10, nR11, nA11, nU11, nR12, nA12, nU12, nR13, nA13, nU13, nR14, nA14, nU14, nR15, nA15, nU15, nR16, nA16, nU16, nI0, nS0, nI1, nS1, nI2, nS2, nI3, nS3, nI4, nS4, nI5, nS5, nI6, nS6, nI7, nS7, nI8, nS8, nI9, nS9, nI15, nS15, nI18, nS18, nI19, nS19, nI20, nS20, nI21, nS21, nI22, nS22, nI23, nS23, nI24, nS24, nI25, nS25, nI26, nS26, nI27, nS27, nI32, nS32, nI36, nS36, nI37, nS37, nI40, nS40, nSZ1, nV, nC, ↓reduceIte, tr_lt, fa_lt, tr_le, fa_le, tr_eq, fa_eq, and_true, true_and, and_false, false_and, il0, il1, il2, il3, il4, il5, il6, il7, il8, il9, il10, il11, il12, il15, il16, il20, il24, il31, il32, il44, il45, il48, il50, il57, il58, il59, il63, il91, il93, il97, il99, il100, il109, il113, il119, il120, il122, il200, il255, il480, il500, il501, il512, il999, il4112, il41120, il1000000, il1000003, ii_add, ii_sub, ii_mul, ii_neg, ii_le, ii_lt, ii_eq, ii_div, q_I, q_V, q_R, lt_q, rZ_q, md_M, md_16, md_4, md_8, md_10, if_true, if_false, if_pos, if_neg, mg_3, mg_0, mg_1, mg_2, mg_k, mg_up3, mg_upk, hmr, hnd, m1, hco, m5, hML]
  · rw [if_neg y] at hco hML
    rw [if_neg y, if_neg y] at hML
    rw [if_neg y]
    simp (disch := first | assumption | omega) only [fX7_ways, fX7_ways_32, fX7_ways_49, nR1, nA1, nU1, nR2, nA2, nU2, nR3, nA3, nU3, nR4, nA4, nU4, nR5, nA5, nU5, nR6, nA6, nU6, nR7, nA7, nU7, nR8, nA8, nU8, nR9, nA9, nU9, nR10, nA10, nU10, nR11, nA11, nU11, nR12, nA12, nU12, nR13, nA13, nU13, nR14, nA14, nU14, nR15, nA15, nU15, nR16, nA16, nU16, nI0, nS0, nI1, nS1, nI2, nS2, nI3, nS3, nI4, nS4, nI5, nS5, nI6, nS6, nI7, nS7, nI8, nS8, nI9, nS9, nI15, nS15, nI18, nS18, nI19, nS19, nI20, nS20, nI21, nS21, nI22, nS22, nI23, nS23, nI24, nS24, nI25, nS25, nI26, nS26, nI27, nS27, nI32, nS32, nI36, nS36, nI37, nS37, nI40, nS40, nSZ1, nV, nC, ↓reduceIte, tr_lt, fa_lt, tr_le, fa_le, tr_eq, fa_eq, and_true, true_and, and_false, false_and, il0, il1, il2, il3, il4, il5, il6, il7, il8, il9, il10, il11, il12, il15, il16, il20, il24, il31, il32, il44, il45, il48, il50, il57, il58, il59, il63, il91, il93, il97, il99, il100, il109, il113, il119, il120, il122, il200, il255, il480, il500, il501, il512, il999, il4112, il41120, il1000000, il1000003, ii_add, ii_sub, ii_mul, ii_neg, ii_le, ii_lt, ii_eq, ii_div, q_I, q_V, q_R, lt_q, rZ_q, md_M, md_16, md_4, md_8, md_10, if_true, if_false, if_pos, if_neg, mg_3, mg_0, mg_1, mg_2, mg_k, mg_up3, mg_upk, hmr, hnd, m1, hco, hML]
theorem g_ways (hI : Inv C0 N0 n pl sp tv cap c A J M g) (r : Int) (hrb : -2147483648 ≤ r ∧ r < 2147483648) : Good C0 N0 n K (fL_ways 0 (ii r) 455 (CW c A J)) (fX7_ways 0 (ii r) (NW K (mg M g))) := by
  have hk := hI.1
  have hRd : isReader c 1 := hk.2.1.1
  have hSv : isSolver c 4 := hk.2.1.2.1
  have hHi : isHist c 21 := hk.2.1.2.2.1
  have hNow : isState c 303 := hk.2.1.2.2.2.1
  have hSpr : isState c 338 := hk.2.1.2.2.2.2.1
  have hPl : isPlan c pl := hk.2.2.2.1.2.1
  have h00 : up M 0 0 0 0 0 = 0 := up_s _ _ _ _
  by_cases hl : M 0 1 = 1
  · obtain ⟨h10, hM, hP, hS, hG⟩ := hI.ld hl
    obtain ⟨p0, p1, p2, p3, p4, p5, p6, p7⟩ := hP.1
    have hc1 := c_chase1 (A := A) (J := J) hk h10
    have e3 : up M 0 0 0 0 3 = M 0 3 := up_n _ _ _ _ _ _ (by omega)
    have e9 : up M 0 0 0 0 9 = M 0 9 := up_n _ _ _ _ _ _ (by omega)
    have h38 := hM.1.2.1
    have h910 := hM.1.2.2.2.2.2.2.2
    by_cases hr : 0 ≤ r ∧ r < up M 0 0 0 0 3
    · have hcr := c_row1 (A := A) (J := J) hk h10 r (by rw [p1]; exact hr) (by rw [p1]; exact h38.2)
      have hmr := e_noRow1 (K := K) (M := M) (g := g) hl r (by rw [← e3]; exact hr) (by rw [← e3]; exact h38.2)
      have hr8 : 0 ≤ r ∧ r < 8 := by omega
      have hR := hNow.row r hr8
      have hrr := hS.2 r hr.1 (by omega)
      have hgr := hG.1.1 r hr.1 (by omega)
      obtain ⟨A', e1, hf⟩ := c_ways K hI r hl hr
      obtain ⟨M', m1, ms⟩ := m_ways (K := K) hI r hl hr
      exact Good_read hI e1 hf m1 ms ((ms.1 0 (by omega)).trans h00)
    · refine Good_no (code := 2) hI (E := "java/lang/IndexOutOfBoundsException") (A' := A) (J' := J) ?_ (frm.refl _ _ _) (fun τ => (hF2 _ _ _ _ _ _ (by decide)).trans (hF1 _ _ 2 rfl _ _ _)) (by omega) (v := 0) ?_
      · have hcr := c_row0 (A := A) (J := J) hk h10 r (by rw [p1]; exact hr) (by rw [p1]; omega) (by omega)
        rw [fX6_ways, lkV hk, hcr, k_E]
      · have hmr := e_noRow0 (K := K) (M := M) (g := g) hl r (by rw [← e3]; exact hr) (by rw [← e3]; omega) (by omega)
        rw [fX7_ways, nV, hmr, nC, q_I, if_neg (show ¬ ii 1 = (0 : Int32) by decide)]
        rfl
  · obtain ⟨h10, h1⟩ := hI.nl hl
    refine Good_nl hI (v := 0) ?_ (hF_IS _ 1 rfl _ _) ?_
    · rw [fX6_ways, lkV hk, c_rowN hk h10, k_E]
    · rw [fX7_ways, nV, e_noRowN h1, nC, q_I, if_neg (show ¬ ii 1 = (0 : Int32) by decide)]
      rfl
end OPS7
