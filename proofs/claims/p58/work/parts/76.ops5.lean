/-! CALLS THAT SOLVE -/
theorem ch_eq (M : AI) (g o : Int → Int) (r : Int) : chX (FW (M 0 9) o (M 2) (stM M g) 0) (if canO g r then 1 else 0) (needM M g r) (M 0 4) (M 0 5) = chL M g o r := by
  unfold chX chL
  by_cases q : canO g r
  · rw [if_pos q, if_pos q, if_neg (by omega)]
  · rw [if_neg q, if_neg q, if_pos rfl]
theorem chs_eq {M : AI} {g o : Int → Int} {r : Int} (hM : SA M) (hN : 0 ≤ needM M g r ∧ needM M g r ≤ 500) (hl : (chL M g o r).1 < 1000000) : chXs (FW (M 0 9) o (M 2) (stM M g) 0) (if canO g r then 1 else 0) (needM M g r) (M 0 4) (M 0 5) = chS M g o r := by
  obtain ⟨-, -, h⟩ := chL_b hM hN
  obtain ⟨h1, h2, h3, h4⟩ := h hl
  unfold chXs
  rw [ch_eq]
  unfold chS
  by_cases q : canO g r
  · have := h3 q
    rw [if_pos q, if_neg (by omega), if_neg (by omega)]
  · rw [if_neg q, if_pos rfl, if_pos (h4 q)]
theorem stM_0 {M : AI} (h : M 0 37 = -1) (g : Int → Int) (k : Int) (hk : 0 ≤ k) : stM M g k = g (6 + k) := by
  unfold stM
  rw [if_neg (by omega)]
  omega
section OPS5
variable {C0 N0 n : Nat} {K : Nat × Nat} {c : CC} {A : AI} {J : JI} {M : AI} {g o : Int → Int} {pl sp tv cap S : Nat} {f B : Int}
abbrev svA (A : AI) (pl : Nat) (M : AI) (g o : Int → Int) : Prop := svI A 4 pl (M 0 9) o (M 2) (stM M g) ∧ svT A 4 (M 0 9) o (M 2) (stM M g) (M 0 2) 0
theorem svB_of (hM : SA M) (hL : GL g) (h37 : M 0 37 = -1) (hO : ordOK (M 1) (M 2) (M 0 9) o) : svB (M 0 9) o (M 2) (stM M g) := by
  have h9 := hM.1.2.2.2.2.2.2.2
  refine ⟨fun p a b => hO.1 p a b, fun k a b => ?_, fun k a b => ?_⟩
  · have h1 := hM.2.2.1 k a (by omega)
    have h2 := hM.2.2.2 k a b
    omega
  · have h1 := hL k a (by omega)
    rw [stM_0 h37 g k a]
    omega
theorem c_studied (hk : isLock c pl sp tv cap) (hSt : isState c S) (hS4 : 21 ≤ S) (hS : SR A J S (M 2) g f) (hP : PR A pl M) (hM : SA M) (hL : GL g) (h37 : M 0 37 = -1) :
    ∃ A1 A2, fX4_stockFrom 4 S (CW c A J) = some (Sum.inl none, CW c A1 J) ∧ fX4_study 4 pl (CW c A1 J) = some (Sum.inl none, CW c A2 J) ∧ svA A2 pl M g (A (pl + 3)) ∧ ∀ (b : Nat) (z : Int), ¬ inV 4 b → A2 b z = A b z := by
  have hSv : isSolver c 4 := hk.2.1.2.1
  have hPl : isPlan c pl := hk.2.2.2.1.2.1
  have hap := hk.2.2.2.1.1
  have h9 := hM.1.2.2.2.2.2.2.2
  obtain ⟨p0, p1, p2, p3, p4, p5, p6, p7⟩ := hP.1
  have hO := hP.2.2
  have hB := svB_of hM hL h37 hO
  have e19 : ∀ (b : Nat) (z : Int), b ≠ 19 → cpA A (S + 2) (4 + 15) 10 b z = A b z := fun b z h => cpA_n _ _ _ _ _ _ (by omega)
  have hst : ∀ k, 0 ≤ k → k < M 0 9 → cpA A (S + 2) (4 + 15) 10 (4 + 15) k = stM M g k := fun k a b => by
    rw [cpA_s _ _ _ _ _ (by omega), hS.1.2 k a (by omega), stM_0 h37 g k a]
  obtain ⟨A2, e2, t2, f2⟩ := v_study (c := c) (J := J) (A := cpA A (S + 2) (4 + 15) 10) hSv hPl (by omega) (M 0 2) (M 0 9) (A (pl + 3)) (M 2) (stM M g) (by have := hM.1.1; omega) h9 (by rw [e19 _ _ (by omega)]; exact p0) (by rw [e19 _ _ (by omega)]; exact p7)
    (fun k a b => by rw [e19 _ _ (by omega)]; exact (hP.2.1 k a b).2) (fun p a b => by rw [e19 _ _ (by omega)]) hst hB.1 hB.2.1 hB.2.2
  refine ⟨_, A2, ?_, e2, ⟨⟨fun k a b => ?_, fun p a b => ?_, fun k a b => ?_, ?_⟩, t2⟩, fun b z hb => ?_⟩
  · have hcp := k_cp (c := c) (A := A) (J := J) hSt.1.2.2 hSv.1.2.2.2.2.1 10 (by omega) (fun s3 => some (.inl none, s3))
    rw [fX4_stockFrom, k_gR hSt.1.1 hSt.2.1.2, k_gR hSv.1.1 hSv.2.1.2.2.2.1]
    exact hcp
  · rw [f2 _ _ (by unfold inF; omega), e19 _ _ (by omega)]; exact (hP.2.1 k a b).2
  · rw [f2 _ _ (by unfold inF; omega), e19 _ _ (by omega)]
  · rw [f2 _ _ (by unfold inF; omega)]; exact hst k a b
  · rw [f2 _ _ (by unfold inF; omega), e19 _ _ (by omega)]; exact p7
  · unfold inV at hb
    rw [f2 _ _ (by unfold inF; omega), e19 _ _ (by omega)]
theorem svA.keep {A A' : AI} (h : svA A pl M g o) (hap : 21 ≤ pl) (e : ∀ (b : Nat) (z : Int), b ≠ 4 → b ≠ 20 → A' b z = A b z) (h9 : M 0 9 ≤ 10) : svA A' pl M g o :=
  ⟨⟨fun k a b => by rw [e _ _ (by omega) (by omega)]; exact h.1.1 k a b, fun p a b => by rw [e _ _ (by omega) (by omega)]; exact h.1.2.1 p a b, fun k a b => by rw [e _ _ (by omega) (by omega)]; exact h.1.2.2.1 k a b, by rw [e _ _ (by omega) (by omega)]; exact h.1.2.2.2⟩,
    fun p s a b c2 d => by rw [e _ _ (by unfold fr; omega) (by unfold fr; omega)]; exact h.2 p s a b c2 d⟩
abbrev PCC (A A' : AI) (M : AI) (g o : Int → Int) (r : Int) : Prop := ((chL M g o r).1 < 1000000 → (A' 4 5 = (chL M g o r).1 ∧ A' 4 6 = chS M g o r ∧ A' 4 7 = (chL M g o r).2) ∧ ∀ p, 0 ≤ p → p < M 0 9 → A' (4 + 16) (o p) = tk (M 0 9) o (M 2) (stM M g) (chS M g o r) p) ∧ ∀ (b : Nat) (z : Int), b ≠ 4 → b ≠ 20 → A' b z = A b z
theorem c_room (hPl : isPlan c pl) (hSt : isState c S) (hS : SR A J S (M 2) g f) (p0 : A pl 0 = M 0 2) (hM : SA M) (hG : GC M g B) (r : Int) (hr : 0 ≤ r ∧ r < M 0 3) : fX3_roomIn (rc S r) pl (CW c A J) = some (Sum.inl (some (Value.int (ii (needM M g r)))), CW c A J) := by
  have h38 := hM.1.2.1
  have h1 := c_roomIn (A := A) (J := J) (hSt.row r (by omega)) hPl
  have h2 := (hS.2 r hr.1 (by omega)).1
  rw [h1, p0, h2.2.1, h2.2.2.2.1, (hG.need hM hr).2.1]
theorem c_chose (hk : isLock c pl sp tv cap) (hSt : isState c S) (hS : SR A J S (M 2) g f) (p0 : A pl 0 = M 0 2) (p2 : A pl 2 = M 0 4) (p3 : A pl 3 = M 0 5) (hM : SA M) (hG : GC M g B) (h37 : M 0 37 = -1) (hO : ordOK (M 1) (M 2) (M 0 9) o) (hv : svA A pl M g o) (r : Int) (hr : 0 ≤ r ∧ r < M 0 3) :
    ∃ A', fX4_choose 4 pl (ii (needM M g r)) (ii (if canO g r then 1 else 0)) (CW c A J) = some (Sum.inl (some (Value.int (ii (if (chL M g o r).1 < 1000000 then 1 else 0)))), CW c A' J) ∧ PCC A A' M g o r := by
  have hSv : isSolver c 4 := hk.2.1.2.1
  have hPl : isPlan c pl := hk.2.2.2.1.2.1
  have hap := hk.2.2.2.1.1
  have h9 := hM.1.2.2.2.2.2.2.2
  have hN := hG.need hM hr
  have hq : 0 ≤ (if canO g r then 1 else 0 : Int) ∧ (if canO g r then 1 else 0 : Int) ≤ 1 := by split <;> omega
  obtain ⟨A', e1, e2, e3⟩ := v_choose (c := c) (J := J) (A := A) hSv hPl (by omega) (M 0 9) (M 0 2) o (M 2) (stM M g) h9 (by have := hM.1.1; omega) hv.1 (svB_of hM hG.GL h37 hO) (fun p q a b d e => ord_inj hO p q ⟨a, b⟩ ⟨d, e⟩) hv.2 (if canO g r then 1 else 0) (needM M g r) (M 0 4) (M 0 5) hq (by omega) p2 p3 (by have := hM.1.2.2.1; omega) (by have := hM.1.2.2.2.1; omega)
  rw [ch_eq] at e1 e2
  refine ⟨A', e1, fun hl => ?_, e3⟩
  have := e2 hl
  rw [chs_eq hM hN.1 hl] at this
  exact this
theorem c_solve (hk : isLock c pl sp tv cap) (hSt : isState c S) (hS4 : 21 ≤ S ∧ (S = 303 ∨ S + 35 ≤ pl)) (hS : SR A J S (M 2) g f) (hP : PR A pl M) (hM : SA M) (hG : GC M g B) (h37 : M 0 37 = -1) (r : Int) (hr : 0 ≤ r ∧ r < M 0 3) :
    ∃ A1 A', fX6_solve 0 S (rc S r) (CW c A J) = some (Sum.inl (some (Value.int (ii (if (chL M g (A (pl + 3)) r).1 < 1000000 then 1 else 0)))), CW c A' J) ∧ svA A1 pl M g (A (pl + 3)) ∧ svA A' pl M g (A (pl + 3)) ∧ PCC A1 A' M g (A (pl + 3)) r ∧ ∀ (b : Nat) (z : Int), ¬ inV 4 b → A' b z = A b z := by
  have hap := hk.2.2.2.1.1
  have hPl : isPlan c pl := hk.2.2.2.1.2.1
  have h9 := hM.1.2.2.2.2.2.2.2
  have h38 := hM.1.2.1
  have hSv : isSolver c 4 := hk.2.1.2.1
  have hR := hSt.row r (by omega)
  obtain ⟨A1, A2, e1, e2, v2, f2⟩ := c_studied hk hSt hS4.1 hS hP hM hG.GL h37
  have hS2 : SR A2 J S (M 2) g f := SR_frame hS hG.1.1 (fun b z hb => f2 b z (by unfold inS at hb; unfold inV; omega)) (fun _ _ _ => rfl)
  obtain ⟨p0, p1, p2, p3, -⟩ := (PR_frm hP (A' := A2) (fun b z hb => f2 b z (by unfold inV; omega))).1
  obtain ⟨A', e3, k3⟩ := c_chose hk hSt hS2 p0 p2 p3 hM hG h37 hP.2.2 v2 r hr
  have e4 := c_room hPl hSt hS2 p0 hM hG r hr
  have e5 := s_canHave hSt hS2 hG.1.1 r (by omega) hG.h0
  refine ⟨A2, A', ?_, v2, svA.keep v2 (by omega) k3.2 h9.2, k3, fun b z hb => ?_⟩
  · by_cases y : (chL M g (A (pl + 3)) r).1 < 1000000
    · rw [if_pos y] at e3 ⊢
      simp (disch := first | assumption | omega) only [fX6_solve, lkV hk, lkR0 hk, lkR1 hk, lkR2 hk, lkR3 hk, lkR4 hk, lkR5 hk, lkR6 hk, lkR7 hk, lkR8 hk, lkR9 hk, lkI hk, k_E, t_E, rwI1, rwS1, rwI2, rwS2, rwI4, rwS4, rwI5, rwS5, rwI7, rwS7, rwI8, rwS8, rwI9, rwS9, rwR0, rwR3, rwR6, rwA1, rwU1, rwA3, rwU3, rwV, rwJ, rwUJ, plI0, plS0, plI1, plS1, plI2, plS2, plI3, plS3, plI4, plS4, plI5, plS5, plI6, plS6, plI7, plS7, plR8, plR9, plR10, plA1, plU1, plA2, plU2, plA3, plU3, plV, stI2, stS2, stI3, stS3, stI4, stS4, stI5, stS5, stI6, stS6, stI7, stS7, stR0, stR1, stA2, stU2, stV, stRow, svI5, svS5, svI6, svS6, svI7, svS7, svR0, svR1, svR2, svR3, svR4, svA13, svU13, svA14, svU14, svA15, svU15, svA16, svU16, svV, svRow, svF, svUF, hiI1, hiS1, hiI2, hiS2, hiR0, hiV, hiRow, rdI2, rdS2, rdI3, rdS3, rdI4, rdS4, rdI5, rdS5, rdI6, rdS6, rdI7, rdS7, rdI8, rdS8, rdR0, rdR1, rdA1, rdU1, rdA2, rdU2, rdV, k_C, ↓reduceIte, tr_lt, fa_lt, tr_le, fa_le, tr_eq, fa_eq, and_true, true_and, and_false, false_and, il0, il1, il2, il3, il4, il5, il6, il7, il8, il9, il10, il11, il12, il15, il16, il20, il24, il31, il32, il44, il45, il48, il50, il57, il58, il59, il63, il91, il93, il97, il99, il100, il109, il113, il119, il120, il122, il200, il255, il480, il500, il501, il512, il999, il4112, il41120, il1000000, il1000003, ii_add, ii_sub, ii_mul, ii_neg, ii_le, ii_lt, ii_eq, ii_div, q_I, q_V, q_R, lt_q, rZ_q, md_M, md_16, md_4, md_8, md_10, if_true, if_false, if_pos, if_neg, e1, e2, e3, e4, e5]
    · rw [if_neg y] at e3 ⊢
      simp (disch := first | assumption | omega) only [fX6_solve, lkV hk, lkR0 hk, lkR1 hk, lkR2 hk, lkR3 hk, lkR4 hk, lkR5 hk, lkR6 hk, lkR7 hk, lkR8 hk, lkR9 hk, lkI hk, k_E, t_E, rwI1, rwS1, rwI2, rwS2, rwI4, rwS4, rwI5, rwS5, rwI7, rwS7, rwI8, rwS8, rwI9, rwS9, rwR0, rwR3, rwR6, rwA1, rwU1, rwA3, rwU3, rwV, rwJ, rwUJ, plI0, plS0, plI1, plS1, plI2, plS2, plI3, plS3, plI4, plS4, plI5, plS5, plI6, plS6, plI7, plS7, plR8, plR9, plR10, plA1, plU1, plA2, plU2, plA3, plU3, plV, stI2, stS2, stI3, stS3, stI4, stS4, stI5, stS5, stI6, stS6, stI7, stS7, stR0, stR1, stA2, stU2, stV, stRow, svI5, svS5, svI6, svS6, svI7, svS7, svR0, svR1, svR2, svR3, svR4, svA13, svU13, svA14, svU14, svA15, svU15, svA16, svU16, svV, svRow, svF, svUF, hiI1, hiS1, hiI2, hiS2, hiR0, hiV, hiRow, rdI2, rdS2, rdI3, rdS3, rdI4, rdS4, rdI5, rdS5, rdI6, rdS6, rdI7, rdS7, rdI8, rdS8, rdR0, rdR1, rdA1, rdU1, rdA2, rdU2, rdV, k_C, ↓reduceIte, tr_lt, fa_lt, tr_le, fa_le, tr_eq, fa_eq, and_true, true_and, and_false, false_and, il0, il1, il2, il3, il4, il5, il6, il7, il8, il9, il10, il11, il12, il15, il16, il20, il24, il31, il32, il44, il45, il48, il50, il57, il58, il59, il63, il91, il93, il97, il99, il100, il109, il113, il119, il120, il122, il200, il255, il480, il500, il501, il512, il999, il4112, il41120, il1000000, il1000003, ii_add, ii_sub, ii_mul, ii_neg, ii_le, ii_lt, ii_eq, ii_div, q_I, q_V, q_R, lt_q, rZ_q, md_M, md_16, md_4, md_8, md_10, if_true, if_false, if_pos, if_neg, e1, e2, e3, e4, e5]
  · have hb2 := hb
    unfold inV at hb2
    rw [k3.2 b z (by omega) (by omega), f2 b z hb]
end OPS5
