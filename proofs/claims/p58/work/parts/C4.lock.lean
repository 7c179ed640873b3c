/-! THE CLASS'S CALLS, AS THE LAW MAKES THEM: locks -/
section LKD
variable {C0 N0 n : Nat} {c : CC} {A : AI} {J : JI} {M : AI} {g : Int → Int} {pl sp tv cap : Nat}
theorem d_lock (hI : Inv C0 N0 n pl sp tv cap c A J M g) (hl : M 0 1 = 1) (h0 : M 0 0 = 0) (hn : n ≤ 600) (r : Int) (hr : 0 ≤ r ∧ r < M 0 3) (y : (chL M g (A (pl + 3)) r).1 < 1000000) : DCh C0 N0 n pl sp tv cap c A J M (fX6_lock 0 (ii r) (CW c A J)) (chL M g (A (pl + 3)) r).1 (gLock g r (A (pl + 3)) (tk (M 0 9) (A (pl + 3)) (M 2) (stM M g) (chS M g (A (pl + 3)) r)) (M 0 9) (chL M g (A (pl + 3)) r).2) := by
  have hk := hI.1
  have hRd : isReader c 1 := hk.2.1.1
  have hSv : isSolver c 4 := hk.2.1.2.1
  have hHi : isHist c 21 := hk.2.1.2.2.1
  have hNow : isState c 303 := hk.2.1.2.2.2.1
  have hSpr : isState c 338 := hk.2.1.2.2.2.2.1
  have hPl : isPlan c pl := hk.2.2.2.1.2.1
  obtain ⟨h10, hM, hP, hS, hG⟩ := hI.ld hl
  rw [up_eqv h0] at hM hP hS hG
  obtain ⟨p0, p1, p2, p3, p4, p5, p6, p7⟩ := hP.1
  have hc1 := c_chase1 (A := A) (J := J) hk h10
  have h38 := hM.1.2.1
  have h910 := hM.1.2.2.2.2.2.2.2
  have hcr := c_row1 (A := A) (J := J) hk h10 r (by rw [p1]; exact hr) (by rw [p1]; exact h38.2)
  have hr8 : 0 ≤ r ∧ r < 8 := by omega
  have hR := hNow.row r hr8
  have hrr := hS.2 r hr.1 (by omega)
  have hgr := hG.1.1 r hr.1 (by omega)
  have h37 : M 0 37 = -1 := hI.2.2.2.1
  obtain ⟨A0, A', e1, v1, v2, k1, f1⟩ := c_solve (c := c) hk hNow ⟨by omega, Or.inl rfl⟩ hS hP hM hG h37 r hr
  have hfr : frm scC A A' J J := ⟨fun b z hb => f1 b z (fun x => hb (Or.inl x)), fun _ _ _ => rfl⟩
  have hN := (hG.need hM hr).1
  rw [if_pos y] at e1
  have hI2 : Inv C0 N0 n pl sp tv cap c A' J M g := hI.scr (Nat.le_refl n) ⟨rfl, rfl, rfl⟩ hI.2.1.2 (hfr.mono fun b hb => Or.inl hb) ⟨fun _ _ _ => rfl, fun _ _ _ _ => rfl⟩
  obtain ⟨A1, J1, M1, w1, -, hI1, ⟨w3, w4⟩, wf⟩ := remB (K := (0, 0)) hI2 hl
  have hl1 : M1 0 1 = 1 := (w3 1 (by omega)).trans hl
  obtain ⟨hM1, hP1, hS1, hG1⟩ := hI1.li hl1
  have h01 : M1 0 0 = 0 := (w3 0 (by omega)).trans h0
  have hap := hk.2.2.2.1.1
  have hBs : Bn n ≤ Bn (n + 1) := Bn_s n
  have u0 : ∀ z, 2 ≤ z → z ≤ 9 → M1 0 z = M 0 z := fun z a b => w3 z (by omega)
  have u37 : M1 0 37 = M 0 37 := w3 37 (by omega)
  have u1 : M1 1 = M 1 := funext fun z => w4 1 z (by omega) (by omega)
  have u2 : M1 2 = M 2 := funext fun z => w4 2 z (by omega) (by omega)
  have uo : A1 (pl + 3) = A (pl + 3) := funext fun z => by rw [wf.1 _ _ (by omega), f1 _ _ (by unfold inV; omega)]
  have cL := chL_at u0 u37 u2 g (A1 (pl + 3)) r
  have cS := chS_at u0 u37 u2 g (A1 (pl + 3)) r
  have cT := stM_at u37 g
  have y1 : (chL M1 g (A1 (pl + 3)) r).1 < 1000000 := by rw [cL, uo]; exact y
  have hr1 : 0 ≤ r ∧ r < M1 0 3 := by rw [u0 3 (by omega) (by omega)]; exact hr
  have hO1 := hP1.2.2
  obtain ⟨⟨k5, k6, k7⟩, k20⟩ := k1.1 y
  obtain ⟨hc1', hc2'⟩ := hG1.lockB (o := A1 (pl + 3)) hM1 hO1 hr1 y1
  have hcb := (chL_b (o := A1 (pl + 3)) hM1 (hG1.need hM1 hr1).1).2.1
  have h5 := hM1.1.2.2.2.1
  have h9 := hM1.1.2.2.2.2.2.2.2
  have v5 : A1 4 5 = (chL M g (A (pl + 3)) r).1 := by rw [wf.1 _ _ (by omega), k5]
  obtain ⟨A2, J2, e2, s2, f2⟩ := s_fill (c := c) hNow hPl hSv (by omega) (by omega) hS1 hG1.1.1 hM1 hP1 r (chL M1 g (A1 (pl + 3)) r).2 hr8 (by omega) (tk (M1 0 9) (A1 (pl + 3)) (M1 2) (stM M1 g) (chS M1 g (A1 (pl + 3)) r)) (by rw [wf.1 _ _ (by omega), k7, cL, uo]) (fun p a b => by
    rw [wf.1 _ _ (by omega), cS, cT, u2, u0 9 (by omega) (by omega), uo]
    exact k20 p a (by rw [← u0 9 (by omega) (by omega)]; exact b)) hc1' hc2'
  have hBn : 0 ≤ Bn n ∧ Bn n ≤ 600000000 := by unfold Bn; omega
  have hG2 := hG1.lock hM1 (u37.trans h37) hO1 hr1 hBn y1
  have v5b : A2 4 5 = (chL M g (A (pl + 3)) r).1 := by rw [f2.1 _ _ (by unfold inS; omega)]; exact v5
  have E2 : gLock g r (A1 (pl + 3)) (tk (M1 0 9) (A1 (pl + 3)) (M1 2) (stM M1 g) (chS M1 g (A1 (pl + 3)) r)) (M1 0 9) (chL M1 g (A1 (pl + 3)) r).2 = gLock g r (A (pl + 3)) (tk (M 0 9) (A (pl + 3)) (M 2) (stM M g) (chS M g (A (pl + 3)) r)) (M 0 9) (chL M g (A (pl + 3)) r).2 := by rw [cL, cS, cT, u2, u0 9 (by omega) (by omega), uo]
  have e5 := gLock_5 g r (A1 (pl + 3)) (tk (M1 0 9) (A1 (pl + 3)) (M1 2) (stM M1 g) (chS M1 g (A1 (pl + 3)) r)) (M1 0 9) (chL M1 g (A1 (pl + 3)) r).2 hr.1 hgr (by omega) (by omega) (fun q a b => ⟨by have := hO1.1 q a b; omega, (hc1' q a b).1⟩) hc2'
  rw [← e5] at s2
  have hI3 := hI1.chg hl1 (f2.mono fun b hb => Or.inl hb) (scr.refl M1).s4 s2 (hG2.mono hBs)
  rw [E2] at hI3
  refine ⟨A2, J2, M1, ?_, hI3, h01, ⟨fun z a b => w3 z (by omega), u1, u2⟩, fun b z q => ?_, fun b j q => ?_⟩
  · simp (disch := first | assumption | omega) only [fX6_lock, lkV hk, lkR0 hk, lkR1 hk, lkR2 hk, lkR3 hk, lkR4 hk, lkR5 hk, lkR6 hk, lkR7 hk, lkR8 hk, lkR9 hk, lkI hk, k_E, t_E, hcr, rwI1, rwS1, rwI2, rwS2, rwI4, rwS4, rwI5, rwS5, rwI7, rwS7, rwI8, rwS8, rwI9, rwS9, rwR0, rwR3, rwR6, rwA1, rwU1, rwA3, rwU3, rwV, rwJ, rwUJ, plI0, plS0, plI1, plS1, plI2, plS2, plI3, plS3, plI4, plS4, plI5, plS5, plI6, plS6, plI7, plS7, plR8, plR9, plR10, plA1, plU1, plA2, plU2, plA3, plU3, plV, stI2, stS2, stI3, stS3, stI4, stS4, stI5, stS5, stI6, stS6, stI7, stS7, stR0, stR1, stA2, stU2, stV, stRow, svI5, svS5, svI6, svS6, svI7, svS7, svR0, svR1, svR2, svR3, svR4, svA13, svU13, svA14, svU14, svA15, svU15, svA16, svU16, svV, svRow, svF, svUF, hiI1, hiS1, hiI2, hiS2, hiR0, hiV, hiRow, rdI2, rdS2, rdI3, rdS3, rdI4, rdS4, rdI5, rdS5, rdI6, rdS6, rdI7, rdS7, rdI8, rdS8, rdR0, rdR1, rdA1, rdU1, rdA2, rdU2, rdV, k_C, ↓reduceIte, tr_lt, fa_lt, tr_le, fa_le, tr_eq, fa_eq, and_true, true_and, and_false, false_and, il0, il1, il2, il3, il4, il5, il6, il7, il8, il9, il10, il11, il12, il15, il16, il20, il24, il31, il32, il44, il45, il48, il50, il57, il58, il59, il63, il91, il93, il97, il99, il100, il109, il113, il119, il120, il122, il200, il255, il480, il500, il501, il512, il999, il4112, il41120, il1000000, il1000003, ii_add, ii_sub, ii_mul, ii_neg, ii_le, ii_lt, ii_eq, ii_div, q_I, q_V, q_R, lt_q, rZ_q, md_M, md_16, md_4, md_8, md_10, if_true, if_false, if_pos, if_neg, e1, w1, e2, v5b]
  · rw [f2.1 b z (by unfold inS; omega), wf.1 b z (by omega), f1 b z (by unfold inV; omega)]
  · rw [f2.2 b j (by unfold inS; omega), wf.2 b j (by omega)]
/-- no filling: nothing but scratch is other -/
theorem d_lockN (hI : Inv C0 N0 n pl sp tv cap c A J M g) (hl : M 0 1 = 1) (h0 : M 0 0 = 0) (r : Int) (hr : 0 ≤ r ∧ r < M 0 3) (y : ¬ (chL M g (A (pl + 3)) r).1 < 1000000) : ∃ (A' : AI) (J' : JI), fX6_lock 0 (ii r) (CW c A J) = some (.inr "java/lang/IllegalArgumentException", CW (cU c) A' J') ∧ frm scC A A' J J' := by
  have hk := hI.1
  have hRd : isReader c 1 := hk.2.1.1
  have hSv : isSolver c 4 := hk.2.1.2.1
  have hHi : isHist c 21 := hk.2.1.2.2.1
  have hNow : isState c 303 := hk.2.1.2.2.2.1
  have hSpr : isState c 338 := hk.2.1.2.2.2.2.1
  have hPl : isPlan c pl := hk.2.2.2.1.2.1
  obtain ⟨h10, hM, hP, hS, hG⟩ := hI.ld hl
  rw [up_eqv h0] at hM hP hS hG
  obtain ⟨p0, p1, p2, p3, p4, p5, p6, p7⟩ := hP.1
  have hc1 := c_chase1 (A := A) (J := J) hk h10
  have h38 := hM.1.2.1
  have h910 := hM.1.2.2.2.2.2.2.2
  have hcr := c_row1 (A := A) (J := J) hk h10 r (by rw [p1]; exact hr) (by rw [p1]; exact h38.2)
  have hr8 : 0 ≤ r ∧ r < 8 := by omega
  have hR := hNow.row r hr8
  have hrr := hS.2 r hr.1 (by omega)
  have hgr := hG.1.1 r hr.1 (by omega)
  have h37 : M 0 37 = -1 := hI.2.2.2.1
  obtain ⟨A0, A', e1, v1, v2, k1, f1⟩ := c_solve (c := c) hk hNow ⟨by omega, Or.inl rfl⟩ hS hP hM hG h37 r hr
  have hfr : frm scC A A' J J := ⟨fun b z hb => f1 b z (fun x => hb (Or.inl x)), fun _ _ _ => rfl⟩
  rw [if_neg y] at e1
  refine ⟨A', J, ?_, hfr⟩
  simp (disch := first | assumption | omega) only [fX6_lock, lkV hk, lkR0 hk, lkR1 hk, lkR2 hk, lkR3 hk, lkR4 hk, lkR5 hk, lkR6 hk, lkR7 hk, lkR8 hk, lkR9 hk, lkI hk, k_E, t_E, hcr, rwI1, rwS1, rwI2, rwS2, rwI4, rwS4, rwI5, rwS5, rwI7, rwS7, rwI8, rwS8, rwI9, rwS9, rwR0, rwR3, rwR6, rwA1, rwU1, rwA3, rwU3, rwV, rwJ, rwUJ, plI0, plS0, plI1, plS1, plI2, plS2, plI3, plS3, plI4, plS4, plI5, plS5, plI6, plS6, plI7, plS7, plR8, plR9, plR10, plA1, plU1, plA2, plU2, plA3, plU3, plV, stI2, stS2, stI3, stS3, stI4, stS4, stI5, stS5, stI6, stS6, stI7, stS7, stR0, stR1, stA2, stU2, stV, stRow, svI5, svS5, svI6, svS6, svI7, svS7, svR0, svR1, svR2, svR3, svR4, svA13, svU13, svA14, svU14, svA15, svU15, svA16, svU16, svV, svRow, svF, svUF, hiI1, hiS1, hiI2, hiS2, hiR0, hiV, hiRow, rdI2, rdS2, rdI3, rdS3, rdI4, rdS4, rdI5, rdS5, rdI6, rdS6, rdI7, rdS7, rdI8, rdS8, rdR0, rdR1, rdA1, rdU1, rdA2, rdU2, rdV, k_C, ↓reduceIte, tr_lt, fa_lt, tr_le, fa_le, tr_eq, fa_eq, and_true, true_and, and_false, false_and, il0, il1, il2, il3, il4, il5, il6, il7, il8, il9, il10, il11, il12, il15, il16, il20, il24, il31, il32, il44, il45, il48, il50, il57, il58, il59, il63, il91, il93, il97, il99, il100, il109, il113, il119, il120, il122, il200, il255, il480, il500, il501, il512, il999, il4112, il41120, il1000000, il1000003, ii_add, ii_sub, ii_mul, ii_neg, ii_le, ii_lt, ii_eq, ii_div, q_I, q_V, q_R, lt_q, rZ_q, md_M, md_16, md_4, md_8, md_10, if_true, if_false, if_pos, if_neg, e1, t_E]
theorem d_relock (hI : Inv C0 N0 n pl sp tv cap c A J M g) (hl : M 0 1 = 1) (h0 : M 0 0 = 0) (hn : n ≤ 600) (r : Int) (hr : 0 ≤ r ∧ r < M 0 3) (y : (chL M (gEmp g r) (A (pl + 3)) r).1 < 1000000) : DCh C0 N0 n pl sp tv cap c A J M (fX6_relock 0 (ii r) (CW c A J)) (chL M (gEmp g r) (A (pl + 3)) r).1 (gLock (gEmp g r) r (A (pl + 3)) (tk (M 0 9) (A (pl + 3)) (M 2) (stM M (gEmp g r)) (chS M (gEmp g r) (A (pl + 3)) r)) (M 0 9) (chL M (gEmp g r) (A (pl + 3)) r).2) := by
  have hk := hI.1
  have hRd : isReader c 1 := hk.2.1.1
  have hSv : isSolver c 4 := hk.2.1.2.1
  have hHi : isHist c 21 := hk.2.1.2.2.1
  have hNow : isState c 303 := hk.2.1.2.2.2.1
  have hSpr : isState c 338 := hk.2.1.2.2.2.2.1
  have hPl : isPlan c pl := hk.2.2.2.1.2.1
  obtain ⟨h10, hM, hP, hS, hG⟩ := hI.ld hl
  rw [up_eqv h0] at hM hP hS hG
  obtain ⟨p0, p1, p2, p3, p4, p5, p6, p7⟩ := hP.1
  have hc1 := c_chase1 (A := A) (J := J) hk h10
  have h38 := hM.1.2.1
  have h910 := hM.1.2.2.2.2.2.2.2
  have hcr := c_row1 (A := A) (J := J) hk h10 r (by rw [p1]; exact hr) (by rw [p1]; exact h38.2)
  have hr8 : 0 ≤ r ∧ r < 8 := by omega
  have hR := hNow.row r hr8
  have hrr := hS.2 r hr.1 (by omega)
  have hgr := hG.1.1 r hr.1 (by omega)
  have h37 : M 0 37 = -1 := hI.2.2.2.1
  obtain ⟨A1, J1, A2, A3, A4, c1, c2, c3, k3, f4⟩ := c_rel (0, 0) hI r hl (by rw [up_eqv h0]; exact hr)
  rw [up_eqv h0] at c3 k3
  rw [if_pos y] at c3
  have hI2 : Inv C0 N0 n pl sp tv cap c A4 J1 M g := hI.scr (Nat.le_refl n) ⟨rfl, rfl, rfl⟩ hI.2.1.2 (f4.mono fun b hb => Or.inl hb) ⟨fun _ _ _ => rfl, fun _ _ _ _ => rfl⟩
  obtain ⟨A5, J5, M5, w1, -, hI5, ⟨w3, w4⟩, wf⟩ := remB (K := (0, 0)) hI2 hl
  have hl5 : M5 0 1 = 1 := (w3 1 (by omega)).trans hl
  obtain ⟨hM5, hP5, hS5, hG5⟩ := hI5.li hl5
  have h05 : M5 0 0 = 0 := (w3 0 (by omega)).trans h0
  have hap := hk.2.2.2.1.1
  have hBs : Bn n ≤ Bn (n + 1) := Bn_s n
  have hB0 : 0 ≤ Bn n := by unfold Bn; omega
  have u0 : ∀ z, 2 ≤ z → z ≤ 9 → M5 0 z = M 0 z := fun z a b => w3 z (by omega)
  have u37 : M5 0 37 = M 0 37 := w3 37 (by omega)
  have u1 : M5 1 = M 1 := funext fun z => w4 1 z (by omega) (by omega)
  have u2 : M5 2 = M 2 := funext fun z => w4 2 z (by omega) (by omega)
  have hr5 : 0 ≤ r ∧ r < M5 0 3 := by rw [u0 3 (by omega) (by omega)]; exact hr
  obtain ⟨A6, e6, s6, f6⟩ := s_empty (c := c) hNow hS5 hG5.1.1 hG5.1.2.1 r hr8
  have hG6 := hG5.emp hM5 hr5 hB0
  have s6' : SR A6 J5 303 (M5 2) (gEmp g r) (gEmp g r 5) := by
    rw [lo_gEmp g r 5 (by omega), if_neg (by omega), if_neg (by omega)]; exact s6
  have hP6 : PR A6 pl M5 := PR_S hP5 (by omega) f6
  have uo : A6 (pl + 3) = A (pl + 3) := funext fun z => by
    rw [f6.1 _ _ (by unfold inS; omega), wf.1 _ _ (by omega), f4.1 _ _ (fun x => by
      rcases x with x | x
      · unfold inV at x; omega
      · unfold inS at x; omega)]
  have wf6 : ∀ z, A6 4 z = A4 4 z ∧ A6 20 z = A4 20 z := fun z => by
    rw [f6.1 4 z (by unfold inS; omega), f6.1 20 z (by unfold inS; omega), wf.1 4 z (by omega), wf.1 20 z (by omega)]
    exact ⟨rfl, rfl⟩
  obtain ⟨h, hh⟩ : ∃ h, h = gEmp g r := ⟨_, rfl⟩
  rw [← hh] at y k3 s6' hG6 ⊢
  have cL := chL_at u0 u37 u2 h (A6 (pl + 3)) r
  have cS := chS_at u0 u37 u2 h (A6 (pl + 3)) r
  have cT := stM_at u37 h
  have y1 : (chL M5 h (A6 (pl + 3)) r).1 < 1000000 := by rw [cL, uo]; exact y
  have hO1 := hP6.2.2
  have h3 := hM5.1.2.1
  have hgr6 := hG6.1.1 r hr8.1 hr8.2
  obtain ⟨⟨k5, k6, k7⟩, k20⟩ := k3.1 y
  obtain ⟨hc1', hc2'⟩ := hG6.lockB (o := A6 (pl + 3)) hM5 hO1 hr5 y1
  have hcb := (chL_b (o := A6 (pl + 3)) hM5 (hG6.need hM5 hr5).1).2.1
  have h5 := hM5.1.2.2.2.1
  have h9 := hM5.1.2.2.2.2.2.2.2
  have v5 : A6 4 5 = (chL M h (A (pl + 3)) r).1 := by rw [(wf6 5).1, k5]
  obtain ⟨A7, J7, e2, s2, f2⟩ := s_fill (c := c) hNow hPl hSv (by omega) (by omega) s6' hG6.1.1 hM5 hP6 r (chL M5 h (A6 (pl + 3)) r).2 hr8 (by omega) (tk (M5 0 9) (A6 (pl + 3)) (M5 2) (stM M5 h) (chS M5 h (A6 (pl + 3)) r)) (by rw [(wf6 7).1, k7, cL, uo]) (fun p a b => by
    show A6 20 _ = _
    rw [(wf6 _).2, cS, cT, u2, u0 9 (by omega) (by omega), uo]
    exact k20 p a (by rw [← u0 9 (by omega) (by omega)]; exact b)) hc1' hc2'
  have hBn : 0 ≤ Bn n ∧ Bn n ≤ 600000000 := by unfold Bn; omega
  have hG2 := hG6.lock hM5 (u37.trans h37) hO1 hr5 hBn y1
  have v5b : A7 4 5 = (chL M h (A (pl + 3)) r).1 := by rw [f2.1 _ _ (by unfold inS; omega)]; exact v5
  have E2 : gLock h r (A6 (pl + 3)) (tk (M5 0 9) (A6 (pl + 3)) (M5 2) (stM M5 h) (chS M5 h (A6 (pl + 3)) r)) (M5 0 9) (chL M5 h (A6 (pl + 3)) r).2 = gLock h r (A (pl + 3)) (tk (M 0 9) (A (pl + 3)) (M 2) (stM M h) (chS M h (A (pl + 3)) r)) (M 0 9) (chL M h (A (pl + 3)) r).2 := by rw [cL, cS, cT, u2, u0 9 (by omega) (by omega), uo]
  have e5 := gLock_5 h r (A6 (pl + 3)) (tk (M5 0 9) (A6 (pl + 3)) (M5 2) (stM M5 h) (chS M5 h (A6 (pl + 3)) r)) (M5 0 9) (chL M5 h (A6 (pl + 3)) r).2 hr.1 hgr6 (by omega) (by omega) (fun q a b => ⟨by have := hO1.1 q a b; omega, (hc1' q a b).1⟩) hc2'
  rw [← e5] at s2
  have hI3 := hI5.chg hl5 ((f6.trans f2).mono fun b hb => Or.inl hb) (scr.refl M5).s4 s2 (hG2.mono hBs)
  rw [E2] at hI3
  refine ⟨A7, J7, M5, ?_, hI3, h05, ⟨fun z a b => w3 z (by omega), u1, u2⟩, fun b z q => ?_, fun b j q => ?_⟩
  · simp (disch := first | assumption | omega) only [fX6_relock, lkV hk, lkR0 hk, lkR1 hk, lkR2 hk, lkR3 hk, lkR4 hk, lkR5 hk, lkR6 hk, lkR7 hk, lkR8 hk, lkR9 hk, lkI hk, k_E, t_E, hcr, rwI1, rwS1, rwI2, rwS2, rwI4, rwS4, rwI5, rwS5, rwI7, rwS7, rwI8, rwS8, rwI9, rwS9, rwR0, rwR3, rwR6, rwA1, rwU1, rwA3, rwU3, rwV, rwJ, rwUJ, plI0, plS0, plI1, plS1, plI2, plS2, plI3, plS3, plI4, plS4, plI5, plS5, plI6, plS6, plI7, plS7, plR8, plR9, plR10, plA1, plU1, plA2, plU2, plA3, plU3, plV, stI2, stS2, stI3, stS3, stI4, stS4, stI5, stS5, stI6, stS6, stI7, stS7, stR0, stR1, stA2, stU2, stV, stRow, svI5, svS5, svI6, svS6, svI7, svS7, svR0, svR1, svR2, svR3, svR4, svA13, svU13, svA14, svU14, svA15, svU15, svA16, svU16, svV, svRow, svF, svUF, hiI1, hiS1, hiI2, hiS2, hiR0, hiV, hiRow, rdI2, rdS2, rdI3, rdS3, rdI4, rdS4, rdI5, rdS5, rdI6, rdS6, rdI7, rdS7, rdI8, rdS8, rdR0, rdR1, rdA1, rdU1, rdA2, rdU2, rdV, k_C, ↓reduceIte, tr_lt, fa_lt, tr_le, fa_le, tr_eq, fa_eq, and_true, true_and, and_false, false_and, il0, il1, il2, il3, il4, il5, il6, il7, il8, il9, il10, il11, il12, il15, il16, il20, il24, il31, il32, il44, il45, il48, il50, il57, il58, il59, il63, il91, il93, il97, il99, il100, il109, il113, il119, il120, il122, il200, il255, il480, il500, il501, il512, il999, il4112, il41120, il1000000, il1000003, ii_add, ii_sub, ii_mul, ii_neg, ii_le, ii_lt, ii_eq, ii_div, q_I, q_V, q_R, lt_q, rZ_q, md_M, md_16, md_4, md_8, md_10, if_true, if_false, if_pos, if_neg, c1, c2, c3, w1, e6, e2, v5b]
  · rw [f2.1 b z (by unfold inS; omega), f6.1 b z (by unfold inS; omega), wf.1 b z (by omega), f4.1 b z (fun x => by
      rcases x with x | x
      · unfold inV at x; omega
      · unfold inS at x; omega)]
  · rw [f2.2 b j (by unfold inS; omega), f6.2 b j (by unfold inS; omega), wf.2 b j (by omega), f4.2 b j (fun x => by
      rcases x with x | x
      · unfold inV at x; omega
      · unfold inS at x; omega)]
theorem d_relockN (hI : Inv C0 N0 n pl sp tv cap c A J M g) (hl : M 0 1 = 1) (h0 : M 0 0 = 0) (r : Int) (hr : 0 ≤ r ∧ r < M 0 3) (y : ¬ (chL M (gEmp g r) (A (pl + 3)) r).1 < 1000000) : ∃ (A' : AI) (J' : JI), fX6_relock 0 (ii r) (CW c A J) = some (.inr "java/lang/IllegalArgumentException", CW (cU c) A' J') ∧ frm scC A A' J J' := by
  have hk := hI.1
  have hRd : isReader c 1 := hk.2.1.1
  have hSv : isSolver c 4 := hk.2.1.2.1
  have hHi : isHist c 21 := hk.2.1.2.2.1
  have hNow : isState c 303 := hk.2.1.2.2.2.1
  have hSpr : isState c 338 := hk.2.1.2.2.2.2.1
  have hPl : isPlan c pl := hk.2.2.2.1.2.1
  obtain ⟨h10, hM, hP, hS, hG⟩ := hI.ld hl
  rw [up_eqv h0] at hM hP hS hG
  obtain ⟨p0, p1, p2, p3, p4, p5, p6, p7⟩ := hP.1
  have hc1 := c_chase1 (A := A) (J := J) hk h10
  have h38 := hM.1.2.1
  have h910 := hM.1.2.2.2.2.2.2.2
  have hcr := c_row1 (A := A) (J := J) hk h10 r (by rw [p1]; exact hr) (by rw [p1]; exact h38.2)
  have hr8 : 0 ≤ r ∧ r < 8 := by omega
  have hR := hNow.row r hr8
  have hrr := hS.2 r hr.1 (by omega)
  have hgr := hG.1.1 r hr.1 (by omega)
  obtain ⟨A1, J1, A2, A3, A4, c1, c2, c3, k3, f4⟩ := c_rel (0, 0) hI r hl (by rw [up_eqv h0]; exact hr)
  rw [up_eqv h0] at c3
  rw [if_neg y] at c3
  refine ⟨A4, J1, ?_, f4⟩
  simp (disch := first | assumption | omega) only [fX6_relock, lkV hk, lkR0 hk, lkR1 hk, lkR2 hk, lkR3 hk, lkR4 hk, lkR5 hk, lkR6 hk, lkR7 hk, lkR8 hk, lkR9 hk, lkI hk, k_E, t_E, hcr, rwI1, rwS1, rwI2, rwS2, rwI4, rwS4, rwI5, rwS5, rwI7, rwS7, rwI8, rwS8, rwI9, rwS9, rwR0, rwR3, rwR6, rwA1, rwU1, rwA3, rwU3, rwV, rwJ, rwUJ, plI0, plS0, plI1, plS1, plI2, plS2, plI3, plS3, plI4, plS4, plI5, plS5, plI6, plS6, plI7, plS7, plR8, plR9, plR10, plA1, plU1, plA2, plU2, plA3, plU3, plV, stI2, stS2, stI3, stS3, stI4, stS4, stI5, stS5, stI6, stS6, stI7, stS7, stR0, stR1, stA2, stU2, stV, stRow, svI5, svS5, svI6, svS6, svI7, svS7, svR0, svR1, svR2, svR3, svR4, svA13, svU13, svA14, svU14, svA15, svU15, svA16, svU16, svV, svRow, svF, svUF, hiI1, hiS1, hiI2, hiS2, hiR0, hiV, hiRow, rdI2, rdS2, rdI3, rdS3, rdI4, rdS4, rdI5, rdS5, rdI6, rdS6, rdI7, rdS7, rdI8, rdS8, rdR0, rdR1, rdA1, rdU1, rdA2, rdU2, rdV, k_C, ↓reduceIte, tr_lt, fa_lt, tr_le, fa_le, tr_eq, fa_eq, and_true, true_and, and_false, false_and, il0, il1, il2, il3, il4, il5, il6, il7, il8, il9, il10, il11, il12, il15, il16, il20, il24, il31, il32, il44, il45, il48, il50, il57, il58, il59, il63, il91, il93, il97, il99, il100, il109, il113, il119, il120, il122, il200, il255, il480, il500, il501, il512, il999, il4112, il41120, il1000000, il1000003, ii_add, ii_sub, ii_mul, ii_neg, ii_le, ii_lt, ii_eq, ii_div, q_I, q_V, q_R, lt_q, rZ_q, md_M, md_16, md_4, md_8, md_10, if_true, if_false, if_pos, if_neg, c1, c2, c3, t_E]
end LKD
