/-! THE CLASS'S CALLS, AS THE LAW MAKES THEM: those that change -/
/-- of the model's settings all stay -/
abbrev KP (M M' : AI) : Prop := (∀ z, 0 ≤ z → z ≤ 9 → M' 0 z = M 0 z) ∧ M' 1 = M 1 ∧ M' 2 = M 2
/-- the call answers v, the content is g', and the law's cells are as they were -/
abbrev DCh (C0 N0 n pl sp tv cap : Nat) (c : CC) (A : AI) (J : JI) (M : AI) (x : Option AR) (v : Int) (g' : Int → Int) : Prop := ∃ (A' : AI) (J' : JI) (M' : AI), x = some (Sum.inl (some (Value.int (ii (v)))), CW c A' J') ∧ Inv C0 N0 (n + 1) pl sp tv cap c A' J' M' g' ∧ M' 0 0 = 0 ∧ KP M M' ∧ (∀ (b : Nat) (z : Int), 373 ≤ b → A' b z = A b z) ∧ ∀ b j : Nat, 373 ≤ b → J' b j = J b j
theorem shN_at {M M' : AI} (k : KP M M') (g : Int → Int) : ∀ n : Nat, shN M' g n = shN M g n
  | 0 => rfl
  | n + 1 => by rw [shN_s, shN_s, shN_at k g n, k.1 6 (by omega) (by omega)]
theorem daN_at {M M' : AI} (k : KP M M') (g : Int → Int) : ∀ n : Nat, daN M' g n = daN M g n
  | 0 => rfl
  | n + 1 => by rw [daN_s, daN_s, daN_at k g n, k.1 7 (by omega) (by omega), k.2.1]
theorem gapM_kp {M M' : AI} (k : KP M M') (g : Int → Int) (r : Int) : gapM M' g r = gapM M g r := gapM_at (k.1 2 (by omega) (by omega)) (k.1 4 (by omega) (by omega)) k.2.2
theorem lkN_at {M M' : AI} (k : KP M M') (g : Int → Int) : ∀ n : Nat, lkN M' g n = lkN M g n
  | 0 => rfl
  | n + 1 => by rw [lkN_s, lkN_s, lkN_at k g n, k.1 8 (by omega) (by omega), gapM_kp k]
theorem gdN_at {M M' : AI} (k : KP M M') (g : Int → Int) : ∀ n : Nat, gdN M' g n = gdN M g n
  | 0 => rfl
  | n + 1 => by rw [gdN_s, gdN_s, gdN_at k g n, gapM_kp k]
theorem gPr_at {M M' : AI} (k : KP M M') (g : Int → Int) : gPr M' g = gPr M g := by
  unfold gPr
  rw [k.1 3 (by omega) (by omega), shN_at k, lkN_at k, gdN_at k]
theorem gDa_at {M M' : AI} (k : KP M M') (g : Int → Int) : gDa M' g = gDa M g := by
  unfold gDa
  rw [k.1 3 (by omega) (by omega), daN_at k, lkN_at k]
theorem prN_at {M M' : AI} (k : KP M M') (g : Int → Int) : ∀ n : Nat, prN M' g n = prN M g n
  | 0 => rfl
  | n + 1 => by
    show (gPr M' (prN M' g n)).2 = (gPr M (prN M g n)).2
    rw [prN_at k g n, gPr_at k]
theorem dyN_at {M M' : AI} (k : KP M M') (g : Int → Int) : ∀ n : Nat, dyN M' g n = dyN M g n
  | 0 => rfl
  | n + 1 => by
    show (gDa M' (dyN M' g n)).2 = (gDa M (dyN M g n)).2
    rw [dyN_at k g n, gDa_at k]
section CHD
variable {C0 N0 n : Nat} {c : CC} {A : AI} {J : JI} {M : AI} {g : Int → Int} {pl sp tv cap : Nat}
theorem d_place (hI : Inv C0 N0 n pl sp tv cap c A J M g) (hl : M 0 1 = 1) (h0 : M 0 0 = 0) (r L : Int) (hr : 0 ≤ r ∧ r < M 0 3) (hL : 1 ≤ L ∧ L ≤ 200) (h6 : cel g r 0 < 6) (hgp0 : L ≤ gapM M g r) : DCh C0 N0 n pl sp tv cap c A J M (fX6_place 0 (ii r) (ii L) (CW c A J)) (gapM M (gAdds g r L) r) (gAdds g r L) := by
  have hk := hI.1
  have hRd : isReader c 1 := hk.2.1.1
  have hSv : isSolver c 4 := hk.2.1.2.1
  have hHi : isHist c 21 := hk.2.1.2.2.1
  have hNow : isState c 303 := hk.2.1.2.2.2.1
  have hSpr : isState c 338 := hk.2.1.2.2.2.2.1
  have hPl : isPlan c pl := hk.2.2.2.1.2.1
  obtain ⟨h10, hM, hP, hS, hG⟩ := hI.ld hl
  rw [up_eqv h0] at hM hP hS hG
  obtain ⟨p0, p1, p2, p3, p4, p5, p6, p7⟩ := hP.1
  have hc1 := c_chase1 (A := A) (J := J) hk h10
  have h38 := hM.1.2.1
  have h910 := hM.1.2.2.2.2.2.2.2
  have hcr := c_row1 (A := A) (J := J) hk h10 r (by rw [p1]; exact hr) (by rw [p1]; exact h38.2)
  have hr8 : 0 ≤ r ∧ r < 8 := by omega
  have hR := hNow.row r hr8
  have hrr := hS.2 r hr.1 (by omega)
  have hgr := hG.1.1 r hr.1 (by omega)
  have hI0 := hI
  have hl0 := hl
  obtain ⟨A1, J1, M1, w1, -, hI1, ⟨w3, w4⟩, wf⟩ := remB (K := (0, 0)) hI0 hl0
  have hl1 : M1 0 1 = 1 := (w3 1 (by omega)).trans hl0
  obtain ⟨hM1, hP1, hS1, hG1⟩ := hI1.li hl1
  have h01 : M1 0 0 = 0 := (w3 0 (by omega)).trans h0
  have y1 : M1 1 = M 1 := funext fun z => (w4 1 z (by omega) (by omega))
  have y2 : M1 2 = M 2 := funext fun z => (w4 2 z (by omega) (by omega))
  have y3 : M1 0 3 = M 0 3 := w3 3 (by omega)
  have y5 : M1 0 5 = M 0 5 := w3 5 (by omega)
  have y9 : M1 0 9 = M 0 9 := w3 9 (by omega)
  have y4 : M1 0 4 = M 0 4 := w3 4 (by omega)
  have gq : ∀ (h : Int → Int) (r : Int), gapM M1 h r = gapM M h r := fun h r => gapM_at (w3 2 (by omega)) y4 y2
  have nq : ∀ (h : Int → Int) (r : Int), needM M1 h r = needM M h r := fun h r => by unfold needM; rw [gq, y4]
  have hap := hk.2.2.2.1.1
  have hBs : Bn n ≤ Bn (n + 1) := Bn_s n
  have hr1 : 0 ≤ r ∧ r < M1 0 3 := by rw [y3]; exact hr
  have hrr1 := hS1.2 r hr.1 (by omega)
  have hbl := c_nBL1 (c := c) (A := A) (J := J) L hL
  have htb := c_takesBlock (c := c) hR hPl hrr hgr hM p0 p2 L (by omega)
  rw [if_pos ⟨h6, hgp0⟩] at htb
  obtain ⟨A2, e2, s2, f2⟩ := s_adds (c := c) hNow hS1 hG1.1.1 r L hr8 h6
  have hG2 := hG1.adds hM1 hr1 L ⟨hL, by rw [gq]; exact hgp0⟩ h6
  have hgr2 := hG2.1.1 r hr.1 hr8.2
  have hgb := gapM_b hM hgr
  have h1 := hgr.1
  have hP2 : PR A2 pl M1 := PR_S hP1 (by omega) f2
  have z0 := hP2.1.1
  have z2 := hP2.1.2.2.1
  have hgp := c_gapIn (c := c) hR hPl (s2.2 r hr.1 (by omega)) hgr2 z0 z2
  refine ⟨A2, J1, M1, ?_, hI1.chg hl1 (f2.mono fun b hb => Or.inl hb) (scr.refl M1).s4 ?_ (hG2.mono hBs), h01, ⟨fun z a b => w3 z (by omega), y1, y2⟩, fun b z q => (f2.1 b z (by unfold inS; omega)).trans (wf.1 b z (by omega)), fun b j q => (f2.2 b j (by unfold inS; omega)).trans (wf.2 b j (by omega))⟩
  · rw [← gq (gAdds g r L) r]
    simp (disch := first | assumption | omega) only [fX6_place, lkV hk, lkR0 hk, lkR1 hk, lkR2 hk, lkR3 hk, lkR4 hk, lkR5 hk, lkR6 hk, lkR7 hk, lkR8 hk, lkR9 hk, lkI hk, k_E, t_E, hcr, hbl, rwI1, rwS1, rwI2, rwS2, rwI4, rwS4, rwI5, rwS5, rwI7, rwS7, rwI8, rwS8, rwI9, rwS9, rwR0, rwR3, rwR6, rwA1, rwU1, rwA3, rwU3, rwV, rwJ, rwUJ, plI0, plS0, plI1, plS1, plI2, plS2, plI3, plS3, plI4, plS4, plI5, plS5, plI6, plS6, plI7, plS7, plR8, plR9, plR10, plA1, plU1, plA2, plU2, plA3, plU3, plV, stI2, stS2, stI3, stS3, stI4, stS4, stI5, stS5, stI6, stS6, stI7, stS7, stR0, stR1, stA2, stU2, stV, stRow, svI5, svS5, svI6, svS6, svI7, svS7, svR0, svR1, svR2, svR3, svR4, svA13, svU13, svA14, svU14, svA15, svU15, svA16, svU16, svV, svRow, svF, svUF, hiI1, hiS1, hiI2, hiS2, hiR0, hiV, hiRow, rdI2, rdS2, rdI3, rdS3, rdI4, rdS4, rdI5, rdS5, rdI6, rdS6, rdI7, rdS7, rdI8, rdS8, rdR0, rdR1, rdA1, rdU1, rdA2, rdU2, rdV, k_C, ↓reduceIte, tr_lt, fa_lt, tr_le, fa_le, tr_eq, fa_eq, and_true, true_and, and_false, false_and, il0, il1, il2, il3, il4, il5, il6, il7, il8, il9, il10, il11, il12, il15, il16, il20, il24, il31, il32, il44, il45, il48, il50, il57, il58, il59, il63, il91, il93, il97, il99, il100, il109, il113, il119, il120, il122, il200, il255, il480, il500, il501, il512, il999, il4112, il41120, il1000000, il1000003, ii_add, ii_sub, ii_mul, ii_neg, ii_le, ii_lt, ii_eq, ii_div, q_I, q_V, q_R, lt_q, rZ_q, md_M, md_16, md_4, md_8, md_10, if_true, if_false, if_pos, if_neg, htb, w1, e2, hgp]
  · rw [lo_gAdds g r L 5 (by omega)]; exact s2
theorem d_lift (hI : Inv C0 N0 n pl sp tv cap c A J M g) (hl : M 0 1 = 1) (h0 : M 0 0 = 0) (r i : Int) (hr : 0 ≤ r ∧ r < M 0 3) (q : 0 ≤ i ∧ i < cel g r 0) : DCh C0 N0 n pl sp tv cap c A J M (fX6_lift 0 (ii r) (ii i) (CW c A J)) (cel g r (5 + i)) (gLift g r i) := by
  have hk := hI.1
  have hRd : isReader c 1 := hk.2.1.1
  have hSv : isSolver c 4 := hk.2.1.2.1
  have hHi : isHist c 21 := hk.2.1.2.2.1
  have hNow : isState c 303 := hk.2.1.2.2.2.1
  have hSpr : isState c 338 := hk.2.1.2.2.2.2.1
  have hPl : isPlan c pl := hk.2.2.2.1.2.1
  obtain ⟨h10, hM, hP, hS, hG⟩ := hI.ld hl
  rw [up_eqv h0] at hM hP hS hG
  obtain ⟨p0, p1, p2, p3, p4, p5, p6, p7⟩ := hP.1
  have hc1 := c_chase1 (A := A) (J := J) hk h10
  have h38 := hM.1.2.1
  have h910 := hM.1.2.2.2.2.2.2.2
  have hcr := c_row1 (A := A) (J := J) hk h10 r (by rw [p1]; exact hr) (by rw [p1]; exact h38.2)
  have hr8 : 0 ≤ r ∧ r < 8 := by omega
  have hR := hNow.row r hr8
  have hrr := hS.2 r hr.1 (by omega)
  have hgr := hG.1.1 r hr.1 (by omega)
  have hI0 := hI
  have hl0 := hl
  obtain ⟨A1, J1, M1, w1, -, hI1, ⟨w3, w4⟩, wf⟩ := remB (K := (0, 0)) hI0 hl0
  have hl1 : M1 0 1 = 1 := (w3 1 (by omega)).trans hl0
  obtain ⟨hM1, hP1, hS1, hG1⟩ := hI1.li hl1
  have h01 : M1 0 0 = 0 := (w3 0 (by omega)).trans h0
  have y1 : M1 1 = M 1 := funext fun z => (w4 1 z (by omega) (by omega))
  have y2 : M1 2 = M 2 := funext fun z => (w4 2 z (by omega) (by omega))
  have y3 : M1 0 3 = M 0 3 := w3 3 (by omega)
  have y5 : M1 0 5 = M 0 5 := w3 5 (by omega)
  have y9 : M1 0 9 = M 0 9 := w3 9 (by omega)
  have y4 : M1 0 4 = M 0 4 := w3 4 (by omega)
  have gq : ∀ (h : Int → Int) (r : Int), gapM M1 h r = gapM M h r := fun h r => gapM_at (w3 2 (by omega)) y4 y2
  have nq : ∀ (h : Int → Int) (r : Int), needM M1 h r = needM M h r := fun h r => by unfold needM; rw [gq, y4]
  have hap := hk.2.2.2.1.1
  have hBs : Bn n ≤ Bn (n + 1) := Bn_s n
  have hr1 : 0 ≤ r ∧ r < M1 0 3 := by rw [y3]; exact hr
  have hrr1 := hS1.2 r hr.1 (by omega)
  obtain ⟨A2, e2, s2, f2⟩ := s_lift (c := c) hNow hS1 hG1.1.1 r i hr8 q
  have hG2 := hG1.lift hM1 hr1 i q
  refine ⟨A2, J1, M1, ?_, hI1.chg hl1 (f2.mono fun b hb => Or.inl hb) (scr.refl M1).s4 ?_ (hG2.mono hBs), h01, ⟨fun z a b => w3 z (by omega), y1, y2⟩, fun b z q => (f2.1 b z (by unfold inS; omega)).trans (wf.1 b z (by omega)), fun b j q => (f2.2 b j (by unfold inS; omega)).trans (wf.2 b j (by omega))⟩
  · have x1 := hrr.1.1
    have h1 := hgr.1
    simp (disch := first | assumption | omega) only [fX6_lift, lkV hk, lkR0 hk, lkR1 hk, lkR2 hk, lkR3 hk, lkR4 hk, lkR5 hk, lkR6 hk, lkR7 hk, lkR8 hk, lkR9 hk, lkI hk, k_E, t_E, hcr, rwI1, rwS1, rwI2, rwS2, rwI4, rwS4, rwI5, rwS5, rwI7, rwS7, rwI8, rwS8, rwI9, rwS9, rwR0, rwR3, rwR6, rwA1, rwU1, rwA3, rwU3, rwV, rwJ, rwUJ, plI0, plS0, plI1, plS1, plI2, plS2, plI3, plS3, plI4, plS4, plI5, plS5, plI6, plS6, plI7, plS7, plR8, plR9, plR10, plA1, plU1, plA2, plU2, plA3, plU3, plV, stI2, stS2, stI3, stS3, stI4, stS4, stI5, stS5, stI6, stS6, stI7, stS7, stR0, stR1, stA2, stU2, stV, stRow, svI5, svS5, svI6, svS6, svI7, svS7, svR0, svR1, svR2, svR3, svR4, svA13, svU13, svA14, svU14, svA15, svU15, svA16, svU16, svV, svRow, svF, svUF, hiI1, hiS1, hiI2, hiS2, hiR0, hiV, hiRow, rdI2, rdS2, rdI3, rdS3, rdI4, rdS4, rdI5, rdS5, rdI6, rdS6, rdI7, rdS7, rdI8, rdS8, rdR0, rdR1, rdA1, rdU1, rdA2, rdU2, rdV, k_C, ↓reduceIte, tr_lt, fa_lt, tr_le, fa_le, tr_eq, fa_eq, and_true, true_and, and_false, false_and, il0, il1, il2, il3, il4, il5, il6, il7, il8, il9, il10, il11, il12, il15, il16, il20, il24, il31, il32, il44, il45, il48, il50, il57, il58, il59, il63, il91, il93, il97, il99, il100, il109, il113, il119, il120, il122, il200, il255, il480, il500, il501, il512, il999, il4112, il41120, il1000000, il1000003, ii_add, ii_sub, ii_mul, ii_neg, ii_le, ii_lt, ii_eq, ii_div, q_I, q_V, q_R, lt_q, rZ_q, md_M, md_16, md_4, md_8, md_10, if_true, if_false, if_pos, if_neg, x1, c_index1, w1, e2]
  · rw [lo_gLift g r i 5 (by omega)]; exact s2
theorem d_put (hI : Inv C0 N0 n pl sp tv cap c A J M g) (hl : M 0 1 = 1) (h0 : M 0 0 = 0) (r k : Int) (hr : 0 ≤ r ∧ r < M 0 3) (hkd : 0 ≤ k ∧ k < M 0 9) (y : 0 < g (6 + k)) (z : M 2 k ≤ gapM M g r) : DCh C0 N0 n pl sp tv cap c A J M (fX6_put 0 (ii r) (ii k) (CW c A J)) (gapM M (gPut g r k) r) (gPut g r k) := by
  have hk := hI.1
  have hRd : isReader c 1 := hk.2.1.1
  have hSv : isSolver c 4 := hk.2.1.2.1
  have hHi : isHist c 21 := hk.2.1.2.2.1
  have hNow : isState c 303 := hk.2.1.2.2.2.1
  have hSpr : isState c 338 := hk.2.1.2.2.2.2.1
  have hPl : isPlan c pl := hk.2.2.2.1.2.1
  obtain ⟨h10, hM, hP, hS, hG⟩ := hI.ld hl
  rw [up_eqv h0] at hM hP hS hG
  obtain ⟨p0, p1, p2, p3, p4, p5, p6, p7⟩ := hP.1
  have hc1 := c_chase1 (A := A) (J := J) hk h10
  have h38 := hM.1.2.1
  have h910 := hM.1.2.2.2.2.2.2.2
  have hcr := c_row1 (A := A) (J := J) hk h10 r (by rw [p1]; exact hr) (by rw [p1]; exact h38.2)
  have hr8 : 0 ≤ r ∧ r < 8 := by omega
  have hR := hNow.row r hr8
  have hrr := hS.2 r hr.1 (by omega)
  have hgr := hG.1.1 r hr.1 (by omega)
  have hI0 := hI
  have hl0 := hl
  obtain ⟨A1, J1, M1, w1, -, hI1, ⟨w3, w4⟩, wf⟩ := remB (K := (0, 0)) hI0 hl0
  have hl1 : M1 0 1 = 1 := (w3 1 (by omega)).trans hl0
  obtain ⟨hM1, hP1, hS1, hG1⟩ := hI1.li hl1
  have h01 : M1 0 0 = 0 := (w3 0 (by omega)).trans h0
  have y1 : M1 1 = M 1 := funext fun z => (w4 1 z (by omega) (by omega))
  have y2 : M1 2 = M 2 := funext fun z => (w4 2 z (by omega) (by omega))
  have y3 : M1 0 3 = M 0 3 := w3 3 (by omega)
  have y5 : M1 0 5 = M 0 5 := w3 5 (by omega)
  have y9 : M1 0 9 = M 0 9 := w3 9 (by omega)
  have y4 : M1 0 4 = M 0 4 := w3 4 (by omega)
  have gq : ∀ (h : Int → Int) (r : Int), gapM M1 h r = gapM M h r := fun h r => gapM_at (w3 2 (by omega)) y4 y2
  have nq : ∀ (h : Int → Int) (r : Int), needM M1 h r = needM M h r := fun h r => by unfold needM; rw [gq, y4]
  have hap := hk.2.2.2.1.1
  have hBs : Bn n ≤ Bn (n + 1) := Bn_s n
  have hr1 : 0 ≤ r ∧ r < M1 0 3 := by rw [y3]; exact hr
  have hrr1 := hS1.2 r hr.1 (by omega)
  have hck := c_kind1 (A := A) (J := J) hk k (by rw [p7]; exact hkd) (by rw [p7]; omega)
  have hL := hG.GL k hkd.1 (by omega)
  have htp := c_takesPiece (c := c) hk hNow hPl r k hr8 (by omega) hM hS hG.1.1 p0 p2 (hP.2.1 k hkd.1 hkd.2).2 hL
  rw [if_pos ⟨y, z⟩] at htp
  have hgb := gapM_b hM hgr
  have hb := hM.2.2.1 k hkd.1 (by omega)
  obtain ⟨hG2, h5⟩ := hG1.put hM1 hr1 k (by rw [y9]; exact hkd) y (by rw [gq, y2]; exact z)
  obtain ⟨A2, J2, e2, s2, f2⟩ := s_moveIn (c := c) hNow hPl (by omega) hS1 hG1.1.1 r k hr8 (by omega) (hP1.2.1 k hkd.1 (by rw [y9]; exact hkd.2)).2 h5
  have hgr2 := hG2.1.1 r hr.1 hr8.2
  have hP2 : PR A2 pl M1 := PR_S hP1 (by omega) f2
  have z0 := hP2.1.1
  have z2 := hP2.1.2.2.1
  have hgp := c_gapIn (c := c) hR hPl (s2.2 r hr.1 (by omega)) hgr2 z0 z2
  have hd10 : 0 ≤ k ∧ k < 10 := by omega
  refine ⟨A2, J2, M1, ?_, hI1.chg hl1 (f2.mono fun b hb => Or.inl hb) (scr.refl M1).s4 ?_ (hG2.mono hBs), h01, ⟨fun z a b => w3 z (by omega), y1, y2⟩, fun b z q => (f2.1 b z (by unfold inS; omega)).trans (wf.1 b z (by omega)), fun b j q => (f2.2 b j (by unfold inS; omega)).trans (wf.2 b j (by omega))⟩
  · rw [← gq (gPut g r k) r]
    simp (disch := first | assumption | omega) only [fX6_put, lkV hk, lkR0 hk, lkR1 hk, lkR2 hk, lkR3 hk, lkR4 hk, lkR5 hk, lkR6 hk, lkR7 hk, lkR8 hk, lkR9 hk, lkI hk, k_E, t_E, hcr, hck, rwI1, rwS1, rwI2, rwS2, rwI4, rwS4, rwI5, rwS5, rwI7, rwS7, rwI8, rwS8, rwI9, rwS9, rwR0, rwR3, rwR6, rwA1, rwU1, rwA3, rwU3, rwV, rwJ, rwUJ, plI0, plS0, plI1, plS1, plI2, plS2, plI3, plS3, plI4, plS4, plI5, plS5, plI6, plS6, plI7, plS7, plR8, plR9, plR10, plA1, plU1, plA2, plU2, plA3, plU3, plV, stI2, stS2, stI3, stS3, stI4, stS4, stI5, stS5, stI6, stS6, stI7, stS7, stR0, stR1, stA2, stU2, stV, stRow, svI5, svS5, svI6, svS6, svI7, svS7, svR0, svR1, svR2, svR3, svR4, svA13, svU13, svA14, svU14, svA15, svU15, svA16, svU16, svV, svRow, svF, svUF, hiI1, hiS1, hiI2, hiS2, hiR0, hiV, hiRow, rdI2, rdS2, rdI3, rdS3, rdI4, rdS4, rdI5, rdS5, rdI6, rdS6, rdI7, rdS7, rdI8, rdS8, rdR0, rdR1, rdA1, rdU1, rdA2, rdU2, rdV, k_C, ↓reduceIte, tr_lt, fa_lt, tr_le, fa_le, tr_eq, fa_eq, and_true, true_and, and_false, false_and, il0, il1, il2, il3, il4, il5, il6, il7, il8, il9, il10, il11, il12, il15, il16, il20, il24, il31, il32, il44, il45, il48, il50, il57, il58, il59, il63, il91, il93, il97, il99, il100, il109, il113, il119, il120, il122, il200, il255, il480, il500, il501, il512, il999, il4112, il41120, il1000000, il1000003, ii_add, ii_sub, ii_mul, ii_neg, ii_le, ii_lt, ii_eq, ii_div, q_I, q_V, q_R, lt_q, rZ_q, md_M, md_16, md_4, md_8, md_10, if_true, if_false, if_pos, if_neg, htp, w1, e2, hgp]
  · rw [lo_gPut g r k 5 (by have := hgr.2.1; omega), if_neg (by omega)]; exact s2
theorem d_take (hI : Inv C0 N0 n pl sp tv cap c A J M g) (hl : M 0 1 = 1) (h0 : M 0 0 = 0) (r i : Int) (hr : 0 ≤ r ∧ r < M 0 3) (q : 0 ≤ i ∧ i < cel g r 1) : DCh C0 N0 n pl sp tv cap c A J M (fX6_take 0 (ii r) (ii i) (CW c A J)) (cel g r (11 + i)) (gTake g r i) := by
  have hk := hI.1
  have hRd : isReader c 1 := hk.2.1.1
  have hSv : isSolver c 4 := hk.2.1.2.1
  have hHi : isHist c 21 := hk.2.1.2.2.1
  have hNow : isState c 303 := hk.2.1.2.2.2.1
  have hSpr : isState c 338 := hk.2.1.2.2.2.2.1
  have hPl : isPlan c pl := hk.2.2.2.1.2.1
  obtain ⟨h10, hM, hP, hS, hG⟩ := hI.ld hl
  rw [up_eqv h0] at hM hP hS hG
  obtain ⟨p0, p1, p2, p3, p4, p5, p6, p7⟩ := hP.1
  have hc1 := c_chase1 (A := A) (J := J) hk h10
  have h38 := hM.1.2.1
  have h910 := hM.1.2.2.2.2.2.2.2
  have hcr := c_row1 (A := A) (J := J) hk h10 r (by rw [p1]; exact hr) (by rw [p1]; exact h38.2)
  have hr8 : 0 ≤ r ∧ r < 8 := by omega
  have hR := hNow.row r hr8
  have hrr := hS.2 r hr.1 (by omega)
  have hgr := hG.1.1 r hr.1 (by omega)
  have hI0 := hI
  have hl0 := hl
  obtain ⟨A1, J1, M1, w1, -, hI1, ⟨w3, w4⟩, wf⟩ := remB (K := (0, 0)) hI0 hl0
  have hl1 : M1 0 1 = 1 := (w3 1 (by omega)).trans hl0
  obtain ⟨hM1, hP1, hS1, hG1⟩ := hI1.li hl1
  have h01 : M1 0 0 = 0 := (w3 0 (by omega)).trans h0
  have y1 : M1 1 = M 1 := funext fun z => (w4 1 z (by omega) (by omega))
  have y2 : M1 2 = M 2 := funext fun z => (w4 2 z (by omega) (by omega))
  have y3 : M1 0 3 = M 0 3 := w3 3 (by omega)
  have y5 : M1 0 5 = M 0 5 := w3 5 (by omega)
  have y9 : M1 0 9 = M 0 9 := w3 9 (by omega)
  have y4 : M1 0 4 = M 0 4 := w3 4 (by omega)
  have gq : ∀ (h : Int → Int) (r : Int), gapM M1 h r = gapM M h r := fun h r => gapM_at (w3 2 (by omega)) y4 y2
  have nq : ∀ (h : Int → Int) (r : Int), needM M1 h r = needM M h r := fun h r => by unfold needM; rw [gq, y4]
  have hap := hk.2.2.2.1.1
  have hBs : Bn n ≤ Bn (n + 1) := Bn_s n
  have hr1 : 0 ≤ r ∧ r < M1 0 3 := by rw [y3]; exact hr
  have hrr1 := hS1.2 r hr.1 (by omega)
  have hv := hgr.2.2.2.1 i q.1 q.2
  have hkb := hG1.1.2.2.2.1 r hr.1 hr8.2 i q.1 q.2
  obtain ⟨A2, J2, e2, s2, f2⟩ := s_moveOut (c := c) hNow hPl (by omega) hS1 hG1.1.1 r i hr8 q (hP1.2.1 _ hv.1 hkb).2
  have hG2 := hG1.take hM1 hr1 i q
  refine ⟨A2, J2, M1, ?_, hI1.chg hl1 (f2.mono fun b hb => Or.inl hb) (scr.refl M1).s4 ?_ (hG2.mono hBs), h01, ⟨fun z a b => w3 z (by omega), y1, y2⟩, fun b z q => (f2.1 b z (by unfold inS; omega)).trans (wf.1 b z (by omega)), fun b j q => (f2.2 b j (by unfold inS; omega)).trans (wf.2 b j (by omega))⟩
  · have x1 := hrr.1.2.2.1
    have h1 := hgr.2.1
    simp (disch := first | assumption | omega) only [fX6_take, lkV hk, lkR0 hk, lkR1 hk, lkR2 hk, lkR3 hk, lkR4 hk, lkR5 hk, lkR6 hk, lkR7 hk, lkR8 hk, lkR9 hk, lkI hk, k_E, t_E, hcr, rwI1, rwS1, rwI2, rwS2, rwI4, rwS4, rwI5, rwS5, rwI7, rwS7, rwI8, rwS8, rwI9, rwS9, rwR0, rwR3, rwR6, rwA1, rwU1, rwA3, rwU3, rwV, rwJ, rwUJ, plI0, plS0, plI1, plS1, plI2, plS2, plI3, plS3, plI4, plS4, plI5, plS5, plI6, plS6, plI7, plS7, plR8, plR9, plR10, plA1, plU1, plA2, plU2, plA3, plU3, plV, stI2, stS2, stI3, stS3, stI4, stS4, stI5, stS5, stI6, stS6, stI7, stS7, stR0, stR1, stA2, stU2, stV, stRow, svI5, svS5, svI6, svS6, svI7, svS7, svR0, svR1, svR2, svR3, svR4, svA13, svU13, svA14, svU14, svA15, svU15, svA16, svU16, svV, svRow, svF, svUF, hiI1, hiS1, hiI2, hiS2, hiR0, hiV, hiRow, rdI2, rdS2, rdI3, rdS3, rdI4, rdS4, rdI5, rdS5, rdI6, rdS6, rdI7, rdS7, rdI8, rdS8, rdR0, rdR1, rdA1, rdU1, rdA2, rdU2, rdV, k_C, ↓reduceIte, tr_lt, fa_lt, tr_le, fa_le, tr_eq, fa_eq, and_true, true_and, and_false, false_and, il0, il1, il2, il3, il4, il5, il6, il7, il8, il9, il10, il11, il12, il15, il16, il20, il24, il31, il32, il44, il45, il48, il50, il57, il58, il59, il63, il91, il93, il97, il99, il100, il109, il113, il119, il120, il122, il200, il255, il480, il500, il501, il512, il999, il4112, il41120, il1000000, il1000003, ii_add, ii_sub, ii_mul, ii_neg, ii_le, ii_lt, ii_eq, ii_div, q_I, q_V, q_R, lt_q, rZ_q, md_M, md_16, md_4, md_8, md_10, if_true, if_false, if_pos, if_neg, x1, c_index1, w1, e2]
  · rw [lo_gTake g r i 5 (by omega), if_neg (by omega)]; exact s2
theorem d_unlock (hI : Inv C0 N0 n pl sp tv cap c A J M g) (hl : M 0 1 = 1) (h0 : M 0 0 = 0) (r : Int) (hr : 0 ≤ r ∧ r < M 0 3)  : DCh C0 N0 n pl sp tv cap c A J M (fX6_unlock 0 (ii r) (CW c A J)) (cel g r 1) (gEmp g r) := by
  have hk := hI.1
  have hRd : isReader c 1 := hk.2.1.1
  have hSv : isSolver c 4 := hk.2.1.2.1
  have hHi : isHist c 21 := hk.2.1.2.2.1
  have hNow : isState c 303 := hk.2.1.2.2.2.1
  have hSpr : isState c 338 := hk.2.1.2.2.2.2.1
  have hPl : isPlan c pl := hk.2.2.2.1.2.1
  obtain ⟨h10, hM, hP, hS, hG⟩ := hI.ld hl
  rw [up_eqv h0] at hM hP hS hG
  obtain ⟨p0, p1, p2, p3, p4, p5, p6, p7⟩ := hP.1
  have hc1 := c_chase1 (A := A) (J := J) hk h10
  have h38 := hM.1.2.1
  have h910 := hM.1.2.2.2.2.2.2.2
  have hcr := c_row1 (A := A) (J := J) hk h10 r (by rw [p1]; exact hr) (by rw [p1]; exact h38.2)
  have hr8 : 0 ≤ r ∧ r < 8 := by omega
  have hR := hNow.row r hr8
  have hrr := hS.2 r hr.1 (by omega)
  have hgr := hG.1.1 r hr.1 (by omega)
  have hI0 := hI
  have hl0 := hl
  obtain ⟨A1, J1, M1, w1, -, hI1, ⟨w3, w4⟩, wf⟩ := remB (K := (0, 0)) hI0 hl0
  have hl1 : M1 0 1 = 1 := (w3 1 (by omega)).trans hl0
  obtain ⟨hM1, hP1, hS1, hG1⟩ := hI1.li hl1
  have h01 : M1 0 0 = 0 := (w3 0 (by omega)).trans h0
  have y1 : M1 1 = M 1 := funext fun z => (w4 1 z (by omega) (by omega))
  have y2 : M1 2 = M 2 := funext fun z => (w4 2 z (by omega) (by omega))
  have y3 : M1 0 3 = M 0 3 := w3 3 (by omega)
  have y5 : M1 0 5 = M 0 5 := w3 5 (by omega)
  have y9 : M1 0 9 = M 0 9 := w3 9 (by omega)
  have y4 : M1 0 4 = M 0 4 := w3 4 (by omega)
  have gq : ∀ (h : Int → Int) (r : Int), gapM M1 h r = gapM M h r := fun h r => gapM_at (w3 2 (by omega)) y4 y2
  have nq : ∀ (h : Int → Int) (r : Int), needM M1 h r = needM M h r := fun h r => by unfold needM; rw [gq, y4]
  have hap := hk.2.2.2.1.1
  have hBs : Bn n ≤ Bn (n + 1) := Bn_s n
  have hr1 : 0 ≤ r ∧ r < M1 0 3 := by rw [y3]; exact hr
  have hrr1 := hS1.2 r hr.1 (by omega)
  have hB0 : 0 ≤ Bn n := by unfold Bn; omega
  obtain ⟨A2, e2, s2, f2⟩ := s_empty (c := c) hNow hS1 hG1.1.1 hG1.1.2.1 r hr8
  have hG2 := hG1.emp hM1 hr1 hB0
  refine ⟨A2, J1, M1, ?_, hI1.chg hl1 (f2.mono fun b hb => Or.inl hb) (scr.refl M1).s4 ?_ (hG2.mono hBs), h01, ⟨fun z a b => w3 z (by omega), y1, y2⟩, fun b z q => (f2.1 b z (by unfold inS; omega)).trans (wf.1 b z (by omega)), fun b j q => (f2.2 b j (by unfold inS; omega)).trans (wf.2 b j (by omega))⟩
  · have x1 := hrr.1.2.2.1
    simp (disch := first | assumption | omega) only [fX6_unlock, lkV hk, lkR0 hk, lkR1 hk, lkR2 hk, lkR3 hk, lkR4 hk, lkR5 hk, lkR6 hk, lkR7 hk, lkR8 hk, lkR9 hk, lkI hk, k_E, t_E, hcr, rwI1, rwS1, rwI2, rwS2, rwI4, rwS4, rwI5, rwS5, rwI7, rwS7, rwI8, rwS8, rwI9, rwS9, rwR0, rwR3, rwR6, rwA1, rwU1, rwA3, rwU3, rwV, rwJ, rwUJ, plI0, plS0, plI1, plS1, plI2, plS2, plI3, plS3, plI4, plS4, plI5, plS5, plI6, plS6, plI7, plS7, plR8, plR9, plR10, plA1, plU1, plA2, plU2, plA3, plU3, plV, stI2, stS2, stI3, stS3, stI4, stS4, stI5, stS5, stI6, stS6, stI7, stS7, stR0, stR1, stA2, stU2, stV, stRow, svI5, svS5, svI6, svS6, svI7, svS7, svR0, svR1, svR2, svR3, svR4, svA13, svU13, svA14, svU14, svA15, svU15, svA16, svU16, svV, svRow, svF, svUF, hiI1, hiS1, hiI2, hiS2, hiR0, hiV, hiRow, rdI2, rdS2, rdI3, rdS3, rdI4, rdS4, rdI5, rdS5, rdI6, rdS6, rdI7, rdS7, rdI8, rdS8, rdR0, rdR1, rdA1, rdU1, rdA2, rdU2, rdV, k_C, ↓reduceIte, tr_lt, fa_lt, tr_le, fa_le, tr_eq, fa_eq, and_true, true_and, and_false, false_and, il0, il1, il2, il3, il4, il5, il6, il7, il8, il9, il10, il11, il12, il15, il16, il20, il24, il31, il32, il44, il45, il48, il50, il57, il58, il59, il63, il91, il93, il97, il99, il100, il109, il113, il119, il120, il122, il200, il255, il480, il500, il501, il512, il999, il4112, il41120, il1000000, il1000003, ii_add, ii_sub, ii_mul, ii_neg, ii_le, ii_lt, ii_eq, ii_div, q_I, q_V, q_R, lt_q, rZ_q, md_M, md_16, md_4, md_8, md_10, if_true, if_false, if_pos, if_neg, x1, w1, e2]
  · rw [lo_gEmp g r 5 (by omega), if_neg (by omega), if_neg (by omega)]; exact s2
theorem d_buy (hI : Inv C0 N0 n pl sp tv cap c A J M g) (hl : M 0 1 = 1) (h0 : M 0 0 = 0) (k L : Int) (hkd : 0 ≤ k ∧ k < M 0 9) (q : 1 ≤ L ∧ L ≤ 99) (y : g (6 + k) + L ≤ 99) : DCh C0 N0 n pl sp tv cap c A J M (fX6_buy 0 (ii k) (ii L) (CW c A J)) (g (6 + k) + L) (gu g (6 + k) (g (6 + k) + L)) := by
  have hk := hI.1
  have hRd : isReader c 1 := hk.2.1.1
  have hSv : isSolver c 4 := hk.2.1.2.1
  have hHi : isHist c 21 := hk.2.1.2.2.1
  have hNow : isState c 303 := hk.2.1.2.2.2.1
  have hSpr : isState c 338 := hk.2.1.2.2.2.2.1
  have hPl : isPlan c pl := hk.2.2.2.1.2.1
  obtain ⟨h10, hM, hP, hS, hG⟩ := hI.ld hl
  rw [up_eqv h0] at hM hP hS hG
  obtain ⟨p0, p1, p2, p3, p4, p5, p6, p7⟩ := hP.1
  have hc1 := c_chase1 (A := A) (J := J) hk h10
  have h38 := hM.1.2.1
  have h910 := hM.1.2.2.2.2.2.2.2
  have hI0 := hI
  have hl0 := hl
  obtain ⟨A1, J1, M1, w1, -, hI1, ⟨w3, w4⟩, wf⟩ := remB (K := (0, 0)) hI0 hl0
  have hl1 : M1 0 1 = 1 := (w3 1 (by omega)).trans hl0
  obtain ⟨hM1, hP1, hS1, hG1⟩ := hI1.li hl1
  have h01 : M1 0 0 = 0 := (w3 0 (by omega)).trans h0
  have y1 : M1 1 = M 1 := funext fun z => (w4 1 z (by omega) (by omega))
  have y2 : M1 2 = M 2 := funext fun z => (w4 2 z (by omega) (by omega))
  have y3 : M1 0 3 = M 0 3 := w3 3 (by omega)
  have y5 : M1 0 5 = M 0 5 := w3 5 (by omega)
  have y9 : M1 0 9 = M 0 9 := w3 9 (by omega)
  have y4 : M1 0 4 = M 0 4 := w3 4 (by omega)
  have gq : ∀ (h : Int → Int) (r : Int), gapM M1 h r = gapM M h r := fun h r => gapM_at (w3 2 (by omega)) y4 y2
  have nq : ∀ (h : Int → Int) (r : Int), needM M1 h r = needM M h r := fun h r => by unfold needM; rw [gq, y4]
  have hap := hk.2.2.2.1.1
  have hBs : Bn n ≤ Bn (n + 1) := Bn_s n
  have hck := c_kind1 (A := A) (J := J) hk k (by rw [p7]; exact hkd) (by rw [p7]; omega)
  have hL := hG.GL k hkd.1 (by omega)
  have x1 := hS.1.2 k hkd.1 (by omega)
  have x2 := hS1.1.2 k hkd.1 (by omega)
  have s2 := SR_stock hS1 hG1.1.1 k (g (6 + k) + L) (by omega)
  have hG2 := hG1.buy hM1 k L (by rw [y9]; exact hkd) ⟨q.1, y⟩
  have f2 : frm (inS 303) A1 (up A1 (303 + 2) k (g (6 + k) + L)) J1 J1 := frm_up (frm.refl _ _ _) _ _ _ (by unfold inS; omega)
  refine ⟨up A1 (303 + 2) k (g (6 + k) + L), J1, M1, ?_, hI1.chg hl1 (f2.mono fun b hb => Or.inl hb) (scr.refl M1).s4 ?_ (hG2.mono hBs), h01, ⟨fun z a b => w3 z (by omega), y1, y2⟩, fun b z q => (f2.1 b z (by unfold inS; omega)).trans (wf.1 b z (by omega)), fun b j q => (f2.2 b j (by unfold inS; omega)).trans (wf.2 b j (by omega))⟩
  · simp (disch := first | assumption | omega) only [fX6_buy, lkV hk, lkR0 hk, lkR1 hk, lkR2 hk, lkR3 hk, lkR4 hk, lkR5 hk, lkR6 hk, lkR7 hk, lkR8 hk, lkR9 hk, lkI hk, k_E, t_E, hc1, hck, rwI1, rwS1, rwI2, rwS2, rwI4, rwS4, rwI5, rwS5, rwI7, rwS7, rwI8, rwS8, rwI9, rwS9, rwR0, rwR3, rwR6, rwA1, rwU1, rwA3, rwU3, rwV, rwJ, rwUJ, plI0, plS0, plI1, plS1, plI2, plS2, plI3, plS3, plI4, plS4, plI5, plS5, plI6, plS6, plI7, plS7, plR8, plR9, plR10, plA1, plU1, plA2, plU2, plA3, plU3, plV, stI2, stS2, stI3, stS3, stI4, stS4, stI5, stS5, stI6, stS6, stI7, stS7, stR0, stR1, stA2, stU2, stV, stRow, svI5, svS5, svI6, svS6, svI7, svS7, svR0, svR1, svR2, svR3, svR4, svA13, svU13, svA14, svU14, svA15, svU15, svA16, svU16, svV, svRow, svF, svUF, hiI1, hiS1, hiI2, hiS2, hiR0, hiV, hiRow, rdI2, rdS2, rdI3, rdS3, rdI4, rdS4, rdI5, rdS5, rdI6, rdS6, rdI7, rdS7, rdI8, rdS8, rdR0, rdR1, rdA1, rdU1, rdA2, rdU2, rdV, k_C, ↓reduceIte, tr_lt, fa_lt, tr_le, fa_le, tr_eq, fa_eq, and_true, true_and, and_false, false_and, il0, il1, il2, il3, il4, il5, il6, il7, il8, il9, il10, il11, il12, il15, il16, il20, il24, il31, il32, il44, il45, il48, il50, il57, il58, il59, il63, il91, il93, il97, il99, il100, il109, il113, il119, il120, il122, il200, il255, il480, il500, il501, il512, il999, il4112, il41120, il1000000, il1000003, ii_add, ii_sub, ii_mul, ii_neg, ii_le, ii_lt, ii_eq, ii_div, q_I, q_V, q_R, lt_q, rZ_q, md_M, md_16, md_4, md_8, md_10, if_true, if_false, if_pos, if_neg, x1, w1, x2, up_s]
  · rw [gu_n _ _ _ _ (by omega)]; exact s2
theorem d_quoin0 (hI : Inv C0 N0 n pl sp tv cap c A J M g) (hl : M 0 1 = 1) (h0 : M 0 0 = 0) (r : Int) (hr : 0 ≤ r ∧ r < M 0 3) (h2 : cel g r 2 ≠ -1) : DCh C0 N0 n pl sp tv cap c A J M (fX6_quoin 0 (ii r) (ii 0) (CW c A J)) (gapM M (gNoQ g r) r) (gNoQ g r) := by
  have hk := hI.1
  have hRd : isReader c 1 := hk.2.1.1
  have hSv : isSolver c 4 := hk.2.1.2.1
  have hHi : isHist c 21 := hk.2.1.2.2.1
  have hNow : isState c 303 := hk.2.1.2.2.2.1
  have hSpr : isState c 338 := hk.2.1.2.2.2.2.1
  have hPl : isPlan c pl := hk.2.2.2.1.2.1
  obtain ⟨h10, hM, hP, hS, hG⟩ := hI.ld hl
  rw [up_eqv h0] at hM hP hS hG
  obtain ⟨p0, p1, p2, p3, p4, p5, p6, p7⟩ := hP.1
  have hc1 := c_chase1 (A := A) (J := J) hk h10
  have h38 := hM.1.2.1
  have h910 := hM.1.2.2.2.2.2.2.2
  have hcr := c_row1 (A := A) (J := J) hk h10 r (by rw [p1]; exact hr) (by rw [p1]; exact h38.2)
  have hr8 : 0 ≤ r ∧ r < 8 := by omega
  have hR := hNow.row r hr8
  have hrr := hS.2 r hr.1 (by omega)
  have hgr := hG.1.1 r hr.1 (by omega)
  have hI0 := hI
  have hl0 := hl
  obtain ⟨A1, J1, M1, w1, -, hI1, ⟨w3, w4⟩, wf⟩ := remB (K := (0, 0)) hI0 hl0
  have hl1 : M1 0 1 = 1 := (w3 1 (by omega)).trans hl0
  obtain ⟨hM1, hP1, hS1, hG1⟩ := hI1.li hl1
  have h01 : M1 0 0 = 0 := (w3 0 (by omega)).trans h0
  have y1 : M1 1 = M 1 := funext fun z => (w4 1 z (by omega) (by omega))
  have y2 : M1 2 = M 2 := funext fun z => (w4 2 z (by omega) (by omega))
  have y3 : M1 0 3 = M 0 3 := w3 3 (by omega)
  have y5 : M1 0 5 = M 0 5 := w3 5 (by omega)
  have y9 : M1 0 9 = M 0 9 := w3 9 (by omega)
  have y4 : M1 0 4 = M 0 4 := w3 4 (by omega)
  have gq : ∀ (h : Int → Int) (r : Int), gapM M1 h r = gapM M h r := fun h r => gapM_at (w3 2 (by omega)) y4 y2
  have nq : ∀ (h : Int → Int) (r : Int), needM M1 h r = needM M h r := fun h r => by unfold needM; rw [gq, y4]
  have hap := hk.2.2.2.1.1
  have hBs : Bn n ≤ Bn (n + 1) := Bn_s n
  have hr1 : 0 ≤ r ∧ r < M1 0 3 := by rw [y3]; exact hr
  have hrr1 := hS1.2 r hr.1 (by omega)
  have x7 := hrr.1.2.2.2.2.1
  have h7 := hgr.2.2.2.2.1
  have hcq := c_hasQuoin (c := c) (A := A) (J := J) hR (by rw [x7]; exact h7)
  rw [x7, if_neg h2] at hcq
  obtain ⟨A2, e2, s2, f2⟩ := s_removeQuoin (c := c) hNow hS1 hG1.1.1 hG1.1.2.1 r hr8
  have hG2 := hG1.noq hM1 hr1
  have hgr2 := hG2.1.1 r hr.1 hr8.2
  have hP2 : PR A2 pl M1 := PR_S hP1 (by omega) f2
  have z0 := hP2.1.1
  have z2 := hP2.1.2.2.1
  have hgp := c_gapIn (c := c) hR hPl (s2.2 r hr.1 (by omega)) hgr2 z0 z2
  refine ⟨A2, J1, M1, ?_, hI1.chg hl1 (f2.mono fun b hb => Or.inl hb) (scr.refl M1).s4 ?_ (hG2.mono hBs), h01, ⟨fun z a b => w3 z (by omega), y1, y2⟩, fun b z q => (f2.1 b z (by unfold inS; omega)).trans (wf.1 b z (by omega)), fun b j q => (f2.2 b j (by unfold inS; omega)).trans (wf.2 b j (by omega))⟩
  · rw [← gq (gNoQ g r) r]
    simp (disch := first | assumption | omega) only [fX6_quoin, fX6_quoin_68, fX6_quoin_103, lkV hk, lkR0 hk, lkR1 hk, lkR2 hk, lkR3 hk, lkR4 hk, lkR5 hk, lkR6 hk, lkR7 hk, lkR8 hk, lkR9 hk, lkI hk, k_E, t_E, hcr, rwI1, rwS1, rwI2, rwS2, rwI4, rwS4, rwI5, rwS5, rwI7, rwS7, rwI8, rwS8, rwI9, rwS9, rwR0, rwR3, rwR6, rwA1, rwU1, rwA3, rwU3, rwV, rwJ, rwUJ, plI0, plS0, plI1, plS1, plI2, plS2, plI3, plS3, plI4, plS4, plI5, plS5, plI6, plS6, plI7, plS7, plR8, plR9, plR10, plA1, plU1, plA2, plU2, plA3, plU3, plV, stI2, stS2, stI3, stS3, stI4, stS4, stI5, stS5, stI6, stS6, stI7, stS7, stR0, stR1, stA2, stU2, stV, stRow, svI5, svS5, svI6, svS6, svI7, svS7, svR0, svR1, svR2, svR3, svR4, svA13, svU13, svA14, svU14, svA15, svU15, svA16, svU16, svV, svRow, svF, svUF, hiI1, hiS1, hiI2, hiS2, hiR0, hiV, hiRow, rdI2, rdS2, rdI3, rdS3, rdI4, rdS4, rdI5, rdS5, rdI6, rdS6, rdI7, rdS7, rdI8, rdS8, rdR0, rdR1, rdA1, rdU1, rdA2, rdU2, rdV, k_C, ↓reduceIte, tr_lt, fa_lt, tr_le, fa_le, tr_eq, fa_eq, and_true, true_and, and_false, false_and, il0, il1, il2, il3, il4, il5, il6, il7, il8, il9, il10, il11, il12, il15, il16, il20, il24, il31, il32, il44, il45, il48, il50, il57, il58, il59, il63, il91, il93, il97, il99, il100, il109, il113, il119, il120, il122, il200, il255, il480, il500, il501, il512, il999, il4112, il41120, il1000000, il1000003, ii_add, ii_sub, ii_mul, ii_neg, ii_le, ii_lt, ii_eq, ii_div, q_I, q_V, q_R, lt_q, rZ_q, md_M, md_16, md_4, md_8, md_10, if_true, if_false, if_pos, if_neg, hcq, w1, e2, hgp]
  · rw [lo_gNoQ g r 5 (by omega), if_neg (by omega)]; exact s2
theorem d_quoin1 (hI : Inv C0 N0 n pl sp tv cap c A J M g) (hl : M 0 1 = 1) (h0 : M 0 0 = 0) (r : Int) (hr : 0 ≤ r ∧ r < M 0 3) (h2 : cel g r 2 = -1) (hq0 : g 0 ≠ 0) (hq : M 0 4 ≤ gapM M g r) : DCh C0 N0 n pl sp tv cap c A J M (fX6_quoin 0 (ii r) (ii 1) (CW c A J)) (gapM M (gQ g r 0) r) (gQ g r 0) := by
  have hk := hI.1
  have hRd : isReader c 1 := hk.2.1.1
  have hSv : isSolver c 4 := hk.2.1.2.1
  have hHi : isHist c 21 := hk.2.1.2.2.1
  have hNow : isState c 303 := hk.2.1.2.2.2.1
  have hSpr : isState c 338 := hk.2.1.2.2.2.2.1
  have hPl : isPlan c pl := hk.2.2.2.1.2.1
  obtain ⟨h10, hM, hP, hS, hG⟩ := hI.ld hl
  rw [up_eqv h0] at hM hP hS hG
  obtain ⟨p0, p1, p2, p3, p4, p5, p6, p7⟩ := hP.1
  have hc1 := c_chase1 (A := A) (J := J) hk h10
  have h38 := hM.1.2.1
  have h910 := hM.1.2.2.2.2.2.2.2
  have hcr := c_row1 (A := A) (J := J) hk h10 r (by rw [p1]; exact hr) (by rw [p1]; exact h38.2)
  have hr8 : 0 ≤ r ∧ r < 8 := by omega
  have hR := hNow.row r hr8
  have hrr := hS.2 r hr.1 (by omega)
  have hgr := hG.1.1 r hr.1 (by omega)
  have hI0 := hI
  have hl0 := hl
  obtain ⟨A1, J1, M1, w1, -, hI1, ⟨w3, w4⟩, wf⟩ := remB (K := (0, 0)) hI0 hl0
  have hl1 : M1 0 1 = 1 := (w3 1 (by omega)).trans hl0
  obtain ⟨hM1, hP1, hS1, hG1⟩ := hI1.li hl1
  have h01 : M1 0 0 = 0 := (w3 0 (by omega)).trans h0
  have y1 : M1 1 = M 1 := funext fun z => (w4 1 z (by omega) (by omega))
  have y2 : M1 2 = M 2 := funext fun z => (w4 2 z (by omega) (by omega))
  have y3 : M1 0 3 = M 0 3 := w3 3 (by omega)
  have y5 : M1 0 5 = M 0 5 := w3 5 (by omega)
  have y9 : M1 0 9 = M 0 9 := w3 9 (by omega)
  have y4 : M1 0 4 = M 0 4 := w3 4 (by omega)
  have gq : ∀ (h : Int → Int) (r : Int), gapM M1 h r = gapM M h r := fun h r => gapM_at (w3 2 (by omega)) y4 y2
  have nq : ∀ (h : Int → Int) (r : Int), needM M1 h r = needM M h r := fun h r => by unfold needM; rw [gq, y4]
  have hap := hk.2.2.2.1.1
  have hBs : Bn n ≤ Bn (n + 1) := Bn_s n
  have hr1 : 0 ≤ r ∧ r < M1 0 3 := by rw [y3]; exact hr
  have hrr1 := hS1.2 r hr.1 (by omega)
  have x7 := hrr.1.2.2.2.2.1
  have h7 := hgr.2.2.2.2.1
  have hcq := c_hasQuoin (c := c) (A := A) (J := J) hR (by rw [x7]; exact h7)
  rw [x7, if_pos h2] at hcq
  have hg0 := hG.h0
  have x2 := hS.1.1.1
  have h4 := hM.1.2.2.1
  have h5 := hM.1.2.2.2.1
  have hgb := gapM_b hM hgr
  have hgpA := c_gapIn (c := c) hR hPl hrr hgr p0 p2
  obtain ⟨A2, e2, s2, f2⟩ := s_setQuoin (c := c) hNow hS1 hG1.1.1 r 0 hr8 (by omega)
  obtain ⟨hG2, hgg⟩ := hG1.q hM1 hr1 0 (by omega) (Or.inr (by omega)) (by
    rw [nq, y4]
    unfold needM uQ
    rw [if_pos h2]
    omega)
  have hgr2 := hG2.1.1 r hr.1 hr8.2
  have hP2 : PR A2 pl M1 := PR_S hP1 (by omega) f2
  have z0 := hP2.1.1
  have z2 := hP2.1.2.2.1
  have hgp := c_gapIn (c := c) hR hPl (s2.2 r hr.1 (by omega)) hgr2 z0 z2
  refine ⟨A2, J1, M1, ?_, hI1.chg hl1 (f2.mono fun b hb => Or.inl hb) (scr.refl M1).s4 ?_ (hG2.mono hBs), h01, ⟨fun z a b => w3 z (by omega), y1, y2⟩, fun b z q => (f2.1 b z (by unfold inS; omega)).trans (wf.1 b z (by omega)), fun b j q => (f2.2 b j (by unfold inS; omega)).trans (wf.2 b j (by omega))⟩
  · rw [← gq (gQ g r 0) r]
    simp (disch := first | assumption | omega) only [fX6_quoin, fX6_quoin_68, fX6_quoin_103, lkV hk, lkR0 hk, lkR1 hk, lkR2 hk, lkR3 hk, lkR4 hk, lkR5 hk, lkR6 hk, lkR7 hk, lkR8 hk, lkR9 hk, lkI hk, k_E, t_E, hcr, rwI1, rwS1, rwI2, rwS2, rwI4, rwS4, rwI5, rwS5, rwI7, rwS7, rwI8, rwS8, rwI9, rwS9, rwR0, rwR3, rwR6, rwA1, rwU1, rwA3, rwU3, rwV, rwJ, rwUJ, plI0, plS0, plI1, plS1, plI2, plS2, plI3, plS3, plI4, plS4, plI5, plS5, plI6, plS6, plI7, plS7, plR8, plR9, plR10, plA1, plU1, plA2, plU2, plA3, plU3, plV, stI2, stS2, stI3, stS3, stI4, stS4, stI5, stS5, stI6, stS6, stI7, stS7, stR0, stR1, stA2, stU2, stV, stRow, svI5, svS5, svI6, svS6, svI7, svS7, svR0, svR1, svR2, svR3, svR4, svA13, svU13, svA14, svU14, svA15, svU15, svA16, svU16, svV, svRow, svF, svUF, hiI1, hiS1, hiI2, hiS2, hiR0, hiV, hiRow, rdI2, rdS2, rdI3, rdS3, rdI4, rdS4, rdI5, rdS5, rdI6, rdS6, rdI7, rdS7, rdI8, rdS8, rdR0, rdR1, rdA1, rdU1, rdA2, rdU2, rdV, k_C, ↓reduceIte, tr_lt, fa_lt, tr_le, fa_le, tr_eq, fa_eq, and_true, true_and, and_false, false_and, il0, il1, il2, il3, il4, il5, il6, il7, il8, il9, il10, il11, il12, il15, il16, il20, il24, il31, il32, il44, il45, il48, il50, il57, il58, il59, il63, il91, il93, il97, il99, il100, il109, il113, il119, il120, il122, il200, il255, il480, il500, il501, il512, il999, il4112, il41120, il1000000, il1000003, ii_add, ii_sub, ii_mul, ii_neg, ii_le, ii_lt, ii_eq, ii_div, q_I, q_V, q_R, lt_q, rZ_q, md_M, md_16, md_4, md_8, md_10, if_true, if_false, if_pos, if_neg, hcq, x2, p2, hgpA, w1, e2, hgp]
  · rw [lo_gQ g r 0 5 (by omega), if_neg (by omega)]; exact s2
theorem d_open (hI : Inv C0 N0 n pl sp tv cap c A J M g) (hl : M 0 1 = 1) (h0 : M 0 0 = 0) (r o : Int) (hr : 0 ≤ r ∧ r < M 0 3) (h2 : cel g r 2 ≠ -1) (ho : 0 ≤ o ∧ o ≤ M 0 5) (hq : M 0 4 + o ≤ needM M g r) : DCh C0 N0 n pl sp tv cap c A J M (fX6_open 0 (ii r) (ii o) (CW c A J)) (gapM M (gQ g r o) r) (gQ g r o) := by
  have hk := hI.1
  have hRd : isReader c 1 := hk.2.1.1
  have hSv : isSolver c 4 := hk.2.1.2.1
  have hHi : isHist c 21 := hk.2.1.2.2.1
  have hNow : isState c 303 := hk.2.1.2.2.2.1
  have hSpr : isState c 338 := hk.2.1.2.2.2.2.1
  have hPl : isPlan c pl := hk.2.2.2.1.2.1
  obtain ⟨h10, hM, hP, hS, hG⟩ := hI.ld hl
  rw [up_eqv h0] at hM hP hS hG
  obtain ⟨p0, p1, p2, p3, p4, p5, p6, p7⟩ := hP.1
  have hc1 := c_chase1 (A := A) (J := J) hk h10
  have h38 := hM.1.2.1
  have h910 := hM.1.2.2.2.2.2.2.2
  have hcr := c_row1 (A := A) (J := J) hk h10 r (by rw [p1]; exact hr) (by rw [p1]; exact h38.2)
  have hr8 : 0 ≤ r ∧ r < 8 := by omega
  have hR := hNow.row r hr8
  have hrr := hS.2 r hr.1 (by omega)
  have hgr := hG.1.1 r hr.1 (by omega)
  have hI0 := hI
  have hl0 := hl
  obtain ⟨A1, J1, M1, w1, -, hI1, ⟨w3, w4⟩, wf⟩ := remB (K := (0, 0)) hI0 hl0
  have hl1 : M1 0 1 = 1 := (w3 1 (by omega)).trans hl0
  obtain ⟨hM1, hP1, hS1, hG1⟩ := hI1.li hl1
  have h01 : M1 0 0 = 0 := (w3 0 (by omega)).trans h0
  have y1 : M1 1 = M 1 := funext fun z => (w4 1 z (by omega) (by omega))
  have y2 : M1 2 = M 2 := funext fun z => (w4 2 z (by omega) (by omega))
  have y3 : M1 0 3 = M 0 3 := w3 3 (by omega)
  have y5 : M1 0 5 = M 0 5 := w3 5 (by omega)
  have y9 : M1 0 9 = M 0 9 := w3 9 (by omega)
  have y4 : M1 0 4 = M 0 4 := w3 4 (by omega)
  have gq : ∀ (h : Int → Int) (r : Int), gapM M1 h r = gapM M h r := fun h r => gapM_at (w3 2 (by omega)) y4 y2
  have nq : ∀ (h : Int → Int) (r : Int), needM M1 h r = needM M h r := fun h r => by unfold needM; rw [gq, y4]
  have hap := hk.2.2.2.1.1
  have hBs : Bn n ≤ Bn (n + 1) := Bn_s n
  have hr1 : 0 ≤ r ∧ r < M1 0 3 := by rw [y3]; exact hr
  have hrr1 := hS1.2 r hr.1 (by omega)
  have x7 := hrr.1.2.2.2.2.1
  have h7 := hgr.2.2.2.2.1
  have hcq := c_hasQuoin (c := c) (A := A) (J := J) hR (by rw [x7]; exact h7)
  rw [x7, if_neg h2] at hcq
  have h4 := hM.1.2.2.1
  have h5 := hM.1.2.2.2.1
  have hN := (hG.need hM hr).1
  have hrmA := c_roomM (c := c) hR hPl hrr p0
  obtain ⟨A2, e2, s2, f2⟩ := s_setQuoin (c := c) hNow hS1 hG1.1.1 r o hr8 ho.1
  obtain ⟨hG2, hgg⟩ := hG1.q hM1 hr1 o (by omega) (Or.inl h2) (by rw [nq, y4]; omega)
  have hgr2 := hG2.1.1 r hr.1 hr8.2
  have hP2 : PR A2 pl M1 := PR_S hP1 (by omega) f2
  have z0 := hP2.1.1
  have z2 := hP2.1.2.2.1
  have hgp := c_gapIn (c := c) hR hPl (s2.2 r hr.1 (by omega)) hgr2 z0 z2
  refine ⟨A2, J1, M1, ?_, hI1.chg hl1 (f2.mono fun b hb => Or.inl hb) (scr.refl M1).s4 ?_ (hG2.mono hBs), h01, ⟨fun z a b => w3 z (by omega), y1, y2⟩, fun b z q => (f2.1 b z (by unfold inS; omega)).trans (wf.1 b z (by omega)), fun b j q => (f2.2 b j (by unfold inS; omega)).trans (wf.2 b j (by omega))⟩
  · rw [← gq (gQ g r o) r]
    simp (disch := first | assumption | omega) only [fX6_open, lkV hk, lkR0 hk, lkR1 hk, lkR2 hk, lkR3 hk, lkR4 hk, lkR5 hk, lkR6 hk, lkR7 hk, lkR8 hk, lkR9 hk, lkI hk, k_E, t_E, hcr, rwI1, rwS1, rwI2, rwS2, rwI4, rwS4, rwI5, rwS5, rwI7, rwS7, rwI8, rwS8, rwI9, rwS9, rwR0, rwR3, rwR6, rwA1, rwU1, rwA3, rwU3, rwV, rwJ, rwUJ, plI0, plS0, plI1, plS1, plI2, plS2, plI3, plS3, plI4, plS4, plI5, plS5, plI6, plS6, plI7, plS7, plR8, plR9, plR10, plA1, plU1, plA2, plU2, plA3, plU3, plV, stI2, stS2, stI3, stS3, stI4, stS4, stI5, stS5, stI6, stS6, stI7, stS7, stR0, stR1, stA2, stU2, stV, stRow, svI5, svS5, svI6, svS6, svI7, svS7, svR0, svR1, svR2, svR3, svR4, svA13, svU13, svA14, svU14, svA15, svU15, svA16, svU16, svV, svRow, svF, svUF, hiI1, hiS1, hiI2, hiS2, hiR0, hiV, hiRow, rdI2, rdS2, rdI3, rdS3, rdI4, rdS4, rdI5, rdS5, rdI6, rdS6, rdI7, rdS7, rdI8, rdS8, rdR0, rdR1, rdA1, rdU1, rdA2, rdU2, rdV, k_C, ↓reduceIte, tr_lt, fa_lt, tr_le, fa_le, tr_eq, fa_eq, and_true, true_and, and_false, false_and, il0, il1, il2, il3, il4, il5, il6, il7, il8, il9, il10, il11, il12, il15, il16, il20, il24, il31, il32, il44, il45, il48, il50, il57, il58, il59, il63, il91, il93, il97, il99, il100, il109, il113, il119, il120, il122, il200, il255, il480, il500, il501, il512, il999, il4112, il41120, il1000000, il1000003, ii_add, ii_sub, ii_mul, ii_neg, ii_le, ii_lt, ii_eq, ii_div, q_I, q_V, q_R, lt_q, rZ_q, md_M, md_16, md_4, md_8, md_10, if_true, if_false, if_pos, if_neg, hcq, p2, p3, hrmA, w1, e2, hgp]
  · rw [lo_gQ g r o 5 (by omega), if_neg (by omega)]; exact s2
theorem d_tighten (hI : Inv C0 N0 n pl sp tv cap c A J M g) (hl : M 0 1 = 1) (h0 : M 0 0 = 0) (r : Int) (hr : 0 ≤ r ∧ r < M 0 3) (h2 : cel g r 2 ≠ -1) : DCh C0 N0 n pl sp tv cap c A J M (fX6_tighten 0 (ii r) (CW c A J)) (cel (tiF (M 0 5) r 21 g) r 4) (tiF (M 0 5) r 21 g) := by
  have hk := hI.1
  have hRd : isReader c 1 := hk.2.1.1
  have hSv : isSolver c 4 := hk.2.1.2.1
  have hHi : isHist c 21 := hk.2.1.2.2.1
  have hNow : isState c 303 := hk.2.1.2.2.2.1
  have hSpr : isState c 338 := hk.2.1.2.2.2.2.1
  have hPl : isPlan c pl := hk.2.2.2.1.2.1
  obtain ⟨h10, hM, hP, hS, hG⟩ := hI.ld hl
  rw [up_eqv h0] at hM hP hS hG
  obtain ⟨p0, p1, p2, p3, p4, p5, p6, p7⟩ := hP.1
  have hc1 := c_chase1 (A := A) (J := J) hk h10
  have h38 := hM.1.2.1
  have h910 := hM.1.2.2.2.2.2.2.2
  have hcr := c_row1 (A := A) (J := J) hk h10 r (by rw [p1]; exact hr) (by rw [p1]; exact h38.2)
  have hr8 : 0 ≤ r ∧ r < 8 := by omega
  have hR := hNow.row r hr8
  have hrr := hS.2 r hr.1 (by omega)
  have hgr := hG.1.1 r hr.1 (by omega)
  have x7 := hrr.1.2.2.2.2.1
  have h7 := hgr.2.2.2.2.1
  have hcq := c_hasQuoin (c := c) (A := A) (J := J) hR (by rw [x7]; exact h7)
  rw [x7, if_neg h2] at hcq
  have hI0 := hI
  have hl0 := hl
  obtain ⟨A1, J1, M1, w1, -, hI1, ⟨w3, w4⟩, wf⟩ := remB (K := (0, 0)) hI0 hl0
  have hl1 : M1 0 1 = 1 := (w3 1 (by omega)).trans hl0
  obtain ⟨hM1, hP1, hS1, hG1⟩ := hI1.li hl1
  have h01 : M1 0 0 = 0 := (w3 0 (by omega)).trans h0
  have y1 : M1 1 = M 1 := funext fun z => (w4 1 z (by omega) (by omega))
  have y2 : M1 2 = M 2 := funext fun z => (w4 2 z (by omega) (by omega))
  have y3 : M1 0 3 = M 0 3 := w3 3 (by omega)
  have y5 : M1 0 5 = M 0 5 := w3 5 (by omega)
  have y9 : M1 0 9 = M 0 9 := w3 9 (by omega)
  have y4 : M1 0 4 = M 0 4 := w3 4 (by omega)
  have gq : ∀ (h : Int → Int) (r : Int), gapM M1 h r = gapM M h r := fun h r => gapM_at (w3 2 (by omega)) y4 y2
  have nq : ∀ (h : Int → Int) (r : Int), needM M1 h r = needM M h r := fun h r => by unfold needM; rw [gq, y4]
  have hap := hk.2.2.2.1.1
  have hBs : Bn n ≤ Bn (n + 1) := Bn_s n
  have hr1 : 0 ≤ r ∧ r < M1 0 3 := by rw [y3]; exact hr
  have hrr1 := hS1.2 r hr.1 (by omega)
  have hB0 : 0 ≤ Bn n := by unfold Bn; omega
  have h5 := hM1.1.2.2.2.1
  have hFU : 21 < FU := by have := FU_e; omega
  obtain ⟨A2, e2, s2, f2⟩ := c_tiLoop (c := c) (J := J1) (r := r) hk hNow hPl hM1 hr1 hB0 21 FU A1 g hS1 hG1 hP1.1.2.2.2.1 h2 (by omega) hFU
  obtain ⟨hG2, h25⟩ := GC_tiF hM1 hr1 hB0 21 g hG1 h2
  rw [← y5]
  refine ⟨A2, J1, M1, ?_, hI1.chg hl1 (f2.mono fun b hb => Or.inl hb) (scr.refl M1).s4 ?_ (hG2.mono hBs), h01, ⟨fun z a b => w3 z (by omega), y1, y2⟩, fun b z q => (f2.1 b z (by unfold inS; omega)).trans (wf.1 b z (by omega)), fun b j q => (f2.2 b j (by unfold inS; omega)).trans (wf.2 b j (by omega))⟩
  · simp (disch := first | assumption | omega) only [fX6_tighten, lkV hk, lkR0 hk, lkR1 hk, lkR2 hk, lkR3 hk, lkR4 hk, lkR5 hk, lkR6 hk, lkR7 hk, lkR8 hk, lkR9 hk, lkI hk, k_E, t_E, hcr, rwI1, rwS1, rwI2, rwS2, rwI4, rwS4, rwI5, rwS5, rwI7, rwS7, rwI8, rwS8, rwI9, rwS9, rwR0, rwR3, rwR6, rwA1, rwU1, rwA3, rwU3, rwV, rwJ, rwUJ, plI0, plS0, plI1, plS1, plI2, plS2, plI3, plS3, plI4, plS4, plI5, plS5, plI6, plS6, plI7, plS7, plR8, plR9, plR10, plA1, plU1, plA2, plU2, plA3, plU3, plV, stI2, stS2, stI3, stS3, stI4, stS4, stI5, stS5, stI6, stS6, stI7, stS7, stR0, stR1, stA2, stU2, stV, stRow, svI5, svS5, svI6, svS6, svI7, svS7, svR0, svR1, svR2, svR3, svR4, svA13, svU13, svA14, svU14, svA15, svU15, svA16, svU16, svV, svRow, svF, svUF, hiI1, hiS1, hiI2, hiS2, hiR0, hiV, hiRow, rdI2, rdS2, rdI3, rdS3, rdI4, rdS4, rdI5, rdS5, rdI6, rdS6, rdI7, rdS7, rdI8, rdS8, rdR0, rdR1, rdA1, rdU1, rdA2, rdU2, rdV, k_C, ↓reduceIte, tr_lt, fa_lt, tr_le, fa_le, tr_eq, fa_eq, and_true, true_and, and_false, false_and, il0, il1, il2, il3, il4, il5, il6, il7, il8, il9, il10, il11, il12, il15, il16, il20, il24, il31, il32, il44, il45, il48, il50, il57, il58, il59, il63, il91, il93, il97, il99, il100, il109, il113, il119, il120, il122, il200, il255, il480, il500, il501, il512, il999, il4112, il41120, il1000000, il1000003, ii_add, ii_sub, ii_mul, ii_neg, ii_le, ii_lt, ii_eq, ii_div, q_I, q_V, q_R, lt_q, rZ_q, md_M, md_16, md_4, md_8, md_10, if_true, if_false, if_pos, if_neg, hcq, w1, e2]
  · rw [h25]; exact s2
theorem d_print (hI : Inv C0 N0 n pl sp tv cap c A J M g) (hl : M 0 1 = 1) (h0 : M 0 0 = 0) (hn : n ≤ 600) (L : Int) (q : 1 ≤ L ∧ L ≤ 100) : DCh C0 N0 n pl sp tv cap c A J M (fX6_print 0 (ii L) (CW c A J)) (prN M g L.toNat 2 - g 2) (prN M g L.toNat) := by
  have hk := hI.1
  have hRd : isReader c 1 := hk.2.1.1
  have hSv : isSolver c 4 := hk.2.1.2.1
  have hHi : isHist c 21 := hk.2.1.2.2.1
  have hNow : isState c 303 := hk.2.1.2.2.2.1
  have hSpr : isState c 338 := hk.2.1.2.2.2.2.1
  have hPl : isPlan c pl := hk.2.2.2.1.2.1
  obtain ⟨h10, hM, hP, hS, hG⟩ := hI.ld hl
  rw [up_eqv h0] at hM hP hS hG
  obtain ⟨p0, p1, p2, p3, p4, p5, p6, p7⟩ := hP.1
  have hc1 := c_chase1 (A := A) (J := J) hk h10
  have h38 := hM.1.2.1
  have h910 := hM.1.2.2.2.2.2.2.2
  have hI0 := hI
  have hl0 := hl
  obtain ⟨A1, J1, M1, w1, -, hI1, ⟨w3, w4⟩, wf⟩ := remB (K := (0, 0)) hI0 hl0
  have hl1 : M1 0 1 = 1 := (w3 1 (by omega)).trans hl0
  obtain ⟨hM1, hP1, hS1, hG1⟩ := hI1.li hl1
  have h01 : M1 0 0 = 0 := (w3 0 (by omega)).trans h0
  have y1 : M1 1 = M 1 := funext fun z => (w4 1 z (by omega) (by omega))
  have y2 : M1 2 = M 2 := funext fun z => (w4 2 z (by omega) (by omega))
  have y3 : M1 0 3 = M 0 3 := w3 3 (by omega)
  have y5 : M1 0 5 = M 0 5 := w3 5 (by omega)
  have y9 : M1 0 9 = M 0 9 := w3 9 (by omega)
  have y4 : M1 0 4 = M 0 4 := w3 4 (by omega)
  have gq : ∀ (h : Int → Int) (r : Int), gapM M1 h r = gapM M h r := fun h r => gapM_at (w3 2 (by omega)) y4 y2
  have nq : ∀ (h : Int → Int) (r : Int), needM M1 h r = needM M h r := fun h r => by unfold needM; rw [gq, y4]
  have hap := hk.2.2.2.1.1
  have hBs : Bn n ≤ Bn (n + 1) := Bn_s n
  have hBn : 0 ≤ Bn n ∧ Bn n + 54 * 200 ≤ 500000000 := by unfold Bn; omega
  have hnt := c_turns1 (c := c) (A := A) (J := J) L q
  obtain ⟨A2, e2, s2, f2⟩ := s_often (c := c) hNow hPl (by omega) hS1 hM1 hP1 hG1.1 L (by omega) hBn
  have hG2 := (GC_prN hM1 hG1 hBn.1 L.toNat (by omega)).mono (B' := Bn (n + 1)) (by unfold Bn; omega)
  rw [← prN_at (M := M) (M' := M1) ⟨fun z a b => w3 z (by omega), y1, y2⟩ g]
  refine ⟨A2, J1, M1, ?_, hI1.chg hl1 (f2.mono fun b hb => Or.inl hb) (scr.refl M1).s4 s2 hG2, h01, ⟨fun z a b => w3 z (by omega), y1, y2⟩, fun b z q => (f2.1 b z (by unfold inS; omega)).trans (wf.1 b z (by omega)), fun b j q => (f2.2 b j (by unfold inS; omega)).trans (wf.2 b j (by omega))⟩
  simp (disch := first | assumption | omega) only [fX6_print, lkV hk, lkR0 hk, lkR1 hk, lkR2 hk, lkR3 hk, lkR4 hk, lkR5 hk, lkR6 hk, lkR7 hk, lkR8 hk, lkR9 hk, lkI hk, k_E, t_E, hc1, hnt, rwI1, rwS1, rwI2, rwS2, rwI4, rwS4, rwI5, rwS5, rwI7, rwS7, rwI8, rwS8, rwI9, rwS9, rwR0, rwR3, rwR6, rwA1, rwU1, rwA3, rwU3, rwV, rwJ, rwUJ, plI0, plS0, plI1, plS1, plI2, plS2, plI3, plS3, plI4, plS4, plI5, plS5, plI6, plS6, plI7, plS7, plR8, plR9, plR10, plA1, plU1, plA2, plU2, plA3, plU3, plV, stI2, stS2, stI3, stS3, stI4, stS4, stI5, stS5, stI6, stS6, stI7, stS7, stR0, stR1, stA2, stU2, stV, stRow, svI5, svS5, svI6, svS6, svI7, svS7, svR0, svR1, svR2, svR3, svR4, svA13, svU13, svA14, svU14, svA15, svU15, svA16, svU16, svV, svRow, svF, svUF, hiI1, hiS1, hiI2, hiS2, hiR0, hiV, hiRow, rdI2, rdS2, rdI3, rdS3, rdI4, rdS4, rdI5, rdS5, rdI6, rdS6, rdI7, rdS7, rdI8, rdS8, rdR0, rdR1, rdA1, rdU1, rdA2, rdU2, rdV, k_C, ↓reduceIte, tr_lt, fa_lt, tr_le, fa_le, tr_eq, fa_eq, and_true, true_and, and_false, false_and, il0, il1, il2, il3, il4, il5, il6, il7, il8, il9, il10, il11, il12, il15, il16, il20, il24, il31, il32, il44, il45, il48, il50, il57, il58, il59, il63, il91, il93, il97, il99, il100, il109, il113, il119, il120, il122, il200, il255, il480, il500, il501, il512, il999, il4112, il41120, il1000000, il1000003, ii_add, ii_sub, ii_mul, ii_neg, ii_le, ii_lt, ii_eq, ii_div, q_I, q_V, q_R, lt_q, rZ_q, md_M, md_16, md_4, md_8, md_10, if_true, if_false, if_pos, if_neg, w1, e2]
theorem d_rest (hI : Inv C0 N0 n pl sp tv cap c A J M g) (hl : M 0 1 = 1) (h0 : M 0 0 = 0) (hn : n ≤ 600) (L : Int) (q : 1 ≤ L ∧ L ≤ 100) : DCh C0 N0 n pl sp tv cap c A J M (fX6_rest 0 (ii L) (CW c A J)) (dyN M g L.toNat 5 - g 5) (dyN M g L.toNat) := by
  have hk := hI.1
  have hRd : isReader c 1 := hk.2.1.1
  have hSv : isSolver c 4 := hk.2.1.2.1
  have hHi : isHist c 21 := hk.2.1.2.2.1
  have hNow : isState c 303 := hk.2.1.2.2.2.1
  have hSpr : isState c 338 := hk.2.1.2.2.2.2.1
  have hPl : isPlan c pl := hk.2.2.2.1.2.1
  obtain ⟨h10, hM, hP, hS, hG⟩ := hI.ld hl
  rw [up_eqv h0] at hM hP hS hG
  obtain ⟨p0, p1, p2, p3, p4, p5, p6, p7⟩ := hP.1
  have hc1 := c_chase1 (A := A) (J := J) hk h10
  have h38 := hM.1.2.1
  have h910 := hM.1.2.2.2.2.2.2.2
  have hI0 := hI
  have hl0 := hl
  obtain ⟨A1, J1, M1, w1, -, hI1, ⟨w3, w4⟩, wf⟩ := remB (K := (0, 0)) hI0 hl0
  have hl1 : M1 0 1 = 1 := (w3 1 (by omega)).trans hl0
  obtain ⟨hM1, hP1, hS1, hG1⟩ := hI1.li hl1
  have h01 : M1 0 0 = 0 := (w3 0 (by omega)).trans h0
  have y1 : M1 1 = M 1 := funext fun z => (w4 1 z (by omega) (by omega))
  have y2 : M1 2 = M 2 := funext fun z => (w4 2 z (by omega) (by omega))
  have y3 : M1 0 3 = M 0 3 := w3 3 (by omega)
  have y5 : M1 0 5 = M 0 5 := w3 5 (by omega)
  have y9 : M1 0 9 = M 0 9 := w3 9 (by omega)
  have y4 : M1 0 4 = M 0 4 := w3 4 (by omega)
  have gq : ∀ (h : Int → Int) (r : Int), gapM M1 h r = gapM M h r := fun h r => gapM_at (w3 2 (by omega)) y4 y2
  have nq : ∀ (h : Int → Int) (r : Int), needM M1 h r = needM M h r := fun h r => by unfold needM; rw [gq, y4]
  have hap := hk.2.2.2.1.1
  have hBs : Bn n ≤ Bn (n + 1) := Bn_s n
  have hBn : 0 ≤ Bn n ∧ Bn n + 4500 * 100 ≤ 500000000 := by unfold Bn; omega
  have hnt := c_turns1 (c := c) (A := A) (J := J) L q
  obtain ⟨A2, e2, s2, f2⟩ := c_restLoop (c := c) hk hNow hPl hS1 hM1 hP1 hG1 hBn L (by omega)
  have hG2 := (GC_dyN hM1 hG1 hBn.1 L.toNat (by omega)).mono (B' := Bn (n + 1)) (by unfold Bn; omega)
  rw [← dyN_at (M := M) (M' := M1) ⟨fun z a b => w3 z (by omega), y1, y2⟩ g]
  refine ⟨A2, J1, M1, ?_, hI1.chg hl1 (f2.mono fun b hb => Or.inl hb) (scr.refl M1).s4 s2 hG2, h01, ⟨fun z a b => w3 z (by omega), y1, y2⟩, fun b z q => (f2.1 b z (by unfold inS; omega)).trans (wf.1 b z (by omega)), fun b j q => (f2.2 b j (by unfold inS; omega)).trans (wf.2 b j (by omega))⟩
  simp (disch := first | assumption | omega) only [fX6_rest, lkV hk, lkR0 hk, lkR1 hk, lkR2 hk, lkR3 hk, lkR4 hk, lkR5 hk, lkR6 hk, lkR7 hk, lkR8 hk, lkR9 hk, lkI hk, k_E, t_E, hc1, hnt, rwI1, rwS1, rwI2, rwS2, rwI4, rwS4, rwI5, rwS5, rwI7, rwS7, rwI8, rwS8, rwI9, rwS9, rwR0, rwR3, rwR6, rwA1, rwU1, rwA3, rwU3, rwV, rwJ, rwUJ, plI0, plS0, plI1, plS1, plI2, plS2, plI3, plS3, plI4, plS4, plI5, plS5, plI6, plS6, plI7, plS7, plR8, plR9, plR10, plA1, plU1, plA2, plU2, plA3, plU3, plV, stI2, stS2, stI3, stS3, stI4, stS4, stI5, stS5, stI6, stS6, stI7, stS7, stR0, stR1, stA2, stU2, stV, stRow, svI5, svS5, svI6, svS6, svI7, svS7, svR0, svR1, svR2, svR3, svR4, svA13, svU13, svA14, svU14, svA15, svU15, svA16, svU16, svV, svRow, svF, svUF, hiI1, hiS1, hiI2, hiS2, hiR0, hiV, hiRow, rdI2, rdS2, rdI3, rdS3, rdI4, rdS4, rdI5, rdS5, rdI6, rdS6, rdI7, rdS7, rdI8, rdS8, rdR0, rdR1, rdA1, rdU1, rdA2, rdU2, rdV, k_C, ↓reduceIte, tr_lt, fa_lt, tr_le, fa_le, tr_eq, fa_eq, and_true, true_and, and_false, false_and, il0, il1, il2, il3, il4, il5, il6, il7, il8, il9, il10, il11, il12, il15, il16, il20, il24, il31, il32, il44, il45, il48, il50, il57, il58, il59, il63, il91, il93, il97, il99, il100, il109, il113, il119, il120, il122, il200, il255, il480, il500, il501, il512, il999, il4112, il41120, il1000000, il1000003, ii_add, ii_sub, ii_mul, ii_neg, ii_le, ii_lt, ii_eq, ii_div, q_I, q_V, q_R, lt_q, rZ_q, md_M, md_16, md_4, md_8, md_10, if_true, if_false, if_pos, if_neg, w1, e2]
end CHD
