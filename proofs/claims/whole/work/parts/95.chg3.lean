/-! CHANGES: quoin, open, lock -/
section CHS3
variable {M M' : AI} {g o : Int → Int} {r : Int}
theorem gQ_in (g : Int → Int) (r : Int) (hr : 0 ≤ r) (h2 : cel g r 2 = -1) (h3 : cel g r 3 = 0) : gu (gpu g r 2 0) 0 (g 0 - 1) = gQ g r 0 := by
  unfold gQ
  rw [if_neg (by omega), if_pos h2]
  funext z
  unfold gpu gu
  unfold cel at h3
  by_cases a : z = 16 + 512 * r + 3
  · have b : ¬ z = 16 + 512 * r + 2 := by omega
    have d : ¬ z = 0 := by omega
    simp only [if_pos a, if_neg b, if_neg d]
    rw [a]
    exact h3
  · by_cases b : z = 16 + 512 * r + 2
    · have d : ¬ z = 0 := by omega
      simp only [if_neg a, if_pos b, if_neg d]
    · by_cases d : z = 0
      · simp only [if_neg a, if_neg b, if_pos d]
      · simp only [if_neg a, if_neg b, if_neg d]
theorem gQ_op (g : Int → Int) (r o : Int) (h2 : cel g r 2 ≠ -1) (ho : o ≠ -1) : gpu (gpu g r 2 o) r 3 0 = gQ g r o := by
  unfold gQ
  rw [if_neg ho, if_neg h2]
  have e : gu g 0 (g 0 - 0) = g := by
    funext z
    unfold gu
    split
    case isTrue q => rw [q]; omega
    case isFalse q => rfl
  rw [e]
theorem stM_at (e37 : M' 0 37 = M 0 37) (g : Int → Int) : stM M' g = stM M g := by
  unfold stM
  rw [e37]
theorem chL_at (e : ∀ z, 2 ≤ z → z ≤ 9 → M' 0 z = M 0 z) (e37 : M' 0 37 = M 0 37) (e2 : M' 2 = M 2) (g o : Int → Int) (r : Int) : chL M' g o r = chL M g o r := by
  unfold chL needM
  rw [stM_at e37, gapM_at (e 2 (by omega) (by omega)) (e 4 (by omega) (by omega)) e2, e2, e 4 (by omega) (by omega), e 5 (by omega) (by omega), e 9 (by omega) (by omega)]
theorem chS_at (e : ∀ z, 2 ≤ z → z ≤ 9 → M' 0 z = M 0 z) (e37 : M' 0 37 = M 0 37) (e2 : M' 2 = M 2) (g o : Int → Int) (r : Int) : chS M' g o r = chS M g o r := by
  unfold chS needM
  rw [chL_at e e37 e2, gapM_at (e 2 (by omega) (by omega)) (e 4 (by omega) (by omega)) e2, e 4 (by omega) (by omega)]
theorem pcN_5 (g : Int → Int) (r d : Int) (hr : 0 ≤ r) (hg : RG g r) (hd : 0 ≤ d ∧ d < 10) : ∀ n : Nat, cel g r 1 + n ≤ 500 → pcN g r d n 5 = g 5
  | 0, _ => rfl
  | n + 1, h => by
    have h1 := (pcN_1 g r d hr hg hd n (by omega)).2.2.1
    show gPut (pcN g r d n) r d 5 = _
    rw [lo_gPut _ _ _ _ ⟨⟨hr, by omega⟩, h1.1⟩, if_neg (by omega)]
    exact pcN_5 g r d hr hg hd n (by omega)
theorem plN_5 (g : Int → Int) (r : Int) (o c : Int → Int) (hr : 0 ≤ r) (hg : RG g r) : ∀ p : Nat, (∀ q : Int, 0 ≤ q → q < p → (0 ≤ o q ∧ o q < 10) ∧ 0 ≤ c q) → (∀ q : Int, 0 ≤ q → q ≤ p → cel g r 1 + sm c q ≤ 500) → plN g r o c p 5 = g 5
  | 0, _, _ => rfl
  | p + 1, h1, h2 => by
    have ih := plN_5 g r o c hr hg p (fun q a b => h1 q a (by omega)) (fun q a b => h2 q a (by omega))
    obtain ⟨k1, k2⟩ := plN_1 g r o c hr hg p (fun q a b => h1 q a (by omega)) (fun q a b => h2 q a (by omega))
    have h3 := h1 p (by omega) (by omega)
    have h4 := h2 (p + 1) (by omega) (by omega)
    rw [sm_s _ _ (by omega)] at h4
    show pcN (plN g r o c p) r (o p) (c p).toNat 5 = _
    rw [pcN_5 _ _ _ hr k2 h3.1 _ (by omega)]
    exact ih
theorem gLock_5 (g : Int → Int) (r : Int) (o c : Int → Int) (n op : Int) (hr : 0 ≤ r) (hg : RG g r) (hn : 0 ≤ n) (hop : -1 ≤ op ∧ op ≤ 20) (h1 : ∀ q : Int, 0 ≤ q → q < n → (0 ≤ o q ∧ o q < 10) ∧ 0 ≤ c q) (h2 : ∀ q : Int, 0 ≤ q → q ≤ n → cel g r 1 + sm c q ≤ 500) : gLock g r o c n op 5 = g 5 := by
  have c1 : cel (gQ g r op) r 1 = cel g r 1 := by rw [cel_gQ _ _ _ _ _ (by omega), if_neg (by omega), if_neg (by omega)]
  unfold gLock
  rw [gpu_lo _ _ _ _ _ (by omega), plN_5 _ _ _ _ hr (RG.q ⟨hr, hr⟩ hop hg) _ (fun q a b => h1 q a (by omega)) (fun q a b => by rw [c1]; exact h2 q a (by omega)), lo_gQ _ _ _ _ (by omega), if_neg (by omega)]
end CHS3
section CHG3
variable {C0 N0 n : Nat} {K : Nat × Nat} {c : CC} {A : AI} {J : JI} {M : AI} {g g' o : Int → Int} {pl sp tv cap : Nat} {f B : Int}
theorem g_quoin_0 (hI : Inv C0 N0 n pl sp tv cap c A J M g) (r : Int) (hl : M 0 1 = 1) (hr : 0 ≤ r ∧ r < up M 0 0 0 0 3) (h2 : cel g r 2 ≠ -1) : Good C0 N0 n K (fL_quoin 0 (ii r) (ii 0) 455 (CW c A J)) (fX7_quoin 0 (ii r) (ii 0) (NW K (mg M g))) := by
  have hk := hI.1
  have hRd : isReader c 1 := hk.2.1.1
  have hSv : isSolver c 4 := hk.2.1.2.1
  have hHi : isHist c 21 := hk.2.1.2.2.1
  have hNow : isState c 303 := hk.2.1.2.2.2.1
  have hSpr : isState c 338 := hk.2.1.2.2.2.2.1
  have hPl : isPlan c pl := hk.2.2.2.1.2.1
  have h00 : up M 0 0 0 0 0 = 0 := up_s _ _ _ _
  obtain ⟨h10, hM, hP, hS, hG⟩ := hI.ld hl
  obtain ⟨p0, p1, p2, p3, p4, p5, p6, p7⟩ := hP.1
  have hc1 := c_chase1 (A := A) (J := J) hk h10
  have e3 : up M 0 0 0 0 3 = M 0 3 := up_n _ _ _ _ _ _ (by omega)
  have e9 : up M 0 0 0 0 9 = M 0 9 := up_n _ _ _ _ _ _ (by omega)
  have h38 := hM.1.2.1
  have h910 := hM.1.2.2.2.2.2.2.2
  have hcr := c_row1 (A := A) (J := J) hk h10 r (by rw [p1]; exact hr) (by rw [p1]; exact h38.2)
  have hmr := e_noRow1 (K := K) (M := M) (g := g) hl r (by rw [← e3]; exact hr) (by rw [← e3]; exact h38.2)
  have hr8 : 0 ≤ r ∧ r < 8 := by omega
  have hR := hNow.row r hr8
  have hrr := hS.2 r hr.1 (by omega)
  have hgr := hG.1.1 r hr.1 (by omega)
  have hI0 := hI.thr 0
  have hl0 : up M 0 0 0 0 1 = 1 := (up_n _ _ _ _ _ _ (by omega)).trans hl
  obtain ⟨A1, J1, M1, w1, w2, hI1, ⟨w3, w4⟩, wf⟩ := remB (K := K) hI0 hl0
  have hl1 : M1 0 1 = 1 := (w3 1 (by omega)).trans hl0
  obtain ⟨hM1, hP1, hS1, hG1⟩ := hI1.li hl1
  have h01 : M1 0 0 = 0 := (w3 0 (by omega)).trans h00
  have y2 : M1 2 = up M 0 0 0 2 := funext fun z => (w4 2 z (by omega) (by omega))
  have y3 : M1 0 3 = up M 0 0 0 0 3 := w3 3 (by omega)
  have y5 : M1 0 5 = up M 0 0 0 0 5 := w3 5 (by omega)
  have y9 : M1 0 9 = up M 0 0 0 0 9 := w3 9 (by omega)
  have y4 : M1 0 4 = up M 0 0 0 0 4 := w3 4 (by omega)
  have gq : ∀ (h : Int → Int) (r : Int), gapM M1 h r = gapM (up M 0 0 0) h r := fun h r => gapM_at (w3 2 (by omega)) y4 y2
  have nq : ∀ (h : Int → Int) (r : Int), needM M1 h r = needM (up M 0 0 0) h r := fun h r => by unfold needM; rw [gq, y4]
  have hap := hk.2.2.2.1.1
  have hBs : Bn n ≤ Bn (n + 1) := Bn_s n
  have hr1 : 0 ≤ r ∧ r < M1 0 3 := by rw [y3]; exact hr
  have hrr1 := hS1.2 r hr.1 (by omega)
  have x7 := hrr.1.2.2.2.2.1
  have h7 := hgr.2.2.2.2.1
  have hcq := c_hasQuoin (c := c) (A := A) (J := J) hR (by rw [x7]; exact h7)
  rw [x7, if_neg h2] at hcq
  have hmq := e_hasQuoin (K := K) (A := up M 0 0 0) hr8 hgr
  rw [if_neg h2] at hmq
  obtain ⟨A2, e2, s2, f2⟩ := s_removeQuoin (c := c) hNow hS1 hG1.1.1 hG1.1.2.1 r hr8
  have hG2 := hG1.noq hM1 hr1
  have hgr2 := hG2.1.1 r hr.1 hr8.2
  have hP2 : PR A2 pl M1 := PR_S hP1 (by omega) f2
  have z0 := hP2.1.1
  have z2 := hP2.1.2.2.1
  have hgp := c_gapIn (c := c) hR hPl (s2.2 r hr.1 (by omega)) hgr2 z0 z2
  have hmg := e_gap (K := K) (A := M1) hM1 hr8 hgr2
  have htq := e_takesQuoin (K := K) (A := M1) hr8 hgr
  refine Good_chg hI (v := gapM M1 (gNoQ g r) r) (A' := A2) (J' := J1) (M' := M1) (g' := gNoQ g r) ?_ ?_ h01 (hI1.chg hl1 (f2.mono fun b hb => Or.inl hb) (scr.refl M1).s4 ?_ (hG2.mono hBs))
  · simp (disch := first | assumption | omega) only [fX6_quoin, fX6_quoin_68, fX6_quoin_103, lkV hk, lkR0 hk, lkR1 hk, lkR2 hk, lkR3 hk, lkR4 hk, lkR5 hk, lkR6 hk, lkR7 hk, lkR8 hk, lkR9 hk, lkI hk, k_E, t_E, hcr, rwI1, rwS1, rwI2, rwS2, rwI4, rwS4, rwI5, rwS5, rwI7, rwS7, rwI8, rwS8, rwI9, rwS9, rwR0, rwR3, rwR6, rwA1, rwU1, rwA3, rwU3, rwV, rwJ, rwUJ, plI0, plS0, plI1, plS1, plI2, plS2, plI3, plS3, plI4, plS4, plI5, plS5, plI6, plS6, plI7, plS7, plR8, plR9, plR10, plA1, plU1, plA2, plU2, plA3, plU3, plV, stI2, stS2, stI3, stS3, stI4, stS4, stI5, stS5, stI6, stS6, stI7, stS7, stR0, stR1, stA2, stU2, stV, stRow, svI5, svS5, svI6, svS6, svI7, svS7, svR0, svR1, svR2, svR3, svR4, svA13, svU13, svA14, svU14, svA15, svU15, svA16, svU16, svV, svRow, svF, svUF, hiI1, hiS1, hiI2, hiS2, hiR0, hiV, hiRow, rdI2, rdS2, rdI3, rdS3, rdI4, rdS4, rdI5, rdS5, rdI6, rdS6, rdI7, rdS7, rdI8, rdS8, rdR0, rdR1, rdA1, rdU1, rdA2, rdU2, rdV, k_C, ↓reduceIte, tr_lt, fa_lt, tr_le, fa_le, tr_eq, fa_eq, and_true, true_and, and_false, false_and, il0, il1, il2, il3, il4, il5, il6, il7, il8, il9, il10, il11, il12, il15, il16, il20, il24, il31, il32, il44, il45, il48, il50, il57, il58, il59, il63, il91, il93, il97, il99, il100, il109, il113, il119, il120, il122, il200, il255, il480, il500, il501, il512, il999, il4112, il41120, il1000000, il1000003, ii_add, ii_sub, ii_mul, ii_neg, ii_le, ii_lt, ii_eq, ii_div, q_I, q_V, q_R, lt_q, rZ_q, md_M, md_16, md_4, md_8, md_10, if_true, if_false, if_pos, if_neg, hcq, w1, e2, hgp]
  · simp (disch := first | assumption | omega) only [fX7_quoin, fX7_quoin_47, fX7_quoin_48, fX7_quoin_90, nR1, nA1, nU1, nR2, nA2, nU2, nR3, nA3, nU3, nR4, nA4, nU4, nR5, nA5, nU5, nR6, nA6, nU6, nR7, nA7, nU7, nR8, nA8, nU8, nR9, nA9, nU9, nR10, nA10, nU10, nR11, nA11, nU11, nR12, nA12, nU12, nR13, nA13, nU13, nR14, nA14, nU14, nR15, nA15, nU15, nR16, nA16, nU16, nI0, nS0, nI1, nS1, nI2, nS2, nI3, nS3, nI4, nS4, nI5, nS5, nI6, nS6, nI7, nS7, nI8, nS8, nI9, nS9, nI15, nS15, nI18, nS18, nI19, nS19, nI20, nS20, nI21, nS21, nI22, nS22, nI23, nS23, nI24, nS24, nI25, nS25, nI26, nS26, nI27, nS27, nI32, nS32, nI36, nS36, nI37, nS37, nI40, nS40, nSZ1, nV, nC, ↓reduceIte, tr_lt, fa_lt, tr_le, fa_le, tr_eq, fa_eq, and_true, true_and, and_false, false_and, il0, il1, il2, il3, il4, il5, il6, il7, il8, il9, il10, il11, il12, il15, il16, il20, il24, il31, il32, il44, il45, il48, il50, il57, il58, il59, il63, il91, il93, il97, il99, il100, il109, il113, il119, il120, il122, il200, il255, il480, il500, il501, il512, il999, il4112, il41120, il1000000, il1000003, ii_add, ii_sub, ii_mul, ii_neg, ii_le, ii_lt, ii_eq, ii_div, q_I, q_V, q_R, lt_q, rZ_q, md_M, md_16, md_4, md_8, md_10, if_true, if_false, if_pos, if_neg, mg_3, mg_0, mg_1, mg_2, mg_k, mg_up3, mg_upk, hmr, hmq, e_ref0, w2, htq, hmg]
  · rw [lo_gNoQ g r 5 (by omega), if_neg (by omega)]; exact s2
theorem g_quoin_1 (hI : Inv C0 N0 n pl sp tv cap c A J M g) (r : Int) (hl : M 0 1 = 1) (hr : 0 ≤ r ∧ r < up M 0 0 0 0 3) (h2 : cel g r 2 = -1) (h0 : g 0 ≠ 0) (hq : up M 0 0 0 0 4 ≤ gapM (up M 0 0 0) g r) : Good C0 N0 n K (fL_quoin 0 (ii r) (ii 1) 455 (CW c A J)) (fX7_quoin 0 (ii r) (ii 1) (NW K (mg M g))) := by
  have hk := hI.1
  have hRd : isReader c 1 := hk.2.1.1
  have hSv : isSolver c 4 := hk.2.1.2.1
  have hHi : isHist c 21 := hk.2.1.2.2.1
  have hNow : isState c 303 := hk.2.1.2.2.2.1
  have hSpr : isState c 338 := hk.2.1.2.2.2.2.1
  have hPl : isPlan c pl := hk.2.2.2.1.2.1
  have h00 : up M 0 0 0 0 0 = 0 := up_s _ _ _ _
  obtain ⟨h10, hM, hP, hS, hG⟩ := hI.ld hl
  obtain ⟨p0, p1, p2, p3, p4, p5, p6, p7⟩ := hP.1
  have hc1 := c_chase1 (A := A) (J := J) hk h10
  have e3 : up M 0 0 0 0 3 = M 0 3 := up_n _ _ _ _ _ _ (by omega)
  have e9 : up M 0 0 0 0 9 = M 0 9 := up_n _ _ _ _ _ _ (by omega)
  have h38 := hM.1.2.1
  have h910 := hM.1.2.2.2.2.2.2.2
  have hcr := c_row1 (A := A) (J := J) hk h10 r (by rw [p1]; exact hr) (by rw [p1]; exact h38.2)
  have hmr := e_noRow1 (K := K) (M := M) (g := g) hl r (by rw [← e3]; exact hr) (by rw [← e3]; exact h38.2)
  have hr8 : 0 ≤ r ∧ r < 8 := by omega
  have hR := hNow.row r hr8
  have hrr := hS.2 r hr.1 (by omega)
  have hgr := hG.1.1 r hr.1 (by omega)
  have hI0 := hI.thr 0
  have hl0 : up M 0 0 0 0 1 = 1 := (up_n _ _ _ _ _ _ (by omega)).trans hl
  obtain ⟨A1, J1, M1, w1, w2, hI1, ⟨w3, w4⟩, wf⟩ := remB (K := K) hI0 hl0
  have hl1 : M1 0 1 = 1 := (w3 1 (by omega)).trans hl0
  obtain ⟨hM1, hP1, hS1, hG1⟩ := hI1.li hl1
  have h01 : M1 0 0 = 0 := (w3 0 (by omega)).trans h00
  have y2 : M1 2 = up M 0 0 0 2 := funext fun z => (w4 2 z (by omega) (by omega))
  have y3 : M1 0 3 = up M 0 0 0 0 3 := w3 3 (by omega)
  have y5 : M1 0 5 = up M 0 0 0 0 5 := w3 5 (by omega)
  have y9 : M1 0 9 = up M 0 0 0 0 9 := w3 9 (by omega)
  have y4 : M1 0 4 = up M 0 0 0 0 4 := w3 4 (by omega)
  have gq : ∀ (h : Int → Int) (r : Int), gapM M1 h r = gapM (up M 0 0 0) h r := fun h r => gapM_at (w3 2 (by omega)) y4 y2
  have nq : ∀ (h : Int → Int) (r : Int), needM M1 h r = needM (up M 0 0 0) h r := fun h r => by unfold needM; rw [gq, y4]
  have hap := hk.2.2.2.1.1
  have hBs : Bn n ≤ Bn (n + 1) := Bn_s n
  have hr1 : 0 ≤ r ∧ r < M1 0 3 := by rw [y3]; exact hr
  have hrr1 := hS1.2 r hr.1 (by omega)
  have x7 := hrr.1.2.2.2.2.1
  have h7 := hgr.2.2.2.2.1
  have hcq := c_hasQuoin (c := c) (A := A) (J := J) hR (by rw [x7]; exact h7)
  rw [x7, if_pos h2] at hcq
  have hmq := e_hasQuoin (K := K) (A := up M 0 0 0) hr8 hgr
  rw [if_pos h2] at hmq
  have hg0 := hG.h0
  have x2 := hS.1.1.1
  have h4 := hM.1.2.2.1
  have h5 := hM.1.2.2.2.1
  have hgb := gapM_b hM hgr
  have hgpA := c_gapIn (c := c) hR hPl hrr hgr p0 p2
  have hmgA := e_gap (K := K) (A := up M 0 0 0) hM hr8 hgr
  obtain ⟨A2, e2, s2, f2⟩ := s_setQuoin (c := c) hNow hS1 hG1.1.1 r 0 hr8 (by omega)
  obtain ⟨hG2, hgg⟩ := hG1.q hM1 hr1 0 (by omega) (Or.inr (by omega)) (by
    rw [nq, y4]
    unfold needM uQ
    rw [if_pos h2]
    omega)
  have hgr2 := hG2.1.1 r hr.1 hr8.2
  have hP2 : PR A2 pl M1 := PR_S hP1 (by omega) f2
  have z0 := hP2.1.1
  have z2 := hP2.1.2.2.1
  have hgp := c_gapIn (c := c) hR hPl (s2.2 r hr.1 (by omega)) hgr2 z0 z2
  have hmg := e_gap (K := K) (A := M1) hM1 hr8 hgr2
  have hin := gQ_in g r hr.1 h2 (hG.1.2.1 r hr.1 hr8.2 h2)
  refine Good_chg hI (v := gapM M1 (gQ g r 0) r) (A' := A2) (J' := J1) (M' := M1) (g' := gQ g r 0) ?_ ?_ h01 (hI1.chg hl1 (f2.mono fun b hb => Or.inl hb) (scr.refl M1).s4 ?_ (hG2.mono hBs))
  · simp (disch := first | assumption | omega) only [fX6_quoin, fX6_quoin_68, fX6_quoin_103, lkV hk, lkR0 hk, lkR1 hk, lkR2 hk, lkR3 hk, lkR4 hk, lkR5 hk, lkR6 hk, lkR7 hk, lkR8 hk, lkR9 hk, lkI hk, k_E, t_E, hcr, rwI1, rwS1, rwI2, rwS2, rwI4, rwS4, rwI5, rwS5, rwI7, rwS7, rwI8, rwS8, rwI9, rwS9, rwR0, rwR3, rwR6, rwA1, rwU1, rwA3, rwU3, rwV, rwJ, rwUJ, plI0, plS0, plI1, plS1, plI2, plS2, plI3, plS3, plI4, plS4, plI5, plS5, plI6, plS6, plI7, plS7, plR8, plR9, plR10, plA1, plU1, plA2, plU2, plA3, plU3, plV, stI2, stS2, stI3, stS3, stI4, stS4, stI5, stS5, stI6, stS6, stI7, stS7, stR0, stR1, stA2, stU2, stV, stRow, svI5, svS5, svI6, svS6, svI7, svS7, svR0, svR1, svR2, svR3, svR4, svA13, svU13, svA14, svU14, svA15, svU15, svA16, svU16, svV, svRow, svF, svUF, hiI1, hiS1, hiI2, hiS2, hiR0, hiV, hiRow, rdI2, rdS2, rdI3, rdS3, rdI4, rdS4, rdI5, rdS5, rdI6, rdS6, rdI7, rdS7, rdI8, rdS8, rdR0, rdR1, rdA1, rdU1, rdA2, rdU2, rdV, k_C, ↓reduceIte, tr_lt, fa_lt, tr_le, fa_le, tr_eq, fa_eq, and_true, true_and, and_false, false_and, il0, il1, il2, il3, il4, il5, il6, il7, il8, il9, il10, il11, il12, il15, il16, il20, il24, il31, il32, il44, il45, il48, il50, il57, il58, il59, il63, il91, il93, il97, il99, il100, il109, il113, il119, il120, il122, il200, il255, il480, il500, il501, il512, il999, il4112, il41120, il1000000, il1000003, ii_add, ii_sub, ii_mul, ii_neg, ii_le, ii_lt, ii_eq, ii_div, q_I, q_V, q_R, lt_q, rZ_q, md_M, md_16, md_4, md_8, md_10, if_true, if_false, if_pos, if_neg, hcq, x2, p2, hgpA, w1, e2, hgp]
  · simp (disch := first | assumption | omega) only [fX7_quoin, fX7_quoin_47, fX7_quoin_48, fX7_quoin_90, nR1, nA1, nU1, nR2, nA2, nU2, nR3, nA3, nU3, nR4, nA4, nU4, nR5, nA5, nU5, nR6, nA6, nU6, nR7, nA7, nU7, nR8, nA8, nU8, nR9, nA9, nU9, nR10, nA10, nU10, nR11, nA11, nU11, nR12, nA12, nU12, nR13, nA13, nU13, nR14, nA14, nU14, nR15, nA15, nU15, nR16, nA16, nU16, nI0, nS0, nI1, nS1, nI2, nS2, nI3, nS3, nI4, nS4, nI5, nS5, nI6, nS6, nI7, nS7, nI8, nS8, nI9, nS9, nI15, nS15, nI18, nS18, nI19, nS19, nI20, nS20, nI21, nS21, nI22, nS22, nI23, nS23, nI24, nS24, nI25, nS25, nI26, nS26, nI27, nS27, nI32, nS32, nI36, nS36, nI37, nS37, nI40, nS40, nSZ1, nV, nC, ↓reduceIte, tr_lt, fa_lt, tr_le, fa_le, tr_eq, fa_eq, and_true, true_and, and_false, false_and, il0, il1, il2, il3, il4, il5, il6, il7, il8, il9, il10, il11, il12, il15, il16, il20, il24, il31, il32, il44, il45, il48, il50, il57, il58, il59, il63, il91, il93, il97, il99, il100, il109, il113, il119, il120, il122, il200, il255, il480, il500, il501, il512, il999, il4112, il41120, il1000000, il1000003, ii_add, ii_sub, ii_mul, ii_neg, ii_le, ii_lt, ii_eq, ii_div, q_I, q_V, q_R, lt_q, rZ_q, md_M, md_16, md_4, md_8, md_10, if_true, if_false, if_pos, if_neg, mg_3, mg_0, mg_1, mg_2, mg_k, mg_up3, mg_upk, hmr, hmq, hmgA, e_ref0, w2, e_puts, gpu_lo, hin, hmg]
  · rw [lo_gQ g r 0 5 (by omega), if_neg (by omega)]; exact s2
theorem g_quoin (hI : Inv C0 N0 n pl sp tv cap c A J M g) (r m : Int) (hrb : -2147483648 ≤ r ∧ r < 2147483648) (hm : 0 ≤ m ∧ m ≤ 1) : Good C0 N0 n K (fL_quoin 0 (ii r) (ii m) 455 (CW c A J)) (fX7_quoin 0 (ii r) (ii m) (NW K (mg M g))) := by
  have hk := hI.1
  have hRd : isReader c 1 := hk.2.1.1
  have hSv : isSolver c 4 := hk.2.1.2.1
  have hHi : isHist c 21 := hk.2.1.2.2.1
  have hNow : isState c 303 := hk.2.1.2.2.2.1
  have hSpr : isState c 338 := hk.2.1.2.2.2.2.1
  have hPl : isPlan c pl := hk.2.2.2.1.2.1
  have h00 : up M 0 0 0 0 0 = 0 := up_s _ _ _ _
  by_cases hl : M 0 1 = 1
  · obtain ⟨h10, hM, hP, hS, hG⟩ := hI.ld hl
    obtain ⟨p0, p1, p2, p3, p4, p5, p6, p7⟩ := hP.1
    have hc1 := c_chase1 (A := A) (J := J) hk h10
    have e3 : up M 0 0 0 0 3 = M 0 3 := up_n _ _ _ _ _ _ (by omega)
    have e9 : up M 0 0 0 0 9 = M 0 9 := up_n _ _ _ _ _ _ (by omega)
    have h38 := hM.1.2.1
    have h910 := hM.1.2.2.2.2.2.2.2
    by_cases hr : 0 ≤ r ∧ r < up M 0 0 0 0 3
    · have hcr := c_row1 (A := A) (J := J) hk h10 r (by rw [p1]; exact hr) (by rw [p1]; exact h38.2)
      have hmr := e_noRow1 (K := K) (M := M) (g := g) hl r (by rw [← e3]; exact hr) (by rw [← e3]; exact h38.2)
      have hr8 : 0 ≤ r ∧ r < 8 := by omega
      have hR := hNow.row r hr8
      have hrr := hS.2 r hr.1 (by omega)
      have hgr := hG.1.1 r hr.1 (by omega)
      have x7 := hrr.1.2.2.2.2.1
      have h7 := hgr.2.2.2.2.1
      have hcq := c_hasQuoin (c := c) (A := A) (J := J) hR (by rw [x7]; exact h7)
      rw [x7] at hcq
      have hmq := e_hasQuoin (K := K) (A := up M 0 0 0) hr8 hgr
      have hg0 := hG.h0
      have x2 := hS.1.1.1
      have h4 := hM.1.2.2.1
      have hgb := gapM_b hM hgr
      have hgpA := c_gapIn (c := c) hR hPl hrr hgr p0 p2
      have hmgA := e_gap (K := K) (A := up M 0 0 0) hM hr8 hgr
      have hrf := e_ref1 (K := K) (M := up M 0 0 0) (g := g) h00 3 (by omega)
      rcases (show m = 0 ∨ m = 1 by omega) with rfl | rfl
      · by_cases h2 : cel g r 2 = -1
        · rw [if_pos h2] at hcq hmq
          refine Good_no (code := 3) hI (E := "java/lang/IllegalArgumentException") (A' := A) (J' := J) ?_ (frm.refl _ _ _) (fun τ => (hF2 _ _ _ _ _ _ (by decide)).trans ((hF2 _ _ _ _ _ _ (by decide)).trans (hF1 _ _ 3 rfl _ _ _))) (by omega) (v := 0) ?_
          · simp (disch := first | assumption | omega) only [fX6_quoin, lkV hk, lkR0 hk, lkR1 hk, lkR2 hk, lkR3 hk, lkR4 hk, lkR5 hk, lkR6 hk, lkR7 hk, lkR8 hk, lkR9 hk, lkI hk, k_E, t_E, hcr, rwI1, rwS1, rwI2, rwS2, rwI4, rwS4, rwI5, rwS5, rwI7, rwS7, rwI8, rwS8, rwI9, rwS9, rwR0, rwR3, rwR6, rwA1, rwU1, rwA3, rwU3, rwV, rwJ, rwUJ, plI0, plS0, plI1, plS1, plI2, plS2, plI3, plS3, plI4, plS4, plI5, plS5, plI6, plS6, plI7, plS7, plR8, plR9, plR10, plA1, plU1, plA2, plU2, plA3, plU3, plV, stI2, stS2, stI3, stS3, stI4, stS4, stI5, stS5, stI6, stS6, stI7, stS7, stR0, stR1, stA2, stU2, stV, stRow, svI5, svS5, svI6, svS6, svI7, svS7, svR0, svR1, svR2, svR3, svR4, svA13, svU13, svA14, svU14, svA15, svU15, svA16, svU16, svV, svRow, svF, svUF, hiI1, hiS1, hiI2, hiS2, hiR0, hiV, hiRow, rdI2, rdS2, rdI3, rdS3, rdI4, rdS4, rdI5, rdS5, rdI6, rdS6, rdI7, rdS7, rdI8, rdS8, rdR0, rdR1, rdA1, rdU1, rdA2, rdU2, rdV, k_C, ↓reduceIte, tr_lt, fa_lt, tr_le, fa_le, tr_eq, fa_eq, and_true, true_and, and_false, false_and, il0, il1, il2, il3, il4, il5, il6, il7, il8, il9, il10, il11, il12, il15, il16, il20, il24, il31, il32, il44, il45, il48, il50, il57, il58, il59, il63, il91, il93, il97, il99, il100, il109, il113, il119, il120, il122, il200, il255, il480, il500, il501, il512, il999, il4112, il41120, il1000000, il1000003, ii_add, ii_sub, ii_mul, ii_neg, ii_le, ii_lt, ii_eq, ii_div, q_I, q_V, q_R, lt_q, rZ_q, md_M, md_16, md_4, md_8, md_10, if_true, if_false, if_pos, if_neg, hcq, t_E]
          · simp (disch := first | assumption | omega) only [fX7_quoin, fX7_quoin_43, nR1, nA1, nU1, nR2, nA2, nU2, nR3, nA3, nU3, nR4, nA4, nU4, nR5, nA5, nU5, nR6, nA6, nU6, nR7, nA7, nU7, nR8, nA8, nU8, nR9, nA9, nU9, nR10, nA10, nU10, nR11, nA11, nU11, nR12, nA12, nU12, nR13, nA13, nU13, nR14, nA14, nU14, nR15, nA15, nU15, nR16, nA16, nU16, nI0, nS0, nI1, nS1, nI2, nS2, nI3, nS3, nI4, nS4, nI5, nS5, nI6, nS6, nI7, nS7, nI8, nS8, nI9, nS9, nI15, nS15, nI18, nS18, nI19, nS19, nI20, nS20, nI21, nS21, nI22, nS22, nI23, nS23, nI24, nS24, nI25, nS25, nI26, nS26, nI27, nS27, nI32, nS32, nI36, nS36, nI37, nS37, nI40, nS40, nSZ1, nV, nC, ↓reduceIte, tr_lt, fa_lt, tr_le, fa_le, tr_eq, fa_eq, and_true, true_and, and_false, false_and, il0, il1, il2, il3, il4, il5, il6, il7, il8, il9, il10, il11, il12, il15, il16, il20, il24, il31, il32, il44, il45, il48, il50, il57, il58, il59, il63, il91, il93, il97, il99, il100, il109, il113, il119, il120, il122, il200, il255, il480, il500, il501, il512, il999, il4112, il41120, il1000000, il1000003, ii_add, ii_sub, ii_mul, ii_neg, ii_le, ii_lt, ii_eq, ii_div, q_I, q_V, q_R, lt_q, rZ_q, md_M, md_16, md_4, md_8, md_10, if_true, if_false, if_pos, if_neg, mg_3, mg_0, mg_1, mg_2, mg_k, mg_up3, mg_upk, hmr, hmq]
            rw [fX7_quoin_48, nV, il3, hrf, nC, q_I, if_neg (show ¬ ii 1 = (0 : Int32) by decide), up_up]
            rfl
        · exact g_quoin_0 hI r hl hr h2
      · by_cases h2 : cel g r 2 = -1
        · rw [if_pos h2] at hcq hmq
          by_cases h0 : g 0 = 0
          · refine Good_no (code := 3) hI (E := "java/lang/IllegalArgumentException") (A' := A) (J' := J) ?_ (frm.refl _ _ _) (fun τ => (hF2 _ _ _ _ _ _ (by decide)).trans ((hF2 _ _ _ _ _ _ (by decide)).trans (hF1 _ _ 3 rfl _ _ _))) (by omega) (v := 0) ?_
            · simp (disch := first | assumption | omega) only [fX6_quoin, lkV hk, lkR0 hk, lkR1 hk, lkR2 hk, lkR3 hk, lkR4 hk, lkR5 hk, lkR6 hk, lkR7 hk, lkR8 hk, lkR9 hk, lkI hk, k_E, t_E, hcr, rwI1, rwS1, rwI2, rwS2, rwI4, rwS4, rwI5, rwS5, rwI7, rwS7, rwI8, rwS8, rwI9, rwS9, rwR0, rwR3, rwR6, rwA1, rwU1, rwA3, rwU3, rwV, rwJ, rwUJ, plI0, plS0, plI1, plS1, plI2, plS2, plI3, plS3, plI4, plS4, plI5, plS5, plI6, plS6, plI7, plS7, plR8, plR9, plR10, plA1, plU1, plA2, plU2, plA3, plU3, plV, stI2, stS2, stI3, stS3, stI4, stS4, stI5, stS5, stI6, stS6, stI7, stS7, stR0, stR1, stA2, stU2, stV, stRow, svI5, svS5, svI6, svS6, svI7, svS7, svR0, svR1, svR2, svR3, svR4, svA13, svU13, svA14, svU14, svA15, svU15, svA16, svU16, svV, svRow, svF, svUF, hiI1, hiS1, hiI2, hiS2, hiR0, hiV, hiRow, rdI2, rdS2, rdI3, rdS3, rdI4, rdS4, rdI5, rdS5, rdI6, rdS6, rdI7, rdS7, rdI8, rdS8, rdR0, rdR1, rdA1, rdU1, rdA2, rdU2, rdV, k_C, ↓reduceIte, tr_lt, fa_lt, tr_le, fa_le, tr_eq, fa_eq, and_true, true_and, and_false, false_and, il0, il1, il2, il3, il4, il5, il6, il7, il8, il9, il10, il11, il12, il15, il16, il20, il24, il31, il32, il44, il45, il48, il50, il57, il58, il59, il63, il91, il93, il97, il99, il100, il109, il113, il119, il120, il122, il200, il255, il480, il500, il501, il512, il999, il4112, il41120, il1000000, il1000003, ii_add, ii_sub, ii_mul, ii_neg, ii_le, ii_lt, ii_eq, ii_div, q_I, q_V, q_R, lt_q, rZ_q, md_M, md_16, md_4, md_8, md_10, if_true, if_false, if_pos, if_neg, hcq, x2, t_E]
            · simp (disch := first | assumption | omega) only [fX7_quoin, fX7_quoin_43, nR1, nA1, nU1, nR2, nA2, nU2, nR3, nA3, nU3, nR4, nA4, nU4, nR5, nA5, nU5, nR6, nA6, nU6, nR7, nA7, nU7, nR8, nA8, nU8, nR9, nA9, nU9, nR10, nA10, nU10, nR11, nA11, nU11, nR12, nA12, nU12, nR13, nA13, nU13, nR14, nA14, nU14, nR15, nA15, nU15, nR16, nA16, nU16, nI0, nS0, nI1, nS1, nI2, nS2, nI3, nS3, nI4, nS4, nI5, nS5, nI6, nS6, nI7, nS7, nI8, nS8, nI9, nS9, nI15, nS15, nI18, nS18, nI19, nS19, nI20, nS20, nI21, nS21, nI22, nS22, nI23, nS23, nI24, nS24, nI25, nS25, nI26, nS26, nI27, nS27, nI32, nS32, nI36, nS36, nI37, nS37, nI40, nS40, nSZ1, nV, nC, ↓reduceIte, tr_lt, fa_lt, tr_le, fa_le, tr_eq, fa_eq, and_true, true_and, and_false, false_and, il0, il1, il2, il3, il4, il5, il6, il7, il8, il9, il10, il11, il12, il15, il16, il20, il24, il31, il32, il44, il45, il48, il50, il57, il58, il59, il63, il91, il93, il97, il99, il100, il109, il113, il119, il120, il122, il200, il255, il480, il500, il501, il512, il999, il4112, il41120, il1000000, il1000003, ii_add, ii_sub, ii_mul, ii_neg, ii_le, ii_lt, ii_eq, ii_div, q_I, q_V, q_R, lt_q, rZ_q, md_M, md_16, md_4, md_8, md_10, if_true, if_false, if_pos, if_neg, mg_3, mg_0, mg_1, mg_2, mg_k, mg_up3, mg_upk, hmr, hmq]
              rw [fX7_quoin_48, nV, il3, hrf, nC, q_I, if_neg (show ¬ ii 1 = (0 : Int32) by decide), up_up]
              rfl
          · by_cases hq : up M 0 0 0 0 4 ≤ gapM (up M 0 0 0) g r
            · exact g_quoin_1 hI r hl hr h2 h0 hq
            · refine Good_no (code := 3) hI (E := "java/lang/IllegalArgumentException") (A' := A) (J' := J) ?_ (frm.refl _ _ _) (fun τ => (hF2 _ _ _ _ _ _ (by decide)).trans ((hF2 _ _ _ _ _ _ (by decide)).trans (hF1 _ _ 3 rfl _ _ _))) (by omega) (v := 0) ?_
              · simp (disch := first | assumption | omega) only [fX6_quoin, lkV hk, lkR0 hk, lkR1 hk, lkR2 hk, lkR3 hk, lkR4 hk, lkR5 hk, lkR6 hk, lkR7 hk, lkR8 hk, lkR9 hk, lkI hk, k_E, t_E, hcr, rwI1, rwS1, rwI2, rwS2, rwI4, rwS4, rwI5, rwS5, rwI7, rwS7, rwI8, rwS8, rwI9, rwS9, rwR0, rwR3, rwR6, rwA1, rwU1, rwA3, rwU3, rwV, rwJ, rwUJ, plI0, plS0, plI1, plS1, plI2, plS2, plI3, plS3, plI4, plS4, plI5, plS5, plI6, plS6, plI7, plS7, plR8, plR9, plR10, plA1, plU1, plA2, plU2, plA3, plU3, plV, stI2, stS2, stI3, stS3, stI4, stS4, stI5, stS5, stI6, stS6, stI7, stS7, stR0, stR1, stA2, stU2, stV, stRow, svI5, svS5, svI6, svS6, svI7, svS7, svR0, svR1, svR2, svR3, svR4, svA13, svU13, svA14, svU14, svA15, svU15, svA16, svU16, svV, svRow, svF, svUF, hiI1, hiS1, hiI2, hiS2, hiR0, hiV, hiRow, rdI2, rdS2, rdI3, rdS3, rdI4, rdS4, rdI5, rdS5, rdI6, rdS6, rdI7, rdS7, rdI8, rdS8, rdR0, rdR1, rdA1, rdU1, rdA2, rdU2, rdV, k_C, ↓reduceIte, tr_lt, fa_lt, tr_le, fa_le, tr_eq, fa_eq, and_true, true_and, and_false, false_and, il0, il1, il2, il3, il4, il5, il6, il7, il8, il9, il10, il11, il12, il15, il16, il20, il24, il31, il32, il44, il45, il48, il50, il57, il58, il59, il63, il91, il93, il97, il99, il100, il109, il113, il119, il120, il122, il200, il255, il480, il500, il501, il512, il999, il4112, il41120, il1000000, il1000003, ii_add, ii_sub, ii_mul, ii_neg, ii_le, ii_lt, ii_eq, ii_div, q_I, q_V, q_R, lt_q, rZ_q, md_M, md_16, md_4, md_8, md_10, if_true, if_false, if_pos, if_neg, hcq, x2, p2, hgpA, t_E]
              · simp (disch := first | assumption | omega) only [fX7_quoin, fX7_quoin_43, nR1, nA1, nU1, nR2, nA2, nU2, nR3, nA3, nU3, nR4, nA4, nU4, nR5, nA5, nU5, nR6, nA6, nU6, nR7, nA7, nU7, nR8, nA8, nU8, nR9, nA9, nU9, nR10, nA10, nU10, nR11, nA11, nU11, nR12, nA12, nU12, nR13, nA13, nU13, nR14, nA14, nU14, nR15, nA15, nU15, nR16, nA16, nU16, nI0, nS0, nI1, nS1, nI2, nS2, nI3, nS3, nI4, nS4, nI5, nS5, nI6, nS6, nI7, nS7, nI8, nS8, nI9, nS9, nI15, nS15, nI18, nS18, nI19, nS19, nI20, nS20, nI21, nS21, nI22, nS22, nI23, nS23, nI24, nS24, nI25, nS25, nI26, nS26, nI27, nS27, nI32, nS32, nI36, nS36, nI37, nS37, nI40, nS40, nSZ1, nV, nC, ↓reduceIte, tr_lt, fa_lt, tr_le, fa_le, tr_eq, fa_eq, and_true, true_and, and_false, false_and, il0, il1, il2, il3, il4, il5, il6, il7, il8, il9, il10, il11, il12, il15, il16, il20, il24, il31, il32, il44, il45, il48, il50, il57, il58, il59, il63, il91, il93, il97, il99, il100, il109, il113, il119, il120, il122, il200, il255, il480, il500, il501, il512, il999, il4112, il41120, il1000000, il1000003, ii_add, ii_sub, ii_mul, ii_neg, ii_le, ii_lt, ii_eq, ii_div, q_I, q_V, q_R, lt_q, rZ_q, md_M, md_16, md_4, md_8, md_10, if_true, if_false, if_pos, if_neg, mg_3, mg_0, mg_1, mg_2, mg_k, mg_up3, mg_upk, hmr, hmq, hmgA]
                rw [fX7_quoin_48, nV, il3, hrf, nC, q_I, if_neg (show ¬ ii 1 = (0 : Int32) by decide), up_up]
                rfl
        · rw [if_neg h2] at hcq hmq
          refine Good_no (code := 3) hI (E := "java/lang/IllegalArgumentException") (A' := A) (J' := J) ?_ (frm.refl _ _ _) (fun τ => (hF2 _ _ _ _ _ _ (by decide)).trans ((hF2 _ _ _ _ _ _ (by decide)).trans (hF1 _ _ 3 rfl _ _ _))) (by omega) (v := 0) ?_
          · simp (disch := first | assumption | omega) only [fX6_quoin, lkV hk, lkR0 hk, lkR1 hk, lkR2 hk, lkR3 hk, lkR4 hk, lkR5 hk, lkR6 hk, lkR7 hk, lkR8 hk, lkR9 hk, lkI hk, k_E, t_E, hcr, rwI1, rwS1, rwI2, rwS2, rwI4, rwS4, rwI5, rwS5, rwI7, rwS7, rwI8, rwS8, rwI9, rwS9, rwR0, rwR3, rwR6, rwA1, rwU1, rwA3, rwU3, rwV, rwJ, rwUJ, plI0, plS0, plI1, plS1, plI2, plS2, plI3, plS3, plI4, plS4, plI5, plS5, plI6, plS6, plI7, plS7, plR8, plR9, plR10, plA1, plU1, plA2, plU2, plA3, plU3, plV, stI2, stS2, stI3, stS3, stI4, stS4, stI5, stS5, stI6, stS6, stI7, stS7, stR0, stR1, stA2, stU2, stV, stRow, svI5, svS5, svI6, svS6, svI7, svS7, svR0, svR1, svR2, svR3, svR4, svA13, svU13, svA14, svU14, svA15, svU15, svA16, svU16, svV, svRow, svF, svUF, hiI1, hiS1, hiI2, hiS2, hiR0, hiV, hiRow, rdI2, rdS2, rdI3, rdS3, rdI4, rdS4, rdI5, rdS5, rdI6, rdS6, rdI7, rdS7, rdI8, rdS8, rdR0, rdR1, rdA1, rdU1, rdA2, rdU2, rdV, k_C, ↓reduceIte, tr_lt, fa_lt, tr_le, fa_le, tr_eq, fa_eq, and_true, true_and, and_false, false_and, il0, il1, il2, il3, il4, il5, il6, il7, il8, il9, il10, il11, il12, il15, il16, il20, il24, il31, il32, il44, il45, il48, il50, il57, il58, il59, il63, il91, il93, il97, il99, il100, il109, il113, il119, il120, il122, il200, il255, il480, il500, il501, il512, il999, il4112, il41120, il1000000, il1000003, ii_add, ii_sub, ii_mul, ii_neg, ii_le, ii_lt, ii_eq, ii_div, q_I, q_V, q_R, lt_q, rZ_q, md_M, md_16, md_4, md_8, md_10, if_true, if_false, if_pos, if_neg, hcq, t_E]
          · simp (disch := first | assumption | omega) only [fX7_quoin, fX7_quoin_43, nR1, nA1, nU1, nR2, nA2, nU2, nR3, nA3, nU3, nR4, nA4, nU4, nR5, nA5, nU5, nR6, nA6, nU6, nR7, nA7, nU7, nR8, nA8, nU8, nR9, nA9, nU9, nR10, nA10, nU10, nR11, nA11, nU11, nR12, nA12, nU12, nR13, nA13, nU13, nR14, nA14, nU14, nR15, nA15, nU15, nR16, nA16, nU16, nI0, nS0, nI1, nS1, nI2, nS2, nI3, nS3, nI4, nS4, nI5, nS5, nI6, nS6, nI7, nS7, nI8, nS8, nI9, nS9, nI15, nS15, nI18, nS18, nI19, nS19, nI20, nS20, nI21, nS21, nI22, nS22, nI23, nS23, nI24, nS24, nI25, nS25, nI26, nS26, nI27, nS27, nI32, nS32, nI36, nS36, nI37, nS37, nI40, nS40, nSZ1, nV, nC, ↓reduceIte, tr_lt, fa_lt, tr_le, fa_le, tr_eq, fa_eq, and_true, true_and, and_false, false_and, il0, il1, il2, il3, il4, il5, il6, il7, il8, il9, il10, il11, il12, il15, il16, il20, il24, il31, il32, il44, il45, il48, il50, il57, il58, il59, il63, il91, il93, il97, il99, il100, il109, il113, il119, il120, il122, il200, il255, il480, il500, il501, il512, il999, il4112, il41120, il1000000, il1000003, ii_add, ii_sub, ii_mul, ii_neg, ii_le, ii_lt, ii_eq, ii_div, q_I, q_V, q_R, lt_q, rZ_q, md_M, md_16, md_4, md_8, md_10, if_true, if_false, if_pos, if_neg, mg_3, mg_0, mg_1, mg_2, mg_k, mg_up3, mg_upk, hmr, hmq]
            rw [fX7_quoin_48, nV, il3, hrf, nC, q_I, if_neg (show ¬ ii 1 = (0 : Int32) by decide), up_up]
            rfl
    · refine Good_no (code := 2) hI (E := "java/lang/IndexOutOfBoundsException") (A' := A) (J' := J) ?_ (frm.refl _ _ _) (fun τ => (hF2 _ _ _ _ _ _ (by decide)).trans (hF1 _ _ 2 rfl _ _ _)) (by omega) (v := 0) ?_
      · have hcr := c_row0 (A := A) (J := J) hk h10 r (by rw [p1]; exact hr) (by rw [p1]; omega) (by omega)
        rw [fX6_quoin, lkV hk, hcr, k_E]
      · have hmr := e_noRow0 (K := K) (M := M) (g := g) hl r (by rw [← e3]; exact hr) (by rw [← e3]; omega) (by omega)
        rw [fX7_quoin, nV, hmr, nC, q_I, if_neg (show ¬ ii 1 = (0 : Int32) by decide)]
        rfl
  · obtain ⟨h10, h1⟩ := hI.nl hl
    refine Good_nl hI (v := 0) ?_ (hF_IS _ 1 rfl _ _) ?_
    · rw [fX6_quoin, lkV hk, c_rowN hk h10, k_E]
    · rw [fX7_quoin, nV, e_noRowN h1, nC, q_I, if_neg (show ¬ ii 1 = (0 : Int32) by decide)]
      rfl
theorem g_open_1 (hI : Inv C0 N0 n pl sp tv cap c A J M g) (r o : Int) (hl : M 0 1 = 1) (hr : 0 ≤ r ∧ r < up M 0 0 0 0 3) (h2 : cel g r 2 ≠ -1) (ho : 0 ≤ o ∧ o ≤ up M 0 0 0 0 5) (hq : up M 0 0 0 0 4 + o ≤ needM (up M 0 0 0) g r) : Good C0 N0 n K (fL_open 0 (ii r) (ii o) 455 (CW c A J)) (fX7_open 0 (ii r) (ii o) (NW K (mg M g))) := by
  have hk := hI.1
  have hRd : isReader c 1 := hk.2.1.1
  have hSv : isSolver c 4 := hk.2.1.2.1
  have hHi : isHist c 21 := hk.2.1.2.2.1
  have hNow : isState c 303 := hk.2.1.2.2.2.1
  have hSpr : isState c 338 := hk.2.1.2.2.2.2.1
  have hPl : isPlan c pl := hk.2.2.2.1.2.1
  have h00 : up M 0 0 0 0 0 = 0 := up_s _ _ _ _
  obtain ⟨h10, hM, hP, hS, hG⟩ := hI.ld hl
  obtain ⟨p0, p1, p2, p3, p4, p5, p6, p7⟩ := hP.1
  have hc1 := c_chase1 (A := A) (J := J) hk h10
  have e3 : up M 0 0 0 0 3 = M 0 3 := up_n _ _ _ _ _ _ (by omega)
  have e9 : up M 0 0 0 0 9 = M 0 9 := up_n _ _ _ _ _ _ (by omega)
  have h38 := hM.1.2.1
  have h910 := hM.1.2.2.2.2.2.2.2
  have hcr := c_row1 (A := A) (J := J) hk h10 r (by rw [p1]; exact hr) (by rw [p1]; exact h38.2)
  have hmr := e_noRow1 (K := K) (M := M) (g := g) hl r (by rw [← e3]; exact hr) (by rw [← e3]; exact h38.2)
  have hr8 : 0 ≤ r ∧ r < 8 := by omega
  have hR := hNow.row r hr8
  have hrr := hS.2 r hr.1 (by omega)
  have hgr := hG.1.1 r hr.1 (by omega)
  have hI0 := hI.thr 0
  have hl0 : up M 0 0 0 0 1 = 1 := (up_n _ _ _ _ _ _ (by omega)).trans hl
  obtain ⟨A1, J1, M1, w1, w2, hI1, ⟨w3, w4⟩, wf⟩ := remB (K := K) hI0 hl0
  have hl1 : M1 0 1 = 1 := (w3 1 (by omega)).trans hl0
  obtain ⟨hM1, hP1, hS1, hG1⟩ := hI1.li hl1
  have h01 : M1 0 0 = 0 := (w3 0 (by omega)).trans h00
  have y2 : M1 2 = up M 0 0 0 2 := funext fun z => (w4 2 z (by omega) (by omega))
  have y3 : M1 0 3 = up M 0 0 0 0 3 := w3 3 (by omega)
  have y5 : M1 0 5 = up M 0 0 0 0 5 := w3 5 (by omega)
  have y9 : M1 0 9 = up M 0 0 0 0 9 := w3 9 (by omega)
  have y4 : M1 0 4 = up M 0 0 0 0 4 := w3 4 (by omega)
  have gq : ∀ (h : Int → Int) (r : Int), gapM M1 h r = gapM (up M 0 0 0) h r := fun h r => gapM_at (w3 2 (by omega)) y4 y2
  have nq : ∀ (h : Int → Int) (r : Int), needM M1 h r = needM (up M 0 0 0) h r := fun h r => by unfold needM; rw [gq, y4]
  have hap := hk.2.2.2.1.1
  have hBs : Bn n ≤ Bn (n + 1) := Bn_s n
  have hr1 : 0 ≤ r ∧ r < M1 0 3 := by rw [y3]; exact hr
  have hrr1 := hS1.2 r hr.1 (by omega)
  have x7 := hrr.1.2.2.2.2.1
  have h7 := hgr.2.2.2.2.1
  have hcq := c_hasQuoin (c := c) (A := A) (J := J) hR (by rw [x7]; exact h7)
  rw [x7, if_neg h2] at hcq
  have hmq := e_hasQuoin (K := K) (A := up M 0 0 0) hr8 hgr
  rw [if_neg h2] at hmq
  have h4 := hM.1.2.2.1
  have h5 := hM.1.2.2.2.1
  have hN := (hG.need hM hr).1
  have hin := e_in o 0 (up M 0 0 0 0 5) (by omega) (NW K (mg (up M 0 0 0) g))
  rw [if_pos ho] at hin
  have hrmA := c_roomM (c := c) hR hPl hrr p0
  have hsf := e_sumFor (K := K) (A := up M 0 0 0) hM hr8 hgr o (by omega)
  rw [if_neg (by omega)] at hsf
  obtain ⟨A2, e2, s2, f2⟩ := s_setQuoin (c := c) hNow hS1 hG1.1.1 r o hr8 ho.1
  obtain ⟨hG2, hgg⟩ := hG1.q hM1 hr1 o (by omega) (Or.inl h2) (by rw [nq, y4]; omega)
  have hgr2 := hG2.1.1 r hr.1 hr8.2
  have hP2 : PR A2 pl M1 := PR_S hP1 (by omega) f2
  have z0 := hP2.1.1
  have z2 := hP2.1.2.2.1
  have hgp := c_gapIn (c := c) hR hPl (s2.2 r hr.1 (by omega)) hgr2 z0 z2
  have hmg := e_gap (K := K) (A := M1) hM1 hr8 hgr2
  have hop := gQ_op g r o h2 (by omega)
  refine Good_chg hI (v := gapM M1 (gQ g r o) r) (A' := A2) (J' := J1) (M' := M1) (g' := gQ g r o) ?_ ?_ h01 (hI1.chg hl1 (f2.mono fun b hb => Or.inl hb) (scr.refl M1).s4 ?_ (hG2.mono hBs))
  · simp (disch := first | assumption | omega) only [fX6_open, lkV hk, lkR0 hk, lkR1 hk, lkR2 hk, lkR3 hk, lkR4 hk, lkR5 hk, lkR6 hk, lkR7 hk, lkR8 hk, lkR9 hk, lkI hk, k_E, t_E, hcr, rwI1, rwS1, rwI2, rwS2, rwI4, rwS4, rwI5, rwS5, rwI7, rwS7, rwI8, rwS8, rwI9, rwS9, rwR0, rwR3, rwR6, rwA1, rwU1, rwA3, rwU3, rwV, rwJ, rwUJ, plI0, plS0, plI1, plS1, plI2, plS2, plI3, plS3, plI4, plS4, plI5, plS5, plI6, plS6, plI7, plS7, plR8, plR9, plR10, plA1, plU1, plA2, plU2, plA3, plU3, plV, stI2, stS2, stI3, stS3, stI4, stS4, stI5, stS5, stI6, stS6, stI7, stS7, stR0, stR1, stA2, stU2, stV, stRow, svI5, svS5, svI6, svS6, svI7, svS7, svR0, svR1, svR2, svR3, svR4, svA13, svU13, svA14, svU14, svA15, svU15, svA16, svU16, svV, svRow, svF, svUF, hiI1, hiS1, hiI2, hiS2, hiR0, hiV, hiRow, rdI2, rdS2, rdI3, rdS3, rdI4, rdS4, rdI5, rdS5, rdI6, rdS6, rdI7, rdS7, rdI8, rdS8, rdR0, rdR1, rdA1, rdU1, rdA2, rdU2, rdV, k_C, ↓reduceIte, tr_lt, fa_lt, tr_le, fa_le, tr_eq, fa_eq, and_true, true_and, and_false, false_and, il0, il1, il2, il3, il4, il5, il6, il7, il8, il9, il10, il11, il12, il15, il16, il20, il24, il31, il32, il44, il45, il48, il50, il57, il58, il59, il63, il91, il93, il97, il99, il100, il109, il113, il119, il120, il122, il200, il255, il480, il500, il501, il512, il999, il4112, il41120, il1000000, il1000003, ii_add, ii_sub, ii_mul, ii_neg, ii_le, ii_lt, ii_eq, ii_div, q_I, q_V, q_R, lt_q, rZ_q, md_M, md_16, md_4, md_8, md_10, if_true, if_false, if_pos, if_neg, hcq, p2, p3, hrmA, w1, e2, hgp]
  · simp (disch := first | assumption | omega) only [fX7_open, fX7_open_43, nR1, nA1, nU1, nR2, nA2, nU2, nR3, nA3, nU3, nR4, nA4, nU4, nR5, nA5, nU5, nR6, nA6, nU6, nR7, nA7, nU7, nR8, nA8, nU8, nR9, nA9, nU9, nR10, nA10, nU10, nR11, nA11, nU11, nR12, nA12, nU12, nR13, nA13, nU13, nR14, nA14, nU14, nR15, nA15, nU15, nR16, nA16, nU16, nI0, nS0, nI1, nS1, nI2, nS2, nI3, nS3, nI4, nS4, nI5, nS5, nI6, nS6, nI7, nS7, nI8, nS8, nI9, nS9, nI15, nS15, nI18, nS18, nI19, nS19, nI20, nS20, nI21, nS21, nI22, nS22, nI23, nS23, nI24, nS24, nI25, nS25, nI26, nS26, nI27, nS27, nI32, nS32, nI36, nS36, nI37, nS37, nI40, nS40, nSZ1, nV, nC, ↓reduceIte, tr_lt, fa_lt, tr_le, fa_le, tr_eq, fa_eq, and_true, true_and, and_false, false_and, il0, il1, il2, il3, il4, il5, il6, il7, il8, il9, il10, il11, il12, il15, il16, il20, il24, il31, il32, il44, il45, il48, il50, il57, il58, il59, il63, il91, il93, il97, il99, il100, il109, il113, il119, il120, il122, il200, il255, il480, il500, il501, il512, il999, il4112, il41120, il1000000, il1000003, ii_add, ii_sub, ii_mul, ii_neg, ii_le, ii_lt, ii_eq, ii_div, q_I, q_V, q_R, lt_q, rZ_q, md_M, md_16, md_4, md_8, md_10, if_true, if_false, if_pos, if_neg, mg_3, mg_0, mg_1, mg_2, mg_k, mg_up3, mg_upk, hmr, hmq, hin, hsf, e_ref0, w2, e_puts, hop, hmg]
  · rw [lo_gQ g r o 5 (by omega), if_neg (by omega)]; exact s2
theorem g_open (hI : Inv C0 N0 n pl sp tv cap c A J M g) (r o : Int) (hrb : -2147483648 ≤ r ∧ r < 2147483648) (hib : -2147483648 ≤ o ∧ o < 2147483648) : Good C0 N0 n K (fL_open 0 (ii r) (ii o) 455 (CW c A J)) (fX7_open 0 (ii r) (ii o) (NW K (mg M g))) := by
  have hk := hI.1
  have hRd : isReader c 1 := hk.2.1.1
  have hSv : isSolver c 4 := hk.2.1.2.1
  have hHi : isHist c 21 := hk.2.1.2.2.1
  have hNow : isState c 303 := hk.2.1.2.2.2.1
  have hSpr : isState c 338 := hk.2.1.2.2.2.2.1
  have hPl : isPlan c pl := hk.2.2.2.1.2.1
  have h00 : up M 0 0 0 0 0 = 0 := up_s _ _ _ _
  by_cases hl : M 0 1 = 1
  · obtain ⟨h10, hM, hP, hS, hG⟩ := hI.ld hl
    obtain ⟨p0, p1, p2, p3, p4, p5, p6, p7⟩ := hP.1
    have hc1 := c_chase1 (A := A) (J := J) hk h10
    have e3 : up M 0 0 0 0 3 = M 0 3 := up_n _ _ _ _ _ _ (by omega)
    have e9 : up M 0 0 0 0 9 = M 0 9 := up_n _ _ _ _ _ _ (by omega)
    have h38 := hM.1.2.1
    have h910 := hM.1.2.2.2.2.2.2.2
    by_cases hr : 0 ≤ r ∧ r < up M 0 0 0 0 3
    · have hcr := c_row1 (A := A) (J := J) hk h10 r (by rw [p1]; exact hr) (by rw [p1]; exact h38.2)
      have hmr := e_noRow1 (K := K) (M := M) (g := g) hl r (by rw [← e3]; exact hr) (by rw [← e3]; exact h38.2)
      have hr8 : 0 ≤ r ∧ r < 8 := by omega
      have hR := hNow.row r hr8
      have hrr := hS.2 r hr.1 (by omega)
      have hgr := hG.1.1 r hr.1 (by omega)
      have x7 := hrr.1.2.2.2.2.1
      have h7 := hgr.2.2.2.2.1
      have hcq := c_hasQuoin (c := c) (A := A) (J := J) hR (by rw [x7]; exact h7)
      rw [x7] at hcq
      have hmq := e_hasQuoin (K := K) (A := up M 0 0 0) hr8 hgr
      have h4 := hM.1.2.2.1
      have h5 := hM.1.2.2.2.1
      have hN := (hG.need hM hr).1
      have hin := e_in o 0 (up M 0 0 0 0 5) (by omega) (NW K (mg (up M 0 0 0) g))
      have hrf := e_ref1 (K := K) (M := up M 0 0 0) (g := g) h00 3 (by omega)
      by_cases h2 : cel g r 2 = -1
      · rw [if_pos h2] at hcq hmq
        refine Good_no (code := 3) hI (E := "java/lang/IllegalArgumentException") (A' := A) (J' := J) ?_ (frm.refl _ _ _) (fun τ => (hF2 _ _ _ _ _ _ (by decide)).trans ((hF2 _ _ _ _ _ _ (by decide)).trans (hF1 _ _ 3 rfl _ _ _))) (by omega) (v := 0) ?_
        · simp (disch := first | assumption | omega) only [fX6_open, lkV hk, lkR0 hk, lkR1 hk, lkR2 hk, lkR3 hk, lkR4 hk, lkR5 hk, lkR6 hk, lkR7 hk, lkR8 hk, lkR9 hk, lkI hk, k_E, t_E, hcr, rwI1, rwS1, rwI2, rwS2, rwI4, rwS4, rwI5, rwS5, rwI7, rwS7, rwI8, rwS8, rwI9, rwS9, rwR0, rwR3, rwR6, rwA1, rwU1, rwA3, rwU3, rwV, rwJ, rwUJ, plI0, plS0, plI1, plS1, plI2, plS2, plI3, plS3, plI4, plS4, plI5, plS5, plI6, plS6, plI7, plS7, plR8, plR9, plR10, plA1, plU1, plA2, plU2, plA3, plU3, plV, stI2, stS2, stI3, stS3, stI4, stS4, stI5, stS5, stI6, stS6, stI7, stS7, stR0, stR1, stA2, stU2, stV, stRow, svI5, svS5, svI6, svS6, svI7, svS7, svR0, svR1, svR2, svR3, svR4, svA13, svU13, svA14, svU14, svA15, svU15, svA16, svU16, svV, svRow, svF, svUF, hiI1, hiS1, hiI2, hiS2, hiR0, hiV, hiRow, rdI2, rdS2, rdI3, rdS3, rdI4, rdS4, rdI5, rdS5, rdI6, rdS6, rdI7, rdS7, rdI8, rdS8, rdR0, rdR1, rdA1, rdU1, rdA2, rdU2, rdV, k_C, ↓reduceIte, tr_lt, fa_lt, tr_le, fa_le, tr_eq, fa_eq, and_true, true_and, and_false, false_and, il0, il1, il2, il3, il4, il5, il6, il7, il8, il9, il10, il11, il12, il15, il16, il20, il24, il31, il32, il44, il45, il48, il50, il57, il58, il59, il63, il91, il93, il97, il99, il100, il109, il113, il119, il120, il122, il200, il255, il480, il500, il501, il512, il999, il4112, il41120, il1000000, il1000003, ii_add, ii_sub, ii_mul, ii_neg, ii_le, ii_lt, ii_eq, ii_div, q_I, q_V, q_R, lt_q, rZ_q, md_M, md_16, md_4, md_8, md_10, if_true, if_false, if_pos, if_neg, hcq, t_E]
        · simp (disch := first | assumption | omega) only [fX7_open, fX7_open_38, nR1, nA1, nU1, nR2, nA2, nU2, nR3, nA3, nU3, nR4, nA4, nU4, nR5, nA5, nU5, nR6, nA6, nU6, nR7, nA7, nU7, nR8, nA8, nU8, nR9, nA9, nU9, nR10, nA10, nU10, nR11, nA11, nU11, nR12, nA12, nU12, nR13, nA13, nU13, nR14, nA14, nU14, nR15, nA15, nU15, nR16, nA16, nU16, nI0, nS0, nI1, nS1, nI2, nS2, nI3, nS3, nI4, nS4, nI5, nS5, nI6, nS6, nI7, nS7, nI8, nS8, nI9, nS9, nI15, nS15, nI18, nS18, nI19, nS19, nI20, nS20, nI21, nS21, nI22, nS22, nI23, nS23, nI24, nS24, nI25, nS25, nI26, nS26, nI27, nS27, nI32, nS32, nI36, nS36, nI37, nS37, nI40, nS40, nSZ1, nV, nC, ↓reduceIte, tr_lt, fa_lt, tr_le, fa_le, tr_eq, fa_eq, and_true, true_and, and_false, false_and, il0, il1, il2, il3, il4, il5, il6, il7, il8, il9, il10, il11, il12, il15, il16, il20, il24, il31, il32, il44, il45, il48, il50, il57, il58, il59, il63, il91, il93, il97, il99, il100, il109, il113, il119, il120, il122, il200, il255, il480, il500, il501, il512, il999, il4112, il41120, il1000000, il1000003, ii_add, ii_sub, ii_mul, ii_neg, ii_le, ii_lt, ii_eq, ii_div, q_I, q_V, q_R, lt_q, rZ_q, md_M, md_16, md_4, md_8, md_10, if_true, if_false, if_pos, if_neg, mg_3, mg_0, mg_1, mg_2, mg_k, mg_up3, mg_upk, hmr, hmq]
          rw [fX7_open_43, nV, il3, hrf, nC, q_I, if_neg (show ¬ ii 1 = (0 : Int32) by decide), up_up]
          rfl
      · rw [if_neg h2] at hcq hmq
        by_cases ho : 0 ≤ o ∧ o ≤ up M 0 0 0 0 5
        · rw [if_pos ho] at hin
          by_cases hq : up M 0 0 0 0 4 + o ≤ needM (up M 0 0 0) g r
          · exact g_open_1 hI r o hl hr h2 ho hq
          · have hrmA := c_roomM (c := c) hR hPl hrr p0
            have hsf := e_sumFor (K := K) (A := up M 0 0 0) hM hr8 hgr o (by omega)
            rw [if_neg (by omega)] at hsf
            refine Good_no (code := 3) hI (E := "java/lang/IllegalArgumentException") (A' := A) (J' := J) ?_ (frm.refl _ _ _) (fun τ => (hF2 _ _ _ _ _ _ (by decide)).trans ((hF2 _ _ _ _ _ _ (by decide)).trans (hF1 _ _ 3 rfl _ _ _))) (by omega) (v := 0) ?_
            · simp (disch := first | assumption | omega) only [fX6_open, lkV hk, lkR0 hk, lkR1 hk, lkR2 hk, lkR3 hk, lkR4 hk, lkR5 hk, lkR6 hk, lkR7 hk, lkR8 hk, lkR9 hk, lkI hk, k_E, t_E, hcr, rwI1, rwS1, rwI2, rwS2, rwI4, rwS4, rwI5, rwS5, rwI7, rwS7, rwI8, rwS8, rwI9, rwS9, rwR0, rwR3, rwR6, rwA1, rwU1, rwA3, rwU3, rwV, rwJ, rwUJ, plI0, plS0, plI1, plS1, plI2, plS2, plI3, plS3, plI4, plS4, plI5, plS5, plI6, plS6, plI7, plS7, plR8, plR9, plR10, plA1, plU1, plA2, plU2, plA3, plU3, plV, stI2, stS2, stI3, stS3, stI4, stS4, stI5, stS5, stI6, stS6, stI7, stS7, stR0, stR1, stA2, stU2, stV, stRow, svI5, svS5, svI6, svS6, svI7, svS7, svR0, svR1, svR2, svR3, svR4, svA13, svU13, svA14, svU14, svA15, svU15, svA16, svU16, svV, svRow, svF, svUF, hiI1, hiS1, hiI2, hiS2, hiR0, hiV, hiRow, rdI2, rdS2, rdI3, rdS3, rdI4, rdS4, rdI5, rdS5, rdI6, rdS6, rdI7, rdS7, rdI8, rdS8, rdR0, rdR1, rdA1, rdU1, rdA2, rdU2, rdV, k_C, ↓reduceIte, tr_lt, fa_lt, tr_le, fa_le, tr_eq, fa_eq, and_true, true_and, and_false, false_and, il0, il1, il2, il3, il4, il5, il6, il7, il8, il9, il10, il11, il12, il15, il16, il20, il24, il31, il32, il44, il45, il48, il50, il57, il58, il59, il63, il91, il93, il97, il99, il100, il109, il113, il119, il120, il122, il200, il255, il480, il500, il501, il512, il999, il4112, il41120, il1000000, il1000003, ii_add, ii_sub, ii_mul, ii_neg, ii_le, ii_lt, ii_eq, ii_div, q_I, q_V, q_R, lt_q, rZ_q, md_M, md_16, md_4, md_8, md_10, if_true, if_false, if_pos, if_neg, hcq, p2, p3, hrmA, t_E]
            · simp (disch := first | assumption | omega) only [fX7_open, fX7_open_38, nR1, nA1, nU1, nR2, nA2, nU2, nR3, nA3, nU3, nR4, nA4, nU4, nR5, nA5, nU5, nR6, nA6, nU6, nR7, nA7, nU7, nR8, nA8, nU8, nR9, nA9, nU9, nR10, nA10, nU10, nR11, nA11, nU11, nR12, nA12, nU12, nR13, nA13, nU13, nR14, nA14, nU14, nR15, nA15, nU15, nR16, nA16, nU16, nI0, nS0, nI1, nS1, nI2, nS2, nI3, nS3, nI4, nS4, nI5, nS5, nI6, nS6, nI7, nS7, nI8, nS8, nI9, nS9, nI15, nS15, nI18, nS18, nI19, nS19, nI20, nS20, nI21, nS21, nI22, nS22, nI23, nS23, nI24, nS24, nI25, nS25, nI26, nS26, nI27, nS27, nI32, nS32, nI36, nS36, nI37, nS37, nI40, nS40, nSZ1, nV, nC, ↓reduceIte, tr_lt, fa_lt, tr_le, fa_le, tr_eq, fa_eq, and_true, true_and, and_false, false_and, il0, il1, il2, il3, il4, il5, il6, il7, il8, il9, il10, il11, il12, il15, il16, il20, il24, il31, il32, il44, il45, il48, il50, il57, il58, il59, il63, il91, il93, il97, il99, il100, il109, il113, il119, il120, il122, il200, il255, il480, il500, il501, il512, il999, il4112, il41120, il1000000, il1000003, ii_add, ii_sub, ii_mul, ii_neg, ii_le, ii_lt, ii_eq, ii_div, q_I, q_V, q_R, lt_q, rZ_q, md_M, md_16, md_4, md_8, md_10, if_true, if_false, if_pos, if_neg, mg_3, mg_0, mg_1, mg_2, mg_k, mg_up3, mg_upk, hmr, hmq, hin, hsf]
              rw [fX7_open_43, nV, il3, hrf, nC, q_I, if_neg (show ¬ ii 1 = (0 : Int32) by decide), up_up]
              rfl
        · rw [if_neg ho] at hin
          refine Good_no (code := 3) hI (E := "java/lang/IllegalArgumentException") (A' := A) (J' := J) ?_ (frm.refl _ _ _) (fun τ => (hF2 _ _ _ _ _ _ (by decide)).trans ((hF2 _ _ _ _ _ _ (by decide)).trans (hF1 _ _ 3 rfl _ _ _))) (by omega) (v := 0) ?_
          · by_cases h3 : o < 0
            · simp (disch := first | assumption | omega) only [fX6_open, lkV hk, lkR0 hk, lkR1 hk, lkR2 hk, lkR3 hk, lkR4 hk, lkR5 hk, lkR6 hk, lkR7 hk, lkR8 hk, lkR9 hk, lkI hk, k_E, t_E, hcr, rwI1, rwS1, rwI2, rwS2, rwI4, rwS4, rwI5, rwS5, rwI7, rwS7, rwI8, rwS8, rwI9, rwS9, rwR0, rwR3, rwR6, rwA1, rwU1, rwA3, rwU3, rwV, rwJ, rwUJ, plI0, plS0, plI1, plS1, plI2, plS2, plI3, plS3, plI4, plS4, plI5, plS5, plI6, plS6, plI7, plS7, plR8, plR9, plR10, plA1, plU1, plA2, plU2, plA3, plU3, plV, stI2, stS2, stI3, stS3, stI4, stS4, stI5, stS5, stI6, stS6, stI7, stS7, stR0, stR1, stA2, stU2, stV, stRow, svI5, svS5, svI6, svS6, svI7, svS7, svR0, svR1, svR2, svR3, svR4, svA13, svU13, svA14, svU14, svA15, svU15, svA16, svU16, svV, svRow, svF, svUF, hiI1, hiS1, hiI2, hiS2, hiR0, hiV, hiRow, rdI2, rdS2, rdI3, rdS3, rdI4, rdS4, rdI5, rdS5, rdI6, rdS6, rdI7, rdS7, rdI8, rdS8, rdR0, rdR1, rdA1, rdU1, rdA2, rdU2, rdV, k_C, ↓reduceIte, tr_lt, fa_lt, tr_le, fa_le, tr_eq, fa_eq, and_true, true_and, and_false, false_and, il0, il1, il2, il3, il4, il5, il6, il7, il8, il9, il10, il11, il12, il15, il16, il20, il24, il31, il32, il44, il45, il48, il50, il57, il58, il59, il63, il91, il93, il97, il99, il100, il109, il113, il119, il120, il122, il200, il255, il480, il500, il501, il512, il999, il4112, il41120, il1000000, il1000003, ii_add, ii_sub, ii_mul, ii_neg, ii_le, ii_lt, ii_eq, ii_div, q_I, q_V, q_R, lt_q, rZ_q, md_M, md_16, md_4, md_8, md_10, if_true, if_false, if_pos, if_neg, hcq, t_E]
            · simp (disch := first | assumption | omega) only [fX6_open, lkV hk, lkR0 hk, lkR1 hk, lkR2 hk, lkR3 hk, lkR4 hk, lkR5 hk, lkR6 hk, lkR7 hk, lkR8 hk, lkR9 hk, lkI hk, k_E, t_E, hcr, rwI1, rwS1, rwI2, rwS2, rwI4, rwS4, rwI5, rwS5, rwI7, rwS7, rwI8, rwS8, rwI9, rwS9, rwR0, rwR3, rwR6, rwA1, rwU1, rwA3, rwU3, rwV, rwJ, rwUJ, plI0, plS0, plI1, plS1, plI2, plS2, plI3, plS3, plI4, plS4, plI5, plS5, plI6, plS6, plI7, plS7, plR8, plR9, plR10, plA1, plU1, plA2, plU2, plA3, plU3, plV, stI2, stS2, stI3, stS3, stI4, stS4, stI5, stS5, stI6, stS6, stI7, stS7, stR0, stR1, stA2, stU2, stV, stRow, svI5, svS5, svI6, svS6, svI7, svS7, svR0, svR1, svR2, svR3, svR4, svA13, svU13, svA14, svU14, svA15, svU15, svA16, svU16, svV, svRow, svF, svUF, hiI1, hiS1, hiI2, hiS2, hiR0, hiV, hiRow, rdI2, rdS2, rdI3, rdS3, rdI4, rdS4, rdI5, rdS5, rdI6, rdS6, rdI7, rdS7, rdI8, rdS8, rdR0, rdR1, rdA1, rdU1, rdA2, rdU2, rdV, k_C, ↓reduceIte, tr_lt, fa_lt, tr_le, fa_le, tr_eq, fa_eq, and_true, true_and, and_false, false_and, il0, il1, il2, il3, il4, il5, il6, il7, il8, il9, il10, il11, il12, il15, il16, il20, il24, il31, il32, il44, il45, il48, il50, il57, il58, il59, il63, il91, il93, il97, il99, il100, il109, il113, il119, il120, il122, il200, il255, il480, il500, il501, il512, il999, il4112, il41120, il1000000, il1000003, ii_add, ii_sub, ii_mul, ii_neg, ii_le, ii_lt, ii_eq, ii_div, q_I, q_V, q_R, lt_q, rZ_q, md_M, md_16, md_4, md_8, md_10, if_true, if_false, if_pos, if_neg, hcq, p3, t_E]
          · simp (disch := first | assumption | omega) only [fX7_open, fX7_open_38, nR1, nA1, nU1, nR2, nA2, nU2, nR3, nA3, nU3, nR4, nA4, nU4, nR5, nA5, nU5, nR6, nA6, nU6, nR7, nA7, nU7, nR8, nA8, nU8, nR9, nA9, nU9, nR10, nA10, nU10, nR11, nA11, nU11, nR12, nA12, nU12, nR13, nA13, nU13, nR14, nA14, nU14, nR15, nA15, nU15, nR16, nA16, nU16, nI0, nS0, nI1, nS1, nI2, nS2, nI3, nS3, nI4, nS4, nI5, nS5, nI6, nS6, nI7, nS7, nI8, nS8, nI9, nS9, nI15, nS15, nI18, nS18, nI19, nS19, nI20, nS20, nI21, nS21, nI22, nS22, nI23, nS23, nI24, nS24, nI25, nS25, nI26, nS26, nI27, nS27, nI32, nS32, nI36, nS36, nI37, nS37, nI40, nS40, nSZ1, nV, nC, ↓reduceIte, tr_lt, fa_lt, tr_le, fa_le, tr_eq, fa_eq, and_true, true_and, and_false, false_and, il0, il1, il2, il3, il4, il5, il6, il7, il8, il9, il10, il11, il12, il15, il16, il20, il24, il31, il32, il44, il45, il48, il50, il57, il58, il59, il63, il91, il93, il97, il99, il100, il109, il113, il119, il120, il122, il200, il255, il480, il500, il501, il512, il999, il4112, il41120, il1000000, il1000003, ii_add, ii_sub, ii_mul, ii_neg, ii_le, ii_lt, ii_eq, ii_div, q_I, q_V, q_R, lt_q, rZ_q, md_M, md_16, md_4, md_8, md_10, if_true, if_false, if_pos, if_neg, mg_3, mg_0, mg_1, mg_2, mg_k, mg_up3, mg_upk, hmr, hmq, hin]
            rw [fX7_open_43, nV, il3, hrf, nC, q_I, if_neg (show ¬ ii 1 = (0 : Int32) by decide), up_up]
            rfl
    · refine Good_no (code := 2) hI (E := "java/lang/IndexOutOfBoundsException") (A' := A) (J' := J) ?_ (frm.refl _ _ _) (fun τ => (hF2 _ _ _ _ _ _ (by decide)).trans (hF1 _ _ 2 rfl _ _ _)) (by omega) (v := 0) ?_
      · have hcr := c_row0 (A := A) (J := J) hk h10 r (by rw [p1]; exact hr) (by rw [p1]; omega) (by omega)
        rw [fX6_open, lkV hk, hcr, k_E]
      · have hmr := e_noRow0 (K := K) (M := M) (g := g) hl r (by rw [← e3]; exact hr) (by rw [← e3]; omega) (by omega)
        rw [fX7_open, nV, hmr, nC, q_I, if_neg (show ¬ ii 1 = (0 : Int32) by decide)]
        rfl
  · obtain ⟨h10, h1⟩ := hI.nl hl
    refine Good_nl hI (v := 0) ?_ (hF_IS _ 1 rfl _ _) ?_
    · rw [fX6_open, lkV hk, c_rowN hk h10, k_E]
    · rw [fX7_open, nV, e_noRowN h1, nC, q_I, if_neg (show ¬ ii 1 = (0 : Int32) by decide)]
      rfl
theorem g_lock_1 (hI : Inv C0 N0 n pl sp tv cap c A J M g) (hn : n ≤ 600) (r : Int) (hl : M 0 1 = 1) (hr : 0 ≤ r ∧ r < up M 0 0 0 0 3) (y : (chL (up M 0 0 0) g (A (pl + 3)) r).1 < 1000000) : Good C0 N0 n K (fL_lock 0 (ii r) 455 (CW c A J)) (fX7_lock 0 (ii r) (NW K (mg M g))) := by
  have hk := hI.1
  have hRd : isReader c 1 := hk.2.1.1
  have hSv : isSolver c 4 := hk.2.1.2.1
  have hHi : isHist c 21 := hk.2.1.2.2.1
  have hNow : isState c 303 := hk.2.1.2.2.2.1
  have hSpr : isState c 338 := hk.2.1.2.2.2.2.1
  have hPl : isPlan c pl := hk.2.2.2.1.2.1
  have h00 : up M 0 0 0 0 0 = 0 := up_s _ _ _ _
  obtain ⟨h10, hM, hP, hS, hG⟩ := hI.ld hl
  obtain ⟨p0, p1, p2, p3, p4, p5, p6, p7⟩ := hP.1
  have hc1 := c_chase1 (A := A) (J := J) hk h10
  have e3 : up M 0 0 0 0 3 = M 0 3 := up_n _ _ _ _ _ _ (by omega)
  have e9 : up M 0 0 0 0 9 = M 0 9 := up_n _ _ _ _ _ _ (by omega)
  have h38 := hM.1.2.1
  have h910 := hM.1.2.2.2.2.2.2.2
  have hcr := c_row1 (A := A) (J := J) hk h10 r (by rw [p1]; exact hr) (by rw [p1]; exact h38.2)
  have hmr := e_noRow1 (K := K) (M := M) (g := g) hl r (by rw [← e3]; exact hr) (by rw [← e3]; exact h38.2)
  have hr8 : 0 ≤ r ∧ r < 8 := by omega
  have hR := hNow.row r hr8
  have hrr := hS.2 r hr.1 (by omega)
  have hgr := hG.1.1 r hr.1 (by omega)
  have h37 : up M 0 0 0 0 37 = -1 := (up_n _ _ _ _ _ _ (by omega)).trans hI.2.2.2.1
  obtain ⟨A1, A', e1, v1, v2, k1, f1⟩ := c_solve (c := c) hk hNow ⟨by omega, Or.inl rfl⟩ hS hP hM hG h37 r hr
  obtain ⟨M', m1, ms, m36, m12, m14⟩ := e_chooses (K := K) hM hG.GL (by omega) hP.2.2 hr8 hgr hG.h0 (hG.need hM hr).1
  have hfr : frm scC A A' J J := ⟨fun b z hb => f1 b z (fun x => hb (Or.inl x)), fun _ _ _ => rfl⟩
  have m00 : M' 0 0 = 0 := (ms.1 0 (by omega)).trans h00
  have hN := (hG.need hM hr).1
  have hI0 := hI.thr 0
  have hl0 : up M 0 0 0 0 1 = 1 := (up_n _ _ _ _ _ _ (by omega)).trans hl
  rw [if_pos y] at e1 m1
  have hI2 : Inv C0 N0 n pl sp tv cap c A' J M' g := hI0.scr (Nat.le_refl n) ⟨rfl, rfl, rfl⟩ hI0.2.1.2 (hfr.mono fun b hb => Or.inl hb) ⟨fun z q _ => ms.1 z q, ms.2⟩
  have hl2 : M' 0 1 = 1 := (ms.1 1 (by omega)).trans hl0
  obtain ⟨A1, J1, M1, w1, w2, hI1, ⟨w3, w4⟩, wf⟩ := remB (K := K) hI2 hl2
  have hl1 : M1 0 1 = 1 := (w3 1 (by omega)).trans hl2
  obtain ⟨hM1, hP1, hS1, hG1⟩ := hI1.li hl1
  have h01 : M1 0 0 = 0 := (w3 0 (by omega)).trans m00
  have hap := hk.2.2.2.1.1
  have hBs : Bn n ≤ Bn (n + 1) := Bn_s n
  have u0 : ∀ z, 2 ≤ z → z ≤ 9 → M1 0 z = up M 0 0 0 0 z := fun z a b => (w3 z (by omega)).trans (ms.1 z (by omega))
  have u37 : M1 0 37 = up M 0 0 0 0 37 := (w3 37 (by omega)).trans (ms.1 37 (by omega))
  have u2 : M1 2 = up M 0 0 0 2 := funext fun z => (w4 2 z (by omega) (by omega)).trans (ms.2 2 z (by omega) (by omega))
  have uo : A1 (pl + 3) = A (pl + 3) := funext fun z => by rw [wf.1 _ _ (by omega), f1 _ _ (by unfold inV; omega)]
  have cL := chL_at u0 u37 u2 g (A1 (pl + 3)) r
  have cS := chS_at u0 u37 u2 g (A1 (pl + 3)) r
  have cT := stM_at u37 g
  have y1 : (chL M1 g (A1 (pl + 3)) r).1 < 1000000 := by rw [cL, uo]; exact y
  have hr1 : 0 ≤ r ∧ r < M1 0 3 := by rw [u0 3 (by omega) (by omega)]; exact hr
  have hO1 := hP1.2.2
  obtain ⟨⟨k5, k6, k7⟩, k20⟩ := k1.1 y
  obtain ⟨hc1', hc2'⟩ := hG1.lockB (o := A1 (pl + 3)) hM1 hO1 hr1 y1
  have hcb := (chL_b (o := A1 (pl + 3)) hM1 (hG1.need hM1 hr1).1).2.1
  have h5 := hM1.1.2.2.2.1
  have h9 := hM1.1.2.2.2.2.2.2.2
  have v5 : A1 4 5 = (chL M1 g (A1 (pl + 3)) r).1 := by rw [wf.1 _ _ (by omega), k5, cL, uo]
  obtain ⟨A2, J2, e2, s2, f2⟩ := s_fill (c := c) hNow hPl hSv (by omega) (by omega) hS1 hG1.1.1 hM1 hP1 r (chL M1 g (A1 (pl + 3)) r).2 hr8 (by omega) (tk (M1 0 9) (A1 (pl + 3)) (M1 2) (stM M1 g) (chS M1 g (A1 (pl + 3)) r)) (by rw [wf.1 _ _ (by omega), k7, cL, uo]) (fun p a b => by
    rw [wf.1 _ _ (by omega), cS, cT, u2, u0 9 (by omega) (by omega), uo]
    exact k20 p a (by rw [← u0 9 (by omega) (by omega)]; exact b)) hc1' hc2'
  obtain ⟨M2, q1, q2, q3⟩ := e_locks (K := K) (A := M1) (g := g) (o := A1 (pl + 3)) (r := r) hM1 hG1.GL (by rw [u37]; omega) hO1 hr8 hgr hG1.h0 (hG1.need hM1 hr1).1 (fun _ => hc2')
  rw [if_pos y1, if_pos y1] at q1
  obtain ⟨t1, -⟩ := m_many (o := A1 (pl + 3)) hM1 hG1.GL hO1 r (hG1.need hM1 hr1).1 y1 q2 (q3 y1)
  have hmy := e_chosenMany0 (K := K) (A := M2) (g := gLock g r (A1 (pl + 3)) (tk (M1 0 9) (A1 (pl + 3)) (M1 2) (stM M1 g) (chS M1 g (A1 (pl + 3)) r)) (M1 0 9) (chL M1 g (A1 (pl + 3)) r).2) (by rw [q2.1 9 (by omega)]; exact h9)
  rw [t1] at hmy
  have hBn : 0 ≤ Bn n ∧ Bn n ≤ 600000000 := by unfold Bn; omega
  have hG2 := hG1.lock hM1 (u37.trans h37) hO1 hr1 hBn y1
  have v5b : A2 4 5 = (chL M1 g (A1 (pl + 3)) r).1 := by rw [f2.1 _ _ (by unfold inS; omega)]; exact v5
  refine Good_chg hI (v := (chL M1 g (A1 (pl + 3)) r).1) (A' := A2) (J' := J2) (M' := M2) (g' := gLock g r (A1 (pl + 3)) (tk (M1 0 9) (A1 (pl + 3)) (M1 2) (stM M1 g) (chS M1 g (A1 (pl + 3)) r)) (M1 0 9) (chL M1 g (A1 (pl + 3)) r).2) ?_ ?_ ((q2.1 0 (by omega)).trans h01) (hI1.chg hl1 (f2.mono fun b hb => Or.inl hb) q2.s4 ?_ (hG2.mono hBs))
  · simp (disch := first | assumption | omega) only [fX6_lock, lkV hk, lkR0 hk, lkR1 hk, lkR2 hk, lkR3 hk, lkR4 hk, lkR5 hk, lkR6 hk, lkR7 hk, lkR8 hk, lkR9 hk, lkI hk, k_E, t_E, hcr, rwI1, rwS1, rwI2, rwS2, rwI4, rwS4, rwI5, rwS5, rwI7, rwS7, rwI8, rwS8, rwI9, rwS9, rwR0, rwR3, rwR6, rwA1, rwU1, rwA3, rwU3, rwV, rwJ, rwUJ, plI0, plS0, plI1, plS1, plI2, plS2, plI3, plS3, plI4, plS4, plI5, plS5, plI6, plS6, plI7, plS7, plR8, plR9, plR10, plA1, plU1, plA2, plU2, plA3, plU3, plV, stI2, stS2, stI3, stS3, stI4, stS4, stI5, stS5, stI6, stS6, stI7, stS7, stR0, stR1, stA2, stU2, stV, stRow, svI5, svS5, svI6, svS6, svI7, svS7, svR0, svR1, svR2, svR3, svR4, svA13, svU13, svA14, svU14, svA15, svU15, svA16, svU16, svV, svRow, svF, svUF, hiI1, hiS1, hiI2, hiS2, hiR0, hiV, hiRow, rdI2, rdS2, rdI3, rdS3, rdI4, rdS4, rdI5, rdS5, rdI6, rdS6, rdI7, rdS7, rdI8, rdS8, rdR0, rdR1, rdA1, rdU1, rdA2, rdU2, rdV, k_C, ↓reduceIte, tr_lt, fa_lt, tr_le, fa_le, tr_eq, fa_eq, and_true, true_and, and_false, false_and, il0, il1, il2, il3, il4, il5, il6, il7, il8, il9, il10, il11, il12, il15, il16, il20, il24, il31, il32, il44, il45, il48, il50, il57, il58, il59, il63, il91, il93, il97, il99, il100, il109, il113, il119, il120, il122, il200, il255, il480, il500, il501, il512, il999, il4112, il41120, il1000000, il1000003, ii_add, ii_sub, ii_mul, ii_neg, ii_le, ii_lt, ii_eq, ii_div, q_I, q_V, q_R, lt_q, rZ_q, md_M, md_16, md_4, md_8, md_10, if_true, if_false, if_pos, if_neg, e1, w1, e2, v5b]
  · simp (disch := first | assumption | omega) only [fX7_lock, fX7_lock_22, nR1, nA1, nU1, nR2, nA2, nU2, nR3, nA3, nU3, nR4, nA4, nU4, nR5, nA5, nU5, nR6, nA6, nU6, nR7, nA7, nU7, nR8, nA8, nU8, nR9, nA9, nU9, nR10, nA10, nU10, nR11, nA11, nU11, nR12, nA12, nU12, nR13, nA13, nU13, nR14, nA14, nU14, nR15, nA15, nU15, nR16, nA16, nU16, nI0, nS0, nI1, nS1, nI2, nS2, nI3, nS3, nI4, nS4, nI5, nS5, nI6, nS6, nI7, nS7, nI8, nS8, nI9, nS9, nI15, nS15, nI18, nS18, nI19, nS19, nI20, nS20, nI21, nS21, nI22, nS22, nI23, nS23, nI24, nS24, nI25, nS25, nI26, nS26, nI27, nS27, nI32, nS32, nI36, nS36, nI37, nS37, nI40, nS40, nSZ1, nV, nC, ↓reduceIte, tr_lt, fa_lt, tr_le, fa_le, tr_eq, fa_eq, and_true, true_and, and_false, false_and, il0, il1, il2, il3, il4, il5, il6, il7, il8, il9, il10, il11, il12, il15, il16, il20, il24, il31, il32, il44, il45, il48, il50, il57, il58, il59, il63, il91, il93, il97, il99, il100, il109, il113, il119, il120, il122, il200, il255, il480, il500, il501, il512, il999, il4112, il41120, il1000000, il1000003, ii_add, ii_sub, ii_mul, ii_neg, ii_le, ii_lt, ii_eq, ii_div, q_I, q_V, q_R, lt_q, rZ_q, md_M, md_16, md_4, md_8, md_10, if_true, if_false, if_pos, if_neg, mg_3, mg_0, mg_1, mg_2, mg_k, mg_up3, mg_upk, hmr, m1, e_ref0, w2, q1, hmy]
  · rw [gLock_5 _ _ _ _ _ _ hr.1 hgr (by omega) (by omega) (fun q a b => ⟨by have := hO1.1 q a b; omega, (hc1' q a b).1⟩) hc2']; exact s2
theorem g_lock (hI : Inv C0 N0 n pl sp tv cap c A J M g) (hn : n ≤ 600) (r : Int) (hrb : -2147483648 ≤ r ∧ r < 2147483648) : Good C0 N0 n K (fL_lock 0 (ii r) 455 (CW c A J)) (fX7_lock 0 (ii r) (NW K (mg M g))) := by
  have hk := hI.1
  have hRd : isReader c 1 := hk.2.1.1
  have hSv : isSolver c 4 := hk.2.1.2.1
  have hHi : isHist c 21 := hk.2.1.2.2.1
  have hNow : isState c 303 := hk.2.1.2.2.2.1
  have hSpr : isState c 338 := hk.2.1.2.2.2.2.1
  have hPl : isPlan c pl := hk.2.2.2.1.2.1
  have h00 : up M 0 0 0 0 0 = 0 := up_s _ _ _ _
  by_cases hl : M 0 1 = 1
  · obtain ⟨h10, hM, hP, hS, hG⟩ := hI.ld hl
    obtain ⟨p0, p1, p2, p3, p4, p5, p6, p7⟩ := hP.1
    have hc1 := c_chase1 (A := A) (J := J) hk h10
    have e3 : up M 0 0 0 0 3 = M 0 3 := up_n _ _ _ _ _ _ (by omega)
    have e9 : up M 0 0 0 0 9 = M 0 9 := up_n _ _ _ _ _ _ (by omega)
    have h38 := hM.1.2.1
    have h910 := hM.1.2.2.2.2.2.2.2
    by_cases hr : 0 ≤ r ∧ r < up M 0 0 0 0 3
    · by_cases y : (chL (up M 0 0 0) g (A (pl + 3)) r).1 < 1000000
      · exact g_lock_1 hI hn r hl hr y
      · have hcr := c_row1 (A := A) (J := J) hk h10 r (by rw [p1]; exact hr) (by rw [p1]; exact h38.2)
        have hmr := e_noRow1 (K := K) (M := M) (g := g) hl r (by rw [← e3]; exact hr) (by rw [← e3]; exact h38.2)
        have hr8 : 0 ≤ r ∧ r < 8 := by omega
        have hR := hNow.row r hr8
        have hrr := hS.2 r hr.1 (by omega)
        have hgr := hG.1.1 r hr.1 (by omega)
        have h37 : up M 0 0 0 0 37 = -1 := (up_n _ _ _ _ _ _ (by omega)).trans hI.2.2.2.1
        obtain ⟨A1, A', e1, v1, v2, k1, f1⟩ := c_solve (c := c) hk hNow ⟨by omega, Or.inl rfl⟩ hS hP hM hG h37 r hr
        obtain ⟨M', m1, ms, m36, m12, m14⟩ := e_chooses (K := K) hM hG.GL (by omega) hP.2.2 hr8 hgr hG.h0 (hG.need hM hr).1
        have hfr : frm scC A A' J J := ⟨fun b z hb => f1 b z (fun x => hb (Or.inl x)), fun _ _ _ => rfl⟩
        have m00 : M' 0 0 = 0 := (ms.1 0 (by omega)).trans h00
        have hN := (hG.need hM hr).1
        rw [if_neg y] at e1 m1
        have hrf := e_ref1 (K := K) (M := M') (g := g) m00 3 (by omega)
        refine Good_throw hI (v := 0) (code := 3) (E := "java/lang/IllegalArgumentException") (A' := A') (J' := J) (M' := up M' 0 0 3) ?_ hfr (fun τ => (hF2 _ _ _ _ _ _ (by decide)).trans ((hF2 _ _ _ _ _ _ (by decide)).trans (hF1 _ _ 3 rfl _ _ _))) (by omega) ?_ ?_ (up_s _ _ _ _)
        · rw [fX6_lock, lkV hk, hcr, k_C, q_R, lkR3 hk, lkV hk, e1, k_C, q_I, if_pos i00, t_E]
        · simp (disch := first | assumption | omega) only [fX7_lock, nR1, nA1, nU1, nR2, nA2, nU2, nR3, nA3, nU3, nR4, nA4, nU4, nR5, nA5, nU5, nR6, nA6, nU6, nR7, nA7, nU7, nR8, nA8, nU8, nR9, nA9, nU9, nR10, nA10, nU10, nR11, nA11, nU11, nR12, nA12, nU12, nR13, nA13, nU13, nR14, nA14, nU14, nR15, nA15, nU15, nR16, nA16, nU16, nI0, nS0, nI1, nS1, nI2, nS2, nI3, nS3, nI4, nS4, nI5, nS5, nI6, nS6, nI7, nS7, nI8, nS8, nI9, nS9, nI15, nS15, nI18, nS18, nI19, nS19, nI20, nS20, nI21, nS21, nI22, nS22, nI23, nS23, nI24, nS24, nI25, nS25, nI26, nS26, nI27, nS27, nI32, nS32, nI36, nS36, nI37, nS37, nI40, nS40, nSZ1, nV, nC, ↓reduceIte, tr_lt, fa_lt, tr_le, fa_le, tr_eq, fa_eq, and_true, true_and, and_false, false_and, il0, il1, il2, il3, il4, il5, il6, il7, il8, il9, il10, il11, il12, il15, il16, il20, il24, il31, il32, il44, il45, il48, il50, il57, il58, il59, il63, il91, il93, il97, il99, il100, il109, il113, il119, il120, il122, il200, il255, il480, il500, il501, il512, il999, il4112, il41120, il1000000, il1000003, ii_add, ii_sub, ii_mul, ii_neg, ii_le, ii_lt, ii_eq, ii_div, q_I, q_V, q_R, lt_q, rZ_q, md_M, md_16, md_4, md_8, md_10, if_true, if_false, if_pos, if_neg, mg_3, mg_0, mg_1, mg_2, mg_k, mg_up3, mg_upk, hmr, m1]
          rw [fX7_lock_22, nV, il3, hrf, nC, q_I, if_neg (show ¬ ii 1 = (0 : Int32) by decide)]
          rfl
        · rw [up_up]
          refine ⟨fun z q => ?_, fun b z q p => ?_⟩
          · by_cases z0 : z = 0
            · rw [z0, up_s, up_s]
            · rw [up_n _ _ _ _ _ _ (fun e => z0 e.2)]; exact ms.1 z q
          · rw [up_n _ _ _ _ _ _ (by omega)]; exact ms.2 b z q p
    · refine Good_no (code := 2) hI (E := "java/lang/IndexOutOfBoundsException") (A' := A) (J' := J) ?_ (frm.refl _ _ _) (fun τ => (hF2 _ _ _ _ _ _ (by decide)).trans (hF1 _ _ 2 rfl _ _ _)) (by omega) (v := 0) ?_
      · have hcr := c_row0 (A := A) (J := J) hk h10 r (by rw [p1]; exact hr) (by rw [p1]; omega) (by omega)
        rw [fX6_lock, lkV hk, hcr, k_E]
      · have hmr := e_noRow0 (K := K) (M := M) (g := g) hl r (by rw [← e3]; exact hr) (by rw [← e3]; omega) (by omega)
        rw [fX7_lock, nV, hmr, nC, q_I, if_neg (show ¬ ii 1 = (0 : Int32) by decide)]
        rfl
  · obtain ⟨h10, h1⟩ := hI.nl hl
    refine Good_nl hI (v := 0) ?_ (hF_IS _ 1 rfl _ _) ?_
    · rw [fX6_lock, lkV hk, c_rowN hk h10, k_E]
    · rw [fX7_lock, nV, e_noRowN h1, nC, q_I, if_neg (show ¬ ii 1 = (0 : Int32) by decide)]
      rfl
end CHG3
