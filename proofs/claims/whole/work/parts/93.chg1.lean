/-! CHANGES: place, lift -/
theorem i00 : ii 0 = (0 : Int32) := rfl
theorem Bn_s (n : Nat) : Bn n ≤ Bn (n + 1) := by unfold Bn; omega
theorem gapM_at {M M' : AI} {g : Int → Int} {r : Int} (e : M' 0 2 = M 0 2) (e4 : M' 0 4 = M 0 4) (e2 : M' 2 = M 2) : gapM M' g r = gapM M g r := by
  unfold gapM
  rw [e, e4, e2]
section CHS1
variable {c : CC} {A : AI} {J : JI} {S : Nat} {len g : Int → Int} {f : Int} {K : Nat × Nat} {M : AI} {r : Int}
theorem s_adds (hS : isState c S) (h : SR A J S len g f) (hg : GR g) (r its : Int) (hr : 0 ≤ r ∧ r < 8) (hb : cel g r 0 < 6) : ∃ A', fX3_addBlock (rc S r) (ii its) (CW c A J) = some (Sum.inl none, CW c A' J) ∧ SR A' J S len (gAdds g r its) f ∧ frm (inS S) A A' J J := by
  have hR := hS.row r hr
  have hrr := h.2 r hr.1 hr.2
  have hgr := hg r hr.1 hr.2
  have i0 : inR (rc S r) (rc S r) := by unfold inR; omega
  have i1 : inR (rc S r) (rc S r + 1) := by unfold inR; omega
  have n0 := (rc_in hr i0).1
  have n1 := (rc_in hr i1).1
  have ec := fun (r2 w : Int) (a : 0 ≤ r2) (b : 0 ≤ w ∧ w < 512) => cel_gAdds g r its r2 w ⟨⟨⟨hr.1, a⟩, b⟩, hgr.1⟩
  have el := fun (z : Int) (a : z < 16) => lo_gAdds g r its z ⟨⟨hr.1, a⟩, hgr.1.1⟩
  refine ⟨_, c_addBlock hR hrr hgr its hb, SR_upd h hg r hr (RR.adds hrr hgr hr.1 its hb) ⟨?_, fun k a b => ?_⟩ (fun b z p q s _ => ?_) (fun _ _ _ _ => rfl) (fun r2 w a b p d e => by rw [ec r2 w a ⟨d, e⟩, if_neg (by omega), if_neg (by omega)]), frm_up (frm_up (frm_up (frm.refl _ _ _) _ _ _ n1.1) _ _ _ n0.1) _ _ _ n0.1⟩
  · rw [el 0 (by omega), el 1 (by omega), el 2 (by omega), el 3 (by omega), el 4 (by omega)]
    simp (disch := first | assumption | omega) only [up_n]
    exact h.1.1
  · rw [el (6 + k) (by omega)]
    simp (disch := first | assumption | omega) only [up_n]
    exact h.1.2 k a b
  · rw [up_n _ _ _ _ _ _ (fun e => s (by rw [e.1]; exact i0)), up_n _ _ _ _ _ _ (fun e => s (by rw [e.1]; exact i0)), up_n _ _ _ _ _ _ (fun e => s (by rw [e.1]; exact i1))]
theorem s_lift (hS : isState c S) (h : SR A J S len g f) (hg : GR g) (r i : Int) (hr : 0 ≤ r ∧ r < 8) (hi : 0 ≤ i ∧ i < cel g r 0) : ∃ A', fX3_removeBlock (rc S r) (ii i) (CW c A J) = some (Sum.inl (some (Value.int (ii (cel g r (5 + i))))), CW c A' J) ∧ SR A' J S len (gLift g r i) f ∧ frm (inS S) A A' J J := by
  have hR := hS.row r hr
  have hrr := h.2 r hr.1 hr.2
  have hgr := hg r hr.1 hr.2
  have ec := fun (r2 w : Int) (a : 0 ≤ r2) (b : 0 ≤ w ∧ w < 512) => cel_gLift g r i r2 w ⟨⟨⟨hr.1, a⟩, b⟩, hi, hgr.1.2⟩
  have el := fun (z : Int) (a : z < 16) => lo_gLift g r i z ⟨⟨hr.1, a⟩, hi.1⟩
  obtain ⟨A', e1, r1, f1⟩ := c_removeBlock (c := c) hR hrr hgr hr.1 i hi
  have hn2 : ¬ inR (rc S r) (S + 2) := fun z => (rc_in hr z).1.2.2 rfl
  have hn0 : ¬ inR (rc S r) S := fun z => (rc_in hr z).1.2.1 rfl
  refine ⟨A', e1, SR_upd h hg r hr r1 ⟨?_, fun k a b => ?_⟩ (fun b z p q s _ => f1.1 b z s) (fun b j s _ => f1.2 b j s) (fun r2 w a b p d e => by rw [ec r2 w a ⟨d, e⟩, if_neg (by omega), if_neg (by omega)]), f1.mono fun b hb => (rc_in hr hb).1.1⟩
  · rw [el 0 (by omega), el 1 (by omega), el 2 (by omega), el 3 (by omega), el 4 (by omega), f1.1 _ _ hn0, f1.1 _ _ hn0, f1.1 _ _ hn0, f1.1 _ _ hn0, f1.1 _ _ hn0, f1.1 _ _ hn0]
    exact h.1.1
  · rw [el (6 + k) (by omega), f1.1 _ _ hn2]
    exact h.1.2 k a b
theorem gSh_s (g : Int → Int) (r b i k : Int) (h : i ≤ k) : gpu (gSh g r b i k) r (b + k) (cel g r (b + k + 1)) = gSh g r b i (k + 1) := by
  funext z
  unfold gpu gu gSh cel
  by_cases q : z = 16 + 512 * r + (b + k)
  · rw [if_pos q, if_pos (by omega), q, show 16 + 512 * r + (b + k + 1) = 16 + 512 * r + (b + k) + 1 by omega]
  · rw [if_neg q]
    by_cases q2 : 16 + 512 * r + b + i ≤ z ∧ z < 16 + 512 * r + b + k
    · rw [if_pos q2, if_pos (by omega)]
    · rw [if_neg q2, if_neg (by omega)]
theorem gSh_0 (g : Int → Int) (r b i : Int) : gSh g r b i i = g := by
  funext z
  unfold gSh
  rw [if_neg (by omega)]
theorem m_liftLoop (hr : 0 ≤ r ∧ r < 8) (hg : RG g r) (i its : Int) (hi : 0 ≤ i ∧ i < cel g r 0) : fX7_lift_55 FU 0 (ii r) (ii its) (ii i) (NW K (mg M g)) = some (Sum.inl (some (Value.int (ii (its)))), NW K (mg M (gLift g r i))) := by
  have h1 := hg.1
  refine lp (fun n k (s : Int → Int) => fX7_lift_55 n 0 (ii r) (ii its) (ii k) (NW K (mg M s))) (fun x => x = _) (fun k s => i ≤ k ∧ s = gSh g r 5 i k) (cel g r 0 - 1) ?_ ?_ FU i g (by omega) ⟨by omega, (gSh_0 g r 5 i).symm⟩ (by have := FU_e; omega)
  · rintro n k s hk ⟨hik, rfl⟩
    have c0 : cel (gSh g r 5 i k) r 0 = cel g r 0 := by rw [cel_gSh _ _ _ _ _ _ _ (by omega), if_neg (by omega)]
    have c1 : cel (gSh g r 5 i k) r (5 + k + 1) = cel g r (5 + k + 1) := by rw [cel_gSh _ _ _ _ _ _ _ (by omega), if_neg (by omega)]
    refine Or.inr ⟨gSh g r 5 i (k + 1), ⟨by omega, rfl⟩, ?_⟩
    rw [← gSh_s g r 5 i k hik]
    simp (disch := first | assumption | omega) only [fX7_lift_55, nR1, nA1, nU1, nR2, nA2, nU2, nR3, nA3, nU3, nR4, nA4, nU4, nR5, nA5, nU5, nR6, nA6, nU6, nR7, nA7, nU7, nR8, nA8, nU8, nR9, nA9, nU9, nR10, nA10, nU10, nR11, nA11, nU11, nR12, nA12, nU12, nR13, nA13, nU13, nR14, nA14, nU14, nR15, nA15, nU15, nR16, nA16, nU16, nI0, nS0, nI1, nS1, nI2, nS2, nI3, nS3, nI4, nS4, nI5, nS5, nI6, nS6, nI7, nS7, nI8, nS8, nI9, nS9, nI15, nS15, nI18, nS18, nI19, nS19, nI20, nS20, nI21, nS21, nI22, nS22, nI23, nS23, nI24, nS24, nI25, nS25, nI26, nS26, nI27, nS27, nI32, nS32, nI36, nS36, nI37, nS37, nI40, nS40, nSZ1, nV, nC, ↓reduceIte, tr_lt, fa_lt, tr_le, fa_le, tr_eq, fa_eq, and_true, true_and, and_false, false_and, il0, il1, il2, il3, il4, il5, il6, il7, il8, il9, il10, il11, il12, il15, il16, il20, il24, il31, il32, il44, il45, il48, il50, il57, il58, il59, il63, il91, il93, il97, il99, il100, il109, il113, il119, il120, il122, il200, il255, il480, il500, il501, il512, il999, il4112, il41120, il1000000, il1000003, ii_add, ii_sub, ii_mul, ii_neg, ii_le, ii_lt, ii_eq, ii_div, q_I, q_V, q_R, lt_q, rZ_q, md_M, md_16, md_4, md_8, md_10, if_true, if_false, if_pos, if_neg, mg_3, mg_0, mg_1, mg_2, mg_k, mg_up3, mg_upk, e_of, e_puts, c0, c1]
  · rintro n s ⟨hik, rfl⟩
    have c0 : cel (gSh g r 5 i (cel g r 0 - 1)) r 0 = cel g r 0 := by rw [cel_gSh _ _ _ _ _ _ _ (by omega), if_neg (by omega)]
    simp (disch := first | assumption | omega) only [fX7_lift_55, fX7_lift_94, nR1, nA1, nU1, nR2, nA2, nU2, nR3, nA3, nU3, nR4, nA4, nU4, nR5, nA5, nU5, nR6, nA6, nU6, nR7, nA7, nU7, nR8, nA8, nU8, nR9, nA9, nU9, nR10, nA10, nU10, nR11, nA11, nU11, nR12, nA12, nU12, nR13, nA13, nU13, nR14, nA14, nU14, nR15, nA15, nU15, nR16, nA16, nU16, nI0, nS0, nI1, nS1, nI2, nS2, nI3, nS3, nI4, nS4, nI5, nS5, nI6, nS6, nI7, nS7, nI8, nS8, nI9, nS9, nI15, nS15, nI18, nS18, nI19, nS19, nI20, nS20, nI21, nS21, nI22, nS22, nI23, nS23, nI24, nS24, nI25, nS25, nI26, nS26, nI27, nS27, nI32, nS32, nI36, nS36, nI37, nS37, nI40, nS40, nSZ1, nV, nC, ↓reduceIte, tr_lt, fa_lt, tr_le, fa_le, tr_eq, fa_eq, and_true, true_and, and_false, false_and, il0, il1, il2, il3, il4, il5, il6, il7, il8, il9, il10, il11, il12, il15, il16, il20, il24, il31, il32, il44, il45, il48, il50, il57, il58, il59, il63, il91, il93, il97, il99, il100, il109, il113, il119, il120, il122, il200, il255, il480, il500, il501, il512, il999, il4112, il41120, il1000000, il1000003, ii_add, ii_sub, ii_mul, ii_neg, ii_le, ii_lt, ii_eq, ii_div, q_I, q_V, q_R, lt_q, rZ_q, md_M, md_16, md_4, md_8, md_10, if_true, if_false, if_pos, if_neg, mg_3, mg_0, mg_1, mg_2, mg_k, mg_up3, mg_upk, e_of, e_puts, c0]
    rfl
theorem m_takeLoop (hr : 0 ≤ r ∧ r < 8) (hg : RG g r) (i : Int) (hi : 0 ≤ i ∧ i < cel g r 1) : fX7_take_56 FU 0 (ii r) (ii (cel g r (11 + i))) (ii i) (NW K (mg M g)) = some (Sum.inl (some (Value.int (ii (cel g r (11 + i))))), NW K (mg M (gTake g r i))) := by
  have h1 := hg.2.1
  have hv := hg.2.2.2.1 i hi.1 hi.2
  refine lp (fun n k (s : Int → Int) => fX7_take_56 n 0 (ii r) (ii (cel g r (11 + i))) (ii k) (NW K (mg M s))) (fun x => x = _) (fun k s => i ≤ k ∧ s = gSh g r 11 i k) (cel g r 1 - 1) ?_ ?_ FU i g (by omega) ⟨by omega, (gSh_0 g r 11 i).symm⟩ (by have := FU_e; omega)
  · rintro n k s hk ⟨hik, rfl⟩
    have c0 : cel (gSh g r 11 i k) r 1 = cel g r 1 := by rw [cel_gSh _ _ _ _ _ _ _ (by omega), if_neg (by omega)]
    have c1 : cel (gSh g r 11 i k) r (11 + k + 1) = cel g r (11 + k + 1) := by rw [cel_gSh _ _ _ _ _ _ _ (by omega), if_neg (by omega)]
    refine Or.inr ⟨gSh g r 11 i (k + 1), ⟨by omega, rfl⟩, ?_⟩
    rw [← gSh_s g r 11 i k hik]
    simp (disch := first | assumption | omega) only [fX7_take_56, nR1, nA1, nU1, nR2, nA2, nU2, nR3, nA3, nU3, nR4, nA4, nU4, nR5, nA5, nU5, nR6, nA6, nU6, nR7, nA7, nU7, nR8, nA8, nU8, nR9, nA9, nU9, nR10, nA10, nU10, nR11, nA11, nU11, nR12, nA12, nU12, nR13, nA13, nU13, nR14, nA14, nU14, nR15, nA15, nU15, nR16, nA16, nU16, nI0, nS0, nI1, nS1, nI2, nS2, nI3, nS3, nI4, nS4, nI5, nS5, nI6, nS6, nI7, nS7, nI8, nS8, nI9, nS9, nI15, nS15, nI18, nS18, nI19, nS19, nI20, nS20, nI21, nS21, nI22, nS22, nI23, nS23, nI24, nS24, nI25, nS25, nI26, nS26, nI27, nS27, nI32, nS32, nI36, nS36, nI37, nS37, nI40, nS40, nSZ1, nV, nC, ↓reduceIte, tr_lt, fa_lt, tr_le, fa_le, tr_eq, fa_eq, and_true, true_and, and_false, false_and, il0, il1, il2, il3, il4, il5, il6, il7, il8, il9, il10, il11, il12, il15, il16, il20, il24, il31, il32, il44, il45, il48, il50, il57, il58, il59, il63, il91, il93, il97, il99, il100, il109, il113, il119, il120, il122, il200, il255, il480, il500, il501, il512, il999, il4112, il41120, il1000000, il1000003, ii_add, ii_sub, ii_mul, ii_neg, ii_le, ii_lt, ii_eq, ii_div, q_I, q_V, q_R, lt_q, rZ_q, md_M, md_16, md_4, md_8, md_10, if_true, if_false, if_pos, if_neg, mg_3, mg_0, mg_1, mg_2, mg_k, mg_up3, mg_upk, e_of, e_puts, c0, c1]
  · rintro n s ⟨hik, rfl⟩
    have c0 : cel (gSh g r 11 i (cel g r 1 - 1)) r 1 = cel g r 1 := by rw [cel_gSh _ _ _ _ _ _ _ (by omega), if_neg (by omega)]
    have c6 : gpu (gSh g r 11 i (cel g r 1 - 1)) r 1 (cel g r 1 - 1) (6 + cel g r (11 + i)) = g (6 + cel g r (11 + i)) := by rw [gpu_lo _ _ _ _ _ (by omega), lo_gSh _ _ _ _ _ _ (by omega)]
    simp (disch := first | assumption | omega) only [fX7_take_56, fX7_take_97, nR1, nA1, nU1, nR2, nA2, nU2, nR3, nA3, nU3, nR4, nA4, nU4, nR5, nA5, nU5, nR6, nA6, nU6, nR7, nA7, nU7, nR8, nA8, nU8, nR9, nA9, nU9, nR10, nA10, nU10, nR11, nA11, nU11, nR12, nA12, nU12, nR13, nA13, nU13, nR14, nA14, nU14, nR15, nA15, nU15, nR16, nA16, nU16, nI0, nS0, nI1, nS1, nI2, nS2, nI3, nS3, nI4, nS4, nI5, nS5, nI6, nS6, nI7, nS7, nI8, nS8, nI9, nS9, nI15, nS15, nI18, nS18, nI19, nS19, nI20, nS20, nI21, nS21, nI22, nS22, nI23, nS23, nI24, nS24, nI25, nS25, nI26, nS26, nI27, nS27, nI32, nS32, nI36, nS36, nI37, nS37, nI40, nS40, nSZ1, nV, nC, ↓reduceIte, tr_lt, fa_lt, tr_le, fa_le, tr_eq, fa_eq, and_true, true_and, and_false, false_and, il0, il1, il2, il3, il4, il5, il6, il7, il8, il9, il10, il11, il12, il15, il16, il20, il24, il31, il32, il44, il45, il48, il50, il57, il58, il59, il63, il91, il93, il97, il99, il100, il109, il113, il119, il120, il122, il200, il255, il480, il500, il501, il512, il999, il4112, il41120, il1000000, il1000003, ii_add, ii_sub, ii_mul, ii_neg, ii_le, ii_lt, ii_eq, ii_div, q_I, q_V, q_R, lt_q, rZ_q, md_M, md_16, md_4, md_8, md_10, if_true, if_false, if_pos, if_neg, mg_3, mg_0, mg_1, mg_2, mg_k, mg_up3, mg_upk, e_of, e_puts, c0, c6]
    rfl
end CHS1
section CHG1
variable {C0 N0 n : Nat} {K : Nat × Nat} {c : CC} {A : AI} {J : JI} {M : AI} {g g' o : Int → Int} {pl sp tv cap : Nat} {f B : Int}
theorem g_place_1 (hI : Inv C0 N0 n pl sp tv cap c A J M g) (r L : Int) (hl : M 0 1 = 1) (hr : 0 ≤ r ∧ r < up M 0 0 0 0 3) (hL : 1 ≤ L ∧ L ≤ 200) (h6 : cel g r 0 < 6) (hgp0 : L ≤ gapM (up M 0 0 0) g r) : Good C0 N0 n K (fL_place 0 (ii r) (ii L) 455 (CW c A J)) (fX7_place 0 (ii r) (ii L) (NW K (mg M g))) := by
  have hk := hI.1
  have hRd : isReader c 1 := hk.2.1.1
  have hSv : isSolver c 4 := hk.2.1.2.1
  have hHi : isHist c 21 := hk.2.1.2.2.1
  have hNow : isState c 303 := hk.2.1.2.2.2.1
  have hSpr : isState c 338 := hk.2.1.2.2.2.2.1
  have hPl : isPlan c pl := hk.2.2.2.1.2.1
  have h00 : up M 0 0 0 0 0 = 0 := up_s _ _ _ _
  obtain ⟨h10, hM, hP, hS, hG⟩ := hI.ld hl
  obtain ⟨p0, p1, p2, p3, p4, p5, p6, p7⟩ := hP.1
  have hc1 := c_chase1 (A := A) (J := J) hk h10
  have e3 : up M 0 0 0 0 3 = M 0 3 := up_n _ _ _ _ _ _ (by omega)
  have e9 : up M 0 0 0 0 9 = M 0 9 := up_n _ _ _ _ _ _ (by omega)
  have h38 := hM.1.2.1
  have h910 := hM.1.2.2.2.2.2.2.2
  have hcr := c_row1 (A := A) (J := J) hk h10 r (by rw [p1]; exact hr) (by rw [p1]; exact h38.2)
  have hmr := e_noRow1 (K := K) (M := M) (g := g) hl r (by rw [← e3]; exact hr) (by rw [← e3]; exact h38.2)
  have hr8 : 0 ≤ r ∧ r < 8 := by omega
  have hR := hNow.row r hr8
  have hrr := hS.2 r hr.1 (by omega)
  have hgr := hG.1.1 r hr.1 (by omega)
  have hI0 := hI.thr 0
  have hl0 : up M 0 0 0 0 1 = 1 := (up_n _ _ _ _ _ _ (by omega)).trans hl
  obtain ⟨A1, J1, M1, w1, w2, hI1, ⟨w3, w4⟩, wf⟩ := remB (K := K) hI0 hl0
  have hl1 : M1 0 1 = 1 := (w3 1 (by omega)).trans hl0
  obtain ⟨hM1, hP1, hS1, hG1⟩ := hI1.li hl1
  have h01 : M1 0 0 = 0 := (w3 0 (by omega)).trans h00
  have y2 : M1 2 = up M 0 0 0 2 := funext fun z => (w4 2 z (by omega) (by omega))
  have y3 : M1 0 3 = up M 0 0 0 0 3 := w3 3 (by omega)
  have y5 : M1 0 5 = up M 0 0 0 0 5 := w3 5 (by omega)
  have y9 : M1 0 9 = up M 0 0 0 0 9 := w3 9 (by omega)
  have y4 : M1 0 4 = up M 0 0 0 0 4 := w3 4 (by omega)
  have gq : ∀ (h : Int → Int) (r : Int), gapM M1 h r = gapM (up M 0 0 0) h r := fun h r => gapM_at (w3 2 (by omega)) y4 y2
  have nq : ∀ (h : Int → Int) (r : Int), needM M1 h r = needM (up M 0 0 0) h r := fun h r => by unfold needM; rw [gq, y4]
  have hap := hk.2.2.2.1.1
  have hBs : Bn n ≤ Bn (n + 1) := Bn_s n
  have hr1 : 0 ≤ r ∧ r < M1 0 3 := by rw [y3]; exact hr
  have hrr1 := hS1.2 r hr.1 (by omega)
  have hin := e_in L 1 200 (by omega) (NW K (mg (up M 0 0 0) g))
  rw [if_pos hL] at hin
  have hbl := c_nBL1 (c := c) (A := A) (J := J) L hL
  have htb := c_takesBlock (c := c) hR hPl hrr hgr hM p0 p2 L (by omega)
  rw [if_pos ⟨h6, hgp0⟩] at htb
  obtain ⟨A2, e2, s2, f2⟩ := s_adds (c := c) hNow hS1 hG1.1.1 r L hr8 h6
  have hG2 := hG1.adds hM1 hr1 L ⟨hL, by rw [gq]; exact hgp0⟩ h6
  have hgr2 := hG2.1.1 r hr.1 hr8.2
  have hgb := gapM_b hM hgr
  have h1 := hgr.1
  have hP2 : PR A2 pl M1 := PR_S hP1 (by omega) f2
  have z0 := hP2.1.1
  have z2 := hP2.1.2.2.1
  have hgp := c_gapIn (c := c) hR hPl (s2.2 r hr.1 (by omega)) hgr2 z0 z2
  refine Good_chg hI (v := gapM M1 (gAdds g r L) r) (A' := A2) (J' := J1) (M' := M1) (g' := gAdds g r L) ?_ ?_ h01 (hI1.chg hl1 (f2.mono fun b hb => Or.inl hb) (scr.refl M1).s4 ?_ (hG2.mono hBs))
  · simp (disch := first | assumption | omega) only [fX6_place, lkV hk, lkR0 hk, lkR1 hk, lkR2 hk, lkR3 hk, lkR4 hk, lkR5 hk, lkR6 hk, lkR7 hk, lkR8 hk, lkR9 hk, lkI hk, k_E, t_E, hcr, hbl, rwI1, rwS1, rwI2, rwS2, rwI4, rwS4, rwI5, rwS5, rwI7, rwS7, rwI8, rwS8, rwI9, rwS9, rwR0, rwR3, rwR6, rwA1, rwU1, rwA3, rwU3, rwV, rwJ, rwUJ, plI0, plS0, plI1, plS1, plI2, plS2, plI3, plS3, plI4, plS4, plI5, plS5, plI6, plS6, plI7, plS7, plR8, plR9, plR10, plA1, plU1, plA2, plU2, plA3, plU3, plV, stI2, stS2, stI3, stS3, stI4, stS4, stI5, stS5, stI6, stS6, stI7, stS7, stR0, stR1, stA2, stU2, stV, stRow, svI5, svS5, svI6, svS6, svI7, svS7, svR0, svR1, svR2, svR3, svR4, svA13, svU13, svA14, svU14, svA15, svU15, svA16, svU16, svV, svRow, svF, svUF, hiI1, hiS1, hiI2, hiS2, hiR0, hiV, hiRow, rdI2, rdS2, rdI3, rdS3, rdI4, rdS4, rdI5, rdS5, rdI6, rdS6, rdI7, rdS7, rdI8, rdS8, rdR0, rdR1, rdA1, rdU1, rdA2, rdU2, rdV, k_C, ↓reduceIte, tr_lt, fa_lt, tr_le, fa_le, tr_eq, fa_eq, and_true, true_and, and_false, false_and, il0, il1, il2, il3, il4, il5, il6, il7, il8, il9, il10, il11, il12, il15, il16, il20, il24, il31, il32, il44, il45, il48, il50, il57, il58, il59, il63, il91, il93, il97, il99, il100, il109, il113, il119, il120, il122, il200, il255, il480, il500, il501, il512, il999, il4112, il41120, il1000000, il1000003, ii_add, ii_sub, ii_mul, ii_neg, ii_le, ii_lt, ii_eq, ii_div, q_I, q_V, q_R, lt_q, rZ_q, md_M, md_16, md_4, md_8, md_10, if_true, if_false, if_pos, if_neg, htb, w1, e2, hgp]
  · simp (disch := first | assumption | omega) only [fX7_place, fX7_place_45, nR1, nA1, nU1, nR2, nA2, nU2, nR3, nA3, nU3, nR4, nA4, nU4, nR5, nA5, nU5, nR6, nA6, nU6, nR7, nA7, nU7, nR8, nA8, nU8, nR9, nA9, nU9, nR10, nA10, nU10, nR11, nA11, nU11, nR12, nA12, nU12, nR13, nA13, nU13, nR14, nA14, nU14, nR15, nA15, nU15, nR16, nA16, nU16, nI0, nS0, nI1, nS1, nI2, nS2, nI3, nS3, nI4, nS4, nI5, nS5, nI6, nS6, nI7, nS7, nI8, nS8, nI9, nS9, nI15, nS15, nI18, nS18, nI19, nS19, nI20, nS20, nI21, nS21, nI22, nS22, nI23, nS23, nI24, nS24, nI25, nS25, nI26, nS26, nI27, nS27, nI32, nS32, nI36, nS36, nI37, nS37, nI40, nS40, nSZ1, nV, nC, ↓reduceIte, tr_lt, fa_lt, tr_le, fa_le, tr_eq, fa_eq, and_true, true_and, and_false, false_and, il0, il1, il2, il3, il4, il5, il6, il7, il8, il9, il10, il11, il12, il15, il16, il20, il24, il31, il32, il44, il45, il48, il50, il57, il58, il59, il63, il91, il93, il97, il99, il100, il109, il113, il119, il120, il122, il200, il255, il480, il500, il501, il512, il999, il4112, il41120, il1000000, il1000003, ii_add, ii_sub, ii_mul, ii_neg, ii_le, ii_lt, ii_eq, ii_div, q_I, q_V, q_R, lt_q, rZ_q, md_M, md_16, md_4, md_8, md_10, if_true, if_false, if_pos, if_neg, mg_3, mg_0, mg_1, mg_2, mg_k, mg_up3, mg_upk, hmr, hin, e_of, e_gap, e_ref0, w2, e_adds]
  · rw [lo_gAdds g r L 5 (by omega)]; exact s2
theorem g_place (hI : Inv C0 N0 n pl sp tv cap c A J M g) (r L : Int) (hrb : -2147483648 ≤ r ∧ r < 2147483648) (hib : -2147483648 ≤ L ∧ L < 2147483648) : Good C0 N0 n K (fL_place 0 (ii r) (ii L) 455 (CW c A J)) (fX7_place 0 (ii r) (ii L) (NW K (mg M g))) := by
  have hk := hI.1
  have hRd : isReader c 1 := hk.2.1.1
  have hSv : isSolver c 4 := hk.2.1.2.1
  have hHi : isHist c 21 := hk.2.1.2.2.1
  have hNow : isState c 303 := hk.2.1.2.2.2.1
  have hSpr : isState c 338 := hk.2.1.2.2.2.2.1
  have hPl : isPlan c pl := hk.2.2.2.1.2.1
  have h00 : up M 0 0 0 0 0 = 0 := up_s _ _ _ _
  by_cases hl : M 0 1 = 1
  · obtain ⟨h10, hM, hP, hS, hG⟩ := hI.ld hl
    obtain ⟨p0, p1, p2, p3, p4, p5, p6, p7⟩ := hP.1
    have hc1 := c_chase1 (A := A) (J := J) hk h10
    have e3 : up M 0 0 0 0 3 = M 0 3 := up_n _ _ _ _ _ _ (by omega)
    have e9 : up M 0 0 0 0 9 = M 0 9 := up_n _ _ _ _ _ _ (by omega)
    have h38 := hM.1.2.1
    have h910 := hM.1.2.2.2.2.2.2.2
    have hin := e_in L 1 200 (by omega) (NW K (mg (up M 0 0 0) g))
    by_cases hr : 0 ≤ r ∧ r < up M 0 0 0 0 3
    · by_cases q : (1 ≤ L ∧ L ≤ 200) ∧ cel g r 0 < 6 ∧ L ≤ gapM (up M 0 0 0) g r
      · exact g_place_1 hI r L hl hr q.1 q.2.1 q.2.2
      · have hcr := c_row1 (A := A) (J := J) hk h10 r (by rw [p1]; exact hr) (by rw [p1]; exact h38.2)
        have hmr := e_noRow1 (K := K) (M := M) (g := g) hl r (by rw [← e3]; exact hr) (by rw [← e3]; exact h38.2)
        have hr8 : 0 ≤ r ∧ r < 8 := by omega
        have hR := hNow.row r hr8
        have hrr := hS.2 r hr.1 (by omega)
        have hgr := hG.1.1 r hr.1 (by omega)
        have h1 := hgr.1
        have hgb := gapM_b hM hgr
        have hrf := e_ref1 (K := K) (M := up M 0 0 0) (g := g) h00 3 (by omega)
        refine Good_no (code := 3) hI (E := "java/lang/IllegalArgumentException") (A' := A) (J' := J) ?_ (frm.refl _ _ _) (fun τ => (hF2 _ _ _ _ _ _ (by decide)).trans ((hF2 _ _ _ _ _ _ (by decide)).trans (hF1 _ _ 3 rfl _ _ _))) (by omega) (v := 0) ?_
        · by_cases hL : 1 ≤ L ∧ L ≤ 200
          · have htb := c_takesBlock (c := c) hR hPl hrr hgr hM p0 p2 L (by omega)
            rw [if_neg (fun x => q ⟨hL, x⟩)] at htb
            have hbl := c_nBL1 (c := c) (A := A) (J := J) L hL
            rw [fX6_place, lkV hk, hcr, k_C, q_R, hbl, k_C, q_V, lkR8 hk, rwV hR, htb, k_C, q_I, if_pos i00, t_E]
          · rw [fX6_place, lkV hk, hcr, k_C, q_R, c_nBL0 L hL hib, k_E]
        · by_cases hL : 1 ≤ L ∧ L ≤ 200
          · rw [if_pos hL] at hin
            by_cases h6 : cel g r 0 = 6
            · simp (disch := first | assumption | omega) only [fX7_place, fX7_place_40, nR1, nA1, nU1, nR2, nA2, nU2, nR3, nA3, nU3, nR4, nA4, nU4, nR5, nA5, nU5, nR6, nA6, nU6, nR7, nA7, nU7, nR8, nA8, nU8, nR9, nA9, nU9, nR10, nA10, nU10, nR11, nA11, nU11, nR12, nA12, nU12, nR13, nA13, nU13, nR14, nA14, nU14, nR15, nA15, nU15, nR16, nA16, nU16, nI0, nS0, nI1, nS1, nI2, nS2, nI3, nS3, nI4, nS4, nI5, nS5, nI6, nS6, nI7, nS7, nI8, nS8, nI9, nS9, nI15, nS15, nI18, nS18, nI19, nS19, nI20, nS20, nI21, nS21, nI22, nS22, nI23, nS23, nI24, nS24, nI25, nS25, nI26, nS26, nI27, nS27, nI32, nS32, nI36, nS36, nI37, nS37, nI40, nS40, nSZ1, nV, nC, ↓reduceIte, tr_lt, fa_lt, tr_le, fa_le, tr_eq, fa_eq, and_true, true_and, and_false, false_and, il0, il1, il2, il3, il4, il5, il6, il7, il8, il9, il10, il11, il12, il15, il16, il20, il24, il31, il32, il44, il45, il48, il50, il57, il58, il59, il63, il91, il93, il97, il99, il100, il109, il113, il119, il120, il122, il200, il255, il480, il500, il501, il512, il999, il4112, il41120, il1000000, il1000003, ii_add, ii_sub, ii_mul, ii_neg, ii_le, ii_lt, ii_eq, ii_div, q_I, q_V, q_R, lt_q, rZ_q, md_M, md_16, md_4, md_8, md_10, if_true, if_false, if_pos, if_neg, mg_3, mg_0, mg_1, mg_2, mg_k, mg_up3, mg_upk, hmr, hin, e_of]
              rw [fX7_place_45, nV, il3, hrf, nC, q_I, if_neg (show ¬ ii 1 = (0 : Int32) by decide), up_up]
              rfl
            · have hgp : ¬ L ≤ gapM (up M 0 0 0) g r := fun x => q ⟨hL, by omega, x⟩
              simp (disch := first | assumption | omega) only [fX7_place, fX7_place_40, nR1, nA1, nU1, nR2, nA2, nU2, nR3, nA3, nU3, nR4, nA4, nU4, nR5, nA5, nU5, nR6, nA6, nU6, nR7, nA7, nU7, nR8, nA8, nU8, nR9, nA9, nU9, nR10, nA10, nU10, nR11, nA11, nU11, nR12, nA12, nU12, nR13, nA13, nU13, nR14, nA14, nU14, nR15, nA15, nU15, nR16, nA16, nU16, nI0, nS0, nI1, nS1, nI2, nS2, nI3, nS3, nI4, nS4, nI5, nS5, nI6, nS6, nI7, nS7, nI8, nS8, nI9, nS9, nI15, nS15, nI18, nS18, nI19, nS19, nI20, nS20, nI21, nS21, nI22, nS22, nI23, nS23, nI24, nS24, nI25, nS25, nI26, nS26, nI27, nS27, nI32, nS32, nI36, nS36, nI37, nS37, nI40, nS40, nSZ1, nV, nC, ↓reduceIte, tr_lt, fa_lt, tr_le, fa_le, tr_eq, fa_eq, and_true, true_and, and_false, false_and, il0, il1, il2, il3, il4, il5, il6, il7, il8, il9, il10, il11, il12, il15, il16, il20, il24, il31, il32, il44, il45, il48, il50, il57, il58, il59, il63, il91, il93, il97, il99, il100, il109, il113, il119, il120, il122, il200, il255, il480, il500, il501, il512, il999, il4112, il41120, il1000000, il1000003, ii_add, ii_sub, ii_mul, ii_neg, ii_le, ii_lt, ii_eq, ii_div, q_I, q_V, q_R, lt_q, rZ_q, md_M, md_16, md_4, md_8, md_10, if_true, if_false, if_pos, if_neg, mg_3, mg_0, mg_1, mg_2, mg_k, mg_up3, mg_upk, hmr, hin, e_of, e_gap]
              rw [fX7_place_45, nV, il3, hrf, nC, q_I, if_neg (show ¬ ii 1 = (0 : Int32) by decide), up_up]
              rfl
          · rw [if_neg hL] at hin
            simp (disch := first | assumption | omega) only [fX7_place, fX7_place_40, nR1, nA1, nU1, nR2, nA2, nU2, nR3, nA3, nU3, nR4, nA4, nU4, nR5, nA5, nU5, nR6, nA6, nU6, nR7, nA7, nU7, nR8, nA8, nU8, nR9, nA9, nU9, nR10, nA10, nU10, nR11, nA11, nU11, nR12, nA12, nU12, nR13, nA13, nU13, nR14, nA14, nU14, nR15, nA15, nU15, nR16, nA16, nU16, nI0, nS0, nI1, nS1, nI2, nS2, nI3, nS3, nI4, nS4, nI5, nS5, nI6, nS6, nI7, nS7, nI8, nS8, nI9, nS9, nI15, nS15, nI18, nS18, nI19, nS19, nI20, nS20, nI21, nS21, nI22, nS22, nI23, nS23, nI24, nS24, nI25, nS25, nI26, nS26, nI27, nS27, nI32, nS32, nI36, nS36, nI37, nS37, nI40, nS40, nSZ1, nV, nC, ↓reduceIte, tr_lt, fa_lt, tr_le, fa_le, tr_eq, fa_eq, and_true, true_and, and_false, false_and, il0, il1, il2, il3, il4, il5, il6, il7, il8, il9, il10, il11, il12, il15, il16, il20, il24, il31, il32, il44, il45, il48, il50, il57, il58, il59, il63, il91, il93, il97, il99, il100, il109, il113, il119, il120, il122, il200, il255, il480, il500, il501, il512, il999, il4112, il41120, il1000000, il1000003, ii_add, ii_sub, ii_mul, ii_neg, ii_le, ii_lt, ii_eq, ii_div, q_I, q_V, q_R, lt_q, rZ_q, md_M, md_16, md_4, md_8, md_10, if_true, if_false, if_pos, if_neg, mg_3, mg_0, mg_1, mg_2, mg_k, mg_up3, mg_upk, hmr, hin]
            rw [fX7_place_45, nV, il3, hrf, nC, q_I, if_neg (show ¬ ii 1 = (0 : Int32) by decide), up_up]
            rfl
    · refine Good_no (code := 2) hI (E := "java/lang/IndexOutOfBoundsException") (A' := A) (J' := J) ?_ (frm.refl _ _ _) (fun τ => (hF2 _ _ _ _ _ _ (by decide)).trans (hF1 _ _ 2 rfl _ _ _)) (by omega) (v := 0) ?_
      · have hcr := c_row0 (A := A) (J := J) hk h10 r (by rw [p1]; exact hr) (by rw [p1]; omega) (by omega)
        rw [fX6_place, lkV hk, hcr, k_E]
      · have hmr := e_noRow0 (K := K) (M := M) (g := g) hl r (by rw [← e3]; exact hr) (by rw [← e3]; omega) (by omega)
        rw [fX7_place, nV, hmr, nC, q_I, if_neg (show ¬ ii 1 = (0 : Int32) by decide)]
        rfl
  · obtain ⟨h10, h1⟩ := hI.nl hl
    refine Good_nl hI (v := 0) ?_ (hF_IS _ 1 rfl _ _) ?_
    · rw [fX6_place, lkV hk, c_rowN hk h10, k_E]
    · rw [fX7_place, nV, e_noRowN h1, nC, q_I, if_neg (show ¬ ii 1 = (0 : Int32) by decide)]
      rfl
theorem g_lift (hI : Inv C0 N0 n pl sp tv cap c A J M g) (r i : Int) (hrb : -2147483648 ≤ r ∧ r < 2147483648) (hib : -2147483648 ≤ i ∧ i < 2147483648) : Good C0 N0 n K (fL_lift 0 (ii r) (ii i) 455 (CW c A J)) (fX7_lift 0 (ii r) (ii i) (NW K (mg M g))) := by
  have hk := hI.1
  have hRd : isReader c 1 := hk.2.1.1
  have hSv : isSolver c 4 := hk.2.1.2.1
  have hHi : isHist c 21 := hk.2.1.2.2.1
  have hNow : isState c 303 := hk.2.1.2.2.2.1
  have hSpr : isState c 338 := hk.2.1.2.2.2.2.1
  have hPl : isPlan c pl := hk.2.2.2.1.2.1
  have h00 : up M 0 0 0 0 0 = 0 := up_s _ _ _ _
  by_cases hl : M 0 1 = 1
  · obtain ⟨h10, hM, hP, hS, hG⟩ := hI.ld hl
    obtain ⟨p0, p1, p2, p3, p4, p5, p6, p7⟩ := hP.1
    have hc1 := c_chase1 (A := A) (J := J) hk h10
    have e3 : up M 0 0 0 0 3 = M 0 3 := up_n _ _ _ _ _ _ (by omega)
    have e9 : up M 0 0 0 0 9 = M 0 9 := up_n _ _ _ _ _ _ (by omega)
    have h38 := hM.1.2.1
    have h910 := hM.1.2.2.2.2.2.2.2
    by_cases hr : 0 ≤ r ∧ r < up M 0 0 0 0 3
    · have hcr := c_row1 (A := A) (J := J) hk h10 r (by rw [p1]; exact hr) (by rw [p1]; exact h38.2)
      have hmr := e_noRow1 (K := K) (M := M) (g := g) hl r (by rw [← e3]; exact hr) (by rw [← e3]; exact h38.2)
      have hr8 : 0 ≤ r ∧ r < 8 := by omega
      have hR := hNow.row r hr8
      have hrr := hS.2 r hr.1 (by omega)
      have hgr := hG.1.1 r hr.1 (by omega)
      have x1 := hrr.1.1
      have h1 := hgr.1
      have hin := e_in i 0 (cel g r 0 - 1) (by omega) (NW K (mg (up M 0 0 0) g))
      by_cases q : 0 ≤ i ∧ i < cel g r 0
      · rw [if_pos (by omega)] at hin
        have hI0 := hI.thr 0
        have hl0 : up M 0 0 0 0 1 = 1 := (up_n _ _ _ _ _ _ (by omega)).trans hl
        obtain ⟨A1, J1, M1, w1, w2, hI1, ⟨w3, w4⟩, wf⟩ := remB (K := K) hI0 hl0
        have hl1 : M1 0 1 = 1 := (w3 1 (by omega)).trans hl0
        obtain ⟨hM1, hP1, hS1, hG1⟩ := hI1.li hl1
        have h01 : M1 0 0 = 0 := (w3 0 (by omega)).trans h00
        have y2 : M1 2 = up M 0 0 0 2 := funext fun z => (w4 2 z (by omega) (by omega))
        have y3 : M1 0 3 = up M 0 0 0 0 3 := w3 3 (by omega)
        have y5 : M1 0 5 = up M 0 0 0 0 5 := w3 5 (by omega)
        have y9 : M1 0 9 = up M 0 0 0 0 9 := w3 9 (by omega)
        have y4 : M1 0 4 = up M 0 0 0 0 4 := w3 4 (by omega)
        have gq : ∀ (h : Int → Int) (r : Int), gapM M1 h r = gapM (up M 0 0 0) h r := fun h r => gapM_at (w3 2 (by omega)) y4 y2
        have nq : ∀ (h : Int → Int) (r : Int), needM M1 h r = needM (up M 0 0 0) h r := fun h r => by unfold needM; rw [gq, y4]
        have hap := hk.2.2.2.1.1
        have hBs : Bn n ≤ Bn (n + 1) := Bn_s n
        have hr1 : 0 ≤ r ∧ r < M1 0 3 := by rw [y3]; exact hr
        have hrr1 := hS1.2 r hr.1 (by omega)
        obtain ⟨A2, e2, s2, f2⟩ := s_lift (c := c) hNow hS1 hG1.1.1 r i hr8 q
        have hG2 := hG1.lift hM1 hr1 i q
        have hml := m_liftLoop (K := K) (M := M1) hr8 hgr i (cel g r (5 + i)) q
        refine Good_chg hI (v := cel g r (5 + i)) (A' := A2) (J' := J1) (M' := M1) (g' := gLift g r i) ?_ ?_ h01 (hI1.chg hl1 (f2.mono fun b hb => Or.inl hb) (scr.refl M1).s4 ?_ (hG2.mono hBs))
        · simp (disch := first | assumption | omega) only [fX6_lift, lkV hk, lkR0 hk, lkR1 hk, lkR2 hk, lkR3 hk, lkR4 hk, lkR5 hk, lkR6 hk, lkR7 hk, lkR8 hk, lkR9 hk, lkI hk, k_E, t_E, hcr, rwI1, rwS1, rwI2, rwS2, rwI4, rwS4, rwI5, rwS5, rwI7, rwS7, rwI8, rwS8, rwI9, rwS9, rwR0, rwR3, rwR6, rwA1, rwU1, rwA3, rwU3, rwV, rwJ, rwUJ, plI0, plS0, plI1, plS1, plI2, plS2, plI3, plS3, plI4, plS4, plI5, plS5, plI6, plS6, plI7, plS7, plR8, plR9, plR10, plA1, plU1, plA2, plU2, plA3, plU3, plV, stI2, stS2, stI3, stS3, stI4, stS4, stI5, stS5, stI6, stS6, stI7, stS7, stR0, stR1, stA2, stU2, stV, stRow, svI5, svS5, svI6, svS6, svI7, svS7, svR0, svR1, svR2, svR3, svR4, svA13, svU13, svA14, svU14, svA15, svU15, svA16, svU16, svV, svRow, svF, svUF, hiI1, hiS1, hiI2, hiS2, hiR0, hiV, hiRow, rdI2, rdS2, rdI3, rdS3, rdI4, rdS4, rdI5, rdS5, rdI6, rdS6, rdI7, rdS7, rdI8, rdS8, rdR0, rdR1, rdA1, rdU1, rdA2, rdU2, rdV, k_C, ↓reduceIte, tr_lt, fa_lt, tr_le, fa_le, tr_eq, fa_eq, and_true, true_and, and_false, false_and, il0, il1, il2, il3, il4, il5, il6, il7, il8, il9, il10, il11, il12, il15, il16, il20, il24, il31, il32, il44, il45, il48, il50, il57, il58, il59, il63, il91, il93, il97, il99, il100, il109, il113, il119, il120, il122, il200, il255, il480, il500, il501, il512, il999, il4112, il41120, il1000000, il1000003, ii_add, ii_sub, ii_mul, ii_neg, ii_le, ii_lt, ii_eq, ii_div, q_I, q_V, q_R, lt_q, rZ_q, md_M, md_16, md_4, md_8, md_10, if_true, if_false, if_pos, if_neg, x1, c_index1, w1, e2]
        · simp (disch := first | assumption | omega) only [fX7_lift, fX7_lift_30, nR1, nA1, nU1, nR2, nA2, nU2, nR3, nA3, nU3, nR4, nA4, nU4, nR5, nA5, nU5, nR6, nA6, nU6, nR7, nA7, nU7, nR8, nA8, nU8, nR9, nA9, nU9, nR10, nA10, nU10, nR11, nA11, nU11, nR12, nA12, nU12, nR13, nA13, nU13, nR14, nA14, nU14, nR15, nA15, nU15, nR16, nA16, nU16, nI0, nS0, nI1, nS1, nI2, nS2, nI3, nS3, nI4, nS4, nI5, nS5, nI6, nS6, nI7, nS7, nI8, nS8, nI9, nS9, nI15, nS15, nI18, nS18, nI19, nS19, nI20, nS20, nI21, nS21, nI22, nS22, nI23, nS23, nI24, nS24, nI25, nS25, nI26, nS26, nI27, nS27, nI32, nS32, nI36, nS36, nI37, nS37, nI40, nS40, nSZ1, nV, nC, ↓reduceIte, tr_lt, fa_lt, tr_le, fa_le, tr_eq, fa_eq, and_true, true_and, and_false, false_and, il0, il1, il2, il3, il4, il5, il6, il7, il8, il9, il10, il11, il12, il15, il16, il20, il24, il31, il32, il44, il45, il48, il50, il57, il58, il59, il63, il91, il93, il97, il99, il100, il109, il113, il119, il120, il122, il200, il255, il480, il500, il501, il512, il999, il4112, il41120, il1000000, il1000003, ii_add, ii_sub, ii_mul, ii_neg, ii_le, ii_lt, ii_eq, ii_div, q_I, q_V, q_R, lt_q, rZ_q, md_M, md_16, md_4, md_8, md_10, if_true, if_false, if_pos, if_neg, mg_3, mg_0, mg_1, mg_2, mg_k, mg_up3, mg_upk, hmr, hin, e_of, e_ref0, w2, hml]
        · rw [lo_gLift g r i 5 (by omega)]; exact s2
      · rw [if_neg (by omega)] at hin
        have hci := c_index0 (c := c) (A := A) (J := J) i (cel g r 0) q (by omega) hib
        refine Good_no (code := 2) hI (E := "java/lang/IndexOutOfBoundsException") (A' := A) (J' := J) ?_ (frm.refl _ _ _) (fun τ => (hF2 _ _ _ _ _ _ (by decide)).trans (hF1 _ _ 2 rfl _ _ _)) (by omega) (v := 0) ?_
        · simp (disch := first | assumption | omega) only [fX6_lift, lkV hk, lkR0 hk, lkR1 hk, lkR2 hk, lkR3 hk, lkR4 hk, lkR5 hk, lkR6 hk, lkR7 hk, lkR8 hk, lkR9 hk, lkI hk, k_E, t_E, hcr, rwI1, rwS1, rwI2, rwS2, rwI4, rwS4, rwI5, rwS5, rwI7, rwS7, rwI8, rwS8, rwI9, rwS9, rwR0, rwR3, rwR6, rwA1, rwU1, rwA3, rwU3, rwV, rwJ, rwUJ, plI0, plS0, plI1, plS1, plI2, plS2, plI3, plS3, plI4, plS4, plI5, plS5, plI6, plS6, plI7, plS7, plR8, plR9, plR10, plA1, plU1, plA2, plU2, plA3, plU3, plV, stI2, stS2, stI3, stS3, stI4, stS4, stI5, stS5, stI6, stS6, stI7, stS7, stR0, stR1, stA2, stU2, stV, stRow, svI5, svS5, svI6, svS6, svI7, svS7, svR0, svR1, svR2, svR3, svR4, svA13, svU13, svA14, svU14, svA15, svU15, svA16, svU16, svV, svRow, svF, svUF, hiI1, hiS1, hiI2, hiS2, hiR0, hiV, hiRow, rdI2, rdS2, rdI3, rdS3, rdI4, rdS4, rdI5, rdS5, rdI6, rdS6, rdI7, rdS7, rdI8, rdS8, rdR0, rdR1, rdA1, rdU1, rdA2, rdU2, rdV, k_C, ↓reduceIte, tr_lt, fa_lt, tr_le, fa_le, tr_eq, fa_eq, and_true, true_and, and_false, false_and, il0, il1, il2, il3, il4, il5, il6, il7, il8, il9, il10, il11, il12, il15, il16, il20, il24, il31, il32, il44, il45, il48, il50, il57, il58, il59, il63, il91, il93, il97, il99, il100, il109, il113, il119, il120, il122, il200, il255, il480, il500, il501, il512, il999, il4112, il41120, il1000000, il1000003, ii_add, ii_sub, ii_mul, ii_neg, ii_le, ii_lt, ii_eq, ii_div, q_I, q_V, q_R, lt_q, rZ_q, md_M, md_16, md_4, md_8, md_10, if_true, if_false, if_pos, if_neg, x1, hci]
        · have hrf := e_ref1 (K := K) (M := up M 0 0 0) (g := g) h00 2 (by omega)
          simp (disch := first | assumption | omega) only [fX7_lift, nR1, nA1, nU1, nR2, nA2, nU2, nR3, nA3, nU3, nR4, nA4, nU4, nR5, nA5, nU5, nR6, nA6, nU6, nR7, nA7, nU7, nR8, nA8, nU8, nR9, nA9, nU9, nR10, nA10, nU10, nR11, nA11, nU11, nR12, nA12, nU12, nR13, nA13, nU13, nR14, nA14, nU14, nR15, nA15, nU15, nR16, nA16, nU16, nI0, nS0, nI1, nS1, nI2, nS2, nI3, nS3, nI4, nS4, nI5, nS5, nI6, nS6, nI7, nS7, nI8, nS8, nI9, nS9, nI15, nS15, nI18, nS18, nI19, nS19, nI20, nS20, nI21, nS21, nI22, nS22, nI23, nS23, nI24, nS24, nI25, nS25, nI26, nS26, nI27, nS27, nI32, nS32, nI36, nS36, nI37, nS37, nI40, nS40, nSZ1, nV, nC, ↓reduceIte, tr_lt, fa_lt, tr_le, fa_le, tr_eq, fa_eq, and_true, true_and, and_false, false_and, il0, il1, il2, il3, il4, il5, il6, il7, il8, il9, il10, il11, il12, il15, il16, il20, il24, il31, il32, il44, il45, il48, il50, il57, il58, il59, il63, il91, il93, il97, il99, il100, il109, il113, il119, il120, il122, il200, il255, il480, il500, il501, il512, il999, il4112, il41120, il1000000, il1000003, ii_add, ii_sub, ii_mul, ii_neg, ii_le, ii_lt, ii_eq, ii_div, q_I, q_V, q_R, lt_q, rZ_q, md_M, md_16, md_4, md_8, md_10, if_true, if_false, if_pos, if_neg, mg_3, mg_0, mg_1, mg_2, mg_k, mg_up3, mg_upk, hmr, e_of, hin]
          rw [fX7_lift_30, nV, il2, hrf, nC, q_I, if_neg (show ¬ ii 1 = (0 : Int32) by decide), up_up]
          rfl
    · refine Good_no (code := 2) hI (E := "java/lang/IndexOutOfBoundsException") (A' := A) (J' := J) ?_ (frm.refl _ _ _) (fun τ => (hF2 _ _ _ _ _ _ (by decide)).trans (hF1 _ _ 2 rfl _ _ _)) (by omega) (v := 0) ?_
      · have hcr := c_row0 (A := A) (J := J) hk h10 r (by rw [p1]; exact hr) (by rw [p1]; omega) (by omega)
        rw [fX6_lift, lkV hk, hcr, k_E]
      · have hmr := e_noRow0 (K := K) (M := M) (g := g) hl r (by rw [← e3]; exact hr) (by rw [← e3]; omega) (by omega)
        rw [fX7_lift, nV, hmr, nC, q_I, if_neg (show ¬ ii 1 = (0 : Int32) by decide)]
        rfl
  · obtain ⟨h10, h1⟩ := hI.nl hl
    refine Good_nl hI (v := 0) ?_ (hF_IS _ 1 rfl _ _) ?_
    · rw [fX6_lift, lkV hk, c_rowN hk h10, k_E]
    · rw [fX7_lift, nV, e_noRowN h1, nC, q_I, if_neg (show ¬ ii 1 = (0 : Int32) by decide)]
      rfl
end CHG1
