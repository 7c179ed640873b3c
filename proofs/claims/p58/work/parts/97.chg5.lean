/-! CHANGES: tighten, print, rest -/
section CHS5
variable {c : CC} {A : AI} {J : JI} {S : Nat} {len g : Int → Int} {f : Int} {K : Nat × Nat} {M : AI} {r B : Int} {pl sp tv cap : Nat}
theorem s_ti (h : SR A J S len g f) (hg : GR g) (r v : Int) (hr : 0 ≤ r ∧ r < 8) (hv : v = if cel g r 4 - 10 < 0 then 0 else cel g r 4 - 10) : SR (up (up (up A (rc S r) 7 (cel g r 2 + 1)) (rc S r) 8 (cel g r 3 + 1)) (rc S r) 9 v) J S len (gTi g r) f := by
  have hrr := h.2 r hr.1 hr.2
  have iR : inR (rc S r) (rc S r) := by unfold inR; omega
  have hne := (rc_in hr iR).1.2
  have ec := fun (r2 w : Int) (b : 0 ≤ w ∧ w < 512) => cel_gTi g r r2 w b
  have el : ∀ z, z < 16 → gTi g r z = g z := fun z a => by unfold gTi; rw [gpu_lo _ _ _ _ _ (by omega), gpu_lo _ _ _ _ _ (by omega), gpu_lo _ _ _ _ _ (by omega)]
  refine SR_upd h hg r hr ?_ ⟨?_, fun k a b => ?_⟩ (fun b z p q s _ => by rw [up_n _ _ _ _ _ _ (fun e => s (by rw [e.1]; exact iR)), up_n _ _ _ _ _ _ (fun e => s (by rw [e.1]; exact iR)), up_n _ _ _ _ _ _ (fun e => s (by rw [e.1]; exact iR))]) (fun _ _ _ _ => rfl) (fun r2 w a b p d e => by rw [ec r2 w ⟨d, e⟩, if_neg (by omega), if_neg (by omega), if_neg (by omega)])
  · refine RR.s234 hrr (hg r hr.1 hr.2) (fun w a b p q s => by rw [ec r w ⟨a, b⟩, if_neg (by omega), if_neg (by omega), if_neg (by omega)]) (fun z p q s => by rw [up_n _ _ _ _ _ _ (by omega), up_n _ _ _ _ _ _ (by omega), up_n _ _ _ _ _ _ (by omega)]) (fun b z p => ?_) ?_ ?_ ?_
    · rw [up_n _ _ _ _ _ _ (by omega), up_n _ _ _ _ _ _ (by omega), up_n _ _ _ _ _ _ (by omega)]
    · rw [ec r 2 (by omega), if_neg (by omega), if_neg (by omega), if_pos (by omega), up_n _ _ _ _ _ _ (by omega), up_n _ _ _ _ _ _ (by omega), up_s]
    · rw [ec r 3 (by omega), if_neg (by omega), if_pos (by omega), up_n _ _ _ _ _ _ (by omega), up_s]
    · rw [ec r 4 (by omega), if_pos (by omega), up_s, hv]
  · rw [el 0 (by omega), el 1 (by omega), el 2 (by omega), el 3 (by omega), el 4 (by omega)]
    simp (disch := first | assumption | omega) only [up_n]
    exact h.1.1
  · rw [el (6 + k) (by omega), up_n _ _ _ _ _ _ (by omega), up_n _ _ _ _ _ _ (by omega), up_n _ _ _ _ _ _ (by omega)]; exact h.1.2 k a b
def tiF (sp r : Int) : Nat → (Int → Int) → Int → Int
  | 0, g => g
  | n + 1, g => if cel g r 2 < sp ∧ 0 < cel g r 4 then tiF sp r n (gTi g r) else g
theorem tiF_y (sp r : Int) (j : Nat) (g : Int → Int) (y : cel g r 2 < sp ∧ 0 < cel g r 4) : tiF sp r (j + 1) g = tiF sp r j (gTi g r) := if_pos y
theorem tiF_n (sp r : Int) (j : Nat) (g : Int → Int) (y : ¬ (cel g r 2 < sp ∧ 0 < cel g r 4)) : tiF sp r (j + 1) g = g := if_neg y
theorem gTi_2 (g : Int → Int) (r : Int) : cel (gTi g r) r 2 = cel g r 2 + 1 := by rw [cel_gTi _ _ _ _ (by omega), if_neg (by omega), if_neg (by omega), if_pos (by omega)]
theorem gTi_5 (g : Int → Int) (r : Int) (hr : 0 ≤ r) : gTi g r 5 = g 5 := by unfold gTi; rw [gpu_lo _ _ _ _ _ (by omega), gpu_lo _ _ _ _ _ (by omega), gpu_lo _ _ _ _ _ (by omega)]
theorem GC_tiF (hM : SA M) (hr : 0 ≤ r ∧ r < M 0 3) (hB : 0 ≤ B) : ∀ (j : Nat) (g : Int → Int), GC M g B → cel g r 2 ≠ -1 → GC M (tiF (M 0 5) r j g) B ∧ tiF (M 0 5) r j g 5 = g 5
  | 0, _, h, _ => ⟨h, rfl⟩
  | j + 1, g, h, hq => by
    by_cases y : cel g r 2 < M 0 5 ∧ 0 < cel g r 4
    · rw [tiF_y _ _ _ _ y]
      have h2 := (h.1.1 r hr.1 (by have := hM.1.2.1; omega)).2.2.2.2.1
      obtain ⟨k1, k2⟩ := GC_tiF hM hr hB j (gTi g r) (h.ti hM hr hB hq y.1) (by rw [gTi_2]; omega)
      exact ⟨k1, k2.trans (gTi_5 g r hr.1)⟩
    · rw [tiF_n _ _ _ _ y]; exact ⟨h, rfl⟩
theorem c_tiLoop (hk : isLock c pl sp tv cap) (hNow : isState c 303) (hPl : isPlan c pl) (hM : SA M) (hr : 0 ≤ r ∧ r < M 0 3) (hB : 0 ≤ B) : ∀ (j F : Nat) (A : AI) (g : Int → Int), SR A J 303 (M 2) g f → GC M g B → A pl 3 = M 0 5 → cel g r 2 ≠ -1 → M 0 5 - cel g r 2 ≤ j → j < F →
    ∃ A', fX6_tighten_35 F 0 (rc 303 r) (CW c A J) = some (Sum.inl (some (Value.int (ii (cel (tiF (M 0 5) r j g) r 4)))), CW c A' J) ∧ SR A' J 303 (M 2) (tiF (M 0 5) r j g) f ∧ frm (inS 303) A A' J J
  | _, 0, _, _, _, _, _, _, _, h => by omega
  | 0, F + 1, A, g, hS, hG, hp, hq, hj, _ => by
    have h8 := hM.1.2.1
    have h5 := hM.1.2.2.2.1
    have hR := hNow.row r (by omega)
    have e7 := (hS.2 r hr.1 (by omega)).1.2.2.2.2.1
    have e9 := (hS.2 r hr.1 (by omega)).1.2.2.2.2.2.2
    have hb := (hG.1.1 r hr.1 (by omega)).2.2.2.2.1
    refine ⟨A, ?_, hS, frm.refl _ _ _⟩
    simp (disch := first | assumption | omega) only [fX6_tighten_35, lkV hk, lkR0 hk, lkR1 hk, lkR2 hk, lkR3 hk, lkR4 hk, lkR5 hk, lkR6 hk, lkR7 hk, lkR8 hk, lkR9 hk, lkI hk, k_E, t_E, rwI1, rwS1, rwI2, rwS2, rwI4, rwS4, rwI5, rwS5, rwI7, rwS7, rwI8, rwS8, rwI9, rwS9, rwR0, rwR3, rwR6, rwA1, rwU1, rwA3, rwU3, rwV, rwJ, rwUJ, plI0, plS0, plI1, plS1, plI2, plS2, plI3, plS3, plI4, plS4, plI5, plS5, plI6, plS6, plI7, plS7, plR8, plR9, plR10, plA1, plU1, plA2, plU2, plA3, plU3, plV, stI2, stS2, stI3, stS3, stI4, stS4, stI5, stS5, stI6, stS6, stI7, stS7, stR0, stR1, stA2, stU2, stV, stRow, svI5, svS5, svI6, svS6, svI7, svS7, svR0, svR1, svR2, svR3, svR4, svA13, svU13, svA14, svU14, svA15, svU15, svA16, svU16, svV, svRow, svF, svUF, hiI1, hiS1, hiI2, hiS2, hiR0, hiV, hiRow, rdI2, rdS2, rdI3, rdS3, rdI4, rdS4, rdI5, rdS5, rdI6, rdS6, rdI7, rdS7, rdI8, rdS8, rdR0, rdR1, rdA1, rdU1, rdA2, rdU2, rdV, k_C, ↓reduceIte, tr_lt, fa_lt, tr_le, fa_le, tr_eq, fa_eq, and_true, true_and, and_false, false_and, il0, il1, il2, il3, il4, il5, il6, il7, il8, il9, il10, il11, il12, il15, il16, il20, il24, il31, il32, il44, il45, il48, il50, il57, il58, il59, il63, il91, il93, il97, il99, il100, il109, il113, il119, il120, il122, il200, il255, il480, il500, il501, il512, il999, il4112, il41120, il1000000, il1000003, ii_add, ii_sub, ii_mul, ii_neg, ii_le, ii_lt, ii_eq, ii_div, q_I, q_V, q_R, lt_q, rZ_q, md_M, md_16, md_4, md_8, md_10, if_true, if_false, if_pos, if_neg, e7, hp, e9]
    rfl
  | j + 1, F + 1, A, g, hS, hG, hp, hq, hj, hF => by
    have h8 := hM.1.2.1
    have h5 := hM.1.2.2.2.1
    have hr8 : 0 ≤ r ∧ r < 8 := by omega
    have hR := hNow.row r hr8
    have e7 := (hS.2 r hr.1 (by omega)).1.2.2.2.2.1
    have e8 := (hS.2 r hr.1 (by omega)).1.2.2.2.2.2.1
    have e9 := (hS.2 r hr.1 (by omega)).1.2.2.2.2.2.2
    have hb := (hG.1.1 r hr.1 (by omega)).2.2.2.2
    by_cases y : cel g r 2 < M 0 5 ∧ 0 < cel g r 4
    · rw [tiF_y _ _ _ _ y]
      have iR := (rc_in (S := 303) hr8 (b := rc 303 r) (by unfold inR; omega)).1.1
      have hap := hk.2.2.2.1.1
      have i7 : rc 303 r ≠ pl := by unfold rc; omega
      have x8 : up A (rc 303 r) 7 (cel g r 2 + 1) (rc 303 r) 8 = cel g r 3 := by rw [up_n _ _ _ _ _ _ (by omega)]; exact e8
      have x9 : up (up A (rc 303 r) 7 (cel g r 2 + 1)) (rc 303 r) 8 (cel g r 3 + 1) (rc 303 r) 9 = cel g r 4 := by rw [up_n _ _ _ _ _ _ (by omega), up_n _ _ _ _ _ _ (by omega)]; exact e9
      by_cases w : 0 < cel g r 4 - 10
      · obtain ⟨A', x1, x2, x3⟩ := c_tiLoop hk hNow hPl hM hr hB j F (up (up (up A (rc 303 r) 7 (cel g r 2 + 1)) (rc 303 r) 8 (cel g r 3 + 1)) (rc 303 r) 9 (cel g r 4 - 10)) (gTi g r) (s_ti hS hG.1.1 r _ hr8 (by rw [if_neg (by omega)])) (hG.ti hM hr hB hq y.1) (by rw [up_n _ _ _ _ _ _ (by omega), up_n _ _ _ _ _ _ (by omega), up_n _ _ _ _ _ _ (by omega)]; exact hp) (by rw [gTi_2]; omega) (by rw [gTi_2]; omega) (by omega)
        refine ⟨A', ?_, x2, (frm_up (frm_up (frm_up (frm.refl _ _ _) _ _ _ iR) _ _ _ iR) _ _ _ iR).trans x3⟩
        rw [← x1]
        simp (disch := first | assumption | omega) only [fX6_tighten_35, lkV hk, lkR0 hk, lkR1 hk, lkR2 hk, lkR3 hk, lkR4 hk, lkR5 hk, lkR6 hk, lkR7 hk, lkR8 hk, lkR9 hk, lkI hk, k_E, t_E, rwI1, rwS1, rwI2, rwS2, rwI4, rwS4, rwI5, rwS5, rwI7, rwS7, rwI8, rwS8, rwI9, rwS9, rwR0, rwR3, rwR6, rwA1, rwU1, rwA3, rwU3, rwV, rwJ, rwUJ, plI0, plS0, plI1, plS1, plI2, plS2, plI3, plS3, plI4, plS4, plI5, plS5, plI6, plS6, plI7, plS7, plR8, plR9, plR10, plA1, plU1, plA2, plU2, plA3, plU3, plV, stI2, stS2, stI3, stS3, stI4, stS4, stI5, stS5, stI6, stS6, stI7, stS7, stR0, stR1, stA2, stU2, stV, stRow, svI5, svS5, svI6, svS6, svI7, svS7, svR0, svR1, svR2, svR3, svR4, svA13, svU13, svA14, svU14, svA15, svU15, svA16, svU16, svV, svRow, svF, svUF, hiI1, hiS1, hiI2, hiS2, hiR0, hiV, hiRow, rdI2, rdS2, rdI3, rdS3, rdI4, rdS4, rdI5, rdS5, rdI6, rdS6, rdI7, rdS7, rdI8, rdS8, rdR0, rdR1, rdA1, rdU1, rdA2, rdU2, rdV, k_C, ↓reduceIte, tr_lt, fa_lt, tr_le, fa_le, tr_eq, fa_eq, and_true, true_and, and_false, false_and, il0, il1, il2, il3, il4, il5, il6, il7, il8, il9, il10, il11, il12, il15, il16, il20, il24, il31, il32, il44, il45, il48, il50, il57, il58, il59, il63, il91, il93, il97, il99, il100, il109, il113, il119, il120, il122, il200, il255, il480, il500, il501, il512, il999, il4112, il41120, il1000000, il1000003, ii_add, ii_sub, ii_mul, ii_neg, ii_le, ii_lt, ii_eq, ii_div, q_I, q_V, q_R, lt_q, rZ_q, md_M, md_16, md_4, md_8, md_10, if_true, if_false, if_pos, if_neg, e7, hp, e9, x8, x9]
      · obtain ⟨A', x1, x2, x3⟩ := c_tiLoop hk hNow hPl hM hr hB j F (up (up (up A (rc 303 r) 7 (cel g r 2 + 1)) (rc 303 r) 8 (cel g r 3 + 1)) (rc 303 r) 9 0) (gTi g r) (s_ti hS hG.1.1 r _ hr8 (by split <;> omega)) (hG.ti hM hr hB hq y.1) (by rw [up_n _ _ _ _ _ _ (by omega), up_n _ _ _ _ _ _ (by omega), up_n _ _ _ _ _ _ (by omega)]; exact hp) (by rw [gTi_2]; omega) (by rw [gTi_2]; omega) (by omega)
        refine ⟨A', ?_, x2, (frm_up (frm_up (frm_up (frm.refl _ _ _) _ _ _ iR) _ _ _ iR) _ _ _ iR).trans x3⟩
        rw [← x1]
        simp (disch := first | assumption | omega) only [fX6_tighten_35, lkV hk, lkR0 hk, lkR1 hk, lkR2 hk, lkR3 hk, lkR4 hk, lkR5 hk, lkR6 hk, lkR7 hk, lkR8 hk, lkR9 hk, lkI hk, k_E, t_E, rwI1, rwS1, rwI2, rwS2, rwI4, rwS4, rwI5, rwS5, rwI7, rwS7, rwI8, rwS8, rwI9, rwS9, rwR0, rwR3, rwR6, rwA1, rwU1, rwA3, rwU3, rwV, rwJ, rwUJ, plI0, plS0, plI1, plS1, plI2, plS2, plI3, plS3, plI4, plS4, plI5, plS5, plI6, plS6, plI7, plS7, plR8, plR9, plR10, plA1, plU1, plA2, plU2, plA3, plU3, plV, stI2, stS2, stI3, stS3, stI4, stS4, stI5, stS5, stI6, stS6, stI7, stS7, stR0, stR1, stA2, stU2, stV, stRow, svI5, svS5, svI6, svS6, svI7, svS7, svR0, svR1, svR2, svR3, svR4, svA13, svU13, svA14, svU14, svA15, svU15, svA16, svU16, svV, svRow, svF, svUF, hiI1, hiS1, hiI2, hiS2, hiR0, hiV, hiRow, rdI2, rdS2, rdI3, rdS3, rdI4, rdS4, rdI5, rdS5, rdI6, rdS6, rdI7, rdS7, rdI8, rdS8, rdR0, rdR1, rdA1, rdU1, rdA2, rdU2, rdV, k_C, ↓reduceIte, tr_lt, fa_lt, tr_le, fa_le, tr_eq, fa_eq, and_true, true_and, and_false, false_and, il0, il1, il2, il3, il4, il5, il6, il7, il8, il9, il10, il11, il12, il15, il16, il20, il24, il31, il32, il44, il45, il48, il50, il57, il58, il59, il63, il91, il93, il97, il99, il100, il109, il113, il119, il120, il122, il200, il255, il480, il500, il501, il512, il999, il4112, il41120, il1000000, il1000003, ii_add, ii_sub, ii_mul, ii_neg, ii_le, ii_lt, ii_eq, ii_div, q_I, q_V, q_R, lt_q, rZ_q, md_M, md_16, md_4, md_8, md_10, if_true, if_false, if_pos, if_neg, e7, hp, e9, x8, x9]
    · rw [tiF_n _ _ _ _ y]
      refine ⟨A, ?_, hS, frm.refl _ _ _⟩
      by_cases w : cel g r 2 < M 0 5
      · have w2 : cel g r 4 ≤ 0 := by omega
        simp (disch := first | assumption | omega) only [fX6_tighten_35, lkV hk, lkR0 hk, lkR1 hk, lkR2 hk, lkR3 hk, lkR4 hk, lkR5 hk, lkR6 hk, lkR7 hk, lkR8 hk, lkR9 hk, lkI hk, k_E, t_E, rwI1, rwS1, rwI2, rwS2, rwI4, rwS4, rwI5, rwS5, rwI7, rwS7, rwI8, rwS8, rwI9, rwS9, rwR0, rwR3, rwR6, rwA1, rwU1, rwA3, rwU3, rwV, rwJ, rwUJ, plI0, plS0, plI1, plS1, plI2, plS2, plI3, plS3, plI4, plS4, plI5, plS5, plI6, plS6, plI7, plS7, plR8, plR9, plR10, plA1, plU1, plA2, plU2, plA3, plU3, plV, stI2, stS2, stI3, stS3, stI4, stS4, stI5, stS5, stI6, stS6, stI7, stS7, stR0, stR1, stA2, stU2, stV, stRow, svI5, svS5, svI6, svS6, svI7, svS7, svR0, svR1, svR2, svR3, svR4, svA13, svU13, svA14, svU14, svA15, svU15, svA16, svU16, svV, svRow, svF, svUF, hiI1, hiS1, hiI2, hiS2, hiR0, hiV, hiRow, rdI2, rdS2, rdI3, rdS3, rdI4, rdS4, rdI5, rdS5, rdI6, rdS6, rdI7, rdS7, rdI8, rdS8, rdR0, rdR1, rdA1, rdU1, rdA2, rdU2, rdV, k_C, ↓reduceIte, tr_lt, fa_lt, tr_le, fa_le, tr_eq, fa_eq, and_true, true_and, and_false, false_and, il0, il1, il2, il3, il4, il5, il6, il7, il8, il9, il10, il11, il12, il15, il16, il20, il24, il31, il32, il44, il45, il48, il50, il57, il58, il59, il63, il91, il93, il97, il99, il100, il109, il113, il119, il120, il122, il200, il255, il480, il500, il501, il512, il999, il4112, il41120, il1000000, il1000003, ii_add, ii_sub, ii_mul, ii_neg, ii_le, ii_lt, ii_eq, ii_div, q_I, q_V, q_R, lt_q, rZ_q, md_M, md_16, md_4, md_8, md_10, if_true, if_false, if_pos, if_neg, e7, hp, e9]
      · simp (disch := first | assumption | omega) only [fX6_tighten_35, lkV hk, lkR0 hk, lkR1 hk, lkR2 hk, lkR3 hk, lkR4 hk, lkR5 hk, lkR6 hk, lkR7 hk, lkR8 hk, lkR9 hk, lkI hk, k_E, t_E, rwI1, rwS1, rwI2, rwS2, rwI4, rwS4, rwI5, rwS5, rwI7, rwS7, rwI8, rwS8, rwI9, rwS9, rwR0, rwR3, rwR6, rwA1, rwU1, rwA3, rwU3, rwV, rwJ, rwUJ, plI0, plS0, plI1, plS1, plI2, plS2, plI3, plS3, plI4, plS4, plI5, plS5, plI6, plS6, plI7, plS7, plR8, plR9, plR10, plA1, plU1, plA2, plU2, plA3, plU3, plV, stI2, stS2, stI3, stS3, stI4, stS4, stI5, stS5, stI6, stS6, stI7, stS7, stR0, stR1, stA2, stU2, stV, stRow, svI5, svS5, svI6, svS6, svI7, svS7, svR0, svR1, svR2, svR3, svR4, svA13, svU13, svA14, svU14, svA15, svU15, svA16, svU16, svV, svRow, svF, svUF, hiI1, hiS1, hiI2, hiS2, hiR0, hiV, hiRow, rdI2, rdS2, rdI3, rdS3, rdI4, rdS4, rdI5, rdS5, rdI6, rdS6, rdI7, rdS7, rdI8, rdS8, rdR0, rdR1, rdA1, rdU1, rdA2, rdU2, rdV, k_C, ↓reduceIte, tr_lt, fa_lt, tr_le, fa_le, tr_eq, fa_eq, and_true, true_and, and_false, false_and, il0, il1, il2, il3, il4, il5, il6, il7, il8, il9, il10, il11, il12, il15, il16, il20, il24, il31, il32, il44, il45, il48, il50, il57, il58, il59, il63, il91, il93, il97, il99, il100, il109, il113, il119, il120, il122, il200, il255, il480, il500, il501, il512, il999, il4112, il41120, il1000000, il1000003, ii_add, ii_sub, ii_mul, ii_neg, ii_le, ii_lt, ii_eq, ii_div, q_I, q_V, q_R, lt_q, rZ_q, md_M, md_16, md_4, md_8, md_10, if_true, if_false, if_pos, if_neg, e7, hp, e9]
theorem GC_prN (hM : SA M) (h : GC M g B) (hB : 0 ≤ B) : ∀ n : Nat, B + 54 * n ≤ 500000000 → GC M (prN M g n) (B + 54 * n)
  | 0, _ => by rw [show B + 54 * ((0 : Nat) : Int) = B by omega]; exact h
  | n + 1, hn => by
    have ih := GC_prN hM h hB n (by omega)
    rw [show B + 54 * ((n + 1 : Nat) : Int) = B + 54 * n + 54 by omega]
    exact ih.pr hM (by omega)
theorem GC_dyN (hM : SA M) (h : GC M g B) (hB : 0 ≤ B) : ∀ n : Nat, B + 4500 * n ≤ 500000000 → GC M (dyN M g n) (B + 4500 * n)
  | 0, _ => by rw [show B + 4500 * ((0 : Nat) : Int) = B by omega]; exact h
  | n + 1, hn => by
    have ih := GC_dyN hM h hB n (by omega)
    rw [show B + 4500 * ((n + 1 : Nat) : Int) = B + 4500 * n + 4500 by omega]
    exact ih.da hM (by omega)
def popI (s : Int) : Int := sm (fun k => s / 2 ^ k.toNat % 2) 8
theorem bit_sh (s i : Int) (h : (0 ≤ s ∧ s < 256) ∧ 0 ≤ i ∧ i < 8) : (ii s >>> (ii i &&& ii 31)) &&& ii 1 = ii (s / 2 ^ i.toNat % 2) := by
  have key : ∀ i : Fin 8, ∀ s : Fin 256, (ii ((s : Nat) : Int) >>> (ii ((i : Nat) : Int) &&& ii 31)) &&& ii 1 = ii (((s : Nat) : Int) / 2 ^ (i : Nat) % 2) := by decide +kernel
  have h3 := key ⟨i.toNat, by omega⟩ ⟨s.toNat, by omega⟩
  dsimp only at h3
  rw [show ((s.toNat : Nat) : Int) = s by omega, show ((i.toNat : Nat) : Int) = i by omega] at h3
  exact h3
theorem e_ones (s : Int) (h : 0 ≤ s ∧ s < 256) (W : AS) : fX7_ones (ii s) W = some (Sum.inl (some (Value.int (ii (popI s)))), W) := by
  simp only [fX7_ones, il0]
  refine lp (fun n i (t : Int) => fX7_ones_4 n (ii s) (ii t) (ii i) W) (fun x => x = _) (fun i t => 0 ≤ i ∧ t = sm (fun k => s / 2 ^ k.toNat % 2) i) 8 ?_ ?_ FU 0 0 (by omega) ⟨by omega, rfl⟩ (by have := FU_e; omega)
  · rintro n i t hi ⟨hI, ht⟩
    have hb := bit_sh s i ⟨h, hI, hi⟩
    refine Or.inr ⟨t + s / 2 ^ i.toNat % 2, ⟨by omega, ?_⟩, ?_⟩
    · rw [sm_s _ _ hI, ht]
    · simp (disch := first | assumption | omega) only [fX7_ones_4, ↓reduceIte, tr_lt, fa_lt, tr_le, fa_le, tr_eq, fa_eq, and_true, true_and, and_false, false_and, il0, il1, il2, il3, il4, il5, il6, il7, il8, il9, il10, il11, il12, il15, il16, il20, il24, il31, il32, il44, il45, il48, il50, il57, il58, il59, il63, il91, il93, il97, il99, il100, il109, il113, il119, il120, il122, il200, il255, il480, il500, il501, il512, il999, il4112, il41120, il1000000, il1000003, ii_add, ii_sub, ii_mul, ii_neg, ii_le, ii_lt, ii_eq, ii_div, q_I, q_V, q_R, lt_q, rZ_q, md_M, md_16, md_4, md_8, md_10, if_true, if_false, if_pos, if_neg, hb]
  · rintro n t ⟨hI, ht⟩
    simp (disch := first | assumption | omega) only [fX7_ones_4, ↓reduceIte, tr_lt, fa_lt, tr_le, fa_le, tr_eq, fa_eq, and_true, true_and, and_false, false_and, il0, il1, il2, il3, il4, il5, il6, il7, il8, il9, il10, il11, il12, il15, il16, il20, il24, il31, il32, il44, il45, il48, il50, il57, il58, il59, il63, il91, il93, il97, il99, il100, il109, il113, il119, il120, il122, il200, il255, il480, il500, il501, il512, il999, il4112, il41120, il1000000, il1000003, ii_add, ii_sub, ii_mul, ii_neg, ii_le, ii_lt, ii_eq, ii_div, q_I, q_V, q_R, lt_q, rZ_q, md_M, md_16, md_4, md_8, md_10, if_true, if_false, if_pos, if_neg]
    rw [ht]
    rfl
theorem pop_add (s : Int) (n : Nat) (h : (0 ≤ s ∧ s < 2 ^ n) ∧ n < 8) : popI (s + 2 ^ n) = popI s + 1 := by
  have key : ∀ n : Fin 8, ∀ s : Fin 128, (s : Nat) < 2 ^ (n : Nat) → popI (((s : Nat) : Int) + 2 ^ (n : Nat)) = popI ((s : Nat) : Int) + 1 := by decide +kernel
  have hp : ∀ n : Fin 8, 2 ^ (n : Nat) ≤ 128 := by decide
  have h2 := hp ⟨n, h.2⟩
  dsimp only at h2
  have e1 : (2 : Int) ^ n = ((2 ^ n : Nat) : Int) := by rw [Int.natCast_pow]; rfl
  have h1 := h.1
  rw [e1] at h1
  have h3 := key ⟨n, h.2⟩ ⟨s.toNat, by omega⟩ (by show s.toNat < 2 ^ n; omega)
  dsimp only at h3
  rw [show ((s.toNat : Nat) : Int) = s by omega] at h3
  exact h3
theorem pop_lk (hg : GR g) : ∀ n : Nat, n ≤ 8 → popI (lkN M g n).1 = (lkN M g n).2 5 - g 5
  | 0, _ => by show popI 0 = g 5 - g 5; rw [show popI 0 = 0 by decide +kernel]; omega
  | n + 1, h => by
    have ih := pop_lk hg n (by omega)
    rw [lkN_s]
    by_cases y : 0 < cel (lkN M g n).2 n 0 ∧ M 0 8 < cel (lkN M g n).2 n 4 + 10 * gapM M (lkN M g n).2 n
    · rw [if_pos y]
      dsimp only
      have hr := (lkN_GR (A := M) hg n n (by omega) (by omega)).2.1
      rw [pop_add _ _ ⟨lkN_b M g n, by omega⟩, ih, lo_gFall _ _ _ (by omega) hr.2, if_neg (by omega), if_neg (by omega), if_pos rfl]
      omega
    · rw [if_neg y]; exact ih
theorem pop_da (hM : SA M) (hG : GC M g B) (hB : 0 ≤ B ∧ B ≤ 500000000) : (0 ≤ (gDa M g).1 ∧ (gDa M g).1 < 256) ∧ popI (gDa M g).1 = (gDa M g).2 5 - g 5 := by
  have h3 := hM.1.2.1
  have hb := lkN_b M (gu (daN M g (M 0 3).toNat) 3 (g 3 + 1)) (M 0 3).toNat
  have hpow : ∀ n : Nat, n ≤ 8 → (2 : Int) ^ n ≤ 256 := by decide
  have h8 := hpow (M 0 3).toNat (by omega)
  have hs : GS g 500000000 := fun r a b => by have := hG.1.2.2.2.2 r a b; omega
  have hp := pop_lk (M := M) (g := gu (daN M g (M 0 3).toNat) 3 (g 3 + 1)) (fun r a b => (GR.da hM hG.1.1 hs _ r a b).gu a (by omega)) (M 0 3).toNat (by omega)
  rw [gu_n _ _ _ _ (by omega), lo_daN _ _ _ (by omega)] at hp
  exact ⟨⟨hb.1, by unfold gDa; omega⟩, hp⟩
theorem c_restLoop (hk : isLock c pl sp tv cap) (hNow : isState c 303) (hPl : isPlan c pl) (h : SR A J 303 (M 2) g (g 5)) (hM : SA M) (hP : PR A pl M) (hG : GC M g B) (hB : 0 ≤ B ∧ B + 4500 * 100 ≤ 500000000) (L : Int) (hL : 0 ≤ L ∧ L ≤ 100) :
    ∃ A', fX6_rest_23 FU 0 (ii L) (ii 0) (ii 0) (CW c A J) = some (Sum.inl (some (Value.int (ii (dyN M g L.toNat 5 - g 5)))), CW c A' J) ∧ SR A' J 303 (M 2) (dyN M g L.toNat) (dyN M g L.toNat 5) ∧ frm (inS 303) A A' J J := by
  have hap := hk.2.2.2.1.1
  refine lp (fun m i (s : Int × AI) => fX6_rest_23 m 0 (ii L) (ii s.1) (ii i) (CW c s.2 J)) (fun x => ∃ A', x = some (Sum.inl (some (Value.int (ii (dyN M g L.toNat 5 - g 5)))), CW c A' J) ∧ SR A' J 303 (M 2) (dyN M g L.toNat) (dyN M g L.toNat 5) ∧ frm (inS 303) A A' J J)
    (fun i s => (0 ≤ i ∧ s.1 = dyN M g i.toNat 5 - g 5) ∧ SR s.2 J 303 (M 2) (dyN M g i.toNat) (dyN M g i.toNat 5) ∧ frm (inS 303) A s.2 J J) L ?_ ?_ FU 0 (0, A) (by omega) ⟨⟨by omega, by show 0 = g 5 - g 5; omega⟩, h, frm.refl _ _ _⟩ (by have := FU_e; omega)
  · rintro m i ⟨t, s⟩ hi ⟨⟨hJ, ht⟩, hs, hf⟩
    dsimp only at hs ht hf ⊢
    have hg := GC_dyN hM hG hB.1 i.toNat (by omega)
    have hgs : GS (dyN M g i.toNat) 500000000 := fun r a b => by have := hg.1.2.2.2.2 r a b; omega
    obtain ⟨A2, e2, s2, f2⟩ := s_passDay (c := c) hNow hPl (by omega) hs hg.1.1 hg.1.2.1 hgs hM (PR_S hP (by omega) hf) hg.1.2.2.1 hg.1.2.2.2.1
    have e : dyN M g (i + 1).toNat = (gDa M (dyN M g i.toNat)).2 := by rw [show (i + 1).toNat = i.toNat + 1 by omega]; rfl
    refine Or.inr ⟨(t + ((gDa M (dyN M g i.toNat)).2 5 - dyN M g i.toNat 5), A2), ⟨⟨by omega, by rw [e]; dsimp only; omega⟩, by rw [e]; exact s2, hf.trans f2⟩, ?_⟩
    simp (disch := first | assumption | omega) only [fX6_rest_23, lkV hk, lkR0 hk, lkR1 hk, lkR2 hk, lkR3 hk, lkR4 hk, lkR5 hk, lkR6 hk, lkR7 hk, lkR8 hk, lkR9 hk, lkI hk, k_E, t_E, rwI1, rwS1, rwI2, rwS2, rwI4, rwS4, rwI5, rwS5, rwI7, rwS7, rwI8, rwS8, rwI9, rwS9, rwR0, rwR3, rwR6, rwA1, rwU1, rwA3, rwU3, rwV, rwJ, rwUJ, plI0, plS0, plI1, plS1, plI2, plS2, plI3, plS3, plI4, plS4, plI5, plS5, plI6, plS6, plI7, plS7, plR8, plR9, plR10, plA1, plU1, plA2, plU2, plA3, plU3, plV, stI2, stS2, stI3, stS3, stI4, stS4, stI5, stS5, stI6, stS6, stI7, stS7, stR0, stR1, stA2, stU2, stV, stRow, svI5, svS5, svI6, svS6, svI7, svS7, svR0, svR1, svR2, svR3, svR4, svA13, svU13, svA14, svU14, svA15, svU15, svA16, svU16, svV, svRow, svF, svUF, hiI1, hiS1, hiI2, hiS2, hiR0, hiV, hiRow, rdI2, rdS2, rdI3, rdS3, rdI4, rdS4, rdI5, rdS5, rdI6, rdS6, rdI7, rdS7, rdI8, rdS8, rdR0, rdR1, rdA1, rdU1, rdA2, rdU2, rdV, k_C, ↓reduceIte, tr_lt, fa_lt, tr_le, fa_le, tr_eq, fa_eq, and_true, true_and, and_false, false_and, il0, il1, il2, il3, il4, il5, il6, il7, il8, il9, il10, il11, il12, il15, il16, il20, il24, il31, il32, il44, il45, il48, il50, il57, il58, il59, il63, il91, il93, il97, il99, il100, il109, il113, il119, il120, il122, il200, il255, il480, il500, il501, il512, il999, il4112, il41120, il1000000, il1000003, ii_add, ii_sub, ii_mul, ii_neg, ii_le, ii_lt, ii_eq, ii_div, q_I, q_V, q_R, lt_q, rZ_q, md_M, md_16, md_4, md_8, md_10, if_true, if_false, if_pos, if_neg, e2]
  · rintro m ⟨t, s⟩ ⟨⟨hJ, ht⟩, hs, hf⟩
    dsimp only at hs ht hf ⊢
    refine ⟨s, ?_, hs, hf⟩
    rw [← ht]
    simp (disch := first | assumption | omega) only [fX6_rest_23, ↓reduceIte, tr_lt, fa_lt, tr_le, fa_le, tr_eq, fa_eq, and_true, true_and, and_false, false_and, il0, il1, il2, il3, il4, il5, il6, il7, il8, il9, il10, il11, il12, il15, il16, il20, il24, il31, il32, il44, il45, il48, il50, il57, il58, il59, il63, il91, il93, il97, il99, il100, il109, il113, il119, il120, il122, il200, il255, il480, il500, il501, il512, il999, il4112, il41120, il1000000, il1000003, ii_add, ii_sub, ii_mul, ii_neg, ii_le, ii_lt, ii_eq, ii_div, q_I, q_V, q_R, lt_q, rZ_q, md_M, md_16, md_4, md_8, md_10, if_true, if_false, if_pos, if_neg]
end CHS5
section CHG5
variable {C0 N0 n : Nat} {K : Nat × Nat} {c : CC} {A : AI} {J : JI} {M : AI} {g g' o : Int → Int} {pl sp tv cap : Nat} {f B : Int}
theorem c_turns1 (L : Int) (hL : 1 ≤ L ∧ L ≤ 100) : fX6_needTurns (ii L) (CW c A J) = some (Sum.inl none, CW c A J) := by
  simp (disch := first | assumption | omega) only [fX6_needTurns, ↓reduceIte, tr_lt, fa_lt, tr_le, fa_le, tr_eq, fa_eq, and_true, true_and, and_false, false_and, il0, il1, il2, il3, il4, il5, il6, il7, il8, il9, il10, il11, il12, il15, il16, il20, il24, il31, il32, il44, il45, il48, il50, il57, il58, il59, il63, il91, il93, il97, il99, il100, il109, il113, il119, il120, il122, il200, il255, il480, il500, il501, il512, il999, il4112, il41120, il1000000, il1000003, ii_add, ii_sub, ii_mul, ii_neg, ii_le, ii_lt, ii_eq, ii_div, q_I, q_V, q_R, lt_q, rZ_q, md_M, md_16, md_4, md_8, md_10, if_true, if_false, if_pos, if_neg]
theorem c_turns0 (L : Int) (hL : ¬ (1 ≤ L ∧ L ≤ 100)) (hb : -2147483648 ≤ L ∧ L < 2147483648) : fX6_needTurns (ii L) (CW c A J) = some (.inr "java/lang/IllegalArgumentException", CW (cU c) A J) := by
  by_cases q : L < 1
  · rw [fX6_needTurns, il1, if_pos (by rw [ii_lt _ _ (by omega)]; exact q), t_E]
  · rw [fX6_needTurns, il1, il100, if_neg (by rw [ii_lt _ _ (by omega)]; exact q), if_neg (by rw [ii_le _ _ (by omega)]; omega), t_E]
end CHG5
