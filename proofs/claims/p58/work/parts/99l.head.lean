/-! THE READER: the start, the head -/
def zN (g : Int → Int) (i : Int) : Int → Int := fun z => if 0 ≤ z ∧ z < i then 0 else g z
def zM (g : Int → Int) (i : Int) : Int → Int := fun z => if (16 ≤ z ∧ z < 16 + 512 * i) ∧ (z - 16) % 512 = 2 then -1 else g z
def gz (g : Int → Int) : Int → Int := zM (zN g 4112) 8
theorem zN_s (g : Int → Int) (i : Int) (h : 0 ≤ i) : gu (zN g i) i 0 = zN g (i + 1) := by
  funext z
  unfold gu zN
  by_cases q : z = i
  · rw [if_pos q, if_pos (by omega)]
  · rw [if_neg q]
    by_cases q2 : 0 ≤ z ∧ z < i
    · rw [if_pos q2, if_pos (by omega)]
    · rw [if_neg q2, if_neg (by omega)]
theorem zM_s (g : Int → Int) (i : Int) (h : 0 ≤ i) : gpu (zM g i) i 2 (-1) = zM g (i + 1) := by
  funext z
  unfold gpu gu zM
  by_cases q : z = 16 + 512 * i + 2
  · rw [if_pos q, if_pos (by omega)]
  · rw [if_neg q]
    by_cases q2 : (16 ≤ z ∧ z < 16 + 512 * i) ∧ (z - 16) % 512 = 2
    · rw [if_pos q2, if_pos (by omega)]
    · rw [if_neg q2, if_neg (by omega)]
theorem cel_gz (g : Int → Int) (r w : Int) (h : (0 ≤ r ∧ r < 8) ∧ 0 ≤ w ∧ w < 512) : cel (gz g) r w = if w = 2 then -1 else 0 := by
  unfold cel gz zM zN
  by_cases q : w = 2
  · rw [if_pos q, if_pos (by omega)]
  · rw [if_neg q, if_neg (by omega), if_pos (by omega)]
theorem lo_gz (g : Int → Int) (z : Int) (h : 0 ≤ z ∧ z < 16) : gz g z = 0 := by
  unfold gz zM zN
  rw [if_neg (by omega), if_pos (by omega)]
section HDM
variable {K : Nat × Nat} {M : AI} {g : Int → Int} {n : Int}
theorem m_clears (K : Nat × Nat) (M : AI) (g : Int → Int) : fX7_clears 0 (NW K (mg M g)) = some (Sum.inl none, NW K (mg (up (up M 0 9 0) 0 32 0) (gz g))) := by
  have h2 : ∀ N : AI, fX7_clears_32 0 (NW K (mg N (zN g 4112))) = some (Sum.inl none, NW K (mg N (gz g))) := fun N => by
    rw [fX7_clears_32, il0]
    refine lp (fun m i (s : Int → Int) => fX7_clears_34 m 0 (ii i) (NW K (mg N s))) (fun x => x = some (Sum.inl none, NW K (mg N (gz g)))) (fun i s => 0 ≤ i ∧ s = zM (zN g 4112) i) 8 ?_ ?_ FU 0 (zN g 4112) (by omega) ⟨by omega, ?_⟩ (by have := FU_e; omega)
    · rintro m i s hi ⟨hI, rfl⟩
      refine Or.inr ⟨zM (zN g 4112) (i + 1), ⟨by omega, rfl⟩, ?_⟩
      rw [← zM_s _ i hI]
      simp (disch := first | assumption | omega) only [fX7_clears_34, nR1, nA1, nU1, nR2, nA2, nU2, nR3, nA3, nU3, nR4, nA4, nU4, nR5, nA5, nU5, nR6, nA6, nU6, nR7, nA7, nU7, nR8, nA8, nU8, nR9, nA9, nU9, nR10, nA10, nU10, nR11, nA11, nU11, nR12, nA12, nU12, nR13, nA13, nU13, nR14, nA14, nU14, nR15, nA15, nU15, nR16, nA16, nU16, nI0, nS0, nI1, nS1, nI2, nS2, nI3, nS3, nI4, nS4, nI5, nS5, nI6, nS6, nI7, nS7, nI8, nS8, nI9, nS9, nI15, nS15, nI18, nS18, nI19, nS19, nI20, nS20, nI21, nS21, nI22, nS22, nI23, nS23, nI24, nS24, nI25, nS25, nI26, nS26, nI27, nS27, nI32, nS32, nI36, nS36, nI37, nS37, nI40, nS40, nSZ1, nV, nC, ↓reduceIte, tr_lt, fa_lt, tr_le, fa_le, tr_eq, fa_eq, and_true, true_and, and_false, false_and, il0, il1, il2, il3, il4, il5, il6, il7, il8, il9, il10, il11, il12, il15, il16, il20, il24, il31, il32, il44, il45, il48, il50, il57, il58, il59, il63, il91, il93, il97, il99, il100, il109, il113, il119, il120, il122, il200, il255, il480, il500, il501, il512, il999, il4112, il41120, il1000000, il1000003, ii_add, ii_sub, ii_mul, ii_neg, ii_le, ii_lt, ii_eq, ii_div, q_I, q_V, q_R, lt_q, rZ_q, md_M, md_16, md_4, md_8, md_10, if_true, if_false, if_pos, if_neg, mg_3, mg_0, mg_1, mg_2, mg_k, mg_up3, mg_upk, e_puts]
    · rintro m s ⟨hI, rfl⟩
      simp (disch := first | assumption | omega) only [fX7_clears_34, nR1, nA1, nU1, nR2, nA2, nU2, nR3, nA3, nU3, nR4, nA4, nU4, nR5, nA5, nU5, nR6, nA6, nU6, nR7, nA7, nU7, nR8, nA8, nU8, nR9, nA9, nU9, nR10, nA10, nU10, nR11, nA11, nU11, nR12, nA12, nU12, nR13, nA13, nU13, nR14, nA14, nU14, nR15, nA15, nU15, nR16, nA16, nU16, nI0, nS0, nI1, nS1, nI2, nS2, nI3, nS3, nI4, nS4, nI5, nS5, nI6, nS6, nI7, nS7, nI8, nS8, nI9, nS9, nI15, nS15, nI18, nS18, nI19, nS19, nI20, nS20, nI21, nS21, nI22, nS22, nI23, nS23, nI24, nS24, nI25, nS25, nI26, nS26, nI27, nS27, nI32, nS32, nI36, nS36, nI37, nS37, nI40, nS40, nSZ1, nV, nC, ↓reduceIte, tr_lt, fa_lt, tr_le, fa_le, tr_eq, fa_eq, and_true, true_and, and_false, false_and, il0, il1, il2, il3, il4, il5, il6, il7, il8, il9, il10, il11, il12, il15, il16, il20, il24, il31, il32, il44, il45, il48, il50, il57, il58, il59, il63, il91, il93, il97, il99, il100, il109, il113, il119, il120, il122, il200, il255, il480, il500, il501, il512, il999, il4112, il41120, il1000000, il1000003, ii_add, ii_sub, ii_mul, ii_neg, ii_le, ii_lt, ii_eq, ii_div, q_I, q_V, q_R, lt_q, rZ_q, md_M, md_16, md_4, md_8, md_10, if_true, if_false, if_pos, if_neg, mg_3, mg_0, mg_1, mg_2, mg_k, mg_up3, mg_upk]
      rfl
    · funext z
      unfold zM
      rw [if_neg (by omega)]
  simp (disch := first | assumption | omega) only [fX7_clears, nR1, nA1, nU1, nR2, nA2, nU2, nR3, nA3, nU3, nR4, nA4, nU4, nR5, nA5, nU5, nR6, nA6, nU6, nR7, nA7, nU7, nR8, nA8, nU8, nR9, nA9, nU9, nR10, nA10, nU10, nR11, nA11, nU11, nR12, nA12, nU12, nR13, nA13, nU13, nR14, nA14, nU14, nR15, nA15, nU15, nR16, nA16, nU16, nI0, nS0, nI1, nS1, nI2, nS2, nI3, nS3, nI4, nS4, nI5, nS5, nI6, nS6, nI7, nS7, nI8, nS8, nI9, nS9, nI15, nS15, nI18, nS18, nI19, nS19, nI20, nS20, nI21, nS21, nI22, nS22, nI23, nS23, nI24, nS24, nI25, nS25, nI26, nS26, nI27, nS27, nI32, nS32, nI36, nS36, nI37, nS37, nI40, nS40, nSZ1, nV, nC, ↓reduceIte, tr_lt, fa_lt, tr_le, fa_le, tr_eq, fa_eq, and_true, true_and, and_false, false_and, il0, il1, il2, il3, il4, il5, il6, il7, il8, il9, il10, il11, il12, il15, il16, il20, il24, il31, il32, il44, il45, il48, il50, il57, il58, il59, il63, il91, il93, il97, il99, il100, il109, il113, il119, il120, il122, il200, il255, il480, il500, il501, il512, il999, il4112, il41120, il1000000, il1000003, ii_add, ii_sub, ii_mul, ii_neg, ii_le, ii_lt, ii_eq, ii_div, q_I, q_V, q_R, lt_q, rZ_q, md_M, md_16, md_4, md_8, md_10, if_true, if_false, if_pos, if_neg, mg_3, mg_0, mg_1, mg_2, mg_k, mg_up3, mg_upk]
  refine lp (fun m i (s : Int → Int) => fX7_clears_12 m 0 (ii i) (NW K (mg (up (up M 0 9 0) 0 32 0) s))) (fun x => x = some (Sum.inl none, NW K (mg (up (up M 0 9 0) 0 32 0) (gz g)))) (fun i s => 0 ≤ i ∧ s = zN g i) 4112 ?_ ?_ FU 0 g (by omega) ⟨by omega, ?_⟩ (by have := FU_e; omega)
  · rintro m i s hi ⟨hI, rfl⟩
    refine Or.inr ⟨zN g (i + 1), ⟨by omega, rfl⟩, ?_⟩
    rw [← zN_s _ i hI]
    simp (disch := first | assumption | omega) only [fX7_clears_12, nR1, nA1, nU1, nR2, nA2, nU2, nR3, nA3, nU3, nR4, nA4, nU4, nR5, nA5, nU5, nR6, nA6, nU6, nR7, nA7, nU7, nR8, nA8, nU8, nR9, nA9, nU9, nR10, nA10, nU10, nR11, nA11, nU11, nR12, nA12, nU12, nR13, nA13, nU13, nR14, nA14, nU14, nR15, nA15, nU15, nR16, nA16, nU16, nI0, nS0, nI1, nS1, nI2, nS2, nI3, nS3, nI4, nS4, nI5, nS5, nI6, nS6, nI7, nS7, nI8, nS8, nI9, nS9, nI15, nS15, nI18, nS18, nI19, nS19, nI20, nS20, nI21, nS21, nI22, nS22, nI23, nS23, nI24, nS24, nI25, nS25, nI26, nS26, nI27, nS27, nI32, nS32, nI36, nS36, nI37, nS37, nI40, nS40, nSZ1, nV, nC, ↓reduceIte, tr_lt, fa_lt, tr_le, fa_le, tr_eq, fa_eq, and_true, true_and, and_false, false_and, il0, il1, il2, il3, il4, il5, il6, il7, il8, il9, il10, il11, il12, il15, il16, il20, il24, il31, il32, il44, il45, il48, il50, il57, il58, il59, il63, il91, il93, il97, il99, il100, il109, il113, il119, il120, il122, il200, il255, il480, il500, il501, il512, il999, il4112, il41120, il1000000, il1000003, ii_add, ii_sub, ii_mul, ii_neg, ii_le, ii_lt, ii_eq, ii_div, q_I, q_V, q_R, lt_q, rZ_q, md_M, md_16, md_4, md_8, md_10, if_true, if_false, if_pos, if_neg, mg_3, mg_0, mg_1, mg_2, mg_k, mg_up3, mg_upk]
  · rintro m s ⟨hI, rfl⟩
    rw [← h2]
    simp (disch := first | assumption | omega) only [fX7_clears_12, nR1, nA1, nU1, nR2, nA2, nU2, nR3, nA3, nU3, nR4, nA4, nU4, nR5, nA5, nU5, nR6, nA6, nU6, nR7, nA7, nU7, nR8, nA8, nU8, nR9, nA9, nU9, nR10, nA10, nU10, nR11, nA11, nU11, nR12, nA12, nU12, nR13, nA13, nU13, nR14, nA14, nU14, nR15, nA15, nU15, nR16, nA16, nU16, nI0, nS0, nI1, nS1, nI2, nS2, nI3, nS3, nI4, nS4, nI5, nS5, nI6, nS6, nI7, nS7, nI8, nS8, nI9, nS9, nI15, nS15, nI18, nS18, nI19, nS19, nI20, nS20, nI21, nS21, nI22, nS22, nI23, nS23, nI24, nS24, nI25, nS25, nI26, nS26, nI27, nS27, nI32, nS32, nI36, nS36, nI37, nS37, nI40, nS40, nSZ1, nV, nC, ↓reduceIte, tr_lt, fa_lt, tr_le, fa_le, tr_eq, fa_eq, and_true, true_and, and_false, false_and, il0, il1, il2, il3, il4, il5, il6, il7, il8, il9, il10, il11, il12, il15, il16, il20, il24, il31, il32, il44, il45, il48, il50, il57, il58, il59, il63, il91, il93, il97, il99, il100, il109, il113, il119, il120, il122, il200, il255, il480, il500, il501, il512, il999, il4112, il41120, il1000000, il1000003, ii_add, ii_sub, ii_mul, ii_neg, ii_le, ii_lt, ii_eq, ii_div, q_I, q_V, q_R, lt_q, rZ_q, md_M, md_16, md_4, md_8, md_10, if_true, if_false, if_pos, if_neg, mg_3, mg_0, mg_1, mg_2, mg_k, mg_up3, mg_upk]
  · funext z
    unfold zN
    rw [if_neg (by omega)]
end HDM
section HDC
variable {c : CC} {A : AI} {J : JI} {S : Nat} {len g : Int → Int}
theorem c_start (hRd : isReader c 1) (x L : Int) (h2 : A 1 2 = L) (hL : 0 ≤ x ∧ x ≤ L ∧ L ≤ 500) : ∃ A', fX2_startText 1 (ii x) (CW c A J) = fX2_startText_53 1 (CW c A' J) ∧ (A' 1 5 = x ∧ A' 1 2 = 0 ∧ A' 1 3 = 0 ∧ A' 1 4 = -1 ∧ A' 1 8 = 0) ∧ (∀ k, 0 ≤ k → k < 8 → A' (1 + 2) k = 0) ∧ ∀ (b : Nat) (z : Int), b ≠ 1 → b ≠ 1 + 2 → A' b z = A b z := by
  have h0 : fX2_startText 1 (ii x) (CW c A J) = fX2_startText_34 FU 1 (ii 0) (CW c (up (up (up (up (up A 1 5 x) 1 2 0) 1 3 0) 1 4 (-1)) 1 8 0) J) := by
    simp (disch := first | assumption | omega) only [fX2_startText, rwI1, rwS1, rwI2, rwS2, rwI4, rwS4, rwI5, rwS5, rwI7, rwS7, rwI8, rwS8, rwI9, rwS9, rwR0, rwR3, rwR6, rwA1, rwU1, rwA3, rwU3, rwV, rwJ, rwUJ, plI0, plS0, plI1, plS1, plI2, plS2, plI3, plS3, plI4, plS4, plI5, plS5, plI6, plS6, plI7, plS7, plR8, plR9, plR10, plA1, plU1, plA2, plU2, plA3, plU3, plV, stI2, stS2, stI3, stS3, stI4, stS4, stI5, stS5, stI6, stS6, stI7, stS7, stR0, stR1, stA2, stU2, stV, stRow, svI5, svS5, svI6, svS6, svI7, svS7, svR0, svR1, svR2, svR3, svR4, svA13, svU13, svA14, svU14, svA15, svU15, svA16, svU16, svV, svRow, svF, svUF, hiI1, hiS1, hiI2, hiS2, hiR0, hiV, hiRow, rdI2, rdS2, rdI3, rdS3, rdI4, rdS4, rdI5, rdS5, rdI6, rdS6, rdI7, rdS7, rdI8, rdS8, rdR0, rdR1, rdA1, rdU1, rdA2, rdU2, rdV, k_C, ↓reduceIte, tr_lt, fa_lt, tr_le, fa_le, tr_eq, fa_eq, and_true, true_and, and_false, false_and, il0, il1, il2, il3, il4, il5, il6, il7, il8, il9, il10, il11, il12, il15, il16, il20, il24, il31, il32, il44, il45, il48, il50, il57, il58, il59, il63, il91, il93, il97, il99, il100, il109, il113, il119, il120, il122, il200, il255, il480, il500, il501, il512, il999, il4112, il41120, il1000000, il1000003, ii_add, ii_sub, ii_mul, ii_neg, ii_le, ii_lt, ii_eq, ii_div, q_I, q_V, q_R, lt_q, rZ_q, md_M, md_16, md_4, md_8, md_10, if_true, if_false, if_pos, if_neg, h2]
  rw [h0]
  refine lp (fun m i (T : AI) => fX2_startText_34 m 1 (ii i) (CW c T J)) (fun X => ∃ A', X = fX2_startText_53 1 (CW c A' J) ∧ (A' 1 5 = x ∧ A' 1 2 = 0 ∧ A' 1 3 = 0 ∧ A' 1 4 = -1 ∧ A' 1 8 = 0) ∧ (∀ k, 0 ≤ k → k < 8 → A' (1 + 2) k = 0) ∧ ∀ (b : Nat) (z : Int), b ≠ 1 → b ≠ 1 + 2 → A' b z = A b z)
    (fun i T => 0 ≤ i ∧ (∀ k, 0 ≤ k → k < i → T (1 + 2) k = 0) ∧ ∀ (b : Nat) (z : Int), b ≠ 1 + 2 → T b z = up (up (up (up (up A 1 5 x) 1 2 0) 1 3 0) 1 4 (-1)) 1 8 0 b z) 8 ?_ ?_ FU 0 _ (by omega) ⟨by omega, fun k a b => by omega, fun _ _ _ => rfl⟩ (by have := FU_e; omega)
  · rintro m i T hi ⟨hI, t1, t2⟩
    refine Or.inr ⟨up T (1 + 2) i 0, ⟨by omega, fun k a b => ?_, fun b z q => ?_⟩, ?_⟩
    · by_cases q : k = i
      · rw [q, up_s]
      · rw [up_n _ _ _ _ _ _ (by omega)]; exact t1 k a (by omega)
    · rw [up_n _ _ _ _ _ _ (by omega)]; exact t2 b z q
    · simp (disch := first | assumption | omega) only [fX2_startText_34, rwI1, rwS1, rwI2, rwS2, rwI4, rwS4, rwI5, rwS5, rwI7, rwS7, rwI8, rwS8, rwI9, rwS9, rwR0, rwR3, rwR6, rwA1, rwU1, rwA3, rwU3, rwV, rwJ, rwUJ, plI0, plS0, plI1, plS1, plI2, plS2, plI3, plS3, plI4, plS4, plI5, plS5, plI6, plS6, plI7, plS7, plR8, plR9, plR10, plA1, plU1, plA2, plU2, plA3, plU3, plV, stI2, stS2, stI3, stS3, stI4, stS4, stI5, stS5, stI6, stS6, stI7, stS7, stR0, stR1, stA2, stU2, stV, stRow, svI5, svS5, svI6, svS6, svI7, svS7, svR0, svR1, svR2, svR3, svR4, svA13, svU13, svA14, svU14, svA15, svU15, svA16, svU16, svV, svRow, svF, svUF, hiI1, hiS1, hiI2, hiS2, hiR0, hiV, hiRow, rdI2, rdS2, rdI3, rdS3, rdI4, rdS4, rdI5, rdS5, rdI6, rdS6, rdI7, rdS7, rdI8, rdS8, rdR0, rdR1, rdA1, rdU1, rdA2, rdU2, rdV, k_C, ↓reduceIte, tr_lt, fa_lt, tr_le, fa_le, tr_eq, fa_eq, and_true, true_and, and_false, false_and, il0, il1, il2, il3, il4, il5, il6, il7, il8, il9, il10, il11, il12, il15, il16, il20, il24, il31, il32, il44, il45, il48, il50, il57, il58, il59, il63, il91, il93, il97, il99, il100, il109, il113, il119, il120, il122, il200, il255, il480, il500, il501, il512, il999, il4112, il41120, il1000000, il1000003, ii_add, ii_sub, ii_mul, ii_neg, ii_le, ii_lt, ii_eq, ii_div, q_I, q_V, q_R, lt_q, rZ_q, md_M, md_16, md_4, md_8, md_10, if_true, if_false, if_pos, if_neg]
  · rintro m T ⟨hI, t1, t2⟩
    refine ⟨T, ?_, ⟨?_, ?_, ?_, ?_, ?_⟩, t1, fun b z p q => ?_⟩
    · simp (disch := first | assumption | omega) only [fX2_startText_34, rwI1, rwS1, rwI2, rwS2, rwI4, rwS4, rwI5, rwS5, rwI7, rwS7, rwI8, rwS8, rwI9, rwS9, rwR0, rwR3, rwR6, rwA1, rwU1, rwA3, rwU3, rwV, rwJ, rwUJ, plI0, plS0, plI1, plS1, plI2, plS2, plI3, plS3, plI4, plS4, plI5, plS5, plI6, plS6, plI7, plS7, plR8, plR9, plR10, plA1, plU1, plA2, plU2, plA3, plU3, plV, stI2, stS2, stI3, stS3, stI4, stS4, stI5, stS5, stI6, stS6, stI7, stS7, stR0, stR1, stA2, stU2, stV, stRow, svI5, svS5, svI6, svS6, svI7, svS7, svR0, svR1, svR2, svR3, svR4, svA13, svU13, svA14, svU14, svA15, svU15, svA16, svU16, svV, svRow, svF, svUF, hiI1, hiS1, hiI2, hiS2, hiR0, hiV, hiRow, rdI2, rdS2, rdI3, rdS3, rdI4, rdS4, rdI5, rdS5, rdI6, rdS6, rdI7, rdS7, rdI8, rdS8, rdR0, rdR1, rdA1, rdU1, rdA2, rdU2, rdV, k_C, ↓reduceIte, tr_lt, fa_lt, tr_le, fa_le, tr_eq, fa_eq, and_true, true_and, and_false, false_and, il0, il1, il2, il3, il4, il5, il6, il7, il8, il9, il10, il11, il12, il15, il16, il20, il24, il31, il32, il44, il45, il48, il50, il57, il58, il59, il63, il91, il93, il97, il99, il100, il109, il113, il119, il120, il122, il200, il255, il480, il500, il501, il512, il999, il4112, il41120, il1000000, il1000003, ii_add, ii_sub, ii_mul, ii_neg, ii_le, ii_lt, ii_eq, ii_div, q_I, q_V, q_R, lt_q, rZ_q, md_M, md_16, md_4, md_8, md_10, if_true, if_false, if_pos, if_neg]
    · rw [t2 _ _ (by omega)]; simp (disch := first | assumption | omega) only [up_s, up_n]
    · rw [t2 _ _ (by omega)]; simp (disch := first | assumption | omega) only [up_s, up_n]
    · rw [t2 _ _ (by omega)]; simp (disch := first | assumption | omega) only [up_s, up_n]
    · rw [t2 _ _ (by omega)]; simp (disch := first | assumption | omega) only [up_s, up_n]
    · rw [t2 _ _ (by omega)]; simp (disch := first | assumption | omega) only [up_s, up_n]
    · rw [t2 b z q]; simp (disch := first | assumption | omega) only [up_n]
theorem s_clear2 (hS : isState c S) : ∃ A', fX5_clear_23 S (CW c A J) = some (Sum.inl none, CW c A' J) ∧ (A' S 2 = 0 ∧ A' S 3 = 0 ∧ A' S 4 = 0 ∧ A' S 5 = 0 ∧ A' S 6 = 0 ∧ A' S 7 = 0) ∧ (∀ k, 0 ≤ k → k < 10 → A' (S + 2) k = 0) ∧ ∀ (b : Nat) (z : Int), b ≠ S → b ≠ S + 2 → A' b z = A b z := by
  rw [fX5_clear_23, il0]
  refine lp (fun m i (T : AI) => fX5_clear_25 m S (ii i) (CW c T J)) (fun x => ∃ A', x = some (Sum.inl none, CW c A' J) ∧ (A' S 2 = 0 ∧ A' S 3 = 0 ∧ A' S 4 = 0 ∧ A' S 5 = 0 ∧ A' S 6 = 0 ∧ A' S 7 = 0) ∧ (∀ k, 0 ≤ k → k < 10 → A' (S + 2) k = 0) ∧ ∀ (b : Nat) (z : Int), b ≠ S → b ≠ S + 2 → A' b z = A b z) (fun i T => 0 ≤ i ∧ (∀ k, 0 ≤ k → k < i → T (S + 2) k = 0) ∧ ∀ (b : Nat) (z : Int), b ≠ S + 2 → T b z = A b z) 10 ?_ ?_ FU 0 A (by omega) ⟨by omega, fun k a b => by omega, fun _ _ _ => rfl⟩ (by have := FU_e; omega)
  · rintro m i T hi ⟨hI, t1, t2⟩
    refine Or.inr ⟨up T (S + 2) i 0, ⟨by omega, fun k a b => ?_, fun b z q => ?_⟩, ?_⟩
    · by_cases q : k = i
      · rw [q, up_s]
      · rw [up_n _ _ _ _ _ _ (by omega)]; exact t1 k a (by omega)
    · rw [up_n _ _ _ _ _ _ (by omega)]; exact t2 b z q
    · simp (disch := first | assumption | omega) only [fX5_clear_25, rwI1, rwS1, rwI2, rwS2, rwI4, rwS4, rwI5, rwS5, rwI7, rwS7, rwI8, rwS8, rwI9, rwS9, rwR0, rwR3, rwR6, rwA1, rwU1, rwA3, rwU3, rwV, rwJ, rwUJ, plI0, plS0, plI1, plS1, plI2, plS2, plI3, plS3, plI4, plS4, plI5, plS5, plI6, plS6, plI7, plS7, plR8, plR9, plR10, plA1, plU1, plA2, plU2, plA3, plU3, plV, stI2, stS2, stI3, stS3, stI4, stS4, stI5, stS5, stI6, stS6, stI7, stS7, stR0, stR1, stA2, stU2, stV, stRow, svI5, svS5, svI6, svS6, svI7, svS7, svR0, svR1, svR2, svR3, svR4, svA13, svU13, svA14, svU14, svA15, svU15, svA16, svU16, svV, svRow, svF, svUF, hiI1, hiS1, hiI2, hiS2, hiR0, hiV, hiRow, rdI2, rdS2, rdI3, rdS3, rdI4, rdS4, rdI5, rdS5, rdI6, rdS6, rdI7, rdS7, rdI8, rdS8, rdR0, rdR1, rdA1, rdU1, rdA2, rdU2, rdV, k_C, ↓reduceIte, tr_lt, fa_lt, tr_le, fa_le, tr_eq, fa_eq, and_true, true_and, and_false, false_and, il0, il1, il2, il3, il4, il5, il6, il7, il8, il9, il10, il11, il12, il15, il16, il20, il24, il31, il32, il44, il45, il48, il50, il57, il58, il59, il63, il91, il93, il97, il99, il100, il109, il113, il119, il120, il122, il200, il255, il480, il500, il501, il512, il999, il4112, il41120, il1000000, il1000003, ii_add, ii_sub, ii_mul, ii_neg, ii_le, ii_lt, ii_eq, ii_div, q_I, q_V, q_R, lt_q, rZ_q, md_M, md_16, md_4, md_8, md_10, if_true, if_false, if_pos, if_neg]
  · rintro m T ⟨hI, t1, t2⟩
    refine ⟨up (up (up (up (up (up T S 2 0) S 3 0) S 4 0) S 5 0) S 6 0) S 7 0, ?_, ⟨?_, ?_, ?_, ?_, ?_, ?_⟩, fun k a b => ?_, fun b z p q => ?_⟩
    · simp (disch := first | assumption | omega) only [fX5_clear_25, fX5_clear_44, rwI1, rwS1, rwI2, rwS2, rwI4, rwS4, rwI5, rwS5, rwI7, rwS7, rwI8, rwS8, rwI9, rwS9, rwR0, rwR3, rwR6, rwA1, rwU1, rwA3, rwU3, rwV, rwJ, rwUJ, plI0, plS0, plI1, plS1, plI2, plS2, plI3, plS3, plI4, plS4, plI5, plS5, plI6, plS6, plI7, plS7, plR8, plR9, plR10, plA1, plU1, plA2, plU2, plA3, plU3, plV, stI2, stS2, stI3, stS3, stI4, stS4, stI5, stS5, stI6, stS6, stI7, stS7, stR0, stR1, stA2, stU2, stV, stRow, svI5, svS5, svI6, svS6, svI7, svS7, svR0, svR1, svR2, svR3, svR4, svA13, svU13, svA14, svU14, svA15, svU15, svA16, svU16, svV, svRow, svF, svUF, hiI1, hiS1, hiI2, hiS2, hiR0, hiV, hiRow, rdI2, rdS2, rdI3, rdS3, rdI4, rdS4, rdI5, rdS5, rdI6, rdS6, rdI7, rdS7, rdI8, rdS8, rdR0, rdR1, rdA1, rdU1, rdA2, rdU2, rdV, k_C, ↓reduceIte, tr_lt, fa_lt, tr_le, fa_le, tr_eq, fa_eq, and_true, true_and, and_false, false_and, il0, il1, il2, il3, il4, il5, il6, il7, il8, il9, il10, il11, il12, il15, il16, il20, il24, il31, il32, il44, il45, il48, il50, il57, il58, il59, il63, il91, il93, il97, il99, il100, il109, il113, il119, il120, il122, il200, il255, il480, il500, il501, il512, il999, il4112, il41120, il1000000, il1000003, ii_add, ii_sub, ii_mul, ii_neg, ii_le, ii_lt, ii_eq, ii_div, q_I, q_V, q_R, lt_q, rZ_q, md_M, md_16, md_4, md_8, md_10, if_true, if_false, if_pos, if_neg]
    · simp (disch := first | assumption | omega) only [up_s, up_n]
    · simp (disch := first | assumption | omega) only [up_s, up_n]
    · simp (disch := first | assumption | omega) only [up_s, up_n]
    · simp (disch := first | assumption | omega) only [up_s, up_n]
    · simp (disch := first | assumption | omega) only [up_s, up_n]
    · simp (disch := first | assumption | omega) only [up_s, up_n]
    · simp (disch := first | assumption | omega) only [up_n]; exact t1 k a b
    · simp (disch := first | assumption | omega) only [up_n]; exact t2 b z q
abbrev rwZ (g : Int → Int) : Prop := ∀ r, 0 ≤ r → r < 8 → cel g r 0 = 0 ∧ cel g r 1 = 0 ∧ cel g r 2 = -1 ∧ cel g r 3 = 0 ∧ cel g r 4 = 0
theorem GR_z (h : rwZ g) : GR g := fun r a b => by
  obtain ⟨h0, h1, h2, h3, h4⟩ := h r a b
  exact ⟨by omega, by omega, fun k p q => by omega, fun k p q => by omega, by omega, by omega, by omega⟩
theorem s_clear (hS : isState c S) (h0 : ∀ z, 0 ≤ z → z < 16 → g z = 0) (hc : rwZ g) : ∃ A', fX5_clear S (CW c A J) = some (Sum.inl none, CW c A' J) ∧ SR A' J S len g 0 ∧ frm (inS S) A A' J J := by
  have hg := GR_z hc
  have i0 : inS S S := by unfold inS; omega
  have i2 : inS S (S + 2) := by unfold inS; omega
  simp only [fX5_clear, il0]
  refine lp (fun n i (T : AI) => fX5_clear_2 n S (ii i) (CW c T J)) (fun x => ∃ A', x = some (Sum.inl none, CW c A' J) ∧ SR A' J S len g 0 ∧ frm (inS S) A A' J J)
    (fun i T => (0 ≤ i ∧ frm (inS S) A T J J) ∧ ∀ r, 0 ≤ r → r < i → RR T J (rc S r) len g r) 8 ?_ ?_ FU 0 A (by omega) ⟨⟨by omega, frm.refl _ _ _⟩, fun r a b => by omega⟩ (by have := FU_e; omega)
  · rintro n i T hi ⟨⟨hI, hf⟩, hr⟩
    have hR := hS.row i ⟨hI, hi⟩
    obtain ⟨A2, e2, r2, f2⟩ := c_clearRow (c := c) (A := T) (J := J) (len := len) hR i (hc i hI hi)
    refine Or.inr ⟨A2, ⟨⟨by omega, hf.trans (f2.mono fun b hb => (rc_in ⟨hI, hi⟩ hb).1.1)⟩, fun r a b => ?_⟩, ?_⟩
    · by_cases q : r = i
      · rw [q]; exact r2
      · exact RR.frame (hr r a (by omega)) (hg r a (by omega)) (fun b z hb => f2.1 b z (rc_ne ⟨hI, hi⟩ ⟨a, by omega⟩ q hb)) (fun _ _ _ => rfl) (fun _ _ _ => rfl)
    · simp (disch := first | assumption | omega) only [fX5_clear_2, rwI1, rwS1, rwI2, rwS2, rwI4, rwS4, rwI5, rwS5, rwI7, rwS7, rwI8, rwS8, rwI9, rwS9, rwR0, rwR3, rwR6, rwA1, rwU1, rwA3, rwU3, rwV, rwJ, rwUJ, plI0, plS0, plI1, plS1, plI2, plS2, plI3, plS3, plI4, plS4, plI5, plS5, plI6, plS6, plI7, plS7, plR8, plR9, plR10, plA1, plU1, plA2, plU2, plA3, plU3, plV, stI2, stS2, stI3, stS3, stI4, stS4, stI5, stS5, stI6, stS6, stI7, stS7, stR0, stR1, stA2, stU2, stV, stRow, svI5, svS5, svI6, svS6, svI7, svS7, svR0, svR1, svR2, svR3, svR4, svA13, svU13, svA14, svU14, svA15, svU15, svA16, svU16, svV, svRow, svF, svUF, hiI1, hiS1, hiI2, hiS2, hiR0, hiV, hiRow, rdI2, rdS2, rdI3, rdS3, rdI4, rdS4, rdI5, rdS5, rdI6, rdS6, rdI7, rdS7, rdI8, rdS8, rdR0, rdR1, rdA1, rdU1, rdA2, rdU2, rdV, k_C, ↓reduceIte, tr_lt, fa_lt, tr_le, fa_le, tr_eq, fa_eq, and_true, true_and, and_false, false_and, il0, il1, il2, il3, il4, il5, il6, il7, il8, il9, il10, il11, il12, il15, il16, il20, il24, il31, il32, il44, il45, il48, il50, il57, il58, il59, il63, il91, il93, il97, il99, il100, il109, il113, il119, il120, il122, il200, il255, il480, il500, il501, il512, il999, il4112, il41120, il1000000, il1000003, ii_add, ii_sub, ii_mul, ii_neg, ii_le, ii_lt, ii_eq, ii_div, q_I, q_V, q_R, lt_q, rZ_q, md_M, md_16, md_4, md_8, md_10, if_true, if_false, if_pos, if_neg, e2]
  · rintro n T ⟨⟨hI, hf⟩, hr⟩
    obtain ⟨A2, e2, k1, k2, k3⟩ := s_clear2 (c := c) (A := T) (J := J) hS
    refine ⟨A2, ?_, ⟨⟨?_, fun k a b => ?_⟩, fun r a b => ?_⟩, hf.trans ⟨fun b z q => k3 b z (fun e => q (e ▸ i0)) (fun e => q (e ▸ i2)), fun _ _ _ => rfl⟩⟩
    · simp (disch := first | assumption | omega) only [fX5_clear_2, rwI1, rwS1, rwI2, rwS2, rwI4, rwS4, rwI5, rwS5, rwI7, rwS7, rwI8, rwS8, rwI9, rwS9, rwR0, rwR3, rwR6, rwA1, rwU1, rwA3, rwU3, rwV, rwJ, rwUJ, plI0, plS0, plI1, plS1, plI2, plS2, plI3, plS3, plI4, plS4, plI5, plS5, plI6, plS6, plI7, plS7, plR8, plR9, plR10, plA1, plU1, plA2, plU2, plA3, plU3, plV, stI2, stS2, stI3, stS3, stI4, stS4, stI5, stS5, stI6, stS6, stI7, stS7, stR0, stR1, stA2, stU2, stV, stRow, svI5, svS5, svI6, svS6, svI7, svS7, svR0, svR1, svR2, svR3, svR4, svA13, svU13, svA14, svU14, svA15, svU15, svA16, svU16, svV, svRow, svF, svUF, hiI1, hiS1, hiI2, hiS2, hiR0, hiV, hiRow, rdI2, rdS2, rdI3, rdS3, rdI4, rdS4, rdI5, rdS5, rdI6, rdS6, rdI7, rdS7, rdI8, rdS8, rdR0, rdR1, rdA1, rdU1, rdA2, rdU2, rdV, k_C, ↓reduceIte, tr_lt, fa_lt, tr_le, fa_le, tr_eq, fa_eq, and_true, true_and, and_false, false_and, il0, il1, il2, il3, il4, il5, il6, il7, il8, il9, il10, il11, il12, il15, il16, il20, il24, il31, il32, il44, il45, il48, il50, il57, il58, il59, il63, il91, il93, il97, il99, il100, il109, il113, il119, il120, il122, il200, il255, il480, il500, il501, il512, il999, il4112, il41120, il1000000, il1000003, ii_add, ii_sub, ii_mul, ii_neg, ii_le, ii_lt, ii_eq, ii_div, q_I, q_V, q_R, lt_q, rZ_q, md_M, md_16, md_4, md_8, md_10, if_true, if_false, if_pos, if_neg, e2]
    · rw [h0 0 (by omega) (by omega), h0 1 (by omega) (by omega), h0 2 (by omega) (by omega), h0 3 (by omega) (by omega), h0 4 (by omega) (by omega)]
      exact k1
    · rw [h0 (6 + k) (by omega) (by omega)]; exact k2 k a b
    · refine RR.frame (hr r a b) (hg r a b) (fun x z hx => ?_) (fun _ _ _ => rfl) (fun _ _ _ => rfl)
      have hx2 := (rc_in ⟨a, b⟩ hx).1.2
      exact k3 x z hx2.1 hx2.2
end HDC
section HDP
variable {K : Nat × Nat} {c : CC} {A A' : AI} {J : JI} {M M' : AI} {g : Int → Int} {n : Int} {sp : Nat}
theorem RT.fr (h : RT A M n) (hA : ∀ (b : Nat) (z : Int), (b = 1 ∧ 3 ≤ z ∧ z ≤ 8) ∨ b = 1 + 1 → A' b z = A b z) (hM : ∀ z, 21 ≤ z → z ≤ 27 → M' 0 z = M 0 z) (h7 : M' 7 = M 7) : RT A' M' n := by
  have e2 : A' (1 + 1) = A (1 + 1) := funext fun z => hA _ z (Or.inr rfl)
  unfold RT at h ⊢
  rw [e2, h7, hA 1 3 (by omega), hA 1 4 (by omega), hA 1 5 (by omega), hA 1 6 (by omega), hA 1 7 (by omega), hA 1 8 (by omega), hM 21 (by omega) (by omega), hM 22 (by omega) (by omega), hM 23 (by omega) (by omega), hM 24 (by omega) (by omega), hM 25 (by omega) (by omega), hM 26 (by omega) (by omega), hM 27 (by omega) (by omega)]
  exact h
def hLo (j : Int) : Int := if j = 0 then 10 else if j ≤ 2 then 1 else if j ≤ 5 then 0 else 1
def hHi (j : Int) : Int := if j = 0 then 500 else if j = 1 then 8 else if j = 2 then 50 else if j = 3 then 20 else if j ≤ 5 then 9 else 999
abbrev HK (A M : AI) (sp : Nat) (k : Int) : Prop := ∀ j, 0 ≤ j → j < k → A sp j = M 0 (j + 2) ∧ hLo j ≤ M 0 (j + 2) ∧ M 0 (j + 2) ≤ hHi j
abbrev FH (sp : Nat) (A A' : AI) : Prop := ∀ (b : Nat) (z : Int), ¬ (b = 1 ∧ ((3 ≤ z ∧ z ≤ 4) ∨ 6 ≤ z ∧ z ≤ 8)) → ¬ (b = sp ∧ 0 ≤ z ∧ z < 7) → A' b z = A b z
abbrev FN (M M' : AI) : Prop := (∀ z, ¬ (22 ≤ z ∧ z ≤ 27) → ¬ (2 ≤ z ∧ z ≤ 8) → M' 0 z = M 0 z) ∧ ∀ (b : Nat) (z : Int), 0 < b → M' b z = M b z
theorem FH.trans {A A1 A2 : AI} (h : FH sp A A1) (k : FH sp A1 A2) : FH sp A A2 := fun b z p q => (k b z p q).trans (h b z p q)
theorem FN.trans {M M1 M2 : AI} (h : FN M M1) (k : FN M1 M2) : FN M M2 := ⟨fun z p q => (k.1 z p q).trans (h.1 z p q), fun b z q => (k.2 b z q).trans (h.2 b z q)⟩
theorem FAr.fh (h : FAr A A') : FH sp A A' := fun b z p _ => h b z p
theorem FMr.fn (h : FMr M M') : FN M M' := ⟨fun z p _ => h.1 z p, h.2⟩
theorem HK.fr {k : Int} (h : HK A M sp k) (hk : k ≤ 7) (hs : sp ≠ 1) (hA : FAr A A') (hM : FMr M M') : HK A' M' sp k := fun j a b => by
  rw [hA _ _ (by omega), hM.1 _ (by omega)]
  exact h j a b
theorem p_st (K : Nat × Nat) (J : JI) (g : Int → Int) (hRd : isReader c 1) (hs : sp ≠ 1 ∧ sp ≠ 1 + 1) (h : RT A M n) (k lo hi : Int) (hk : 0 ≤ k ∧ k < 7) (hl : lo = hLo k ∧ hi = hHi k ∧ 0 ≤ lo ∧ lo ≤ 1000 ∧ 0 ≤ hi ∧ hi ≤ 1000) (hh : M 0 26 = 0 → HK A M sp k) : ∃ (A1 M1 : AI) (vc vm : Int), fX2_takeNumber 1 (ii lo) (ii hi) (CW c A J) = some (Sum.inl (some (Value.int (ii (vc)))), CW c A1 J) ∧ fX7_takes 0 (ii lo) (ii hi) (NW K (mg M g)) = some (Sum.inl (some (Value.int (ii (vm)))), NW K (mg M1 g)) ∧ RT (up A1 sp k vc) (up M1 0 (k + 2) vm) n ∧ FH sp A (up A1 sp k vc) ∧ FN M (up M1 0 (k + 2) vm) ∧ (up M1 0 (k + 2) vm 0 26 = 0 → M 0 26 = 0 ∧ HK (up A1 sp k vc) (up M1 0 (k + 2) vm) sp (k + 1)) := by
  obtain ⟨A1, M1, vc, vm, e1, e2, r1, f1, f2, -, i1⟩ := p_num (c := c) K J g hRd h lo hi (by omega)
  refine ⟨A1, M1, vc, vm, e1, e2, r1.fr (fun b z q => up_n _ _ _ _ _ _ (by omega)) (fun z p q => up_n _ _ _ _ _ _ (by omega)) (funext fun z => up_n _ _ _ _ _ _ (by omega)), fun b z p q => ?_, ⟨fun z p q => ?_, fun b z q => ?_⟩, fun q => ?_⟩
  · rw [up_n _ _ _ _ _ _ (by omega)]; exact f1 b z p
  · rw [up_n _ _ _ _ _ _ (by omega)]; exact f2.1 z p
  · rw [up_n _ _ _ _ _ _ (by omega)]; exact f2.2 b z q
  · rw [up_n _ _ _ _ _ _ (by omega)] at q
    obtain ⟨q0, q1, q2⟩ := i1 q
    refine ⟨q0, fun j a b => ?_⟩
    by_cases y : j = k
    · rw [y, up_s, up_s, ← hl.1, ← hl.2.1]
      exact ⟨q1, q2.1⟩
    · rw [up_n _ _ _ _ _ _ (by omega), up_n _ _ _ _ _ _ (by omega)]
      exact (hh q0).fr (by omega) hs.1 f1 f2 j a (by omega)
/-- both take a semicolon -/
theorem p_semi (K : Nat × Nat) (J : JI) (g : Int → Int) (hRd : isReader c 1) (h : RT A M n) : ∃ (A' M1 M' : AI) (t : Int), fX2_takeSemicolon 1 (CW c A J) = some (Sum.inl none, CW c A' J) ∧ fX7_failsIf 0 (ii t) (ii 1) (NW K (mg M g)) = some (Sum.inl none, NW K (mg M1 g)) ∧ fX7_goesOn 0 (NW K (mg M1 g)) = some (Sum.inl none, NW K (mg M' g)) ∧ RT A' M' n ∧ FAr A A' ∧ FMr M M' ∧ (M' 0 26 = 0 → M 0 26 = 0) ∧ (M 0 26 = 0 → M 0 24 = 3 → t = 0) ∧ (M 0 26 = 0 → M 0 24 ≠ 3 → t = 1) ∧ (M 0 26 ≠ 0 → t = 0) := by
  have hR := h
  obtain ⟨⟨⟨h5, h21⟩, hn⟩, hb, ⟨e3, e4, e26⟩, ⟨a7, a6, a8⟩, ⟨b22, b23, b24, b25⟩, hr⟩ := h
  by_cases q : M 0 26 = 0
  · have e3' : A 1 3 = 0 := by omega
    by_cases q1 : M 0 24 = 3
    · obtain ⟨A', M', z1, z2, z3, z4, z5, z6, z7⟩ := p_adv (c := c) K J hRd hR q ((hr q).2 (by omega)).1.1
      have hg := m_goes (K := K) (g := g) q (z2 g)
      have q6 : A 1 6 = 3 := by have := (hr q).1; omega
      refine ⟨A', M, M', 0, ?_, m_ifN 1, hg, z3, z4, z5, fun _ => q, fun _ _ => rfl, fun _ y => absurd q1 y, fun y => absurd q y⟩
      simp (disch := first | assumption | omega) only [fX2_takeSemicolon, fX2_takeSemicolon_17, rwI1, rwS1, rwI2, rwS2, rwI4, rwS4, rwI5, rwS5, rwI7, rwS7, rwI8, rwS8, rwI9, rwS9, rwR0, rwR3, rwR6, rwA1, rwU1, rwA3, rwU3, rwV, rwJ, rwUJ, plI0, plS0, plI1, plS1, plI2, plS2, plI3, plS3, plI4, plS4, plI5, plS5, plI6, plS6, plI7, plS7, plR8, plR9, plR10, plA1, plU1, plA2, plU2, plA3, plU3, plV, stI2, stS2, stI3, stS3, stI4, stS4, stI5, stS5, stI6, stS6, stI7, stS7, stR0, stR1, stA2, stU2, stV, stRow, svI5, svS5, svI6, svS6, svI7, svS7, svR0, svR1, svR2, svR3, svR4, svA13, svU13, svA14, svU14, svA15, svU15, svA16, svU16, svV, svRow, svF, svUF, hiI1, hiS1, hiI2, hiS2, hiR0, hiV, hiRow, rdI2, rdS2, rdI3, rdS3, rdI4, rdS4, rdI5, rdS5, rdI6, rdS6, rdI7, rdS7, rdI8, rdS8, rdR0, rdR1, rdA1, rdU1, rdA2, rdU2, rdV, k_C, ↓reduceIte, tr_lt, fa_lt, tr_le, fa_le, tr_eq, fa_eq, and_true, true_and, and_false, false_and, il0, il1, il2, il3, il4, il5, il6, il7, il8, il9, il10, il11, il12, il15, il16, il20, il24, il31, il32, il44, il45, il48, il50, il57, il58, il59, il63, il91, il93, il97, il99, il100, il109, il113, il119, il120, il122, il200, il255, il480, il500, il501, il512, il999, il4112, il41120, il1000000, il1000003, ii_add, ii_sub, ii_mul, ii_neg, ii_le, ii_lt, ii_eq, ii_div, q_I, q_V, q_R, lt_q, rZ_q, md_M, md_16, md_4, md_8, md_10, if_true, if_false, if_pos, if_neg, q6, e3', z1]
    · obtain ⟨z3, z4, z5, z6⟩ := RT_fail hR q 1 (A 1 7) (by omega) (hr q).1.2
      have hf := c_fail (J := J) hRd 1 (A 1 7) e3'
      have hf2 := m_if (K := K) (g := g) 1 (m_fails 1 q)
      have hg := m_goesN (K := K) (M := flM M 1) (g := g) (by omega) (by omega)
      have e3'' := flA_3 (A := A) 1 (A 1 7)
      have q6 : A 1 6 ≠ 3 := by have := (hr q).1; omega
      refine ⟨flA A 1 (A 1 7), flM M 1, flM M 1, 1, ?_, hf2, hg, z3, z4, z5, fun _ => q, fun _ y => absurd y q1, fun _ _ => rfl, fun y => absurd q y⟩
      simp (disch := first | assumption | omega) only [fX2_takeSemicolon, fX2_takeSemicolon_17, rwI1, rwS1, rwI2, rwS2, rwI4, rwS4, rwI5, rwS5, rwI7, rwS7, rwI8, rwS8, rwI9, rwS9, rwR0, rwR3, rwR6, rwA1, rwU1, rwA3, rwU3, rwV, rwJ, rwUJ, plI0, plS0, plI1, plS1, plI2, plS2, plI3, plS3, plI4, plS4, plI5, plS5, plI6, plS6, plI7, plS7, plR8, plR9, plR10, plA1, plU1, plA2, plU2, plA3, plU3, plV, stI2, stS2, stI3, stS3, stI4, stS4, stI5, stS5, stI6, stS6, stI7, stS7, stR0, stR1, stA2, stU2, stV, stRow, svI5, svS5, svI6, svS6, svI7, svS7, svR0, svR1, svR2, svR3, svR4, svA13, svU13, svA14, svU14, svA15, svU15, svA16, svU16, svV, svRow, svF, svUF, hiI1, hiS1, hiI2, hiS2, hiR0, hiV, hiRow, rdI2, rdS2, rdI3, rdS3, rdI4, rdS4, rdI5, rdS5, rdI6, rdS6, rdI7, rdS7, rdI8, rdS8, rdR0, rdR1, rdA1, rdU1, rdA2, rdU2, rdV, k_C, ↓reduceIte, tr_lt, fa_lt, tr_le, fa_le, tr_eq, fa_eq, and_true, true_and, and_false, false_and, il0, il1, il2, il3, il4, il5, il6, il7, il8, il9, il10, il11, il12, il15, il16, il20, il24, il31, il32, il44, il45, il48, il50, il57, il58, il59, il63, il91, il93, il97, il99, il100, il109, il113, il119, il120, il122, il200, il255, il480, il500, il501, il512, il999, il4112, il41120, il1000000, il1000003, ii_add, ii_sub, ii_mul, ii_neg, ii_le, ii_lt, ii_eq, ii_div, q_I, q_V, q_R, lt_q, rZ_q, md_M, md_16, md_4, md_8, md_10, if_true, if_false, if_pos, if_neg, hf, e3'']
  · have e3' : A 1 3 ≠ 0 := by omega
    have hf := c_failN (J := J) hRd 1 (A 1 7) e3' (by omega)
    have hg := m_goesN (K := K) (M := M) (g := g) q (by omega)
    refine ⟨A, M, M, 0, ?_, m_ifN 1, hg, hR, FAr.refl A, FMr.refl M, fun z => z, fun y => absurd y q, fun y => absurd y q, fun _ => rfl⟩
    by_cases q6 : A 1 6 = 3
    · simp (disch := first | assumption | omega) only [fX2_takeSemicolon, fX2_takeSemicolon_17, rwI1, rwS1, rwI2, rwS2, rwI4, rwS4, rwI5, rwS5, rwI7, rwS7, rwI8, rwS8, rwI9, rwS9, rwR0, rwR3, rwR6, rwA1, rwU1, rwA3, rwU3, rwV, rwJ, rwUJ, plI0, plS0, plI1, plS1, plI2, plS2, plI3, plS3, plI4, plS4, plI5, plS5, plI6, plS6, plI7, plS7, plR8, plR9, plR10, plA1, plU1, plA2, plU2, plA3, plU3, plV, stI2, stS2, stI3, stS3, stI4, stS4, stI5, stS5, stI6, stS6, stI7, stS7, stR0, stR1, stA2, stU2, stV, stRow, svI5, svS5, svI6, svS6, svI7, svS7, svR0, svR1, svR2, svR3, svR4, svA13, svU13, svA14, svU14, svA15, svU15, svA16, svU16, svV, svRow, svF, svUF, hiI1, hiS1, hiI2, hiS2, hiR0, hiV, hiRow, rdI2, rdS2, rdI3, rdS3, rdI4, rdS4, rdI5, rdS5, rdI6, rdS6, rdI7, rdS7, rdI8, rdS8, rdR0, rdR1, rdA1, rdU1, rdA2, rdU2, rdV, k_C, ↓reduceIte, tr_lt, fa_lt, tr_le, fa_le, tr_eq, fa_eq, and_true, true_and, and_false, false_and, il0, il1, il2, il3, il4, il5, il6, il7, il8, il9, il10, il11, il12, il15, il16, il20, il24, il31, il32, il44, il45, il48, il50, il57, il58, il59, il63, il91, il93, il97, il99, il100, il109, il113, il119, il120, il122, il200, il255, il480, il500, il501, il512, il999, il4112, il41120, il1000000, il1000003, ii_add, ii_sub, ii_mul, ii_neg, ii_le, ii_lt, ii_eq, ii_div, q_I, q_V, q_R, lt_q, rZ_q, md_M, md_16, md_4, md_8, md_10, if_true, if_false, if_pos, if_neg, q6]
    · simp (disch := first | assumption | omega) only [fX2_takeSemicolon, fX2_takeSemicolon_17, rwI1, rwS1, rwI2, rwS2, rwI4, rwS4, rwI5, rwS5, rwI7, rwS7, rwI8, rwS8, rwI9, rwS9, rwR0, rwR3, rwR6, rwA1, rwU1, rwA3, rwU3, rwV, rwJ, rwUJ, plI0, plS0, plI1, plS1, plI2, plS2, plI3, plS3, plI4, plS4, plI5, plS5, plI6, plS6, plI7, plS7, plR8, plR9, plR10, plA1, plU1, plA2, plU2, plA3, plU3, plV, stI2, stS2, stI3, stS3, stI4, stS4, stI5, stS5, stI6, stS6, stI7, stS7, stR0, stR1, stA2, stU2, stV, stRow, svI5, svS5, svI6, svS6, svI7, svS7, svR0, svR1, svR2, svR3, svR4, svA13, svU13, svA14, svU14, svA15, svU15, svA16, svU16, svV, svRow, svF, svUF, hiI1, hiS1, hiI2, hiS2, hiR0, hiV, hiRow, rdI2, rdS2, rdI3, rdS3, rdI4, rdS4, rdI5, rdS5, rdI6, rdS6, rdI7, rdS7, rdI8, rdS8, rdR0, rdR1, rdA1, rdU1, rdA2, rdU2, rdV, k_C, ↓reduceIte, tr_lt, fa_lt, tr_le, fa_le, tr_eq, fa_eq, and_true, true_and, and_false, false_and, il0, il1, il2, il3, il4, il5, il6, il7, il8, il9, il10, il11, il12, il15, il16, il20, il24, il31, il32, il44, il45, il48, il50, il57, il58, il59, il63, il91, il93, il97, il99, il100, il109, il113, il119, il120, il122, il200, il255, il480, il500, il501, il512, il999, il4112, il41120, il1000000, il1000003, ii_add, ii_sub, ii_mul, ii_neg, ii_le, ii_lt, ii_eq, ii_div, q_I, q_V, q_R, lt_q, rZ_q, md_M, md_16, md_4, md_8, md_10, if_true, if_false, if_pos, if_neg, hf]
end HDP
