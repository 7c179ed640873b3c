/-! THE MODEL'S STORE, II: what is kept -/
/-- one cell is other -/
def cB (k : Nat) (M : AI) (X : Int → Int) : AI := fun b z => if b = k then X z else M b z
theorem cB_k (k : Nat) (M : AI) (X : Int → Int) (z : Int) : cB k M X k z = X z := if_pos rfl
theorem cB_n (k : Nat) (M : AI) (X : Int → Int) (b : Nat) (z : Int) (h : b ≠ k) : cB k M X b z = M b z := if_neg h
theorem cB_self (k : Nat) (M : AI) : cB k M (M k) = M := by
  funext b z
  unfold cB
  by_cases y : b = k
  · rw [if_pos y, y]
  · rw [if_neg y]
theorem cB_up (k : Nat) (M : AI) (X : Int → Int) (i v : Int) : up (cB k M X) k i v = cB k M (gu X i v) := by
  funext b z
  unfold up cB gu
  by_cases y : b = k
  · by_cases w : z = i
    · rw [if_pos ⟨y, w⟩, if_pos y, if_pos w]
    · rw [if_neg (fun q => w q.2), if_pos y, if_pos y, if_neg w]
  · rw [if_neg (fun q => y q.1), if_neg y, if_neg y]
section STO2
variable {K : Nat × Nat} {M : AI} {g : Int → Int}
theorem e_keeps (k : Int) (hk : 0 ≤ k ∧ k < 10) : ∃ Y : Int → Int, fX7_keeps 0 (ii k) (NW K (mg M g)) = some (Sum.inl none, NW K (mg (cB 5 M Y) g)) ∧ (∀ z, 0 ≤ z → z < 4112 → Y (4112 * k + z) = g z) ∧ ∀ z, (z < 4112 * k ∨ 4112 * k + 4112 ≤ z) → Y z = M 5 z := by
  simp only [fX7_keeps, il0]
  refine lp (fun m i (s : Int → Int) => fX7_keeps_2 m 0 (ii k) (ii i) (NW K (mg (cB 5 M s) g))) (fun x => ∃ Y : Int → Int, x = some (Sum.inl none, NW K (mg (cB 5 M Y) g)) ∧ (∀ z, 0 ≤ z → z < 4112 → Y (4112 * k + z) = g z) ∧ ∀ z, (z < 4112 * k ∨ 4112 * k + 4112 ≤ z) → Y z = M 5 z)
    (fun i s => 0 ≤ i ∧ (∀ z, 0 ≤ z → z < i → s (4112 * k + z) = g z) ∧ ∀ z, (z < 4112 * k ∨ 4112 * k + 4112 ≤ z) → s z = M 5 z) 4112 ?_ ?_ FU 0 (M 5) (by omega) ⟨by omega, fun z a b => by omega, fun _ _ => rfl⟩ (by have := FU_e; omega) |> fun h => by rw [cB_self] at h; exact h
  · rintro m i s hi ⟨hJ, hs, hr⟩
    refine Or.inr ⟨gu s (4112 * k + i) (g i), ⟨by omega, fun z a b => ?_, fun z a => ?_⟩, ?_⟩
    · unfold gu
      by_cases y : z = i
      · rw [if_pos (by omega), y]
      · rw [if_neg (by omega)]; exact hs z a (by omega)
    · rw [gu_n _ _ _ _ (by omega)]; exact hr z a
    · rw [← cB_up]
      simp (disch := first | assumption | omega) only [fX7_keeps_2, nR1, nA1, nU1, nR2, nA2, nU2, nR3, nA3, nU3, nR4, nA4, nU4, nR5, nA5, nU5, nR6, nA6, nU6, nR7, nA7, nU7, nR8, nA8, nU8, nR9, nA9, nU9, nR10, nA10, nU10, nR11, nA11, nU11, nR12, nA12, nU12, nR13, nA13, nU13, nR14, nA14, nU14, nR15, nA15, nU15, nR16, nA16, nU16, nI0, nS0, nI1, nS1, nI2, nS2, nI3, nS3, nI4, nS4, nI5, nS5, nI6, nS6, nI7, nS7, nI8, nS8, nI9, nS9, nI15, nS15, nI18, nS18, nI19, nS19, nI20, nS20, nI21, nS21, nI22, nS22, nI23, nS23, nI24, nS24, nI25, nS25, nI26, nS26, nI27, nS27, nI32, nS32, nI36, nS36, nI37, nS37, nI40, nS40, nSZ1, nV, nC, ↓reduceIte, tr_lt, fa_lt, tr_le, fa_le, tr_eq, fa_eq, and_true, true_and, and_false, false_and, il0, il1, il2, il3, il4, il5, il6, il7, il8, il9, il10, il11, il12, il15, il16, il20, il24, il31, il32, il44, il45, il48, il50, il57, il58, il59, il63, il91, il93, il97, il99, il100, il109, il113, il119, il120, il122, il200, il255, il480, il500, il501, il512, il999, il4112, il41120, il1000000, il1000003, ii_add, ii_sub, ii_mul, ii_neg, ii_le, ii_lt, ii_eq, ii_div, q_I, q_V, q_R, lt_q, rZ_q, md_M, md_16, md_4, md_8, md_10, if_true, if_false, if_pos, if_neg, mg_3, mg_0, mg_1, mg_2, mg_k, mg_up3, mg_upk]
  · rintro m s ⟨hJ, hs, hr⟩
    refine ⟨s, ?_, hs, hr⟩
    simp (disch := first | assumption | omega) only [fX7_keeps_2, nR1, nA1, nU1, nR2, nA2, nU2, nR3, nA3, nU3, nR4, nA4, nU4, nR5, nA5, nU5, nR6, nA6, nU6, nR7, nA7, nU7, nR8, nA8, nU8, nR9, nA9, nU9, nR10, nA10, nU10, nR11, nA11, nU11, nR12, nA12, nU12, nR13, nA13, nU13, nR14, nA14, nU14, nR15, nA15, nU15, nR16, nA16, nU16, nI0, nS0, nI1, nS1, nI2, nS2, nI3, nS3, nI4, nS4, nI5, nS5, nI6, nS6, nI7, nS7, nI8, nS8, nI9, nS9, nI15, nS15, nI18, nS18, nI19, nS19, nI20, nS20, nI21, nS21, nI22, nS22, nI23, nS23, nI24, nS24, nI25, nS25, nI26, nS26, nI27, nS27, nI32, nS32, nI36, nS36, nI37, nS37, nI40, nS40, nSZ1, nV, nC, ↓reduceIte, tr_lt, fa_lt, tr_le, fa_le, tr_eq, fa_eq, and_true, true_and, and_false, false_and, il0, il1, il2, il3, il4, il5, il6, il7, il8, il9, il10, il11, il12, il15, il16, il20, il24, il31, il32, il44, il45, il48, il50, il57, il58, il59, il63, il91, il93, il97, il99, il100, il109, il113, il119, il120, il122, il200, il255, il480, il500, il501, il512, il999, il4112, il41120, il1000000, il1000003, ii_add, ii_sub, ii_mul, ii_neg, ii_le, ii_lt, ii_eq, ii_div, q_I, q_V, q_R, lt_q, rZ_q, md_M, md_16, md_4, md_8, md_10, if_true, if_false, if_pos, if_neg, mg_3, mg_0, mg_1, mg_2, mg_k, mg_up3, mg_upk]
theorem e_fetches (k : Int) (hk : 0 ≤ k ∧ k < 10) : ∃ h : Int → Int, fX7_fetches 0 (ii k) (NW K (mg M g)) = some (Sum.inl none, NW K (mg M h)) ∧ ∀ z, 0 ≤ z → z < 4112 → h z = M 5 (4112 * k + z) := by
  simp only [fX7_fetches, il0]
  refine lp (fun m i (s : Int → Int) => fX7_fetches_2 m 0 (ii k) (ii i) (NW K (mg M s))) (fun x => ∃ h : Int → Int, x = some (Sum.inl none, NW K (mg M h)) ∧ ∀ z, 0 ≤ z → z < 4112 → h z = M 5 (4112 * k + z)) (fun i s => 0 ≤ i ∧ ∀ z, 0 ≤ z → z < i → s z = M 5 (4112 * k + z)) 4112 ?_ ?_ FU 0 g (by omega) ⟨by omega, fun z a b => by omega⟩ (by have := FU_e; omega)
  · rintro m i s hi ⟨hJ, hs⟩
    refine Or.inr ⟨gu s i (M 5 (4112 * k + i)), ⟨by omega, fun z a b => ?_⟩, ?_⟩
    · unfold gu
      by_cases y : z = i
      · rw [if_pos y, y]
      · rw [if_neg y]; exact hs z a (by omega)
    · simp (disch := first | assumption | omega) only [fX7_fetches_2, nR1, nA1, nU1, nR2, nA2, nU2, nR3, nA3, nU3, nR4, nA4, nU4, nR5, nA5, nU5, nR6, nA6, nU6, nR7, nA7, nU7, nR8, nA8, nU8, nR9, nA9, nU9, nR10, nA10, nU10, nR11, nA11, nU11, nR12, nA12, nU12, nR13, nA13, nU13, nR14, nA14, nU14, nR15, nA15, nU15, nR16, nA16, nU16, nI0, nS0, nI1, nS1, nI2, nS2, nI3, nS3, nI4, nS4, nI5, nS5, nI6, nS6, nI7, nS7, nI8, nS8, nI9, nS9, nI15, nS15, nI18, nS18, nI19, nS19, nI20, nS20, nI21, nS21, nI22, nS22, nI23, nS23, nI24, nS24, nI25, nS25, nI26, nS26, nI27, nS27, nI32, nS32, nI36, nS36, nI37, nS37, nI40, nS40, nSZ1, nV, nC, ↓reduceIte, tr_lt, fa_lt, tr_le, fa_le, tr_eq, fa_eq, and_true, true_and, and_false, false_and, il0, il1, il2, il3, il4, il5, il6, il7, il8, il9, il10, il11, il12, il15, il16, il20, il24, il31, il32, il44, il45, il48, il50, il57, il58, il59, il63, il91, il93, il97, il99, il100, il109, il113, il119, il120, il122, il200, il255, il480, il500, il501, il512, il999, il4112, il41120, il1000000, il1000003, ii_add, ii_sub, ii_mul, ii_neg, ii_le, ii_lt, ii_eq, ii_div, q_I, q_V, q_R, lt_q, rZ_q, md_M, md_16, md_4, md_8, md_10, if_true, if_false, if_pos, if_neg, mg_3, mg_0, mg_1, mg_2, mg_k, mg_up3, mg_upk]
  · rintro m s ⟨hJ, hs⟩
    refine ⟨s, ?_, hs⟩
    simp (disch := first | assumption | omega) only [fX7_fetches_2, nR1, nA1, nU1, nR2, nA2, nU2, nR3, nA3, nU3, nR4, nA4, nU4, nR5, nA5, nU5, nR6, nA6, nU6, nR7, nA7, nU7, nR8, nA8, nU8, nR9, nA9, nU9, nR10, nA10, nU10, nR11, nA11, nU11, nR12, nA12, nU12, nR13, nA13, nU13, nR14, nA14, nU14, nR15, nA15, nU15, nR16, nA16, nU16, nI0, nS0, nI1, nS1, nI2, nS2, nI3, nS3, nI4, nS4, nI5, nS5, nI6, nS6, nI7, nS7, nI8, nS8, nI9, nS9, nI15, nS15, nI18, nS18, nI19, nS19, nI20, nS20, nI21, nS21, nI22, nS22, nI23, nS23, nI24, nS24, nI25, nS25, nI26, nS26, nI27, nS27, nI32, nS32, nI36, nS36, nI37, nS37, nI40, nS40, nSZ1, nV, nC, ↓reduceIte, tr_lt, fa_lt, tr_le, fa_le, tr_eq, fa_eq, and_true, true_and, and_false, false_and, il0, il1, il2, il3, il4, il5, il6, il7, il8, il9, il10, il11, il12, il15, il16, il20, il24, il31, il32, il44, il45, il48, il50, il57, il58, il59, il63, il91, il93, il97, il99, il100, il109, il113, il119, il120, il122, il200, il255, il480, il500, il501, il512, il999, il4112, il41120, il1000000, il1000003, ii_add, ii_sub, ii_mul, ii_neg, ii_le, ii_lt, ii_eq, ii_div, q_I, q_V, q_R, lt_q, rZ_q, md_M, md_16, md_4, md_8, md_10, if_true, if_false, if_pos, if_neg, mg_3, mg_0, mg_1, mg_2, mg_k, mg_up3, mg_upk]
end STO2
