/-! THE READER: the model's tokens; both sides -/
def nmL (b : Int → Int) (F i : Int) : Int := if i - F ≤ 3 then nvN b F (i - F).toNat else 0
theorem up_same (M : AI) (b : Nat) (z v : Int) (h : M b z = v) : up M b z v = M := by
  funext a y
  unfold up
  split
  case isTrue q => rw [q.1, q.2, h]
  case isFalse q => rfl
section MTK
variable {K : Nat × Nat} {M : AI} {g : Int → Int} {n : Int}
theorem m_seen (h21 : M 0 21 = n) (hn : 0 ≤ n ∧ n ≤ 500) (k : Int) (hk : 0 ≤ k ∧ k ≤ 1000) : fX7_seen 0 (ii k) (NW K (mg M g)) = some (Sum.inl (some (Value.int (ii (if n ≤ k then -1 else M 7 k)))), NW K (mg M g)) := by
  by_cases q : n ≤ k
  · rw [if_pos q]
    simp (disch := first | assumption | omega) only [fX7_seen, nR1, nA1, nU1, nR2, nA2, nU2, nR3, nA3, nU3, nR4, nA4, nU4, nR5, nA5, nU5, nR6, nA6, nU6, nR7, nA7, nU7, nR8, nA8, nU8, nR9, nA9, nU9, nR10, nA10, nU10, nR11, nA11, nU11, nR12, nA12, nU12, nR13, nA13, nU13, nR14, nA14, nU14, nR15, nA15, nU15, nR16, nA16, nU16, nI0, nS0, nI1, nS1, nI2, nS2, nI3, nS3, nI4, nS4, nI5, nS5, nI6, nS6, nI7, nS7, nI8, nS8, nI9, nS9, nI15, nS15, nI18, nS18, nI19, nS19, nI20, nS20, nI21, nS21, nI22, nS22, nI23, nS23, nI24, nS24, nI25, nS25, nI26, nS26, nI27, nS27, nI32, nS32, nI36, nS36, nI37, nS37, nI40, nS40, nSZ1, nV, nC, ↓reduceIte, tr_lt, fa_lt, tr_le, fa_le, tr_eq, fa_eq, and_true, true_and, and_false, false_and, il0, il1, il2, il3, il4, il5, il6, il7, il8, il9, il10, il11, il12, il15, il16, il20, il24, il31, il32, il44, il45, il48, il50, il57, il58, il59, il63, il91, il93, il97, il99, il100, il109, il113, il119, il120, il122, il200, il255, il480, il500, il501, il512, il999, il4112, il41120, il1000000, il1000003, ii_add, ii_sub, ii_mul, ii_neg, ii_le, ii_lt, ii_eq, ii_div, q_I, q_V, q_R, lt_q, rZ_q, md_M, md_16, md_4, md_8, md_10, if_true, if_false, if_pos, if_neg, mg_3, mg_0, mg_1, mg_2, mg_k, mg_up3, mg_upk, h21]
  · rw [if_neg q]
    simp (disch := first | assumption | omega) only [fX7_seen, nR1, nA1, nU1, nR2, nA2, nU2, nR3, nA3, nU3, nR4, nA4, nU4, nR5, nA5, nU5, nR6, nA6, nU6, nR7, nA7, nU7, nR8, nA8, nU8, nR9, nA9, nU9, nR10, nA10, nU10, nR11, nA11, nU11, nR12, nA12, nU12, nR13, nA13, nU13, nR14, nA14, nU14, nR15, nA15, nU15, nR16, nA16, nU16, nI0, nS0, nI1, nS1, nI2, nS2, nI3, nS3, nI4, nS4, nI5, nS5, nI6, nS6, nI7, nS7, nI8, nS8, nI9, nS9, nI15, nS15, nI18, nS18, nI19, nS19, nI20, nS20, nI21, nS21, nI22, nS22, nI23, nS23, nI24, nS24, nI25, nS25, nI26, nS26, nI27, nS27, nI32, nS32, nI36, nS36, nI37, nS37, nI40, nS40, nSZ1, nV, nC, ↓reduceIte, tr_lt, fa_lt, tr_le, fa_le, tr_eq, fa_eq, and_true, true_and, and_false, false_and, il0, il1, il2, il3, il4, il5, il6, il7, il8, il9, il10, il11, il12, il15, il16, il20, il24, il31, il32, il44, il45, il48, il50, il57, il58, il59, il63, il91, il93, il97, il99, il100, il109, il113, il119, il120, il122, il200, il255, il480, il500, il501, il512, il999, il4112, il41120, il1000000, il1000003, ii_add, ii_sub, ii_mul, ii_neg, ii_le, ii_lt, ii_eq, ii_div, q_I, q_V, q_R, lt_q, rZ_q, md_M, md_16, md_4, md_8, md_10, if_true, if_false, if_pos, if_neg, mg_3, mg_0, mg_1, mg_2, mg_k, mg_up3, mg_upk, h21]
theorem m_small (v : Int) (hv : -1 ≤ v ∧ v ≤ 255) (W : AS) : fX7_isSmall (ii v) W = some (Sum.inl (some (Value.int (ii (if 97 ≤ v ∧ v ≤ 122 then 1 else 0)))), W) := by
  by_cases h1 : v < 97
  · rw [if_neg (by omega)]
    simp (disch := first | assumption | omega) only [fX7_isSmall, ↓reduceIte, tr_lt, fa_lt, tr_le, fa_le, tr_eq, fa_eq, and_true, true_and, and_false, false_and, il0, il1, il2, il3, il4, il5, il6, il7, il8, il9, il10, il11, il12, il15, il16, il20, il24, il31, il32, il44, il45, il48, il50, il57, il58, il59, il63, il91, il93, il97, il99, il100, il109, il113, il119, il120, il122, il200, il255, il480, il500, il501, il512, il999, il4112, il41120, il1000000, il1000003, ii_add, ii_sub, ii_mul, ii_neg, ii_le, ii_lt, ii_eq, ii_div, q_I, q_V, q_R, lt_q, rZ_q, md_M, md_16, md_4, md_8, md_10, if_true, if_false, if_pos, if_neg]
  · by_cases h2 : 122 < v
    · rw [if_neg (by omega)]
      simp (disch := first | assumption | omega) only [fX7_isSmall, ↓reduceIte, tr_lt, fa_lt, tr_le, fa_le, tr_eq, fa_eq, and_true, true_and, and_false, false_and, il0, il1, il2, il3, il4, il5, il6, il7, il8, il9, il10, il11, il12, il15, il16, il20, il24, il31, il32, il44, il45, il48, il50, il57, il58, il59, il63, il91, il93, il97, il99, il100, il109, il113, il119, il120, il122, il200, il255, il480, il500, il501, il512, il999, il4112, il41120, il1000000, il1000003, ii_add, ii_sub, ii_mul, ii_neg, ii_le, ii_lt, ii_eq, ii_div, q_I, q_V, q_R, lt_q, rZ_q, md_M, md_16, md_4, md_8, md_10, if_true, if_false, if_pos, if_neg]
    · rw [if_pos (by omega)]
      simp (disch := first | assumption | omega) only [fX7_isSmall, ↓reduceIte, tr_lt, fa_lt, tr_le, fa_le, tr_eq, fa_eq, and_true, true_and, and_false, false_and, il0, il1, il2, il3, il4, il5, il6, il7, il8, il9, il10, il11, il12, il15, il16, il20, il24, il31, il32, il44, il45, il48, il50, il57, il58, il59, il63, il91, il93, il97, il99, il100, il109, il113, il119, il120, il122, il200, il255, il480, il500, il501, il512, il999, il4112, il41120, il1000000, il1000003, ii_add, ii_sub, ii_mul, ii_neg, ii_le, ii_lt, ii_eq, ii_div, q_I, q_V, q_R, lt_q, rZ_q, md_M, md_16, md_4, md_8, md_10, if_true, if_false, if_pos, if_neg]
theorem m_digit (v : Int) (hv : -1 ≤ v ∧ v ≤ 255) (W : AS) : fX7_isDigit (ii v) W = some (Sum.inl (some (Value.int (ii (if 48 ≤ v ∧ v ≤ 57 then 1 else 0)))), W) := by
  by_cases h1 : v < 48
  · rw [if_neg (by omega)]
    simp (disch := first | assumption | omega) only [fX7_isDigit, ↓reduceIte, tr_lt, fa_lt, tr_le, fa_le, tr_eq, fa_eq, and_true, true_and, and_false, false_and, il0, il1, il2, il3, il4, il5, il6, il7, il8, il9, il10, il11, il12, il15, il16, il20, il24, il31, il32, il44, il45, il48, il50, il57, il58, il59, il63, il91, il93, il97, il99, il100, il109, il113, il119, il120, il122, il200, il255, il480, il500, il501, il512, il999, il4112, il41120, il1000000, il1000003, ii_add, ii_sub, ii_mul, ii_neg, ii_le, ii_lt, ii_eq, ii_div, q_I, q_V, q_R, lt_q, rZ_q, md_M, md_16, md_4, md_8, md_10, if_true, if_false, if_pos, if_neg]
  · by_cases h2 : 57 < v
    · rw [if_neg (by omega)]
      simp (disch := first | assumption | omega) only [fX7_isDigit, ↓reduceIte, tr_lt, fa_lt, tr_le, fa_le, tr_eq, fa_eq, and_true, true_and, and_false, false_and, il0, il1, il2, il3, il4, il5, il6, il7, il8, il9, il10, il11, il12, il15, il16, il20, il24, il31, il32, il44, il45, il48, il50, il57, il58, il59, il63, il91, il93, il97, il99, il100, il109, il113, il119, il120, il122, il200, il255, il480, il500, il501, il512, il999, il4112, il41120, il1000000, il1000003, ii_add, ii_sub, ii_mul, ii_neg, ii_le, ii_lt, ii_eq, ii_div, q_I, q_V, q_R, lt_q, rZ_q, md_M, md_16, md_4, md_8, md_10, if_true, if_false, if_pos, if_neg]
    · rw [if_pos (by omega)]
      simp (disch := first | assumption | omega) only [fX7_isDigit, ↓reduceIte, tr_lt, fa_lt, tr_le, fa_le, tr_eq, fa_eq, and_true, true_and, and_false, false_and, il0, il1, il2, il3, il4, il5, il6, il7, il8, il9, il10, il11, il12, il15, il16, il20, il24, il31, il32, il44, il45, il48, il50, il57, il58, il59, il63, il91, il93, il97, il99, il100, il109, il113, il119, il120, il122, il200, il255, il480, il500, il501, il512, il999, il4112, il41120, il1000000, il1000003, ii_add, ii_sub, ii_mul, ii_neg, ii_le, ii_lt, ii_eq, ii_div, q_I, q_V, q_R, lt_q, rZ_q, md_M, md_16, md_4, md_8, md_10, if_true, if_false, if_pos, if_neg]
theorem m_skip (h21 : M 0 21 = n) (hn : 0 ≤ n ∧ n ≤ 500) (hb : ∀ k, 0 ≤ k → k < n → 0 ≤ M 7 k ∧ M 7 k ≤ 255) (p : Int) (hp : 0 ≤ p ∧ p ≤ n) : fX7_token_0 FU 0 (NW K (mg (up M 0 22 p) g)) = fX7_token_26 0 (NW K (mg (up M 0 22 (sk (M 7) n p)) g)) := by
  have hs := sk_b (M 7) n p hp.2
  refine lp (fun m i (_ : Unit) => fX7_token_0 m 0 (NW K (mg (up M 0 22 i) g))) (fun x => x = fX7_token_26 0 (NW K (mg (up M 0 22 (sk (M 7) n p)) g))) (fun i _ => p ≤ i ∧ sk (M 7) n i = sk (M 7) n p) (sk (M 7) n p) ?_ ?_ FU p () hs.1 ⟨by omega, rfl⟩ (by have := FU_e; omega)
  · rintro m i _ hi ⟨hI, he⟩
    have x22 : up M 0 22 i 0 22 = i := up_s _ _ _ _
    have x21 : up M 0 22 i 0 21 = n := by rw [up_n _ _ _ _ _ _ (by omega)]; exact h21
    have hbi := hb i (by omega) (by omega)
    have h32 : M 7 i = 32 := by
      by_cases q : M 7 i = 32
      · exact q
      · rw [sk_2 (M 7) n i q] at he; omega
    have hse := m_seen (K := K) (g := g) x21 hn i (by omega)
    rw [if_neg (by omega), up_n _ _ _ _ _ _ (by omega), h32] at hse
    refine Or.inr ⟨(), ⟨by omega, by rw [← he]; exact (sk_1 (M 7) n i (by omega) h32).symm⟩, ?_⟩
    simp (disch := first | assumption | omega) only [fX7_token_0, nR1, nA1, nU1, nR2, nA2, nU2, nR3, nA3, nU3, nR4, nA4, nU4, nR5, nA5, nU5, nR6, nA6, nU6, nR7, nA7, nU7, nR8, nA8, nU8, nR9, nA9, nU9, nR10, nA10, nU10, nR11, nA11, nU11, nR12, nA12, nU12, nR13, nA13, nU13, nR14, nA14, nU14, nR15, nA15, nU15, nR16, nA16, nU16, nI0, nS0, nI1, nS1, nI2, nS2, nI3, nS3, nI4, nS4, nI5, nS5, nI6, nS6, nI7, nS7, nI8, nS8, nI9, nS9, nI15, nS15, nI18, nS18, nI19, nS19, nI20, nS20, nI21, nS21, nI22, nS22, nI23, nS23, nI24, nS24, nI25, nS25, nI26, nS26, nI27, nS27, nI32, nS32, nI36, nS36, nI37, nS37, nI40, nS40, nSZ1, nV, nC, ↓reduceIte, tr_lt, fa_lt, tr_le, fa_le, tr_eq, fa_eq, and_true, true_and, and_false, false_and, il0, il1, il2, il3, il4, il5, il6, il7, il8, il9, il10, il11, il12, il15, il16, il20, il24, il31, il32, il44, il45, il48, il50, il57, il58, il59, il63, il91, il93, il97, il99, il100, il109, il113, il119, il120, il122, il200, il255, il480, il500, il501, il512, il999, il4112, il41120, il1000000, il1000003, ii_add, ii_sub, ii_mul, ii_neg, ii_le, ii_lt, ii_eq, ii_div, q_I, q_V, q_R, lt_q, rZ_q, md_M, md_16, md_4, md_8, md_10, if_true, if_false, if_pos, if_neg, mg_3, mg_0, mg_1, mg_2, mg_k, mg_up3, mg_upk, x22, hse, up_up]
  · rintro m _ ⟨hI, he⟩
    have x22 : up M 0 22 (sk (M 7) n p) 0 22 = sk (M 7) n p := up_s _ _ _ _
    have x21 : up M 0 22 (sk (M 7) n p) 0 21 = n := by rw [up_n _ _ _ _ _ _ (by omega)]; exact h21
    have hse := m_seen (K := K) (g := g) x21 hn (sk (M 7) n p) (by omega)
    by_cases q : n ≤ sk (M 7) n p
    · rw [if_pos q] at hse
      simp (disch := first | assumption | omega) only [fX7_token_0, nR1, nA1, nU1, nR2, nA2, nU2, nR3, nA3, nU3, nR4, nA4, nU4, nR5, nA5, nU5, nR6, nA6, nU6, nR7, nA7, nU7, nR8, nA8, nU8, nR9, nA9, nU9, nR10, nA10, nU10, nR11, nA11, nU11, nR12, nA12, nU12, nR13, nA13, nU13, nR14, nA14, nU14, nR15, nA15, nU15, nR16, nA16, nU16, nI0, nS0, nI1, nS1, nI2, nS2, nI3, nS3, nI4, nS4, nI5, nS5, nI6, nS6, nI7, nS7, nI8, nS8, nI9, nS9, nI15, nS15, nI18, nS18, nI19, nS19, nI20, nS20, nI21, nS21, nI22, nS22, nI23, nS23, nI24, nS24, nI25, nS25, nI26, nS26, nI27, nS27, nI32, nS32, nI36, nS36, nI37, nS37, nI40, nS40, nSZ1, nV, nC, ↓reduceIte, tr_lt, fa_lt, tr_le, fa_le, tr_eq, fa_eq, and_true, true_and, and_false, false_and, il0, il1, il2, il3, il4, il5, il6, il7, il8, il9, il10, il11, il12, il15, il16, il20, il24, il31, il32, il44, il45, il48, il50, il57, il58, il59, il63, il91, il93, il97, il99, il100, il109, il113, il119, il120, il122, il200, il255, il480, il500, il501, il512, il999, il4112, il41120, il1000000, il1000003, ii_add, ii_sub, ii_mul, ii_neg, ii_le, ii_lt, ii_eq, ii_div, q_I, q_V, q_R, lt_q, rZ_q, md_M, md_16, md_4, md_8, md_10, if_true, if_false, if_pos, if_neg, mg_3, mg_0, mg_1, mg_2, mg_k, mg_up3, mg_upk, x22, hse]
    · have hbi := hb (sk (M 7) n p) (by omega) (by omega)
      have h32 := hs.2.2 (by omega)
      rw [if_neg q, up_n _ _ _ _ _ _ (by omega)] at hse
      simp (disch := first | assumption | omega) only [fX7_token_0, nR1, nA1, nU1, nR2, nA2, nU2, nR3, nA3, nU3, nR4, nA4, nU4, nR5, nA5, nU5, nR6, nA6, nU6, nR7, nA7, nU7, nR8, nA8, nU8, nR9, nA9, nU9, nR10, nA10, nU10, nR11, nA11, nU11, nR12, nA12, nU12, nR13, nA13, nU13, nR14, nA14, nU14, nR15, nA15, nU15, nR16, nA16, nU16, nI0, nS0, nI1, nS1, nI2, nS2, nI3, nS3, nI4, nS4, nI5, nS5, nI6, nS6, nI7, nS7, nI8, nS8, nI9, nS9, nI15, nS15, nI18, nS18, nI19, nS19, nI20, nS20, nI21, nS21, nI22, nS22, nI23, nS23, nI24, nS24, nI25, nS25, nI26, nS26, nI27, nS27, nI32, nS32, nI36, nS36, nI37, nS37, nI40, nS40, nSZ1, nV, nC, ↓reduceIte, tr_lt, fa_lt, tr_le, fa_le, tr_eq, fa_eq, and_true, true_and, and_false, false_and, il0, il1, il2, il3, il4, il5, il6, il7, il8, il9, il10, il11, il12, il15, il16, il20, il24, il31, il32, il44, il45, il48, il50, il57, il58, il59, il63, il91, il93, il97, il99, il100, il109, il113, il119, il120, il122, il200, il255, il480, il500, il501, il512, il999, il4112, il41120, il1000000, il1000003, ii_add, ii_sub, ii_mul, ii_neg, ii_le, ii_lt, ii_eq, ii_div, q_I, q_V, q_R, lt_q, rZ_q, md_M, md_16, md_4, md_8, md_10, if_true, if_false, if_pos, if_neg, mg_3, mg_0, mg_1, mg_2, mg_k, mg_up3, mg_upk, x22, hse]
theorem m_tok0 (h21 : M 0 21 = n) (hn : 0 ≤ n ∧ n ≤ 500) (hb : ∀ k, 0 ≤ k → k < n → 0 ≤ M 7 k ∧ M 7 k ≤ 255) (p : Int) (h22 : M 0 22 = p) (hp : 0 ≤ p ∧ p ≤ n) : fX7_token 0 (NW K (mg M g)) = fX7_token_26 0 (NW K (mg (up M 0 22 (sk (M 7) n p)) g)) := by
  have hse := m_seen (K := K) (g := g) h21 hn p (by omega)
  by_cases q : n ≤ p
  · rw [if_pos q] at hse
    rw [sk_3 (M 7) n p q, up_same M 0 22 p h22]
    simp (disch := first | assumption | omega) only [fX7_token, nR1, nA1, nU1, nR2, nA2, nU2, nR3, nA3, nU3, nR4, nA4, nU4, nR5, nA5, nU5, nR6, nA6, nU6, nR7, nA7, nU7, nR8, nA8, nU8, nR9, nA9, nU9, nR10, nA10, nU10, nR11, nA11, nU11, nR12, nA12, nU12, nR13, nA13, nU13, nR14, nA14, nU14, nR15, nA15, nU15, nR16, nA16, nU16, nI0, nS0, nI1, nS1, nI2, nS2, nI3, nS3, nI4, nS4, nI5, nS5, nI6, nS6, nI7, nS7, nI8, nS8, nI9, nS9, nI15, nS15, nI18, nS18, nI19, nS19, nI20, nS20, nI21, nS21, nI22, nS22, nI23, nS23, nI24, nS24, nI25, nS25, nI26, nS26, nI27, nS27, nI32, nS32, nI36, nS36, nI37, nS37, nI40, nS40, nSZ1, nV, nC, ↓reduceIte, tr_lt, fa_lt, tr_le, fa_le, tr_eq, fa_eq, and_true, true_and, and_false, false_and, il0, il1, il2, il3, il4, il5, il6, il7, il8, il9, il10, il11, il12, il15, il16, il20, il24, il31, il32, il44, il45, il48, il50, il57, il58, il59, il63, il91, il93, il97, il99, il100, il109, il113, il119, il120, il122, il200, il255, il480, il500, il501, il512, il999, il4112, il41120, il1000000, il1000003, ii_add, ii_sub, ii_mul, ii_neg, ii_le, ii_lt, ii_eq, ii_div, q_I, q_V, q_R, lt_q, rZ_q, md_M, md_16, md_4, md_8, md_10, if_true, if_false, if_pos, if_neg, mg_3, mg_0, mg_1, mg_2, mg_k, mg_up3, mg_upk, h22, hse]
  · have hbi := hb p (by omega) (by omega)
    rw [if_neg q] at hse
    by_cases q2 : M 7 p = 32
    · rw [q2] at hse
      rw [sk_1 (M 7) n p (by omega) q2, ← m_skip (K := K) (g := g) h21 hn hb (p + 1) (by omega)]
      simp (disch := first | assumption | omega) only [fX7_token, nR1, nA1, nU1, nR2, nA2, nU2, nR3, nA3, nU3, nR4, nA4, nU4, nR5, nA5, nU5, nR6, nA6, nU6, nR7, nA7, nU7, nR8, nA8, nU8, nR9, nA9, nU9, nR10, nA10, nU10, nR11, nA11, nU11, nR12, nA12, nU12, nR13, nA13, nU13, nR14, nA14, nU14, nR15, nA15, nU15, nR16, nA16, nU16, nI0, nS0, nI1, nS1, nI2, nS2, nI3, nS3, nI4, nS4, nI5, nS5, nI6, nS6, nI7, nS7, nI8, nS8, nI9, nS9, nI15, nS15, nI18, nS18, nI19, nS19, nI20, nS20, nI21, nS21, nI22, nS22, nI23, nS23, nI24, nS24, nI25, nS25, nI26, nS26, nI27, nS27, nI32, nS32, nI36, nS36, nI37, nS37, nI40, nS40, nSZ1, nV, nC, ↓reduceIte, tr_lt, fa_lt, tr_le, fa_le, tr_eq, fa_eq, and_true, true_and, and_false, false_and, il0, il1, il2, il3, il4, il5, il6, il7, il8, il9, il10, il11, il12, il15, il16, il20, il24, il31, il32, il44, il45, il48, il50, il57, il58, il59, il63, il91, il93, il97, il99, il100, il109, il113, il119, il120, il122, il200, il255, il480, il500, il501, il512, il999, il4112, il41120, il1000000, il1000003, ii_add, ii_sub, ii_mul, ii_neg, ii_le, ii_lt, ii_eq, ii_div, q_I, q_V, q_R, lt_q, rZ_q, md_M, md_16, md_4, md_8, md_10, if_true, if_false, if_pos, if_neg, mg_3, mg_0, mg_1, mg_2, mg_k, mg_up3, mg_upk, h22, hse]
    · rw [sk_2 (M 7) n p q2, up_same M 0 22 p h22]
      simp (disch := first | assumption | omega) only [fX7_token, nR1, nA1, nU1, nR2, nA2, nU2, nR3, nA3, nU3, nR4, nA4, nU4, nR5, nA5, nU5, nR6, nA6, nU6, nR7, nA7, nU7, nR8, nA8, nU8, nR9, nA9, nU9, nR10, nA10, nU10, nR11, nA11, nU11, nR12, nA12, nU12, nR13, nA13, nU13, nR14, nA14, nU14, nR15, nA15, nU15, nR16, nA16, nU16, nI0, nS0, nI1, nS1, nI2, nS2, nI3, nS3, nI4, nS4, nI5, nS5, nI6, nS6, nI7, nS7, nI8, nS8, nI9, nS9, nI15, nS15, nI18, nS18, nI19, nS19, nI20, nS20, nI21, nS21, nI22, nS22, nI23, nS23, nI24, nS24, nI25, nS25, nI26, nS26, nI27, nS27, nI32, nS32, nI36, nS36, nI37, nS37, nI40, nS40, nSZ1, nV, nC, ↓reduceIte, tr_lt, fa_lt, tr_le, fa_le, tr_eq, fa_eq, and_true, true_and, and_false, false_and, il0, il1, il2, il3, il4, il5, il6, il7, il8, il9, il10, il11, il12, il15, il16, il20, il24, il31, il32, il44, il45, il48, il50, il57, il58, il59, il63, il91, il93, il97, il99, il100, il109, il113, il119, il120, il122, il200, il255, il480, il500, il501, il512, il999, il4112, il41120, il1000000, il1000003, ii_add, ii_sub, ii_mul, ii_neg, ii_le, ii_lt, ii_eq, ii_div, q_I, q_V, q_R, lt_q, rZ_q, md_M, md_16, md_4, md_8, md_10, if_true, if_false, if_pos, if_neg, mg_3, mg_0, mg_1, mg_2, mg_k, mg_up3, mg_upk, h22, hse]
theorem m_run (h21 : M 0 21 = n) (hn : 0 ≤ n ∧ n ≤ 500) (hb : ∀ k, 0 ≤ k → k < n → 0 ≤ M 7 k ∧ M 7 k ≤ 255) (p : Int) (hp : 0 ≤ p ∧ p ≤ n) : fX7_token_63 FU 0 (NW K (mg (up M 0 22 p) g)) = fX7_token_90 0 (NW K (mg (up M 0 22 (rn (M 7) n 97 122 p)) g)) := by
  have hs := rn_b (M 7) n 97 122 p hp.2
  refine lp (fun m i (_ : Unit) => fX7_token_63 m 0 (NW K (mg (up M 0 22 i) g))) (fun x => x = fX7_token_90 0 (NW K (mg (up M 0 22 (rn (M 7) n 97 122 p)) g))) (fun i _ => p ≤ i ∧ rn (M 7) n 97 122 i = rn (M 7) n 97 122 p) (rn (M 7) n 97 122 p) ?_ ?_ FU p () hs.1 ⟨by omega, rfl⟩ (by have := FU_e; omega)
  · rintro m i _ hi ⟨hI, he⟩
    have x22 : up M 0 22 i 0 22 = i := up_s _ _ _ _
    have x21 : up M 0 22 i 0 21 = n := by rw [up_n _ _ _ _ _ _ (by omega)]; exact h21
    have hbi := hb i (by omega) (by omega)
    have hin := hs.2.2.2 i hI hi
    have hse := m_seen (K := K) (g := g) x21 hn i (by omega)
    rw [if_neg (by omega), up_n _ _ _ _ _ _ (by omega)] at hse
    have hsm := m_small (M 7 i) (by omega) (NW K (mg (up M 0 22 i) g))
    rw [if_pos hin] at hsm
    refine Or.inr ⟨(), ⟨by omega, by rw [← he]; exact (rn_1 (M 7) n 97 122 i (by omega) hin).symm⟩, ?_⟩
    simp (disch := first | assumption | omega) only [fX7_token_63, nR1, nA1, nU1, nR2, nA2, nU2, nR3, nA3, nU3, nR4, nA4, nU4, nR5, nA5, nU5, nR6, nA6, nU6, nR7, nA7, nU7, nR8, nA8, nU8, nR9, nA9, nU9, nR10, nA10, nU10, nR11, nA11, nU11, nR12, nA12, nU12, nR13, nA13, nU13, nR14, nA14, nU14, nR15, nA15, nU15, nR16, nA16, nU16, nI0, nS0, nI1, nS1, nI2, nS2, nI3, nS3, nI4, nS4, nI5, nS5, nI6, nS6, nI7, nS7, nI8, nS8, nI9, nS9, nI15, nS15, nI18, nS18, nI19, nS19, nI20, nS20, nI21, nS21, nI22, nS22, nI23, nS23, nI24, nS24, nI25, nS25, nI26, nS26, nI27, nS27, nI32, nS32, nI36, nS36, nI37, nS37, nI40, nS40, nSZ1, nV, nC, ↓reduceIte, tr_lt, fa_lt, tr_le, fa_le, tr_eq, fa_eq, and_true, true_and, and_false, false_and, il0, il1, il2, il3, il4, il5, il6, il7, il8, il9, il10, il11, il12, il15, il16, il20, il24, il31, il32, il44, il45, il48, il50, il57, il58, il59, il63, il91, il93, il97, il99, il100, il109, il113, il119, il120, il122, il200, il255, il480, il500, il501, il512, il999, il4112, il41120, il1000000, il1000003, ii_add, ii_sub, ii_mul, ii_neg, ii_le, ii_lt, ii_eq, ii_div, q_I, q_V, q_R, lt_q, rZ_q, md_M, md_16, md_4, md_8, md_10, if_true, if_false, if_pos, if_neg, mg_3, mg_0, mg_1, mg_2, mg_k, mg_up3, mg_upk, x22, hse, hsm, up_up]
  · rintro m _ ⟨hI, he⟩
    have x22 : up M 0 22 (rn (M 7) n 97 122 p) 0 22 = rn (M 7) n 97 122 p := up_s _ _ _ _
    have x21 : up M 0 22 (rn (M 7) n 97 122 p) 0 21 = n := by rw [up_n _ _ _ _ _ _ (by omega)]; exact h21
    have hse := m_seen (K := K) (g := g) x21 hn (rn (M 7) n 97 122 p) (by omega)
    by_cases q : n ≤ rn (M 7) n 97 122 p
    · rw [if_pos q] at hse
      have hsm := m_small (-1) (by omega) (NW K (mg (up M 0 22 (rn (M 7) n 97 122 p)) g))
      rw [if_neg (by omega)] at hsm
      simp (disch := first | assumption | omega) only [fX7_token_63, nR1, nA1, nU1, nR2, nA2, nU2, nR3, nA3, nU3, nR4, nA4, nU4, nR5, nA5, nU5, nR6, nA6, nU6, nR7, nA7, nU7, nR8, nA8, nU8, nR9, nA9, nU9, nR10, nA10, nU10, nR11, nA11, nU11, nR12, nA12, nU12, nR13, nA13, nU13, nR14, nA14, nU14, nR15, nA15, nU15, nR16, nA16, nU16, nI0, nS0, nI1, nS1, nI2, nS2, nI3, nS3, nI4, nS4, nI5, nS5, nI6, nS6, nI7, nS7, nI8, nS8, nI9, nS9, nI15, nS15, nI18, nS18, nI19, nS19, nI20, nS20, nI21, nS21, nI22, nS22, nI23, nS23, nI24, nS24, nI25, nS25, nI26, nS26, nI27, nS27, nI32, nS32, nI36, nS36, nI37, nS37, nI40, nS40, nSZ1, nV, nC, ↓reduceIte, tr_lt, fa_lt, tr_le, fa_le, tr_eq, fa_eq, and_true, true_and, and_false, false_and, il0, il1, il2, il3, il4, il5, il6, il7, il8, il9, il10, il11, il12, il15, il16, il20, il24, il31, il32, il44, il45, il48, il50, il57, il58, il59, il63, il91, il93, il97, il99, il100, il109, il113, il119, il120, il122, il200, il255, il480, il500, il501, il512, il999, il4112, il41120, il1000000, il1000003, ii_add, ii_sub, ii_mul, ii_neg, ii_le, ii_lt, ii_eq, ii_div, q_I, q_V, q_R, lt_q, rZ_q, md_M, md_16, md_4, md_8, md_10, if_true, if_false, if_pos, if_neg, mg_3, mg_0, mg_1, mg_2, mg_k, mg_up3, mg_upk, x22, hse, hsm]
    · have hbi := hb (rn (M 7) n 97 122 p) (by omega) (by omega)
      rw [if_neg q, up_n _ _ _ _ _ _ (by omega)] at hse
      have hsm := m_small (M 7 (rn (M 7) n 97 122 p)) (by omega) (NW K (mg (up M 0 22 (rn (M 7) n 97 122 p)) g))
      rw [if_neg (hs.2.2.1 (by omega))] at hsm
      simp (disch := first | assumption | omega) only [fX7_token_63, nR1, nA1, nU1, nR2, nA2, nU2, nR3, nA3, nU3, nR4, nA4, nU4, nR5, nA5, nU5, nR6, nA6, nU6, nR7, nA7, nU7, nR8, nA8, nU8, nR9, nA9, nU9, nR10, nA10, nU10, nR11, nA11, nU11, nR12, nA12, nU12, nR13, nA13, nU13, nR14, nA14, nU14, nR15, nA15, nU15, nR16, nA16, nU16, nI0, nS0, nI1, nS1, nI2, nS2, nI3, nS3, nI4, nS4, nI5, nS5, nI6, nS6, nI7, nS7, nI8, nS8, nI9, nS9, nI15, nS15, nI18, nS18, nI19, nS19, nI20, nS20, nI21, nS21, nI22, nS22, nI23, nS23, nI24, nS24, nI25, nS25, nI26, nS26, nI27, nS27, nI32, nS32, nI36, nS36, nI37, nS37, nI40, nS40, nSZ1, nV, nC, ↓reduceIte, tr_lt, fa_lt, tr_le, fa_le, tr_eq, fa_eq, and_true, true_and, and_false, false_and, il0, il1, il2, il3, il4, il5, il6, il7, il8, il9, il10, il11, il12, il15, il16, il20, il24, il31, il32, il44, il45, il48, il50, il57, il58, il59, il63, il91, il93, il97, il99, il100, il109, il113, il119, il120, il122, il200, il255, il480, il500, il501, il512, il999, il4112, il41120, il1000000, il1000003, ii_add, ii_sub, ii_mul, ii_neg, ii_le, ii_lt, ii_eq, ii_div, q_I, q_V, q_R, lt_q, rZ_q, md_M, md_16, md_4, md_8, md_10, if_true, if_false, if_pos, if_neg, mg_3, mg_0, mg_1, mg_2, mg_k, mg_up3, mg_upk, x22, hse, hsm]
theorem nmL_b (b : Int → Int) (F i : Int) (h : F ≤ i) (hd : ∀ j, F ≤ j → j < i → 48 ≤ b j ∧ b j ≤ 57) : 0 ≤ nmL b F i ∧ nmL b F i ≤ 999 ∧ (i - F ≤ 2 → nmL b F i ≤ 99) := by
  unfold nmL
  by_cases q : i - F ≤ 3
  · rw [if_pos q]
    have := nv_b b F (i - F).toNat (by omega) (fun j hj => hd _ (by omega) (by omega))
    exact ⟨this.1, this.2.1, fun w => this.2.2.1 (by omega)⟩
  · rw [if_neg q]
    exact ⟨by omega, by omega, fun _ => by omega⟩
theorem nmL_s (b : Int → Int) (F i : Int) (h : F ≤ i) : nmL b F (i + 1) = if 3 ≤ i - F then 0 else 10 * nmL b F i + b i - 48 := by
  unfold nmL
  by_cases q : 3 ≤ i - F
  · rw [if_pos q, if_neg (by omega)]
  · rw [if_neg q, if_pos (by omega), if_pos (by omega), show i + 1 - F = i - F + 1 by omega, nv_s b F (i - F) (by omega), show F + (i - F) = i by omega]
theorem m_num2 (h21 : M 0 21 = n) (hn : 0 ≤ n ∧ n ≤ 500) (hb : ∀ k, 0 ≤ k → k < n → 0 ≤ M 7 k ∧ M 7 k ≤ 255) (F : Int) (hF : 0 ≤ F ∧ F ≤ n) (h23 : M 0 23 = F) : fX7_token_128 FU 0 (NW K (mg (up (up M 0 25 0) 0 22 F) g)) = fX7_token_195 0 (NW K (mg (up (up M 0 25 (nmL (M 7) F (rn (M 7) n 48 57 F))) 0 22 (rn (M 7) n 48 57 F)) g)) := by
  have hs := rn_b (M 7) n 48 57 F hF.2
  have hz : nmL (M 7) F F = 0 := by unfold nmL; rw [if_pos (by omega), show F - F = 0 by omega]; rfl
  rw [← hz]
  refine lp (fun m i (_ : Unit) => fX7_token_128 m 0 (NW K (mg (up (up M 0 25 (nmL (M 7) F i)) 0 22 i) g))) (fun x => x = fX7_token_195 0 (NW K (mg (up (up M 0 25 (nmL (M 7) F (rn (M 7) n 48 57 F))) 0 22 (rn (M 7) n 48 57 F)) g))) (fun i _ => F ≤ i ∧ rn (M 7) n 48 57 i = rn (M 7) n 48 57 F) (rn (M 7) n 48 57 F) ?_ ?_ FU F () hs.1 ⟨by omega, rfl⟩ (by have := FU_e; omega)
  · rintro m i _ hi ⟨hI, he⟩
    have x22 : up (up M 0 25 (nmL (M 7) F i)) 0 22 i 0 22 = i := up_s _ _ _ _
    have x21 : up (up M 0 25 (nmL (M 7) F i)) 0 22 i 0 21 = n := by rw [up_n _ _ _ _ _ _ (by omega), up_n _ _ _ _ _ _ (by omega)]; exact h21
    have x23 : up (up M 0 25 (nmL (M 7) F i)) 0 22 i 0 23 = F := by rw [up_n _ _ _ _ _ _ (by omega), up_n _ _ _ _ _ _ (by omega)]; exact h23
    have x25 : up (up M 0 25 (nmL (M 7) F i)) 0 22 i 0 25 = nmL (M 7) F i := by rw [up_n _ _ _ _ _ _ (by omega), up_s]
    have hbi := hb i (by omega) (by omega)
    have hin := hs.2.2.2 i hI hi
    have hse := m_seen (K := K) (g := g) x21 hn i (by omega)
    rw [if_neg (by omega), up_n _ _ _ _ _ _ (by omega), up_n _ _ _ _ _ _ (by omega)] at hse
    have hdg := m_digit (M 7 i) (by omega) (NW K (mg (up (up M 0 25 (nmL (M 7) F i)) 0 22 i) g))
    rw [if_pos hin] at hdg
    have e := nmL_s (M 7) F i hI
    have sw : ∀ v : Int, up (up (up (up M 0 25 (nmL (M 7) F i)) 0 22 i) 0 25 v) 0 22 (i + 1) = up (up M 0 25 v) 0 22 (i + 1) := by
      intro v
      funext a y
      unfold up
      by_cases q1 : a = 0 ∧ y = 22
      · simp only [if_pos q1]
      · by_cases q2 : a = 0 ∧ y = 25
        · simp only [if_neg q1, if_pos q2]
        · simp only [if_neg q1, if_neg q2]
    have y22 : ∀ v : Int, up (up (up M 0 25 (nmL (M 7) F i)) 0 22 i) 0 25 v 0 22 = i := fun v => by rw [up_n _ _ _ _ _ _ (by omega)]; exact x22
    refine Or.inr ⟨(), ⟨by omega, by rw [← he]; exact (rn_1 (M 7) n 48 57 i (by omega) hin).symm⟩, ?_⟩
    rw [e]
    by_cases q : 3 ≤ i - F
    · rw [if_pos q, ← sw]
      simp (disch := first | assumption | omega) only [fX7_token_128, fX7_token_179, nR1, nA1, nU1, nR2, nA2, nU2, nR3, nA3, nU3, nR4, nA4, nU4, nR5, nA5, nU5, nR6, nA6, nU6, nR7, nA7, nU7, nR8, nA8, nU8, nR9, nA9, nU9, nR10, nA10, nU10, nR11, nA11, nU11, nR12, nA12, nU12, nR13, nA13, nU13, nR14, nA14, nU14, nR15, nA15, nU15, nR16, nA16, nU16, nI0, nS0, nI1, nS1, nI2, nS2, nI3, nS3, nI4, nS4, nI5, nS5, nI6, nS6, nI7, nS7, nI8, nS8, nI9, nS9, nI15, nS15, nI18, nS18, nI19, nS19, nI20, nS20, nI21, nS21, nI22, nS22, nI23, nS23, nI24, nS24, nI25, nS25, nI26, nS26, nI27, nS27, nI32, nS32, nI36, nS36, nI37, nS37, nI40, nS40, nSZ1, nV, nC, ↓reduceIte, tr_lt, fa_lt, tr_le, fa_le, tr_eq, fa_eq, and_true, true_and, and_false, false_and, il0, il1, il2, il3, il4, il5, il6, il7, il8, il9, il10, il11, il12, il15, il16, il20, il24, il31, il32, il44, il45, il48, il50, il57, il58, il59, il63, il91, il93, il97, il99, il100, il109, il113, il119, il120, il122, il200, il255, il480, il500, il501, il512, il999, il4112, il41120, il1000000, il1000003, ii_add, ii_sub, ii_mul, ii_neg, ii_le, ii_lt, ii_eq, ii_div, q_I, q_V, q_R, lt_q, rZ_q, md_M, md_16, md_4, md_8, md_10, if_true, if_false, if_pos, if_neg, mg_3, mg_0, mg_1, mg_2, mg_k, mg_up3, mg_upk, x22, x23, hse, hdg, y22]
    · rw [if_neg q, ← sw]
      simp (disch := first | assumption | omega) only [fX7_token_128, fX7_token_179, nR1, nA1, nU1, nR2, nA2, nU2, nR3, nA3, nU3, nR4, nA4, nU4, nR5, nA5, nU5, nR6, nA6, nU6, nR7, nA7, nU7, nR8, nA8, nU8, nR9, nA9, nU9, nR10, nA10, nU10, nR11, nA11, nU11, nR12, nA12, nU12, nR13, nA13, nU13, nR14, nA14, nU14, nR15, nA15, nU15, nR16, nA16, nU16, nI0, nS0, nI1, nS1, nI2, nS2, nI3, nS3, nI4, nS4, nI5, nS5, nI6, nS6, nI7, nS7, nI8, nS8, nI9, nS9, nI15, nS15, nI18, nS18, nI19, nS19, nI20, nS20, nI21, nS21, nI22, nS22, nI23, nS23, nI24, nS24, nI25, nS25, nI26, nS26, nI27, nS27, nI32, nS32, nI36, nS36, nI37, nS37, nI40, nS40, nSZ1, nV, nC, ↓reduceIte, tr_lt, fa_lt, tr_le, fa_le, tr_eq, fa_eq, and_true, true_and, and_false, false_and, il0, il1, il2, il3, il4, il5, il6, il7, il8, il9, il10, il11, il12, il15, il16, il20, il24, il31, il32, il44, il45, il48, il50, il57, il58, il59, il63, il91, il93, il97, il99, il100, il109, il113, il119, il120, il122, il200, il255, il480, il500, il501, il512, il999, il4112, il41120, il1000000, il1000003, ii_add, ii_sub, ii_mul, ii_neg, ii_le, ii_lt, ii_eq, ii_div, q_I, q_V, q_R, lt_q, rZ_q, md_M, md_16, md_4, md_8, md_10, if_true, if_false, if_pos, if_neg, mg_3, mg_0, mg_1, mg_2, mg_k, mg_up3, mg_upk, x22, x23, x25, hse, hdg, y22]
  · rintro m _ ⟨hI, he⟩
    have x22 : up (up M 0 25 (nmL (M 7) F (rn (M 7) n 48 57 F))) 0 22 (rn (M 7) n 48 57 F) 0 22 = rn (M 7) n 48 57 F := up_s _ _ _ _
    have x21 : up (up M 0 25 (nmL (M 7) F (rn (M 7) n 48 57 F))) 0 22 (rn (M 7) n 48 57 F) 0 21 = n := by rw [up_n _ _ _ _ _ _ (by omega), up_n _ _ _ _ _ _ (by omega)]; exact h21
    have hse := m_seen (K := K) (g := g) x21 hn (rn (M 7) n 48 57 F) (by omega)
    by_cases q : n ≤ rn (M 7) n 48 57 F
    · rw [if_pos q] at hse
      have hdg := m_digit (-1) (by omega) (NW K (mg (up (up M 0 25 (nmL (M 7) F (rn (M 7) n 48 57 F))) 0 22 (rn (M 7) n 48 57 F)) g))
      rw [if_neg (by omega)] at hdg
      simp (disch := first | assumption | omega) only [fX7_token_128, nR1, nA1, nU1, nR2, nA2, nU2, nR3, nA3, nU3, nR4, nA4, nU4, nR5, nA5, nU5, nR6, nA6, nU6, nR7, nA7, nU7, nR8, nA8, nU8, nR9, nA9, nU9, nR10, nA10, nU10, nR11, nA11, nU11, nR12, nA12, nU12, nR13, nA13, nU13, nR14, nA14, nU14, nR15, nA15, nU15, nR16, nA16, nU16, nI0, nS0, nI1, nS1, nI2, nS2, nI3, nS3, nI4, nS4, nI5, nS5, nI6, nS6, nI7, nS7, nI8, nS8, nI9, nS9, nI15, nS15, nI18, nS18, nI19, nS19, nI20, nS20, nI21, nS21, nI22, nS22, nI23, nS23, nI24, nS24, nI25, nS25, nI26, nS26, nI27, nS27, nI32, nS32, nI36, nS36, nI37, nS37, nI40, nS40, nSZ1, nV, nC, ↓reduceIte, tr_lt, fa_lt, tr_le, fa_le, tr_eq, fa_eq, and_true, true_and, and_false, false_and, il0, il1, il2, il3, il4, il5, il6, il7, il8, il9, il10, il11, il12, il15, il16, il20, il24, il31, il32, il44, il45, il48, il50, il57, il58, il59, il63, il91, il93, il97, il99, il100, il109, il113, il119, il120, il122, il200, il255, il480, il500, il501, il512, il999, il4112, il41120, il1000000, il1000003, ii_add, ii_sub, ii_mul, ii_neg, ii_le, ii_lt, ii_eq, ii_div, q_I, q_V, q_R, lt_q, rZ_q, md_M, md_16, md_4, md_8, md_10, if_true, if_false, if_pos, if_neg, mg_3, mg_0, mg_1, mg_2, mg_k, mg_up3, mg_upk, x22, hse, hdg]
    · have hbi := hb (rn (M 7) n 48 57 F) (by omega) (by omega)
      rw [if_neg q, up_n _ _ _ _ _ _ (by omega), up_n _ _ _ _ _ _ (by omega)] at hse
      have hdg := m_digit (M 7 (rn (M 7) n 48 57 F)) (by omega) (NW K (mg (up (up M 0 25 (nmL (M 7) F (rn (M 7) n 48 57 F))) 0 22 (rn (M 7) n 48 57 F)) g))
      rw [if_neg (hs.2.2.1 (by omega))] at hdg
      simp (disch := first | assumption | omega) only [fX7_token_128, nR1, nA1, nU1, nR2, nA2, nU2, nR3, nA3, nU3, nR4, nA4, nU4, nR5, nA5, nU5, nR6, nA6, nU6, nR7, nA7, nU7, nR8, nA8, nU8, nR9, nA9, nU9, nR10, nA10, nU10, nR11, nA11, nU11, nR12, nA12, nU12, nR13, nA13, nU13, nR14, nA14, nU14, nR15, nA15, nU15, nR16, nA16, nU16, nI0, nS0, nI1, nS1, nI2, nS2, nI3, nS3, nI4, nS4, nI5, nS5, nI6, nS6, nI7, nS7, nI8, nS8, nI9, nS9, nI15, nS15, nI18, nS18, nI19, nS19, nI20, nS20, nI21, nS21, nI22, nS22, nI23, nS23, nI24, nS24, nI25, nS25, nI26, nS26, nI27, nS27, nI32, nS32, nI36, nS36, nI37, nS37, nI40, nS40, nSZ1, nV, nC, ↓reduceIte, tr_lt, fa_lt, tr_le, fa_le, tr_eq, fa_eq, and_true, true_and, and_false, false_and, il0, il1, il2, il3, il4, il5, il6, il7, il8, il9, il10, il11, il12, il15, il16, il20, il24, il31, il32, il44, il45, il48, il50, il57, il58, il59, il63, il91, il93, il97, il99, il100, il109, il113, il119, il120, il122, il200, il255, il480, il500, il501, il512, il999, il4112, il41120, il1000000, il1000003, ii_add, ii_sub, ii_mul, ii_neg, ii_le, ii_lt, ii_eq, ii_div, q_I, q_V, q_R, lt_q, rZ_q, md_M, md_16, md_4, md_8, md_10, if_true, if_false, if_pos, if_neg, mg_3, mg_0, mg_1, mg_2, mg_k, mg_up3, mg_upk, x22, hse, hdg]
/-- the model's next token -/
theorem m_tok (h21 : M 0 21 = n) (hn : 0 ≤ n ∧ n ≤ 500) (hb : ∀ k, 0 ≤ k → k < n → 0 ≤ M 7 k ∧ M 7 k ≤ 255) (p : Int) (h22 : M 0 22 = p) (hp : 0 ≤ p ∧ p ≤ n) :
    ∃ M', fX7_token 0 (NW K (mg M g)) = some (Sum.inl none, NW K (mg M' g)) ∧ (M' 0 23 = sk (M 7) n p ∧ M' 0 24 = tkS (M 7) n (sk (M 7) n p) ∧ M' 0 22 = tkE (M 7) n (sk (M 7) n p) ∧ (tkS (M 7) n (sk (M 7) n p) = 2 → M' 0 25 = nmL (M 7) (sk (M 7) n p) (tkE (M 7) n (sk (M 7) n p))) ∧ M' 0 25 = if sk (M 7) n p < n ∧ 48 ≤ M 7 (sk (M 7) n p) ∧ M 7 (sk (M 7) n p) ≤ 57 then nmL (M 7) (sk (M 7) n p) (tkE (M 7) n (sk (M 7) n p)) else M 0 25) ∧
    (∀ z, ¬ (22 ≤ z ∧ z ≤ 25) → M' 0 z = M 0 z) ∧ ∀ (b : Nat) (z : Int), 0 < b → M' b z = M b z := by
  have hs := sk_b (M 7) n p hp.2
  rw [m_tok0 h21 hn hb p h22 hp]
  generalize hF : sk (M 7) n p = F at *
  have x22 : up (up M 0 22 F) 0 23 F 0 22 = F := by rw [up_n _ _ _ _ _ _ (by omega), up_s]
  have x23 : up (up M 0 22 F) 0 23 F 0 23 = F := up_s _ _ _ _
  have x21 : up (up M 0 22 F) 0 23 F 0 21 = n := by rw [up_n _ _ _ _ _ _ (by omega), up_n _ _ _ _ _ _ (by omega)]; exact h21
  have x25 : up (up M 0 22 F) 0 23 F 0 25 = M 0 25 := by rw [up_n _ _ _ _ _ _ (by omega), up_n _ _ _ _ _ _ (by omega)]
  have x7 : up (up M 0 22 F) 0 23 F 7 = M 7 := funext fun z => by rw [up_n _ _ _ _ _ _ (by omega), up_n _ _ _ _ _ _ (by omega)]
  have y22 : up M 0 22 F 0 22 = F := up_s _ _ _ _
  have fr0 : ∀ z, ¬ (22 ≤ z ∧ z ≤ 25) → up (up M 0 22 F) 0 23 F 0 z = M 0 z := fun z q => by rw [up_n _ _ _ _ _ _ (by omega), up_n _ _ _ _ _ _ (by omega)]
  have frb : ∀ (b : Nat) (z : Int), 0 < b → up (up M 0 22 F) 0 23 F b z = M b z := fun b z q => by rw [up_n _ _ _ _ _ _ (by omega), up_n _ _ _ _ _ _ (by omega)]
  have hse := m_seen (K := K) (g := g) x21 hn F (by omega)
  rw [x7] at hse
  generalize hN : up (up M 0 22 F) 0 23 F = N at *
  by_cases q1 : n ≤ F
  · rw [if_pos q1] at hse
    refine ⟨up N 0 24 0, ?_, ⟨by rw [up_n _ _ _ _ _ _ (by omega)]; exact x23, ?_, ?_, fun z => ?_, by rw [if_neg (by omega), up_n _ _ _ _ _ _ (by omega), x25]⟩, fun z q => by rw [up_n _ _ _ _ _ _ (by omega)]; exact fr0 z q, fun b z q => by rw [up_n _ _ _ _ _ _ (by omega)]; exact frb b z q⟩
    · simp (disch := first | assumption | omega) only [fX7_token_26, nR1, nA1, nU1, nR2, nA2, nU2, nR3, nA3, nU3, nR4, nA4, nU4, nR5, nA5, nU5, nR6, nA6, nU6, nR7, nA7, nU7, nR8, nA8, nU8, nR9, nA9, nU9, nR10, nA10, nU10, nR11, nA11, nU11, nR12, nA12, nU12, nR13, nA13, nU13, nR14, nA14, nU14, nR15, nA15, nU15, nR16, nA16, nU16, nI0, nS0, nI1, nS1, nI2, nS2, nI3, nS3, nI4, nS4, nI5, nS5, nI6, nS6, nI7, nS7, nI8, nS8, nI9, nS9, nI15, nS15, nI18, nS18, nI19, nS19, nI20, nS20, nI21, nS21, nI22, nS22, nI23, nS23, nI24, nS24, nI25, nS25, nI26, nS26, nI27, nS27, nI32, nS32, nI36, nS36, nI37, nS37, nI40, nS40, nSZ1, nV, nC, ↓reduceIte, tr_lt, fa_lt, tr_le, fa_le, tr_eq, fa_eq, and_true, true_and, and_false, false_and, il0, il1, il2, il3, il4, il5, il6, il7, il8, il9, il10, il11, il12, il15, il16, il20, il24, il31, il32, il44, il45, il48, il50, il57, il58, il59, il63, il91, il93, il97, il99, il100, il109, il113, il119, il120, il122, il200, il255, il480, il500, il501, il512, il999, il4112, il41120, il1000000, il1000003, ii_add, ii_sub, ii_mul, ii_neg, ii_le, ii_lt, ii_eq, ii_div, q_I, q_V, q_R, lt_q, rZ_q, md_M, md_16, md_4, md_8, md_10, if_true, if_false, if_pos, if_neg, mg_3, mg_0, mg_1, mg_2, mg_k, mg_up3, mg_upk, y22, hN, x22, hse]
    · unfold tkS; rw [if_pos q1, up_s]
    · unfold tkE; rw [if_pos q1, up_n _ _ _ _ _ _ (by omega)]; exact x22
    · unfold tkS at z; rw [if_pos q1] at z; omega
  · have hbF := hb F (by omega) (by omega)
    rw [if_neg q1] at hse
    have hsm := m_small (M 7 F) (by omega) (NW K (mg N g))
    have hdg := m_digit (M 7 F) (by omega) (NW K (mg N g))
    have hbN : ∀ k, 0 ≤ k → k < n → 0 ≤ N 7 k ∧ N 7 k ≤ 255 := fun k a d => by rw [x7]; exact hb k a d
    have hr1 := rn_b (M 7) n 97 122 F (by omega)
    have hr2 := rn_b (M 7) n 48 57 F (by omega)
    by_cases q3 : 97 ≤ M 7 F ∧ M 7 F ≤ 122
    · rw [if_pos q3] at hsm
      have hrun := m_run (K := K) (g := g) x21 hn hbN F (by omega)
      rw [up_same N 0 22 F x22, x7] at hrun
      have z22 : up N 0 22 (rn (M 7) n 97 122 F) 0 22 = rn (M 7) n 97 122 F := up_s _ _ _ _
      have z23 : up N 0 22 (rn (M 7) n 97 122 F) 0 23 = F := by rw [up_n _ _ _ _ _ _ (by omega)]; exact x23
      have h0 : fX7_token_26 0 (NW K (mg (up M 0 22 F) g)) = fX7_token_90 0 (NW K (mg (up N 0 22 (rn (M 7) n 97 122 F)) g)) := by
        simp (disch := first | assumption | omega) only [fX7_token_26, nR1, nA1, nU1, nR2, nA2, nU2, nR3, nA3, nU3, nR4, nA4, nU4, nR5, nA5, nU5, nR6, nA6, nU6, nR7, nA7, nU7, nR8, nA8, nU8, nR9, nA9, nU9, nR10, nA10, nU10, nR11, nA11, nU11, nR12, nA12, nU12, nR13, nA13, nU13, nR14, nA14, nU14, nR15, nA15, nU15, nR16, nA16, nU16, nI0, nS0, nI1, nS1, nI2, nS2, nI3, nS3, nI4, nS4, nI5, nS5, nI6, nS6, nI7, nS7, nI8, nS8, nI9, nS9, nI15, nS15, nI18, nS18, nI19, nS19, nI20, nS20, nI21, nS21, nI22, nS22, nI23, nS23, nI24, nS24, nI25, nS25, nI26, nS26, nI27, nS27, nI32, nS32, nI36, nS36, nI37, nS37, nI40, nS40, nSZ1, nV, nC, ↓reduceIte, tr_lt, fa_lt, tr_le, fa_le, tr_eq, fa_eq, and_true, true_and, and_false, false_and, il0, il1, il2, il3, il4, il5, il6, il7, il8, il9, il10, il11, il12, il15, il16, il20, il24, il31, il32, il44, il45, il48, il50, il57, il58, il59, il63, il91, il93, il97, il99, il100, il109, il113, il119, il120, il122, il200, il255, il480, il500, il501, il512, il999, il4112, il41120, il1000000, il1000003, ii_add, ii_sub, ii_mul, ii_neg, ii_le, ii_lt, ii_eq, ii_div, q_I, q_V, q_R, lt_q, rZ_q, md_M, md_16, md_4, md_8, md_10, if_true, if_false, if_pos, if_neg, mg_3, mg_0, mg_1, mg_2, mg_k, mg_up3, mg_upk, y22, hN, x22, hse, hsm, hrun]
      refine ⟨up (up N 0 22 (rn (M 7) n 97 122 F)) 0 24 (if 6 < rn (M 7) n 97 122 F - F then 4 else 1), ?_, ⟨?_, ?_, ?_, fun z => ?_, ?_⟩, fun z q => ?_, fun b z q => ?_⟩
      · rw [h0]
        by_cases q4 : 6 < rn (M 7) n 97 122 F - F
        · rw [if_pos q4]
          simp (disch := first | assumption | omega) only [fX7_token_90, fX7_token_110, nR1, nA1, nU1, nR2, nA2, nU2, nR3, nA3, nU3, nR4, nA4, nU4, nR5, nA5, nU5, nR6, nA6, nU6, nR7, nA7, nU7, nR8, nA8, nU8, nR9, nA9, nU9, nR10, nA10, nU10, nR11, nA11, nU11, nR12, nA12, nU12, nR13, nA13, nU13, nR14, nA14, nU14, nR15, nA15, nU15, nR16, nA16, nU16, nI0, nS0, nI1, nS1, nI2, nS2, nI3, nS3, nI4, nS4, nI5, nS5, nI6, nS6, nI7, nS7, nI8, nS8, nI9, nS9, nI15, nS15, nI18, nS18, nI19, nS19, nI20, nS20, nI21, nS21, nI22, nS22, nI23, nS23, nI24, nS24, nI25, nS25, nI26, nS26, nI27, nS27, nI32, nS32, nI36, nS36, nI37, nS37, nI40, nS40, nSZ1, nV, nC, ↓reduceIte, tr_lt, fa_lt, tr_le, fa_le, tr_eq, fa_eq, and_true, true_and, and_false, false_and, il0, il1, il2, il3, il4, il5, il6, il7, il8, il9, il10, il11, il12, il15, il16, il20, il24, il31, il32, il44, il45, il48, il50, il57, il58, il59, il63, il91, il93, il97, il99, il100, il109, il113, il119, il120, il122, il200, il255, il480, il500, il501, il512, il999, il4112, il41120, il1000000, il1000003, ii_add, ii_sub, ii_mul, ii_neg, ii_le, ii_lt, ii_eq, ii_div, q_I, q_V, q_R, lt_q, rZ_q, md_M, md_16, md_4, md_8, md_10, if_true, if_false, if_pos, if_neg, mg_3, mg_0, mg_1, mg_2, mg_k, mg_up3, mg_upk, z22, z23]
        · rw [if_neg q4]
          simp (disch := first | assumption | omega) only [fX7_token_90, fX7_token_110, nR1, nA1, nU1, nR2, nA2, nU2, nR3, nA3, nU3, nR4, nA4, nU4, nR5, nA5, nU5, nR6, nA6, nU6, nR7, nA7, nU7, nR8, nA8, nU8, nR9, nA9, nU9, nR10, nA10, nU10, nR11, nA11, nU11, nR12, nA12, nU12, nR13, nA13, nU13, nR14, nA14, nU14, nR15, nA15, nU15, nR16, nA16, nU16, nI0, nS0, nI1, nS1, nI2, nS2, nI3, nS3, nI4, nS4, nI5, nS5, nI6, nS6, nI7, nS7, nI8, nS8, nI9, nS9, nI15, nS15, nI18, nS18, nI19, nS19, nI20, nS20, nI21, nS21, nI22, nS22, nI23, nS23, nI24, nS24, nI25, nS25, nI26, nS26, nI27, nS27, nI32, nS32, nI36, nS36, nI37, nS37, nI40, nS40, nSZ1, nV, nC, ↓reduceIte, tr_lt, fa_lt, tr_le, fa_le, tr_eq, fa_eq, and_true, true_and, and_false, false_and, il0, il1, il2, il3, il4, il5, il6, il7, il8, il9, il10, il11, il12, il15, il16, il20, il24, il31, il32, il44, il45, il48, il50, il57, il58, il59, il63, il91, il93, il97, il99, il100, il109, il113, il119, il120, il122, il200, il255, il480, il500, il501, il512, il999, il4112, il41120, il1000000, il1000003, ii_add, ii_sub, ii_mul, ii_neg, ii_le, ii_lt, ii_eq, ii_div, q_I, q_V, q_R, lt_q, rZ_q, md_M, md_16, md_4, md_8, md_10, if_true, if_false, if_pos, if_neg, mg_3, mg_0, mg_1, mg_2, mg_k, mg_up3, mg_upk, z22, z23]
      · rw [up_n _ _ _ _ _ _ (by omega)]; exact z23
      · unfold tkS; rw [if_neg q1, if_pos q3, up_s]
      · unfold tkE; rw [if_neg q1, if_pos q3, up_n _ _ _ _ _ _ (by omega)]; exact z22
      · unfold tkS at z; rw [if_neg q1, if_pos q3] at z
        by_cases q4 : 6 < rn (M 7) n 97 122 F - F
        · rw [if_pos q4] at z; omega
        · rw [if_neg q4] at z; omega
      · rw [up_n _ _ _ _ _ _ (by omega), up_n _ _ _ _ _ _ (by omega), x25, if_neg (by omega)]
      · rw [up_n _ _ _ _ _ _ (by omega), up_n _ _ _ _ _ _ (by omega)]; exact fr0 z q
      · rw [up_n _ _ _ _ _ _ (by omega), up_n _ _ _ _ _ _ (by omega)]; exact frb b z q
    · rw [if_neg q3] at hsm
      by_cases q5 : 48 ≤ M 7 F ∧ M 7 F ≤ 57
      · rw [if_pos q5] at hdg
        have hnum := m_num2 (K := K) (g := g) x21 hn hbN F (by omega) x23
        rw [x7] at hnum
        have hw : up (up N 0 25 0) 0 22 F = up N 0 25 0 := up_same _ _ _ _ (by rw [up_n _ _ _ _ _ _ (by omega)]; exact x22)
        rw [hw] at hnum
        have hnb := nmL_b (M 7) F (rn (M 7) n 48 57 F) hr2.1 hr2.2.2.2
        have z22 : up (up N 0 25 (nmL (M 7) F (rn (M 7) n 48 57 F))) 0 22 (rn (M 7) n 48 57 F) 0 22 = rn (M 7) n 48 57 F := up_s _ _ _ _
        have z23 : up (up N 0 25 (nmL (M 7) F (rn (M 7) n 48 57 F))) 0 22 (rn (M 7) n 48 57 F) 0 23 = F := by rw [up_n _ _ _ _ _ _ (by omega), up_n _ _ _ _ _ _ (by omega)]; exact x23
        have h0 : fX7_token_26 0 (NW K (mg (up M 0 22 F) g)) = fX7_token_195 0 (NW K (mg (up (up N 0 25 (nmL (M 7) F (rn (M 7) n 48 57 F))) 0 22 (rn (M 7) n 48 57 F)) g)) := by
          simp (disch := first | assumption | omega) only [fX7_token_26, nR1, nA1, nU1, nR2, nA2, nU2, nR3, nA3, nU3, nR4, nA4, nU4, nR5, nA5, nU5, nR6, nA6, nU6, nR7, nA7, nU7, nR8, nA8, nU8, nR9, nA9, nU9, nR10, nA10, nU10, nR11, nA11, nU11, nR12, nA12, nU12, nR13, nA13, nU13, nR14, nA14, nU14, nR15, nA15, nU15, nR16, nA16, nU16, nI0, nS0, nI1, nS1, nI2, nS2, nI3, nS3, nI4, nS4, nI5, nS5, nI6, nS6, nI7, nS7, nI8, nS8, nI9, nS9, nI15, nS15, nI18, nS18, nI19, nS19, nI20, nS20, nI21, nS21, nI22, nS22, nI23, nS23, nI24, nS24, nI25, nS25, nI26, nS26, nI27, nS27, nI32, nS32, nI36, nS36, nI37, nS37, nI40, nS40, nSZ1, nV, nC, ↓reduceIte, tr_lt, fa_lt, tr_le, fa_le, tr_eq, fa_eq, and_true, true_and, and_false, false_and, il0, il1, il2, il3, il4, il5, il6, il7, il8, il9, il10, il11, il12, il15, il16, il20, il24, il31, il32, il44, il45, il48, il50, il57, il58, il59, il63, il91, il93, il97, il99, il100, il109, il113, il119, il120, il122, il200, il255, il480, il500, il501, il512, il999, il4112, il41120, il1000000, il1000003, ii_add, ii_sub, ii_mul, ii_neg, ii_le, ii_lt, ii_eq, ii_div, q_I, q_V, q_R, lt_q, rZ_q, md_M, md_16, md_4, md_8, md_10, if_true, if_false, if_pos, if_neg, mg_3, mg_0, mg_1, mg_2, mg_k, mg_up3, mg_upk, y22, hN, x22, hse, hsm, hdg, hnum]
        refine ⟨up (up (up N 0 25 (nmL (M 7) F (rn (M 7) n 48 57 F))) 0 22 (rn (M 7) n 48 57 F)) 0 24 (if 3 < rn (M 7) n 48 57 F - F then 4 else 2), ?_, ⟨?_, ?_, ?_, fun z => ?_, ?_⟩, fun z q => ?_, fun b z q => ?_⟩
        · rw [h0]
          by_cases q4 : 3 < rn (M 7) n 48 57 F - F
          · rw [if_pos q4]
            simp (disch := first | assumption | omega) only [fX7_token_195, fX7_token_214, nR1, nA1, nU1, nR2, nA2, nU2, nR3, nA3, nU3, nR4, nA4, nU4, nR5, nA5, nU5, nR6, nA6, nU6, nR7, nA7, nU7, nR8, nA8, nU8, nR9, nA9, nU9, nR10, nA10, nU10, nR11, nA11, nU11, nR12, nA12, nU12, nR13, nA13, nU13, nR14, nA14, nU14, nR15, nA15, nU15, nR16, nA16, nU16, nI0, nS0, nI1, nS1, nI2, nS2, nI3, nS3, nI4, nS4, nI5, nS5, nI6, nS6, nI7, nS7, nI8, nS8, nI9, nS9, nI15, nS15, nI18, nS18, nI19, nS19, nI20, nS20, nI21, nS21, nI22, nS22, nI23, nS23, nI24, nS24, nI25, nS25, nI26, nS26, nI27, nS27, nI32, nS32, nI36, nS36, nI37, nS37, nI40, nS40, nSZ1, nV, nC, ↓reduceIte, tr_lt, fa_lt, tr_le, fa_le, tr_eq, fa_eq, and_true, true_and, and_false, false_and, il0, il1, il2, il3, il4, il5, il6, il7, il8, il9, il10, il11, il12, il15, il16, il20, il24, il31, il32, il44, il45, il48, il50, il57, il58, il59, il63, il91, il93, il97, il99, il100, il109, il113, il119, il120, il122, il200, il255, il480, il500, il501, il512, il999, il4112, il41120, il1000000, il1000003, ii_add, ii_sub, ii_mul, ii_neg, ii_le, ii_lt, ii_eq, ii_div, q_I, q_V, q_R, lt_q, rZ_q, md_M, md_16, md_4, md_8, md_10, if_true, if_false, if_pos, if_neg, mg_3, mg_0, mg_1, mg_2, mg_k, mg_up3, mg_upk, z22, z23]
          · rw [if_neg q4]
            simp (disch := first | assumption | omega) only [fX7_token_195, fX7_token_214, nR1, nA1, nU1, nR2, nA2, nU2, nR3, nA3, nU3, nR4, nA4, nU4, nR5, nA5, nU5, nR6, nA6, nU6, nR7, nA7, nU7, nR8, nA8, nU8, nR9, nA9, nU9, nR10, nA10, nU10, nR11, nA11, nU11, nR12, nA12, nU12, nR13, nA13, nU13, nR14, nA14, nU14, nR15, nA15, nU15, nR16, nA16, nU16, nI0, nS0, nI1, nS1, nI2, nS2, nI3, nS3, nI4, nS4, nI5, nS5, nI6, nS6, nI7, nS7, nI8, nS8, nI9, nS9, nI15, nS15, nI18, nS18, nI19, nS19, nI20, nS20, nI21, nS21, nI22, nS22, nI23, nS23, nI24, nS24, nI25, nS25, nI26, nS26, nI27, nS27, nI32, nS32, nI36, nS36, nI37, nS37, nI40, nS40, nSZ1, nV, nC, ↓reduceIte, tr_lt, fa_lt, tr_le, fa_le, tr_eq, fa_eq, and_true, true_and, and_false, false_and, il0, il1, il2, il3, il4, il5, il6, il7, il8, il9, il10, il11, il12, il15, il16, il20, il24, il31, il32, il44, il45, il48, il50, il57, il58, il59, il63, il91, il93, il97, il99, il100, il109, il113, il119, il120, il122, il200, il255, il480, il500, il501, il512, il999, il4112, il41120, il1000000, il1000003, ii_add, ii_sub, ii_mul, ii_neg, ii_le, ii_lt, ii_eq, ii_div, q_I, q_V, q_R, lt_q, rZ_q, md_M, md_16, md_4, md_8, md_10, if_true, if_false, if_pos, if_neg, mg_3, mg_0, mg_1, mg_2, mg_k, mg_up3, mg_upk, z22, z23]
        · rw [up_n _ _ _ _ _ _ (by omega)]; exact z23
        · unfold tkS; rw [if_neg q1, if_neg q3, if_pos q5, up_s]
        · unfold tkE; rw [if_neg q1, if_neg q3, if_pos q5, up_n _ _ _ _ _ _ (by omega)]; exact z22
        · unfold tkE; rw [if_neg q1, if_neg q3, if_pos q5, up_n _ _ _ _ _ _ (by omega), up_n _ _ _ _ _ _ (by omega), up_s]
        · rw [up_n _ _ _ _ _ _ (by omega), up_n _ _ _ _ _ _ (by omega), up_s]; unfold tkE; rw [if_neg q1, if_neg q3, if_pos q5, if_pos (by omega)]
        · rw [up_n _ _ _ _ _ _ (by omega), up_n _ _ _ _ _ _ (by omega), up_n _ _ _ _ _ _ (by omega)]; exact fr0 z q
        · rw [up_n _ _ _ _ _ _ (by omega), up_n _ _ _ _ _ _ (by omega), up_n _ _ _ _ _ _ (by omega)]; exact frb b z q
      · rw [if_neg q5] at hdg
        have key : ∀ s : Int, (fX7_token_26 0 (NW K (mg (up M 0 22 F) g)) = some (Sum.inl none, NW K (mg (up (up N 0 24 s) 0 22 (F + 1)) g))) → (tkS (M 7) n F = s ∧ s ≠ 2) → ∃ M', fX7_token_26 0 (NW K (mg (up M 0 22 F) g)) = some (Sum.inl none, NW K (mg M' g)) ∧ (M' 0 23 = F ∧ M' 0 24 = tkS (M 7) n F ∧ M' 0 22 = tkE (M 7) n F ∧ (tkS (M 7) n F = 2 → M' 0 25 = nmL (M 7) F (tkE (M 7) n F)) ∧ M' 0 25 = if F < n ∧ 48 ≤ M 7 F ∧ M 7 F ≤ 57 then nmL (M 7) F (tkE (M 7) n F) else M 0 25) ∧
            (∀ z, ¬ (22 ≤ z ∧ z ≤ 25) → M' 0 z = M 0 z) ∧ ∀ (b : Nat) (z : Int), 0 < b → M' b z = M b z := by
          intro s e1 e2
          refine ⟨up (up N 0 24 s) 0 22 (F + 1), e1, ⟨?_, ?_, ?_, fun z => ?_, ?_⟩, fun z q => ?_, fun b z q => ?_⟩
          · rw [up_n _ _ _ _ _ _ (by omega), up_n _ _ _ _ _ _ (by omega)]; exact x23
          · rw [up_n _ _ _ _ _ _ (by omega), up_s, e2.1]
          · unfold tkE; rw [if_neg q1, if_neg q3, if_neg q5, up_s]
          · exact absurd (e2.1.symm.trans z) e2.2
          · rw [if_neg (by omega), up_n _ _ _ _ _ _ (by omega), up_n _ _ _ _ _ _ (by omega), x25]
          · rw [up_n _ _ _ _ _ _ (by omega), up_n _ _ _ _ _ _ (by omega)]; exact fr0 z q
          · rw [up_n _ _ _ _ _ _ (by omega), up_n _ _ _ _ _ _ (by omega)]; exact frb b z q
        have w22 : ∀ s : Int, up N 0 24 s 0 22 = F := fun s => by rw [up_n _ _ _ _ _ _ (by omega)]; exact x22
        by_cases q2 : M 7 F = 59
        · refine key 3 ?_ ⟨by unfold tkS; rw [if_neg q1, if_neg q3, if_neg q5, if_pos q2], by omega⟩
          simp (disch := first | assumption | omega) only [fX7_token_26, fX7_token_232, nR1, nA1, nU1, nR2, nA2, nU2, nR3, nA3, nU3, nR4, nA4, nU4, nR5, nA5, nU5, nR6, nA6, nU6, nR7, nA7, nU7, nR8, nA8, nU8, nR9, nA9, nU9, nR10, nA10, nU10, nR11, nA11, nU11, nR12, nA12, nU12, nR13, nA13, nU13, nR14, nA14, nU14, nR15, nA15, nU15, nR16, nA16, nU16, nI0, nS0, nI1, nS1, nI2, nS2, nI3, nS3, nI4, nS4, nI5, nS5, nI6, nS6, nI7, nS7, nI8, nS8, nI9, nS9, nI15, nS15, nI18, nS18, nI19, nS19, nI20, nS20, nI21, nS21, nI22, nS22, nI23, nS23, nI24, nS24, nI25, nS25, nI26, nS26, nI27, nS27, nI32, nS32, nI36, nS36, nI37, nS37, nI40, nS40, nSZ1, nV, nC, ↓reduceIte, tr_lt, fa_lt, tr_le, fa_le, tr_eq, fa_eq, and_true, true_and, and_false, false_and, il0, il1, il2, il3, il4, il5, il6, il7, il8, il9, il10, il11, il12, il15, il16, il20, il24, il31, il32, il44, il45, il48, il50, il57, il58, il59, il63, il91, il93, il97, il99, il100, il109, il113, il119, il120, il122, il200, il255, il480, il500, il501, il512, il999, il4112, il41120, il1000000, il1000003, ii_add, ii_sub, ii_mul, ii_neg, ii_le, ii_lt, ii_eq, ii_div, q_I, q_V, q_R, lt_q, rZ_q, md_M, md_16, md_4, md_8, md_10, if_true, if_false, if_pos, if_neg, mg_3, mg_0, mg_1, mg_2, mg_k, mg_up3, mg_upk, y22, hN, x22, hse, hsm, hdg, w22]
        · refine key 4 ?_ ⟨by unfold tkS; rw [if_neg q1, if_neg q3, if_neg q5, if_neg q2], by omega⟩
          simp (disch := first | assumption | omega) only [fX7_token_26, fX7_token_232, nR1, nA1, nU1, nR2, nA2, nU2, nR3, nA3, nU3, nR4, nA4, nU4, nR5, nA5, nU5, nR6, nA6, nU6, nR7, nA7, nU7, nR8, nA8, nU8, nR9, nA9, nU9, nR10, nA10, nU10, nR11, nA11, nU11, nR12, nA12, nU12, nR13, nA13, nU13, nR14, nA14, nU14, nR15, nA15, nU15, nR16, nA16, nU16, nI0, nS0, nI1, nS1, nI2, nS2, nI3, nS3, nI4, nS4, nI5, nS5, nI6, nS6, nI7, nS7, nI8, nS8, nI9, nS9, nI15, nS15, nI18, nS18, nI19, nS19, nI20, nS20, nI21, nS21, nI22, nS22, nI23, nS23, nI24, nS24, nI25, nS25, nI26, nS26, nI27, nS27, nI32, nS32, nI36, nS36, nI37, nS37, nI40, nS40, nSZ1, nV, nC, ↓reduceIte, tr_lt, fa_lt, tr_le, fa_le, tr_eq, fa_eq, and_true, true_and, and_false, false_and, il0, il1, il2, il3, il4, il5, il6, il7, il8, il9, il10, il11, il12, il15, il16, il20, il24, il31, il32, il44, il45, il48, il50, il57, il58, il59, il63, il91, il93, il97, il99, il100, il109, il113, il119, il120, il122, il200, il255, il480, il500, il501, il512, il999, il4112, il41120, il1000000, il1000003, ii_add, ii_sub, ii_mul, ii_neg, ii_le, ii_lt, ii_eq, ii_div, q_I, q_V, q_R, lt_q, rZ_q, md_M, md_16, md_4, md_8, md_10, if_true, if_false, if_pos, if_neg, mg_3, mg_0, mg_1, mg_2, mg_k, mg_up3, mg_upk, y22, hN, x22, hse, hsm, hdg, w22]
/-- the same token, whatever the array 3 holds -/
theorem m_tokU (h21 : M 0 21 = n) (hn : 0 ≤ n ∧ n ≤ 500) (hb : ∀ k, 0 ≤ k → k < n → 0 ≤ M 7 k ∧ M 7 k ≤ 255) (p : Int) (h22 : M 0 22 = p) (hp : 0 ≤ p ∧ p ≤ n) :
    ∃ M', (∀ g, fX7_token 0 (NW K (mg M g)) = some (Sum.inl none, NW K (mg M' g))) ∧ (M' 0 23 = sk (M 7) n p ∧ M' 0 24 = tkS (M 7) n (sk (M 7) n p) ∧ M' 0 22 = tkE (M 7) n (sk (M 7) n p) ∧ (tkS (M 7) n (sk (M 7) n p) = 2 → M' 0 25 = nmL (M 7) (sk (M 7) n p) (tkE (M 7) n (sk (M 7) n p)))) ∧
    (∀ z, ¬ (22 ≤ z ∧ z ≤ 25) → M' 0 z = M 0 z) ∧ ∀ (b : Nat) (z : Int), 0 < b → M' b z = M b z := by
  obtain ⟨M', e, ⟨k3, k4, k2, k5, k6⟩, f0, fb⟩ := m_tok (K := K) (g := fun _ => 0) h21 hn hb p h22 hp
  refine ⟨M', fun g => ?_, ⟨k3, k4, k2, k5⟩, f0, fb⟩
  obtain ⟨N, e', ⟨j3, j4, j2, j5, j6⟩, h0, hb'⟩ := m_tok (K := K) (g := g) h21 hn hb p h22 hp
  rw [e']
  have : N = M' := by
    funext a y
    by_cases q : a = 0
    · rw [q]
      by_cases q2 : y = 22
      · rw [q2, k2, j2]
      · by_cases q3 : y = 23
        · rw [q3, k3, j3]
        · by_cases q4 : y = 24
          · rw [q4, k4, j4]
          · by_cases q5 : y = 25
            · rw [q5, k6, j6]
            · rw [f0 y (by omega), h0 y (by omega)]
    · rw [fb a y (by omega), hb' a y (by omega)]
  rw [this]
end MTK
/-- the two readers tell the same -/
abbrev RT (A M : AI) (n : Int) : Prop :=
  ((A 1 5 = n ∧ M 0 21 = n) ∧ 0 ≤ n ∧ n ≤ 500) ∧ (∀ k, 0 ≤ k → k < n → A (1 + 1) k = M 7 k ∧ 0 ≤ M 7 k ∧ M 7 k ≤ 255) ∧ (A 1 3 = M 0 26 ∧ A 1 4 = M 0 27 ∧ (0 ≤ M 0 26 ∧ M 0 26 ≤ 5) ∧ (M 0 26 = 0 → M 0 27 = -1)) ∧
  ((0 ≤ A 1 7 ∧ A 1 7 ≤ n) ∧ (0 ≤ A 1 6 ∧ A 1 6 ≤ 4) ∧ 0 ≤ A 1 8 ∧ A 1 8 ≤ 500) ∧ ((0 ≤ M 0 22 ∧ M 0 22 ≤ n) ∧ (0 ≤ M 0 23 ∧ M 0 23 ≤ n) ∧ (0 ≤ M 0 24 ∧ M 0 24 ≤ 4) ∧ (M 0 24 = 2 → 0 ≤ M 0 25 ∧ M 0 25 ≤ 999)) ∧
  (M 0 26 = 0 → (A 1 6 = M 0 24 ∧ A 1 7 = M 0 23) ∧ (1 ≤ M 0 24 ∧ M 0 24 ≤ 3 → (A 1 8 = M 0 22 ∧ M 0 23 < M 0 22) ∧ (M 0 24 = 2 → M 0 25 = nvN (M 7) (M 0 23) (M 0 22 - M 0 23).toNat ∧ M 0 22 - M 0 23 ≤ 3 ∧ ∀ j, M 0 23 ≤ j → j < M 0 22 → 48 ≤ M 7 j ∧ M 7 j ≤ 57)))
/-- what reading leaves as it was -/
abbrev FAr (A A' : AI) : Prop := ∀ (b : Nat) (z : Int), ¬ (b = 1 ∧ ((3 ≤ z ∧ z ≤ 4) ∨ 6 ≤ z ∧ z ≤ 8)) → A' b z = A b z
abbrev FMr (M M' : AI) : Prop := (∀ z, ¬ (22 ≤ z ∧ z ≤ 27) → M' 0 z = M 0 z) ∧ ∀ (b : Nat) (z : Int), 0 < b → M' b z = M b z
theorem FAr.refl (A : AI) : FAr A A := fun _ _ _ => rfl
theorem FMr.refl (M : AI) : FMr M M := ⟨fun _ _ => rfl, fun _ _ _ => rfl⟩
theorem FAr.trans {A A1 A2 : AI} (h : FAr A A1) (k : FAr A1 A2) : FAr A A2 := fun b z q => (k b z q).trans (h b z q)
theorem FMr.trans {M M1 M2 : AI} (h : FMr M M1) (k : FMr M1 M2) : FMr M M2 := ⟨fun z q => (k.1 z q).trans (h.1 z q), fun b z q => (k.2 b z q).trans (h.2 b z q)⟩
theorem tkS_b (b : Int → Int) (n F : Int) : 0 ≤ tkS b n F ∧ tkS b n F ≤ 4 := by
  unfold tkS
  split
  · omega
  · split
    · split <;> omega
    · split
      · split <;> omega
      · split <;> omega
theorem tkE_b (b : Int → Int) (n F : Int) (h : F ≤ n) : F ≤ tkE b n F ∧ tkE b n F ≤ n ∧ (tkS b n F ≠ 0 → F < tkE b n F) ∧ (tkS b n F = 2 → tkE b n F = rn b n 48 57 F ∧ tkE b n F - F ≤ 3) := by
  unfold tkE tkS
  by_cases q1 : n ≤ F
  · rw [if_pos q1, if_pos q1]
    exact ⟨by omega, by omega, fun z => absurd rfl z, fun z => by omega⟩
  · rw [if_neg q1, if_neg q1]
    have hr1 := rn_b b n 97 122 F h
    have hr2 := rn_b b n 48 57 F h
    by_cases q3 : 97 ≤ b F ∧ b F ≤ 122
    · rw [if_pos q3, if_pos q3]
      have e := rn_1 b n 97 122 F (by omega) q3
      have hr3 := rn_b b n 97 122 (F + 1) (by omega)
      refine ⟨hr1.1, hr1.2.1, fun _ => by omega, fun z => ?_⟩
      split at z <;> omega
    · rw [if_neg q3, if_neg q3]
      by_cases q5 : 48 ≤ b F ∧ b F ≤ 57
      · rw [if_pos q5, if_pos q5]
        have e := rn_1 b n 48 57 F (by omega) q5
        have hr3 := rn_b b n 48 57 (F + 1) (by omega)
        refine ⟨hr2.1, hr2.2.1, fun _ => by omega, fun z => ⟨rfl, ?_⟩⟩
        by_cases q4 : 3 < rn b n 48 57 F - F
        · rw [if_pos q4] at z; omega
        · omega
      · rw [if_neg q5, if_neg q5]
        exact ⟨by omega, by omega, fun _ => by omega, fun z => by split at z <;> omega⟩
section RTP
variable {K : Nat × Nat} {c : CC} {A : AI} {J : JI} {M : AI} {g : Int → Int} {n : Int}
/-- both go on by a token -/
theorem p_adv0 (K : Nat × Nat) (J : JI) (hRd : isReader c 1) (h : ((A 1 5 = n ∧ M 0 21 = n) ∧ 0 ≤ n ∧ n ≤ 500) ∧ (∀ k, 0 ≤ k → k < n → A (1 + 1) k = M 7 k ∧ 0 ≤ M 7 k ∧ M 7 k ≤ 255) ∧ (A 1 3 = M 0 26 ∧ A 1 4 = M 0 27 ∧ (0 ≤ M 0 26 ∧ M 0 26 ≤ 5) ∧ (M 0 26 = 0 → M 0 27 = -1)) ∧ 0 ≤ M 0 22 ∧ M 0 22 ≤ n) (h0 : M 0 26 = 0) (h8 : A 1 8 = M 0 22) : ∃ A' M', fX2_advance 1 (CW c A J) = some (Sum.inl none, CW c A' J) ∧ (∀ g, fX7_token 0 (NW K (mg M g)) = some (Sum.inl none, NW K (mg M' g))) ∧ RT A' M' n ∧ FAr A A' ∧ FMr M M' ∧ M' 0 26 = 0 ∧ M 0 22 ≤ M' 0 23 := by
  obtain ⟨⟨⟨h5, h21⟩, hn⟩, hb, ⟨e3, e4, e26⟩, b22⟩ := h
  have hb1 : ∀ k, 0 ≤ k → k < n → 0 ≤ M 7 k ∧ M 7 k ≤ 255 := fun k a d => (hb k a d).2
  obtain ⟨A', x1, ⟨x7, x6, x8, x8b⟩, xf⟩ := c_adv (J := J) (b := M 7) hRd hb h5 hn (M 0 22) h8 b22
  obtain ⟨M', y1, ⟨y23, y24, y22, y25⟩, yf, yb⟩ := m_tokU (K := K) h21 hn hb1 (M 0 22) rfl b22
  have hs := sk_b (M 7) n (M 0 22) b22.2
  have hS := tkS_b (M 7) n (sk (M 7) n (M 0 22))
  have hE := tkE_b (M 7) n (sk (M 7) n (M 0 22)) hs.2.1
  have m7 : M' 7 = M 7 := funext fun z => yb 7 z (by omega)
  refine ⟨A', M', x1, y1, ⟨⟨⟨?_, ?_⟩, hn⟩, fun k a d => ?_, ⟨?_, ?_, ?_⟩, ⟨by rw [x7]; omega, by rw [x6]; exact hS, x8b⟩, ⟨by rw [y22]; omega, by rw [y23]; omega, by rw [y24]; exact hS, fun w => ?_⟩, fun _ => ⟨⟨by rw [x6, y24], by rw [x7, y23]⟩, fun z => ?_⟩⟩, fun b z q => xf b z (by omega), ⟨fun z q => yf z (by omega), yb⟩, ?_, by rw [y23]; exact hs.1⟩
  · rw [xf _ _ (by omega)]; exact h5
  · rw [yf _ (by omega)]; exact h21
  · rw [xf _ _ (by omega), m7]; exact hb k a d
  · rw [xf _ _ (by omega), yf _ (by omega)]; exact e3
  · rw [xf _ _ (by omega), yf _ (by omega)]; exact e4
  · rw [yf 26 (by omega), yf 27 (by omega)]; exact e26
  · rw [y24] at w
    have hE2 := hE.2.2.2 w
    have hr := rn_b (M 7) n 48 57 (sk (M 7) n (M 0 22)) hs.2.1
    rw [y25 w]
    have := nmL_b (M 7) (sk (M 7) n (M 0 22)) (tkE (M 7) n (sk (M 7) n (M 0 22))) (by omega) (fun j a d => hr.2.2.2 j a (by rw [← hE2.1]; exact d))
    omega
  · rw [y24] at z
    refine ⟨⟨by rw [x8 z, y22], by rw [y23, y22]; exact hE.2.2.1 (by omega)⟩, fun w => ?_⟩
    rw [y24] at w
    have hE2 := hE.2.2.2 w
    have hr := rn_b (M 7) n 48 57 (sk (M 7) n (M 0 22)) hs.2.1
    rw [y25 w, y23, y22, m7]
    refine ⟨?_, hE2.2, fun j a d => hr.2.2.2 j a (by rw [← hE2.1]; exact d)⟩
    unfold nmL
    rw [if_pos hE2.2]
  · rw [yf _ (by omega)]; exact h0
theorem p_adv (K : Nat × Nat) (J : JI) (hRd : isReader c 1) (h : RT A M n) (h0 : M 0 26 = 0) (h8 : A 1 8 = M 0 22) : ∃ A' M', fX2_advance 1 (CW c A J) = some (Sum.inl none, CW c A' J) ∧ (∀ g, fX7_token 0 (NW K (mg M g)) = some (Sum.inl none, NW K (mg M' g))) ∧ RT A' M' n ∧ FAr A A' ∧ FMr M M' ∧ M' 0 26 = 0 ∧ M 0 22 ≤ M' 0 23 :=
  p_adv0 K J hRd ⟨h.1, h.2.1, h.2.2.1, h.2.2.2.2.1.1⟩ h0 h8
end RTP
