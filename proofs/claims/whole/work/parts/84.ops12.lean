/-! CALLS THAT SOLVE: nearest, lockable -/
def lgN (F : Int → Int) : Nat → Int
  | 0 => 0
  | k + 1 => if F ((k : Int) + 1) < 1000000 then (k : Int) + 1 else lgN F k
theorem lgN_b (F : Int → Int) : ∀ k : Nat, 0 ≤ lgN F k ∧ lgN F k ≤ k
  | 0 => by show (0 : Int) ≤ 0 ∧ (0 : Int) ≤ ((0 : Nat) : Int); omega
  | k + 1 => by
    have := lgN_b F k
    unfold lgN
    split <;> omega
theorem lgN_c (F : Int → Int) (x : Nat) : ∀ d : Nat, lgN F (x + d) ≤ x → lgN F (x + d) = lgN F x
  | 0, _ => rfl
  | d + 1, h => by
    have e : lgN F (x + (d + 1)) = if F (((x + d : Nat) : Int) + 1) < 1000000 then ((x + d : Nat) : Int) + 1 else lgN F (x + d) := rfl
    rw [e] at h ⊢
    by_cases y : F (((x + d : Nat) : Int) + 1) < 1000000
    · rw [if_pos y] at h; omega
    · rw [if_neg y] at h ⊢; exact lgN_c F x d h
/-- the longest that can be made -/
def lg (F : Int → Int) (z : Int) : Int := lgN F z.toNat
theorem lg_b (F : Int → Int) (z : Int) (h : 0 ≤ z) : 0 ≤ lg F z ∧ lg F z ≤ z := by
  have := lgN_b F z.toNat
  unfold lg
  omega
theorem lg_s (F : Int → Int) (z : Int) (h : 0 < z) : lg F z = if F z < 1000000 then z else lg F (z - 1) := by
  unfold lg
  rw [show z.toNat = (z - 1).toNat + 1 by omega]
  show (if F (((z - 1).toNat : Int) + 1) < 1000000 then ((z - 1).toNat : Int) + 1 else lgN F (z - 1).toNat) = _
  rw [show ((z - 1).toNat : Int) + 1 = z by omega]
theorem lg_c (F : Int → Int) (x z : Int) (h : 0 ≤ x ∧ x ≤ z) (h2 : lg F z ≤ x) : lg F x = lg F z := by
  unfold lg at h2 ⊢
  have := lgN_c F x.toNat (z - x).toNat
  rw [show x.toNat + (z - x).toNat = z.toNat by omega] at this
  rw [this (by omega)]
/-- how near -/
def nr (F : Int → Int) (R t : Int) : Int := if 0 < R - lg F R - t then R - lg F R - t else 0
theorem nr_s (F : Int → Int) (R t : Int) (hR : 0 ≤ R) (ht : 0 < t) : nr F R t = if 0 ≤ R - t then (if R - t - lg F (R - t) < nr F R (t - 1) then R - t - lg F (R - t) else nr F R (t - 1)) else nr F R (t - 1) := by
  have hb := lg_b F R hR
  unfold nr
  by_cases y : lg F R ≤ R - t
  · rw [lg_c F (R - t) R (by omega) y]
    repeat' split
    all_goals omega
  · by_cases w : 0 ≤ R - t
    · have hb2 := lg_b F (R - t) w
      repeat' split
      all_goals omega
    · repeat' split
      all_goals omega
section OPS12
variable {C0 N0 n : Nat} {K : Nat × Nat} {c : CC} {A : AI} {J : JI} {M : AI} {g g' o : Int → Int} {pl sp tv cap : Nat} {f B : Int}
theorem m_nrIn (F : Int → Int) (hF : ∀ z, 0 ≤ F z ∧ F z ≤ 1000000) (h0 : F 0 < 1000000) (r : Int) (best x4 x6 sum : Int) (hb : 0 ≤ best ∧ best ≤ 1000000) (hs : -1000 ≤ sum ∧ sum ≤ 500) (h6 : -1 ≤ x6 ∧ x6 ≤ 100) (ht : ∀ s, 0 ≤ s → s ≤ sum → M 13 s = F s) (n : Nat) :
    fX7_nearest_80 (fX7_nearest_61 n) FU 0 (ii r) (ii x4) (ii best) (ii x6) (ii sum) (ii 0) (NW K (mg M g)) = fX7_nearest_61 n 0 (ii r) (ii x4) (ii (if 0 ≤ sum then (if sum - lg F sum < best then sum - lg F sum else best) else best)) (ii (x6 + 1)) (NW K (mg M g)) := by
  by_cases y : 0 ≤ sum
  · rw [if_pos y]
    refine lp (fun m i (s : Int) => fX7_nearest_80 (fX7_nearest_61 n) m 0 (ii r) (ii x4) (ii s) (ii x6) (ii sum) (ii i) (NW K (mg M g))) (fun x => x = _) (fun i s => 0 ≤ i ∧ s = if i = 0 then best else (if sum - lg F (i - 1) < best then sum - lg F (i - 1) else best)) (sum + 1) ?_ ?_ FU 0 best (by omega) ⟨by omega, by rw [if_pos rfl]⟩ (by have := FU_e; omega)
    · rintro m i s hi ⟨hJ, hs2⟩
      have e13 := ht i hJ (by omega)
      have hFi := hF i
      have hlb : i ≠ 0 → 0 ≤ lg F (i - 1) ∧ lg F (i - 1) ≤ i - 1 := fun z => lg_b F (i - 1) (by omega)
      have hsb : 0 ≤ s ∧ s ≤ 1000000 := by
        rw [hs2]
        split
        · exact hb
        · have := hlb (by assumption)
          split <;> omega
      have hlg : lg F i = if F i < 1000000 then i else lg F (i - 1) := by
        by_cases w : i = 0
        · rw [w, if_pos h0]; rfl
        · exact lg_s F i (by omega)
      by_cases w : F i < 1000000
      · rw [if_pos w] at hlg
        by_cases v : sum - i < s
        · refine Or.inr ⟨sum - i, ⟨by omega, ?_⟩, ?_⟩
          · rw [if_neg (by omega), show i + 1 - 1 = i by omega, hlg]
            by_cases z : i = 0
            · rw [if_pos z] at hs2; rw [if_pos (by omega)]
            · rw [if_neg z] at hs2
              have := hlb z
              rw [if_pos]
              split at hs2 <;> omega
          · simp (disch := first | assumption | omega) only [fX7_nearest_80, fX7_nearest_115, nR1, nA1, nU1, nR2, nA2, nU2, nR3, nA3, nU3, nR4, nA4, nU4, nR5, nA5, nU5, nR6, nA6, nU6, nR7, nA7, nU7, nR8, nA8, nU8, nR9, nA9, nU9, nR10, nA10, nU10, nR11, nA11, nU11, nR12, nA12, nU12, nR13, nA13, nU13, nR14, nA14, nU14, nR15, nA15, nU15, nR16, nA16, nU16, nI0, nS0, nI1, nS1, nI2, nS2, nI3, nS3, nI4, nS4, nI5, nS5, nI6, nS6, nI7, nS7, nI8, nS8, nI9, nS9, nI15, nS15, nI18, nS18, nI19, nS19, nI20, nS20, nI21, nS21, nI22, nS22, nI23, nS23, nI24, nS24, nI25, nS25, nI26, nS26, nI27, nS27, nI32, nS32, nI36, nS36, nI37, nS37, nI40, nS40, nSZ1, nV, nC, ↓reduceIte, tr_lt, fa_lt, tr_le, fa_le, tr_eq, fa_eq, and_true, true_and, and_false, false_and, il0, il1, il2, il3, il4, il5, il6, il7, il8, il9, il10, il11, il12, il15, il16, il20, il24, il31, il32, il44, il45, il48, il50, il57, il58, il59, il63, il91, il93, il97, il99, il100, il109, il113, il119, il120, il122, il200, il255, il480, il500, il501, il512, il999, il4112, il41120, il1000000, il1000003, ii_add, ii_sub, ii_mul, ii_neg, ii_le, ii_lt, ii_eq, ii_div, q_I, q_V, q_R, lt_q, rZ_q, md_M, md_16, md_4, md_8, md_10, if_true, if_false, if_pos, if_neg, mg_3, mg_0, mg_1, mg_2, mg_k, mg_up3, mg_upk, e13]
        · refine Or.inr ⟨s, ⟨by omega, ?_⟩, ?_⟩
          · rw [if_neg (by omega), show i + 1 - 1 = i by omega, hlg]
            by_cases z : i = 0
            · rw [if_pos z] at hs2; rw [if_neg (by omega)]; exact hs2
            · rw [if_neg z] at hs2
              have := hlb z
              split at hs2
              · omega
              · split <;> omega
          · simp (disch := first | assumption | omega) only [fX7_nearest_80, fX7_nearest_115, nR1, nA1, nU1, nR2, nA2, nU2, nR3, nA3, nU3, nR4, nA4, nU4, nR5, nA5, nU5, nR6, nA6, nU6, nR7, nA7, nU7, nR8, nA8, nU8, nR9, nA9, nU9, nR10, nA10, nU10, nR11, nA11, nU11, nR12, nA12, nU12, nR13, nA13, nU13, nR14, nA14, nU14, nR15, nA15, nU15, nR16, nA16, nU16, nI0, nS0, nI1, nS1, nI2, nS2, nI3, nS3, nI4, nS4, nI5, nS5, nI6, nS6, nI7, nS7, nI8, nS8, nI9, nS9, nI15, nS15, nI18, nS18, nI19, nS19, nI20, nS20, nI21, nS21, nI22, nS22, nI23, nS23, nI24, nS24, nI25, nS25, nI26, nS26, nI27, nS27, nI32, nS32, nI36, nS36, nI37, nS37, nI40, nS40, nSZ1, nV, nC, ↓reduceIte, tr_lt, fa_lt, tr_le, fa_le, tr_eq, fa_eq, and_true, true_and, and_false, false_and, il0, il1, il2, il3, il4, il5, il6, il7, il8, il9, il10, il11, il12, il15, il16, il20, il24, il31, il32, il44, il45, il48, il50, il57, il58, il59, il63, il91, il93, il97, il99, il100, il109, il113, il119, il120, il122, il200, il255, il480, il500, il501, il512, il999, il4112, il41120, il1000000, il1000003, ii_add, ii_sub, ii_mul, ii_neg, ii_le, ii_lt, ii_eq, ii_div, q_I, q_V, q_R, lt_q, rZ_q, md_M, md_16, md_4, md_8, md_10, if_true, if_false, if_pos, if_neg, mg_3, mg_0, mg_1, mg_2, mg_k, mg_up3, mg_upk, e13]
      · rw [if_neg w] at hlg
        refine Or.inr ⟨s, ⟨by omega, ?_⟩, ?_⟩
        · by_cases z : i = 0
          · rw [z] at w; exact absurd h0 w
          · rw [if_neg (by omega), show i + 1 - 1 = i by omega, hlg]
            rw [if_neg z] at hs2
            exact hs2
        · simp (disch := first | assumption | omega) only [fX7_nearest_80, fX7_nearest_115, nR1, nA1, nU1, nR2, nA2, nU2, nR3, nA3, nU3, nR4, nA4, nU4, nR5, nA5, nU5, nR6, nA6, nU6, nR7, nA7, nU7, nR8, nA8, nU8, nR9, nA9, nU9, nR10, nA10, nU10, nR11, nA11, nU11, nR12, nA12, nU12, nR13, nA13, nU13, nR14, nA14, nU14, nR15, nA15, nU15, nR16, nA16, nU16, nI0, nS0, nI1, nS1, nI2, nS2, nI3, nS3, nI4, nS4, nI5, nS5, nI6, nS6, nI7, nS7, nI8, nS8, nI9, nS9, nI15, nS15, nI18, nS18, nI19, nS19, nI20, nS20, nI21, nS21, nI22, nS22, nI23, nS23, nI24, nS24, nI25, nS25, nI26, nS26, nI27, nS27, nI32, nS32, nI36, nS36, nI37, nS37, nI40, nS40, nSZ1, nV, nC, ↓reduceIte, tr_lt, fa_lt, tr_le, fa_le, tr_eq, fa_eq, and_true, true_and, and_false, false_and, il0, il1, il2, il3, il4, il5, il6, il7, il8, il9, il10, il11, il12, il15, il16, il20, il24, il31, il32, il44, il45, il48, il50, il57, il58, il59, il63, il91, il93, il97, il99, il100, il109, il113, il119, il120, il122, il200, il255, il480, il500, il501, il512, il999, il4112, il41120, il1000000, il1000003, ii_add, ii_sub, ii_mul, ii_neg, ii_le, ii_lt, ii_eq, ii_div, q_I, q_V, q_R, lt_q, rZ_q, md_M, md_16, md_4, md_8, md_10, if_true, if_false, if_pos, if_neg, mg_3, mg_0, mg_1, mg_2, mg_k, mg_up3, mg_upk, e13]
    · rintro m s ⟨hJ, hs2⟩
      rw [if_neg (by omega), show sum + 1 - 1 = sum by omega] at hs2
      rw [← hs2]
      simp (disch := first | assumption | omega) only [fX7_nearest_80, fX7_nearest_123, nR1, nA1, nU1, nR2, nA2, nU2, nR3, nA3, nU3, nR4, nA4, nU4, nR5, nA5, nU5, nR6, nA6, nU6, nR7, nA7, nU7, nR8, nA8, nU8, nR9, nA9, nU9, nR10, nA10, nU10, nR11, nA11, nU11, nR12, nA12, nU12, nR13, nA13, nU13, nR14, nA14, nU14, nR15, nA15, nU15, nR16, nA16, nU16, nI0, nS0, nI1, nS1, nI2, nS2, nI3, nS3, nI4, nS4, nI5, nS5, nI6, nS6, nI7, nS7, nI8, nS8, nI9, nS9, nI15, nS15, nI18, nS18, nI19, nS19, nI20, nS20, nI21, nS21, nI22, nS22, nI23, nS23, nI24, nS24, nI25, nS25, nI26, nS26, nI27, nS27, nI32, nS32, nI36, nS36, nI37, nS37, nI40, nS40, nSZ1, nV, nC, ↓reduceIte, tr_lt, fa_lt, tr_le, fa_le, tr_eq, fa_eq, and_true, true_and, and_false, false_and, il0, il1, il2, il3, il4, il5, il6, il7, il8, il9, il10, il11, il12, il15, il16, il20, il24, il31, il32, il44, il45, il48, il50, il57, il58, il59, il63, il91, il93, il97, il99, il100, il109, il113, il119, il120, il122, il200, il255, il480, il500, il501, il512, il999, il4112, il41120, il1000000, il1000003, ii_add, ii_sub, ii_mul, ii_neg, ii_le, ii_lt, ii_eq, ii_div, q_I, q_V, q_R, lt_q, rZ_q, md_M, md_16, md_4, md_8, md_10, if_true, if_false, if_pos, if_neg, mg_3, mg_0, mg_1, mg_2, mg_k, mg_up3, mg_upk]
  · rw [if_neg y]
    obtain ⟨m2, hFU⟩ : ∃ m, FU = m + 1 := ⟨99999999, rfl⟩
    rw [hFU]
    simp (disch := first | assumption | omega) only [fX7_nearest_80, fX7_nearest_123, nR1, nA1, nU1, nR2, nA2, nU2, nR3, nA3, nU3, nR4, nA4, nU4, nR5, nA5, nU5, nR6, nA6, nU6, nR7, nA7, nU7, nR8, nA8, nU8, nR9, nA9, nU9, nR10, nA10, nU10, nR11, nA11, nU11, nR12, nA12, nU12, nR13, nA13, nU13, nR14, nA14, nU14, nR15, nA15, nU15, nR16, nA16, nU16, nI0, nS0, nI1, nS1, nI2, nS2, nI3, nS3, nI4, nS4, nI5, nS5, nI6, nS6, nI7, nS7, nI8, nS8, nI9, nS9, nI15, nS15, nI18, nS18, nI19, nS19, nI20, nS20, nI21, nS21, nI22, nS22, nI23, nS23, nI24, nS24, nI25, nS25, nI26, nS26, nI27, nS27, nI32, nS32, nI36, nS36, nI37, nS37, nI40, nS40, nSZ1, nV, nC, ↓reduceIte, tr_lt, fa_lt, tr_le, fa_le, tr_eq, fa_eq, and_true, true_and, and_false, false_and, il0, il1, il2, il3, il4, il5, il6, il7, il8, il9, il10, il11, il12, il15, il16, il20, il24, il31, il32, il44, il45, il48, il50, il57, il58, il59, il63, il91, il93, il97, il99, il100, il109, il113, il119, il120, il122, il200, il255, il480, il500, il501, il512, il999, il4112, il41120, il1000000, il1000003, ii_add, ii_sub, ii_mul, ii_neg, ii_le, ii_lt, ii_eq, ii_div, q_I, q_V, q_R, lt_q, rZ_q, md_M, md_16, md_4, md_8, md_10, if_true, if_false, if_pos, if_neg, mg_3, mg_0, mg_1, mg_2, mg_k, mg_up3, mg_upk]
end OPS12
