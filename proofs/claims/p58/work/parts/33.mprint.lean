/-! THE MODEL'S IMPRESSIONS AND DAYS -/
noncomputable def gdN (A : AI) (g : Int → Int) : Nat → Int
  | 0 => 1
  | n + 1 => if gdN A g n = 1 ∧ (cel g n 0 = 0 ∨ gapM A g n = 0 ∧ cel g n 4 < 10) then 1 else 0
theorem gdN_b (A : AI) (g : Int → Int) : ∀ n : Nat, 0 ≤ gdN A g n ∧ gdN A g n ≤ 1
  | 0 => by show (0 : Int) ≤ 1 ∧ (1 : Int) ≤ 1; omega
  | n + 1 => by unfold gdN; split <;> omega
def shN (A : AI) (g : Int → Int) : Nat → Int → Int
  | 0 => g
  | n + 1 => gpu (shN A g n) n 4 (cel (shN A g n) n 4 + A 0 6 * cel (shN A g n) n 0)
def daN (A : AI) (g : Int → Int) : Nat → Int → Int
  | 0 => g
  | n + 1 => gpu (daN A g n) n 4 (cel (daN A g n) n 4 + A 0 7 * suW (A 1) (daN A g n) n)
theorem cel_shN (A : AI) (g : Int → Int) (r w : Int) (hr : 0 ≤ r) (hw : 0 ≤ w ∧ w < 512) : ∀ n : Nat, cel (shN A g n) r w = if w = 4 ∧ r < n then cel g r 4 + A 0 6 * cel g r 0 else cel g r w
  | 0 => by rw [if_neg (by omega)]; rfl
  | n + 1 => by
    have ih := cel_shN A g r w hr hw n
    unfold shN
    rw [cel_pu _ _ _ _ _ _ (by omega)]
    by_cases q : r = n ∧ w = 4
    · have ih4 := cel_shN A g r 4 hr (by omega) n
      have ih0 := cel_shN A g r 0 hr (by omega) n
      rw [if_neg (by omega)] at ih4 ih0
      rw [if_pos q, if_pos (by omega), ← q.1, ih4, ih0]
    · rw [if_neg q, ih]
      by_cases q2 : w = 4 ∧ r < n
      · rw [if_pos q2, if_pos (by omega)]
      · rw [if_neg q2, if_neg (by omega)]
theorem lo_shN (A : AI) (g : Int → Int) (z : Int) (h : z < 16) : ∀ n : Nat, shN A g n z = g z
  | 0 => rfl
  | n + 1 => by
    unfold shN
    rw [gpu_lo _ _ _ _ _ (by omega), lo_shN A g z h n]
theorem suW_cong {met g h : Int → Int} {r : Int} (h1 : cel h r 1 = cel g r 1) (h2 : ∀ k, 0 ≤ k → k < cel g r 1 → cel h r (11 + k) = cel g r (11 + k)) : suW met h r = suW met g r := by
  unfold suW
  rw [h1]
  exact sm_c _ _ _ fun k a b => by rw [h2 k a b]
theorem suB_cong {g h : Int → Int} {r : Int} (h1 : cel h r 0 = cel g r 0) (h2 : ∀ k, 0 ≤ k → k < cel g r 0 → cel h r (5 + k) = cel g r (5 + k)) : suB h r = suB g r := by
  unfold suB
  rw [h1]
  exact sm_c _ _ _ fun k a b => by rw [h2 k a b]
theorem suP_cong {len g h : Int → Int} {r : Int} (h1 : cel h r 1 = cel g r 1) (h2 : ∀ k, 0 ≤ k → k < cel g r 1 → cel h r (11 + k) = cel g r (11 + k)) : suP len h r = suP len g r := by
  unfold suP
  rw [h1]
  exact sm_c _ _ _ fun k a b => by rw [h2 k a b]
theorem gapM_cong {A : AI} {g h : Int → Int} {r : Int} (hg : RG g r) (e : ∀ w, 0 ≤ w → w < 512 → w ≠ 4 → cel h r w = cel g r w) : gapM A h r = gapM A g r := by
  have h1 := hg.1
  have h2 := hg.2.1
  unfold gapM uQ
  rw [suB_cong (g := g) (e 0 (by omega) (by omega) (by omega)) (fun k a b => e _ (by omega) (by omega) (by omega)), suP_cong (g := g) (e 1 (by omega) (by omega) (by omega)) (fun k a b => e _ (by omega) (by omega) (by omega)), e 2 (by omega) (by omega) (by omega), e 3 (by omega) (by omega) (by omega)]
theorem cel_daN (A : AI) {g : Int → Int} (hg : GR g) (r w : Int) (hr : 0 ≤ r ∧ r < 8) (hw : 0 ≤ w ∧ w < 512) : ∀ n : Nat, cel (daN A g n) r w = if w = 4 ∧ r < n then cel g r 4 + A 0 7 * suW (A 1) g r else cel g r w
  | 0 => by rw [if_neg (by omega)]; rfl
  | n + 1 => by
    have ih := cel_daN A hg r w hr hw n
    unfold daN
    rw [cel_pu _ _ _ _ _ _ (by omega)]
    by_cases q : r = n ∧ w = 4
    · have ih4 := cel_daN A hg r 4 hr (by omega) n
      have hp := (hg r hr.1 hr.2).2.1
      rw [if_neg (by omega)] at ih4
      rw [if_pos q, if_pos (by omega), ← q.1, ih4, suW_cong (g := g)]
      · rw [cel_daN A hg r 1 hr (by omega) n, if_neg (by omega)]
      · intro k a b
        rw [cel_daN A hg r (11 + k) hr (by omega) n, if_neg (by omega)]
    · rw [if_neg q, ih]
      by_cases q2 : w = 4 ∧ r < n
      · rw [if_pos q2, if_pos (by omega)]
      · rw [if_neg q2, if_neg (by omega)]
theorem lo_daN (A : AI) (g : Int → Int) (z : Int) (h : z < 16) : ∀ n : Nat, daN A g n z = g z
  | 0 => rfl
  | n + 1 => by
    unfold daN
    rw [gpu_lo _ _ _ _ _ (by omega), lo_daN A g z h n]
/-- the slack has room to grow -/
abbrev GS (g : Int → Int) (B : Int) : Prop := ∀ r, 0 ≤ r → r < 8 → cel g r 4 ≤ B
theorem RG.s4' {g h : Int → Int} {r : Int} (hg : RG g r) (e : ∀ w, 0 ≤ w → w < 512 → w ≠ 4 → cel h r w = cel g r w) (e4 : 0 ≤ cel h r 4 ∧ cel h r 4 ≤ 600000000) : RG h r := by
  obtain ⟨h1, h2, h3, h4, h5, h6, h7⟩ := hg
  unfold RG
  rw [e 0 (by omega) (by omega) (by omega), e 1 (by omega) (by omega) (by omega), e 2 (by omega) (by omega) (by omega), e 3 (by omega) (by omega) (by omega)]
  exact ⟨h1, h2, fun k a b => by rw [e (5 + k) (by omega) (by omega) (by omega)]; exact h3 k a b, fun k a b => by rw [e (11 + k) (by omega) (by omega) (by omega)]; exact h4 k a b, h5, h6, e4⟩
theorem mul_b {a b m n : Int} (h : (0 ≤ a ∧ a ≤ m) ∧ 0 ≤ b ∧ b ≤ n) : 0 ≤ a * b ∧ a * b ≤ m * n :=
  ⟨Int.mul_nonneg h.1.1 h.2.1, Int.mul_le_mul h.1.2 h.2.2 h.2.1 (by omega)⟩
theorem GR.sh {A : AI} {g : Int → Int} (hA : SA A) (hg : GR g) (hs : GS g 500000000) (n : Nat) : GR (shN A g n) := by
  intro r a b
  have h1 := (hg r a b).1
  have h7 := (hg r a b).2.2.2.2.2.2
  have h6 := hA.1.2.2.2.2.1
  have hm := mul_b (m := 9) (n := 6) ⟨h6, h1⟩
  have hs := hs r a b
  refine RG.s4' (hg r a b) (fun w c d e => by rw [cel_shN A g r w a ⟨c, d⟩, if_neg (by omega)]) ?_
  rw [cel_shN A g r 4 a (by omega)]
  split <;> omega
theorem GR.da {A : AI} {g : Int → Int} (hA : SA A) (hg : GR g) (hs : GS g 500000000) (n : Nat) : GR (daN A g n) := by
  intro r a b
  have h1 := (hg r a b).2.1
  have hw := suW_b (met := A 1) (hg r a b)
  have h7 := (hg r a b).2.2.2.2.2.2
  have h6 := hA.1.2.2.2.2.2.1
  have hm := mul_b (a := A 0 7) (b := suW (A 1) g r) (m := 9) (n := 500) ⟨h6, by omega⟩
  have hs := hs r a b
  refine RG.s4' (hg r a b) (fun w c d e => by rw [cel_daN A hg r w ⟨a, b⟩ ⟨c, d⟩, if_neg (by omega)]) ?_
  rw [cel_daN A hg r 4 ⟨a, b⟩ (by omega)]
  split <;> omega
noncomputable def gPr (A : AI) (g : Int → Int) : Int × (Int → Int) :=
  ((lkN A (shN A g (A 0 3).toNat) (A 0 3).toNat).1,
   gu (gu (lkN A (shN A g (A 0 3).toNat) (A 0 3).toNat).2 1 ((lkN A (shN A g (A 0 3).toNat) (A 0 3).toNat).2 1 + 1)) 2 ((lkN A (shN A g (A 0 3).toNat) (A 0 3).toNat).2 2 +
     (if (lkN A (shN A g (A 0 3).toNat) (A 0 3).toNat).1 = 0 ∧ gdN A (gu (lkN A (shN A g (A 0 3).toNat) (A 0 3).toNat).2 1 ((lkN A (shN A g (A 0 3).toNat) (A 0 3).toNat).2 1 + 1)) (A 0 3).toNat = 1 then 1 else 0)))
noncomputable def gDa (A : AI) (g : Int → Int) : Int × (Int → Int) := lkN A (gu (daN A g (A 0 3).toNat) 3 (g 3 + 1)) (A 0 3).toNat
section MPR
variable {K : Nat × Nat} {A : AI} {g : Int → Int} {r : Int}
theorem e_areGood (hA : SA A) (hg : GR g) : fX7_areGood 0 (NW K (mg A g)) = some (Sum.inl (some (Value.int (ii (gdN A g (A 0 3).toNat)))), NW K (mg A g)) := by
  have h3 := hA.1.2.1
  simp only [fX7_areGood, il0, il1]
  refine lp (fun n i (s : Int) => fX7_areGood_4 n 0 (ii s) (ii i) (NW K (mg A g))) (fun x => x = _) (fun i s => 0 ≤ i ∧ s = gdN A g i.toNat) (A 0 3) ?_ ?_ FU 0 1 (by omega) ⟨by omega, rfl⟩ (by have := FU_e; omega)
  · rintro n i s hi ⟨hI, hs⟩
    have hR : RG g i := hg i hI (by omega)
    have hb := gdN_b A g i.toNat
    have hc := hR.1
    have hd := hR.2.2.2.2.2.2
    have hgp := gapM_b hA hR
    refine Or.inr ⟨gdN A g (i + 1).toNat, ⟨by omega, rfl⟩, ?_⟩
    rw [show (i + 1).toNat = i.toNat + 1 by omega]
    unfold gdN
    rw [show ((i.toNat : Nat) : Int) = i by omega, ← hs]
    by_cases q : s = 1
    · by_cases q1 : cel g i 0 = 0
      · rw [if_pos ⟨q, Or.inl q1⟩]
        simp (disch := first | assumption | omega) only [fX7_areGood_4, fX7_areGood_44, fX7_areGood_48, fX7_areGood_49, nR1, nA1, nU1, nR2, nA2, nU2, nR3, nA3, nU3, nR4, nA4, nU4, nR5, nA5, nU5, nR6, nA6, nU6, nR7, nA7, nU7, nR8, nA8, nU8, nR9, nA9, nU9, nR10, nA10, nU10, nR11, nA11, nU11, nR12, nA12, nU12, nR13, nA13, nU13, nR14, nA14, nU14, nR15, nA15, nU15, nR16, nA16, nU16, nI0, nS0, nI1, nS1, nI2, nS2, nI3, nS3, nI4, nS4, nI5, nS5, nI6, nS6, nI7, nS7, nI8, nS8, nI9, nS9, nI15, nS15, nI18, nS18, nI19, nS19, nI20, nS20, nI21, nS21, nI22, nS22, nI23, nS23, nI24, nS24, nI25, nS25, nI26, nS26, nI27, nS27, nI32, nS32, nI36, nS36, nI37, nS37, nI40, nS40, nSZ1, nV, nC, il0, il1, il2, il3, il4, il5, il6, il7, il8, il9, il10, il11, il12, il15, il16, il20, il24, il31, il32, il44, il45, il48, il50, il57, il58, il59, il63, il91, il93, il97, il99, il100, il109, il113, il119, il120, il122, il200, il255, il480, il500, il501, il512, il999, il4112, il41120, il1000000, il1000003, ii_add, ii_sub, ii_mul, ii_neg, ii_le, ii_lt, ii_eq, ii_div, q_I, q_V, q_R, lt_q, rZ_q, md_M, md_16, md_4, md_8, md_10, if_true, if_false, if_pos, if_neg, mg_3, mg_0, mg_1, mg_2, mg_k, mg_up3, mg_upk, e_of]
      · by_cases q2 : gapM A g i = 0
        · by_cases q3 : cel g i 4 < 10
          · rw [if_pos ⟨q, Or.inr ⟨q2, q3⟩⟩]
            simp (disch := first | assumption | omega) only [fX7_areGood_4, fX7_areGood_44, fX7_areGood_48, fX7_areGood_49, nR1, nA1, nU1, nR2, nA2, nU2, nR3, nA3, nU3, nR4, nA4, nU4, nR5, nA5, nU5, nR6, nA6, nU6, nR7, nA7, nU7, nR8, nA8, nU8, nR9, nA9, nU9, nR10, nA10, nU10, nR11, nA11, nU11, nR12, nA12, nU12, nR13, nA13, nU13, nR14, nA14, nU14, nR15, nA15, nU15, nR16, nA16, nU16, nI0, nS0, nI1, nS1, nI2, nS2, nI3, nS3, nI4, nS4, nI5, nS5, nI6, nS6, nI7, nS7, nI8, nS8, nI9, nS9, nI15, nS15, nI18, nS18, nI19, nS19, nI20, nS20, nI21, nS21, nI22, nS22, nI23, nS23, nI24, nS24, nI25, nS25, nI26, nS26, nI27, nS27, nI32, nS32, nI36, nS36, nI37, nS37, nI40, nS40, nSZ1, nV, nC, il0, il1, il2, il3, il4, il5, il6, il7, il8, il9, il10, il11, il12, il15, il16, il20, il24, il31, il32, il44, il45, il48, il50, il57, il58, il59, il63, il91, il93, il97, il99, il100, il109, il113, il119, il120, il122, il200, il255, il480, il500, il501, il512, il999, il4112, il41120, il1000000, il1000003, ii_add, ii_sub, ii_mul, ii_neg, ii_le, ii_lt, ii_eq, ii_div, q_I, q_V, q_R, lt_q, rZ_q, md_M, md_16, md_4, md_8, md_10, if_true, if_false, if_pos, if_neg, mg_3, mg_0, mg_1, mg_2, mg_k, mg_up3, mg_upk, e_of, e_gap]
          · rw [if_neg (by omega)]
            simp (disch := first | assumption | omega) only [fX7_areGood_4, fX7_areGood_44, fX7_areGood_48, fX7_areGood_49, nR1, nA1, nU1, nR2, nA2, nU2, nR3, nA3, nU3, nR4, nA4, nU4, nR5, nA5, nU5, nR6, nA6, nU6, nR7, nA7, nU7, nR8, nA8, nU8, nR9, nA9, nU9, nR10, nA10, nU10, nR11, nA11, nU11, nR12, nA12, nU12, nR13, nA13, nU13, nR14, nA14, nU14, nR15, nA15, nU15, nR16, nA16, nU16, nI0, nS0, nI1, nS1, nI2, nS2, nI3, nS3, nI4, nS4, nI5, nS5, nI6, nS6, nI7, nS7, nI8, nS8, nI9, nS9, nI15, nS15, nI18, nS18, nI19, nS19, nI20, nS20, nI21, nS21, nI22, nS22, nI23, nS23, nI24, nS24, nI25, nS25, nI26, nS26, nI27, nS27, nI32, nS32, nI36, nS36, nI37, nS37, nI40, nS40, nSZ1, nV, nC, il0, il1, il2, il3, il4, il5, il6, il7, il8, il9, il10, il11, il12, il15, il16, il20, il24, il31, il32, il44, il45, il48, il50, il57, il58, il59, il63, il91, il93, il97, il99, il100, il109, il113, il119, il120, il122, il200, il255, il480, il500, il501, il512, il999, il4112, il41120, il1000000, il1000003, ii_add, ii_sub, ii_mul, ii_neg, ii_le, ii_lt, ii_eq, ii_div, q_I, q_V, q_R, lt_q, rZ_q, md_M, md_16, md_4, md_8, md_10, if_true, if_false, if_pos, if_neg, mg_3, mg_0, mg_1, mg_2, mg_k, mg_up3, mg_upk, e_of, e_gap]
        · rw [if_neg (by omega)]
          simp (disch := first | assumption | omega) only [fX7_areGood_4, fX7_areGood_44, fX7_areGood_48, fX7_areGood_49, nR1, nA1, nU1, nR2, nA2, nU2, nR3, nA3, nU3, nR4, nA4, nU4, nR5, nA5, nU5, nR6, nA6, nU6, nR7, nA7, nU7, nR8, nA8, nU8, nR9, nA9, nU9, nR10, nA10, nU10, nR11, nA11, nU11, nR12, nA12, nU12, nR13, nA13, nU13, nR14, nA14, nU14, nR15, nA15, nU15, nR16, nA16, nU16, nI0, nS0, nI1, nS1, nI2, nS2, nI3, nS3, nI4, nS4, nI5, nS5, nI6, nS6, nI7, nS7, nI8, nS8, nI9, nS9, nI15, nS15, nI18, nS18, nI19, nS19, nI20, nS20, nI21, nS21, nI22, nS22, nI23, nS23, nI24, nS24, nI25, nS25, nI26, nS26, nI27, nS27, nI32, nS32, nI36, nS36, nI37, nS37, nI40, nS40, nSZ1, nV, nC, il0, il1, il2, il3, il4, il5, il6, il7, il8, il9, il10, il11, il12, il15, il16, il20, il24, il31, il32, il44, il45, il48, il50, il57, il58, il59, il63, il91, il93, il97, il99, il100, il109, il113, il119, il120, il122, il200, il255, il480, il500, il501, il512, il999, il4112, il41120, il1000000, il1000003, ii_add, ii_sub, ii_mul, ii_neg, ii_le, ii_lt, ii_eq, ii_div, q_I, q_V, q_R, lt_q, rZ_q, md_M, md_16, md_4, md_8, md_10, if_true, if_false, if_pos, if_neg, mg_3, mg_0, mg_1, mg_2, mg_k, mg_up3, mg_upk, e_of, e_gap]
    · rw [if_neg (by omega)]
      simp (disch := first | assumption | omega) only [fX7_areGood_4, fX7_areGood_44, fX7_areGood_48, fX7_areGood_49, nR1, nA1, nU1, nR2, nA2, nU2, nR3, nA3, nU3, nR4, nA4, nU4, nR5, nA5, nU5, nR6, nA6, nU6, nR7, nA7, nU7, nR8, nA8, nU8, nR9, nA9, nU9, nR10, nA10, nU10, nR11, nA11, nU11, nR12, nA12, nU12, nR13, nA13, nU13, nR14, nA14, nU14, nR15, nA15, nU15, nR16, nA16, nU16, nI0, nS0, nI1, nS1, nI2, nS2, nI3, nS3, nI4, nS4, nI5, nS5, nI6, nS6, nI7, nS7, nI8, nS8, nI9, nS9, nI15, nS15, nI18, nS18, nI19, nS19, nI20, nS20, nI21, nS21, nI22, nS22, nI23, nS23, nI24, nS24, nI25, nS25, nI26, nS26, nI27, nS27, nI32, nS32, nI36, nS36, nI37, nS37, nI40, nS40, nSZ1, nV, nC, il0, il1, il2, il3, il4, il5, il6, il7, il8, il9, il10, il11, il12, il15, il16, il20, il24, il31, il32, il44, il45, il48, il50, il57, il58, il59, il63, il91, il93, il97, il99, il100, il109, il113, il119, il120, il122, il200, il255, il480, il500, il501, il512, il999, il4112, il41120, il1000000, il1000003, ii_add, ii_sub, ii_mul, ii_neg, ii_le, ii_lt, ii_eq, ii_div, q_I, q_V, q_R, lt_q, rZ_q, md_M, md_16, md_4, md_8, md_10, if_true, if_false, if_pos, if_neg, mg_3, mg_0, mg_1, mg_2, mg_k, mg_up3, mg_upk]
  · rintro n s ⟨hI, hs⟩
    have hb := gdN_b A g (A 0 3).toNat
    rw [hs]
    simp (disch := first | assumption | omega) only [fX7_areGood_4, nR1, nA1, nU1, nR2, nA2, nU2, nR3, nA3, nU3, nR4, nA4, nU4, nR5, nA5, nU5, nR6, nA6, nU6, nR7, nA7, nU7, nR8, nA8, nU8, nR9, nA9, nU9, nR10, nA10, nU10, nR11, nA11, nU11, nR12, nA12, nU12, nR13, nA13, nU13, nR14, nA14, nU14, nR15, nA15, nU15, nR16, nA16, nU16, nI0, nS0, nI1, nS1, nI2, nS2, nI3, nS3, nI4, nS4, nI5, nS5, nI6, nS6, nI7, nS7, nI8, nS8, nI9, nS9, nI15, nS15, nI18, nS18, nI19, nS19, nI20, nS20, nI21, nS21, nI22, nS22, nI23, nS23, nI24, nS24, nI25, nS25, nI26, nS26, nI27, nS27, nI32, nS32, nI36, nS36, nI37, nS37, nI40, nS40, nSZ1, nV, nC, il0, il1, il2, il3, il4, il5, il6, il7, il8, il9, il10, il11, il12, il15, il16, il20, il24, il31, il32, il44, il45, il48, il50, il57, il58, il59, il63, il91, il93, il97, il99, il100, il109, il113, il119, il120, il122, il200, il255, il480, il500, il501, il512, il999, il4112, il41120, il1000000, il1000003, ii_add, ii_sub, ii_mul, ii_neg, ii_le, ii_lt, ii_eq, ii_div, q_I, q_V, q_R, lt_q, rZ_q, md_M, md_16, md_4, md_8, md_10, if_true, if_false, if_pos, if_neg, mg_3, mg_0, mg_1, mg_2, mg_k, mg_up3, mg_upk]
theorem e_prints (hA : SA A) (hg : GR g) (hs : GS g 500000000) : fX7_prints 0 (NW K (mg A g)) = some (Sum.inl (some (Value.int (ii ((gPr A g).1)))), NW K (mg A (gPr A g).2)) := by
  have h3 := hA.1.2.1
  simp only [fX7_prints, il0]
  refine lp (fun n i (s : Int → Int) => fX7_prints_2 n 0 (ii i) (NW K (mg A s))) (fun x => x = _) (fun i s => 0 ≤ i ∧ s = shN A g i.toNat) (A 0 3) ?_ ?_ FU 0 g (by omega) ⟨by omega, rfl⟩ (by have := FU_e; omega)
  · rintro n i s hi ⟨hI, hs1⟩
    refine Or.inr ⟨_, ⟨by omega, rfl⟩, ?_⟩
    rw [show (i + 1).toNat = i.toNat + 1 by omega]
    unfold shN
    rw [show ((i.toNat : Nat) : Int) = i by omega, ← hs1]
    simp (disch := first | assumption | omega) only [fX7_prints_2, nR1, nA1, nU1, nR2, nA2, nU2, nR3, nA3, nU3, nR4, nA4, nU4, nR5, nA5, nU5, nR6, nA6, nU6, nR7, nA7, nU7, nR8, nA8, nU8, nR9, nA9, nU9, nR10, nA10, nU10, nR11, nA11, nU11, nR12, nA12, nU12, nR13, nA13, nU13, nR14, nA14, nU14, nR15, nA15, nU15, nR16, nA16, nU16, nI0, nS0, nI1, nS1, nI2, nS2, nI3, nS3, nI4, nS4, nI5, nS5, nI6, nS6, nI7, nS7, nI8, nS8, nI9, nS9, nI15, nS15, nI18, nS18, nI19, nS19, nI20, nS20, nI21, nS21, nI22, nS22, nI23, nS23, nI24, nS24, nI25, nS25, nI26, nS26, nI27, nS27, nI32, nS32, nI36, nS36, nI37, nS37, nI40, nS40, nSZ1, nV, nC, il0, il1, il2, il3, il4, il5, il6, il7, il8, il9, il10, il11, il12, il15, il16, il20, il24, il31, il32, il44, il45, il48, il50, il57, il58, il59, il63, il91, il93, il97, il99, il100, il109, il113, il119, il120, il122, il200, il255, il480, il500, il501, il512, il999, il4112, il41120, il1000000, il1000003, ii_add, ii_sub, ii_mul, ii_neg, ii_le, ii_lt, ii_eq, ii_div, q_I, q_V, q_R, lt_q, rZ_q, md_M, md_16, md_4, md_8, md_10, if_true, if_false, if_pos, if_neg, mg_3, mg_0, mg_1, mg_2, mg_k, mg_up3, mg_upk, e_of, e_puts]
  · rintro n s ⟨hI, hs1⟩
    have k1 : GR s := by rw [hs1]; exact GR.sh hA hg hs _
    have k2 : GR (lkN A s (A 0 3).toNat).2 := lkN_GR k1 _
    have k3 : GR (gu (lkN A s (A 0 3).toNat).2 1 ((lkN A s (A 0 3).toNat).2 1 + 1)) := fun r a b => (k2 r a b).gu a (by omega)
    have hb := lkN_b A s (A 0 3).toNat
    have hp : (2 : Int) ^ (A 0 3).toNat ≤ 256 := by
      have : ∀ k : Fin 9, (2 : Int) ^ (k : Nat) ≤ 256 := by decide
      exact this ⟨(A 0 3).toNat, by omega⟩
    have hd := gdN_b A (gu (lkN A s (A 0 3).toNat).2 1 ((lkN A s (A 0 3).toNat).2 1 + 1)) (A 0 3).toNat
    unfold gPr
    rw [← hs1]
    by_cases q : (lkN A s (A 0 3).toNat).1 = 0
    · by_cases q2 : gdN A (gu (lkN A s (A 0 3).toNat).2 1 ((lkN A s (A 0 3).toNat).2 1 + 1)) (A 0 3).toNat = 1
      · rw [if_pos ⟨q, q2⟩]
        simp (disch := first | assumption | omega) only [fX7_prints_2, fX7_prints_40, fX7_prints_77, fX7_prints_78, nR1, nA1, nU1, nR2, nA2, nU2, nR3, nA3, nU3, nR4, nA4, nU4, nR5, nA5, nU5, nR6, nA6, nU6, nR7, nA7, nU7, nR8, nA8, nU8, nR9, nA9, nU9, nR10, nA10, nU10, nR11, nA11, nU11, nR12, nA12, nU12, nR13, nA13, nU13, nR14, nA14, nU14, nR15, nA15, nU15, nR16, nA16, nU16, nI0, nS0, nI1, nS1, nI2, nS2, nI3, nS3, nI4, nS4, nI5, nS5, nI6, nS6, nI7, nS7, nI8, nS8, nI9, nS9, nI15, nS15, nI18, nS18, nI19, nS19, nI20, nS20, nI21, nS21, nI22, nS22, nI23, nS23, nI24, nS24, nI25, nS25, nI26, nS26, nI27, nS27, nI32, nS32, nI36, nS36, nI37, nS37, nI40, nS40, nSZ1, nV, nC, il0, il1, il2, il3, il4, il5, il6, il7, il8, il9, il10, il11, il12, il15, il16, il20, il24, il31, il32, il44, il45, il48, il50, il57, il58, il59, il63, il91, il93, il97, il99, il100, il109, il113, il119, il120, il122, il200, il255, il480, il500, il501, il512, il999, il4112, il41120, il1000000, il1000003, ii_add, ii_sub, ii_mul, ii_neg, ii_le, ii_lt, ii_eq, ii_div, q_I, q_V, q_R, lt_q, rZ_q, md_M, md_16, md_4, md_8, md_10, if_true, if_false, if_pos, if_neg, mg_3, mg_0, mg_1, mg_2, mg_k, mg_up3, mg_upk, e_looksAtRows, e_areGood, e_flag, gu_n]
      · rw [if_neg (fun z => q2 z.2)]
        simp (disch := first | assumption | omega) only [fX7_prints_2, fX7_prints_40, fX7_prints_77, fX7_prints_78, nR1, nA1, nU1, nR2, nA2, nU2, nR3, nA3, nU3, nR4, nA4, nU4, nR5, nA5, nU5, nR6, nA6, nU6, nR7, nA7, nU7, nR8, nA8, nU8, nR9, nA9, nU9, nR10, nA10, nU10, nR11, nA11, nU11, nR12, nA12, nU12, nR13, nA13, nU13, nR14, nA14, nU14, nR15, nA15, nU15, nR16, nA16, nU16, nI0, nS0, nI1, nS1, nI2, nS2, nI3, nS3, nI4, nS4, nI5, nS5, nI6, nS6, nI7, nS7, nI8, nS8, nI9, nS9, nI15, nS15, nI18, nS18, nI19, nS19, nI20, nS20, nI21, nS21, nI22, nS22, nI23, nS23, nI24, nS24, nI25, nS25, nI26, nS26, nI27, nS27, nI32, nS32, nI36, nS36, nI37, nS37, nI40, nS40, nSZ1, nV, nC, il0, il1, il2, il3, il4, il5, il6, il7, il8, il9, il10, il11, il12, il15, il16, il20, il24, il31, il32, il44, il45, il48, il50, il57, il58, il59, il63, il91, il93, il97, il99, il100, il109, il113, il119, il120, il122, il200, il255, il480, il500, il501, il512, il999, il4112, il41120, il1000000, il1000003, ii_add, ii_sub, ii_mul, ii_neg, ii_le, ii_lt, ii_eq, ii_div, q_I, q_V, q_R, lt_q, rZ_q, md_M, md_16, md_4, md_8, md_10, if_true, if_false, if_pos, if_neg, mg_3, mg_0, mg_1, mg_2, mg_k, mg_up3, mg_upk, e_looksAtRows, e_areGood, e_flag, gu_n]
    · rw [if_neg (fun z => q z.1)]
      simp (disch := first | assumption | omega) only [fX7_prints_2, fX7_prints_40, fX7_prints_77, fX7_prints_78, nR1, nA1, nU1, nR2, nA2, nU2, nR3, nA3, nU3, nR4, nA4, nU4, nR5, nA5, nU5, nR6, nA6, nU6, nR7, nA7, nU7, nR8, nA8, nU8, nR9, nA9, nU9, nR10, nA10, nU10, nR11, nA11, nU11, nR12, nA12, nU12, nR13, nA13, nU13, nR14, nA14, nU14, nR15, nA15, nU15, nR16, nA16, nU16, nI0, nS0, nI1, nS1, nI2, nS2, nI3, nS3, nI4, nS4, nI5, nS5, nI6, nS6, nI7, nS7, nI8, nS8, nI9, nS9, nI15, nS15, nI18, nS18, nI19, nS19, nI20, nS20, nI21, nS21, nI22, nS22, nI23, nS23, nI24, nS24, nI25, nS25, nI26, nS26, nI27, nS27, nI32, nS32, nI36, nS36, nI37, nS37, nI40, nS40, nSZ1, nV, nC, il0, il1, il2, il3, il4, il5, il6, il7, il8, il9, il10, il11, il12, il15, il16, il20, il24, il31, il32, il44, il45, il48, il50, il57, il58, il59, il63, il91, il93, il97, il99, il100, il109, il113, il119, il120, il122, il200, il255, il480, il500, il501, il512, il999, il4112, il41120, il1000000, il1000003, ii_add, ii_sub, ii_mul, ii_neg, ii_le, ii_lt, ii_eq, ii_div, q_I, q_V, q_R, lt_q, rZ_q, md_M, md_16, md_4, md_8, md_10, if_true, if_false, if_pos, if_neg, mg_3, mg_0, mg_1, mg_2, mg_k, mg_up3, mg_upk, e_looksAtRows, e_areGood, e_flag, gu_n]
theorem e_passes (hA : SA A) (hg : GR g) (hs : GS g 500000000) : fX7_passes 0 (NW K (mg A g)) = some (Sum.inl (some (Value.int (ii ((gDa A g).1)))), NW K (mg A (gDa A g).2)) := by
  have h3 := hA.1.2.1
  simp only [fX7_passes, il0]
  refine lp (fun n i (s : Int → Int) => fX7_passes_2 n 0 (ii i) (NW K (mg A s))) (fun x => x = _) (fun i s => 0 ≤ i ∧ s = daN A g i.toNat) (A 0 3) ?_ ?_ FU 0 g (by omega) ⟨by omega, rfl⟩ (by have := FU_e; omega)
  · rintro n i s hi ⟨hI, hs1⟩
    have k1 : GR s := by rw [hs1]; exact GR.da hA hg hs _
    have k2 := k1 i hI (by omega)
    refine Or.inr ⟨_, ⟨by omega, rfl⟩, ?_⟩
    rw [show (i + 1).toNat = i.toNat + 1 by omega]
    unfold daN
    rw [show ((i.toNat : Nat) : Int) = i by omega, ← hs1]
    simp (disch := first | assumption | omega) only [fX7_passes_2, nR1, nA1, nU1, nR2, nA2, nU2, nR3, nA3, nU3, nR4, nA4, nU4, nR5, nA5, nU5, nR6, nA6, nU6, nR7, nA7, nU7, nR8, nA8, nU8, nR9, nA9, nU9, nR10, nA10, nU10, nR11, nA11, nU11, nR12, nA12, nU12, nR13, nA13, nU13, nR14, nA14, nU14, nR15, nA15, nU15, nR16, nA16, nU16, nI0, nS0, nI1, nS1, nI2, nS2, nI3, nS3, nI4, nS4, nI5, nS5, nI6, nS6, nI7, nS7, nI8, nS8, nI9, nS9, nI15, nS15, nI18, nS18, nI19, nS19, nI20, nS20, nI21, nS21, nI22, nS22, nI23, nS23, nI24, nS24, nI25, nS25, nI26, nS26, nI27, nS27, nI32, nS32, nI36, nS36, nI37, nS37, nI40, nS40, nSZ1, nV, nC, il0, il1, il2, il3, il4, il5, il6, il7, il8, il9, il10, il11, il12, il15, il16, il20, il24, il31, il32, il44, il45, il48, il50, il57, il58, il59, il63, il91, il93, il97, il99, il100, il109, il113, il119, il120, il122, il200, il255, il480, il500, il501, il512, il999, il4112, il41120, il1000000, il1000003, ii_add, ii_sub, ii_mul, ii_neg, ii_le, ii_lt, ii_eq, ii_div, q_I, q_V, q_R, lt_q, rZ_q, md_M, md_16, md_4, md_8, md_10, if_true, if_false, if_pos, if_neg, mg_3, mg_0, mg_1, mg_2, mg_k, mg_up3, mg_upk, e_of, e_puts, e_woodIn]
  · rintro n s ⟨hI, hs1⟩
    have k1 : GR s := by rw [hs1]; exact GR.da hA hg hs _
    have k3 : GR (gu s 3 (s 3 + 1)) := fun r a b => (k1 r a b).gu a (by omega)
    have e3 : s 3 = g 3 := by rw [hs1]; exact lo_daN A g 3 (by omega) _
    unfold gDa
    rw [← hs1, ← e3]
    simp (disch := first | assumption | omega) only [fX7_passes_2, fX7_passes_39, nR1, nA1, nU1, nR2, nA2, nU2, nR3, nA3, nU3, nR4, nA4, nU4, nR5, nA5, nU5, nR6, nA6, nU6, nR7, nA7, nU7, nR8, nA8, nU8, nR9, nA9, nU9, nR10, nA10, nU10, nR11, nA11, nU11, nR12, nA12, nU12, nR13, nA13, nU13, nR14, nA14, nU14, nR15, nA15, nU15, nR16, nA16, nU16, nI0, nS0, nI1, nS1, nI2, nS2, nI3, nS3, nI4, nS4, nI5, nS5, nI6, nS6, nI7, nS7, nI8, nS8, nI9, nS9, nI15, nS15, nI18, nS18, nI19, nS19, nI20, nS20, nI21, nS21, nI22, nS22, nI23, nS23, nI24, nS24, nI25, nS25, nI26, nS26, nI27, nS27, nI32, nS32, nI36, nS36, nI37, nS37, nI40, nS40, nSZ1, nV, nC, il0, il1, il2, il3, il4, il5, il6, il7, il8, il9, il10, il11, il12, il15, il16, il20, il24, il31, il32, il44, il45, il48, il50, il57, il58, il59, il63, il91, il93, il97, il99, il100, il109, il113, il119, il120, il122, il200, il255, il480, il500, il501, il512, il999, il4112, il41120, il1000000, il1000003, ii_add, ii_sub, ii_mul, ii_neg, ii_le, ii_lt, ii_eq, ii_div, q_I, q_V, q_R, lt_q, rZ_q, md_M, md_16, md_4, md_8, md_10, if_true, if_false, if_pos, if_neg, mg_3, mg_0, mg_1, mg_2, mg_k, mg_up3, mg_upk, e_looksAtRows]
end MPR
