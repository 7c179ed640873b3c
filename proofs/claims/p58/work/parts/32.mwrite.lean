/-! THE MODEL'S ROWS: what changes them. -/
def gAdds (g : Int → Int) (r its : Int) : Int → Int := gpu (gpu g r (5 + cel g r 0) its) r 0 (cel g r 0 + 1)
def gPut (g : Int → Int) (r d : Int) : Int → Int := gu (gpu (gpu g r (11 + cel g r 1) d) r 1 (cel g r 1 + 1)) (6 + d) (g (6 + d) - 1)
def gNoQ (g : Int → Int) (r : Int) : Int → Int := if cel g r 2 = -1 then g else gu (gpu (gpu g r 2 (-1)) r 3 0) 0 (g 0 + 1)
def gLeft (g : Int → Int) (r n : Int) : Int → Int := fun z => if 6 ≤ z ∧ z < 16 then g z + sm (fun k => if cel g r (11 + k) = z - 6 then 1 else 0) n else g z
def gEmp (g : Int → Int) (r : Int) : Int → Int := gNoQ (gpu (gpu (gLeft g r (cel g r 1)) r 1 0) r 4 0) r
def gFall (g : Int → Int) (r : Int) : Int → Int := gEmp (gpu (gu (gu g 4 (g 4 + cel g r 0)) 5 (g 5 + 1)) r 0 0) r
theorem cel_gLeft (g : Int → Int) (r n r2 w : Int) (h : 0 ≤ r2 ∧ 0 ≤ w) : cel (gLeft g r n) r2 w = cel g r2 w := if_neg (by omega)
theorem cel_gNoQ (g : Int → Int) (r r2 w : Int) (h : (0 ≤ r ∧ 0 ≤ r2) ∧ 0 ≤ w ∧ w < 512) : cel (gNoQ g r) r2 w = if r2 = r ∧ w = 2 then -1 else if r2 = r ∧ w = 3 ∧ cel g r 2 ≠ -1 then 0 else cel g r2 w := by
  unfold gNoQ
  by_cases q : cel g r 2 = -1
  · rw [if_pos q]
    by_cases q2 : r2 = r ∧ w = 2
    · rw [if_pos q2, q2.1, q2.2, q]
    · rw [if_neg q2, if_neg (fun z => z.2.2 q)]
  · rw [if_neg q, cel_gu _ _ _ _ _ (by omega), cel_pu _ _ _ _ _ _ (by omega), cel_pu _ _ _ _ _ _ (by omega)]
    by_cases q2 : r2 = r ∧ w = 2
    · rw [if_pos q2, if_neg (by omega), if_pos q2]
    · by_cases q3 : r2 = r ∧ w = 3
      · rw [if_pos q3, if_neg q2, if_pos ⟨q3.1, q3.2, q⟩]
      · rw [if_neg q2, if_neg q3, if_neg q2, if_neg (fun z => q3 ⟨z.1, z.2.1⟩)]
theorem lo_gNoQ (g : Int → Int) (r z : Int) (h : 0 ≤ r ∧ z < 16) : gNoQ g r z = if z = 0 ∧ cel g r 2 ≠ -1 then g 0 + 1 else g z := by
  unfold gNoQ
  by_cases q : cel g r 2 = -1
  · rw [if_pos q, if_neg (fun z => z.2 q)]
  · rw [if_neg q]
    by_cases q2 : z = 0
    · rw [q2, gu_s, if_pos ⟨rfl, q⟩]
    · rw [gu_n _ _ _ _ q2, gpu_lo _ _ _ _ _ (by omega), gpu_lo _ _ _ _ _ (by omega), if_neg (fun z => q2 z.1)]
theorem cel_gEmp (g : Int → Int) (r r2 w : Int) (h : (0 ≤ r ∧ 0 ≤ r2) ∧ 0 ≤ w ∧ w < 512) : cel (gEmp g r) r2 w = if r2 = r ∧ (w = 1 ∨ w = 4) then 0 else if r2 = r ∧ w = 2 then -1 else if r2 = r ∧ w = 3 ∧ cel g r 2 ≠ -1 then 0 else cel g r2 w := by
  unfold gEmp
  rw [cel_gNoQ _ _ _ _ h, cel_pu _ _ _ _ _ _ (by omega), cel_pu _ _ _ _ _ _ (by omega), cel_pu _ _ _ _ _ _ (by omega), cel_pu _ _ _ _ _ _ (by omega), cel_gLeft _ _ _ _ _ (by omega), cel_gLeft _ _ _ _ _ (by omega), if_neg (show ¬ (r = r ∧ (2 : Int) = 4) by omega), if_neg (show ¬ (r = r ∧ (2 : Int) = 1) by omega)]
  by_cases q : cel g r 2 = -1
  · simp only [q, ne_eq, not_true, and_false, if_false]
    split <;> split <;> (try split) <;> (try split) <;> first | rfl | omega
  · simp only [q, ne_eq, not_false_eq_true, and_true]
    split <;> split <;> (try split) <;> (try split) <;> (try split) <;> first | rfl | omega
theorem lo_gEmp (g : Int → Int) (r z : Int) (h : 0 ≤ r ∧ z < 16) : gEmp g r z = if z = 0 ∧ cel g r 2 ≠ -1 then g 0 + 1 else if 6 ≤ z then g z + cnt g r (z - 6) else g z := by
  unfold gEmp
  rw [lo_gNoQ _ _ _ h, cel_pu _ _ _ _ _ _ (by omega), cel_pu _ _ _ _ _ _ (by omega), cel_gLeft _ _ _ _ _ (by omega), if_neg (show ¬ (r = r ∧ (2 : Int) = 4) by omega), if_neg (show ¬ (r = r ∧ (2 : Int) = 1) by omega), gpu_lo _ _ _ _ _ (by omega), gpu_lo _ _ _ _ _ (by omega), gpu_lo _ _ _ _ _ (by omega), gpu_lo _ _ _ _ _ (by omega)]
  unfold gLeft cnt
  by_cases q : z = 0 ∧ cel g r 2 ≠ -1
  · rw [if_pos q, if_pos q, if_neg (by omega)]
  · rw [if_neg q, if_neg q]
    by_cases q2 : 6 ≤ z
    · rw [if_pos ⟨q2, h.2⟩, if_pos q2]
    · rw [if_neg (by omega), if_neg q2]
theorem cel_gFall (g : Int → Int) (r r2 w : Int) (h : (0 ≤ r ∧ 0 ≤ r2) ∧ 0 ≤ w ∧ w < 512) : cel (gFall g r) r2 w = if r2 = r ∧ (w = 0 ∨ w = 1 ∨ w = 4) then 0 else if r2 = r ∧ w = 2 then -1 else if r2 = r ∧ w = 3 ∧ cel g r 2 ≠ -1 then 0 else cel g r2 w := by
  unfold gFall
  rw [cel_gEmp _ _ _ _ h, cel_pu _ _ _ _ _ _ (by omega), cel_pu _ _ _ _ _ _ (by omega), cel_gu _ _ _ _ _ (by omega), cel_gu _ _ _ _ _ (by omega), cel_gu _ _ _ _ _ (by omega), cel_gu _ _ _ _ _ (by omega), if_neg (show ¬ (r = r ∧ (2 : Int) = 0) by omega)]
  by_cases q : cel g r 2 = -1
  · simp only [q, ne_eq, not_true, and_false, if_false]
    split <;> (try split) <;> (try split) <;> (try split) <;> (try split) <;> first | rfl | omega
  · simp only [q, ne_eq, not_false_eq_true, and_true]
    split <;> (try split) <;> (try split) <;> (try split) <;> (try split) <;> (try split) <;> first | rfl | omega
theorem cnt_cong {g h : Int → Int} {r d : Int} (h1 : cel h r 1 = cel g r 1) (h2 : ∀ k, 0 ≤ k → k < cel g r 1 → cel h r (11 + k) = cel g r (11 + k)) : cnt h r d = cnt g r d := by
  unfold cnt
  rw [h1]
  exact sm_c _ _ _ fun k a b => by rw [h2 k a b]
theorem lo_gFall (g : Int → Int) (r z : Int) (h : 0 ≤ r ∧ z < 16) (hb : cel g r 1 ≤ 500) : gFall g r z = if z = 0 ∧ cel g r 2 ≠ -1 then g 0 + 1 else if z = 4 then g 4 + cel g r 0 else if z = 5 then g 5 + 1 else if 6 ≤ z then g z + cnt g r (z - 6) else g z := by
  unfold gFall
  rw [lo_gEmp _ _ _ h, cel_pu _ _ _ _ _ _ (by omega), cel_gu _ _ _ _ _ (by omega), cel_gu _ _ _ _ _ (by omega), if_neg (show ¬ (r = r ∧ (2 : Int) = 0) by omega), gpu_lo _ _ _ _ _ (by omega), gpu_lo _ _ _ _ _ (by omega)]
  rw [cnt_cong (g := g) (by rw [cel_pu _ _ _ _ _ _ (by omega), cel_gu _ _ _ _ _ (by omega), cel_gu _ _ _ _ _ (by omega), if_neg (by omega)]) (fun k a b => by rw [cel_pu _ _ _ _ _ _ (by omega), cel_gu _ _ _ _ _ (by omega), cel_gu _ _ _ _ _ (by omega), if_neg (by omega)])]
  unfold gu
  split
  · rw [if_neg (by omega), if_neg (by omega)]
  · split <;> split <;> (try split) <;> (try split) <;> first | rfl | omega
/-- a row is as it was where its parts are -/
theorem RG.cong {g h : Int → Int} {r : Int} (hg : RG g r) (e : ∀ w, 0 ≤ w → w < 512 → cel h r w = cel g r w) : RG h r := by
  obtain ⟨h1, h2, h3, h4, h5, h6, h7⟩ := hg
  unfold RG
  rw [e 0 (by omega) (by omega), e 1 (by omega) (by omega), e 2 (by omega) (by omega), e 3 (by omega) (by omega), e 4 (by omega) (by omega)]
  exact ⟨h1, h2, fun k a b => by rw [e (5 + k) (by omega) (by omega)]; exact h3 k a b, fun k a b => by rw [e (11 + k) (by omega) (by omega)]; exact h4 k a b, h5, h6, h7⟩
theorem RG.emp {g : Int → Int} {r r2 : Int} (hr : 0 ≤ r ∧ 0 ≤ r2) (hg : RG g r2) : RG (gEmp g r) r2 := by
  have e : ∀ w, 0 ≤ w → w < 512 → cel (gEmp g r) r2 w = _ := fun w a b => cel_gEmp g r r2 w ⟨hr, a, b⟩
  obtain ⟨h1, h2, h3, h4, h5, h6, h7⟩ := hg
  by_cases q : r2 = r
  · subst q
    unfold RG
    rw [e 0 (by omega) (by omega), e 1 (by omega) (by omega), e 2 (by omega) (by omega), e 3 (by omega) (by omega), e 4 (by omega) (by omega)]
    refine ⟨?_, ?_, fun k a b => ?_, fun k a b => ?_, ?_, ?_, ?_⟩
    · rw [if_neg (by omega), if_neg (by omega), if_neg (by omega)]; exact h1
    · rw [if_pos (by omega)]; omega
    · rw [if_neg (by omega), if_neg (by omega), if_neg (by omega)] at b
      rw [e (5 + k) (by omega) (by omega), if_neg (by omega), if_neg (by omega), if_neg (by omega)]; exact h3 k a b
    · rw [if_pos (by omega)] at b; omega
    · rw [if_neg (by omega), if_pos (by omega)]; omega
    · rw [if_neg (by omega), if_neg (by omega)]; split <;> omega
    · rw [if_pos (by omega)]; omega
  · exact RG.cong ⟨h1, h2, h3, h4, h5, h6, h7⟩ fun w a b => by rw [e w a b, if_neg (by omega), if_neg (by omega), if_neg (by omega)]
theorem RG.gu {g : Int → Int} {r z v : Int} (hr : 0 ≤ r) (hz : z < 16) (hg : RG g r) : RG (gu g z v) r := hg.cong fun w a _ => cel_gu g z v r w ⟨hz, hr, a⟩
theorem RG.noB {g : Int → Int} {r r2 : Int} (hg : RG g r2) : RG (gpu g r 0 0) r2 := by
  have e : ∀ w, 0 ≤ w → w < 512 → cel (gpu g r 0 0) r2 w = _ := fun w a b => cel_pu g r 0 0 r2 w ⟨by omega, a, b⟩
  obtain ⟨h1, h2, h3, h4, h5, h6, h7⟩ := hg
  by_cases q : r2 = r
  · subst q
    unfold RG
    rw [e 0 (by omega) (by omega), e 1 (by omega) (by omega), e 2 (by omega) (by omega), e 3 (by omega) (by omega), e 4 (by omega) (by omega), if_pos (by omega), if_neg (by omega), if_neg (by omega), if_neg (by omega), if_neg (by omega)]
    exact ⟨by omega, h2, fun k a b => by omega, fun k a b => by rw [e (11 + k) (by omega) (by omega), if_neg (by omega)]; exact h4 k a b, h5, h6, h7⟩
  · exact RG.cong ⟨h1, h2, h3, h4, h5, h6, h7⟩ fun w a b => by rw [e w a b, if_neg (by omega)]
theorem RG.fall {g : Int → Int} {r r2 : Int} (hr : 0 ≤ r ∧ 0 ≤ r2) (hg : RG g r2) : RG (gFall g r) r2 :=
  RG.emp hr (RG.noB ((hg.gu hr.2 (by omega)).gu hr.2 (by omega)))
abbrev GR (g : Int → Int) : Prop := ∀ r, 0 ≤ r → r < 8 → RG g r
section MWR
variable {K : Nat × Nat} {A : AI} {g : Int → Int} {r : Int}
theorem e_adds (its : Int) (hr : 0 ≤ r ∧ r < 8) (h : RG g r) : fX7_adds 0 (ii r) (ii its) (NW K (mg A g)) = some (Sum.inl none, NW K (mg A (gAdds g r its))) := by
  have h1 := h.1
  simp (disch := first | assumption | omega) only [fX7_adds, nR1, nA1, nU1, nR2, nA2, nU2, nR3, nA3, nU3, nR4, nA4, nU4, nR5, nA5, nU5, nR6, nA6, nU6, nR7, nA7, nU7, nR8, nA8, nU8, nR9, nA9, nU9, nR10, nA10, nU10, nR11, nA11, nU11, nR12, nA12, nU12, nR13, nA13, nU13, nR14, nA14, nU14, nR15, nA15, nU15, nR16, nA16, nU16, nI0, nS0, nI1, nS1, nI2, nS2, nI3, nS3, nI4, nS4, nI5, nS5, nI6, nS6, nI7, nS7, nI8, nS8, nI9, nS9, nI15, nS15, nI18, nS18, nI19, nS19, nI20, nS20, nI21, nS21, nI22, nS22, nI23, nS23, nI24, nS24, nI25, nS25, nI26, nS26, nI27, nS27, nI32, nS32, nI36, nS36, nI37, nS37, nI40, nS40, nSZ1, nV, nC, il0, il1, il2, il3, il4, il5, il6, il7, il8, il9, il10, il11, il12, il15, il16, il20, il24, il31, il32, il44, il45, il48, il50, il57, il58, il59, il63, il91, il93, il97, il99, il100, il109, il113, il119, il120, il122, il200, il255, il480, il500, il501, il512, il999, il4112, il41120, il1000000, il1000003, ii_add, ii_sub, ii_mul, ii_neg, ii_le, ii_lt, ii_eq, ii_div, q_I, q_V, q_R, lt_q, rZ_q, md_M, md_16, md_4, md_8, md_10, if_true, if_false, if_pos, if_neg, e_of, e_puts, cel_pu_n]
  rfl
theorem e_putsPiece (d : Int) (hr : 0 ≤ r ∧ r < 8) (hd : 0 ≤ d ∧ d < 10) (h : RG g r) : fX7_putsPiece 0 (ii r) (ii d) (NW K (mg A g)) = some (Sum.inl none, NW K (mg A (gPut g r d))) := by
  have h1 := h.2.1
  simp (disch := first | assumption | omega) only [fX7_putsPiece, nR1, nA1, nU1, nR2, nA2, nU2, nR3, nA3, nU3, nR4, nA4, nU4, nR5, nA5, nU5, nR6, nA6, nU6, nR7, nA7, nU7, nR8, nA8, nU8, nR9, nA9, nU9, nR10, nA10, nU10, nR11, nA11, nU11, nR12, nA12, nU12, nR13, nA13, nU13, nR14, nA14, nU14, nR15, nA15, nU15, nR16, nA16, nU16, nI0, nS0, nI1, nS1, nI2, nS2, nI3, nS3, nI4, nS4, nI5, nS5, nI6, nS6, nI7, nS7, nI8, nS8, nI9, nS9, nI15, nS15, nI18, nS18, nI19, nS19, nI20, nS20, nI21, nS21, nI22, nS22, nI23, nS23, nI24, nS24, nI25, nS25, nI26, nS26, nI27, nS27, nI32, nS32, nI36, nS36, nI37, nS37, nI40, nS40, nSZ1, nV, nC, il0, il1, il2, il3, il4, il5, il6, il7, il8, il9, il10, il11, il12, il15, il16, il20, il24, il31, il32, il44, il45, il48, il50, il57, il58, il59, il63, il91, il93, il97, il99, il100, il109, il113, il119, il120, il122, il200, il255, il480, il500, il501, il512, il999, il4112, il41120, il1000000, il1000003, ii_add, ii_sub, ii_mul, ii_neg, ii_le, ii_lt, ii_eq, ii_div, q_I, q_V, q_R, lt_q, rZ_q, md_M, md_16, md_4, md_8, md_10, if_true, if_false, if_pos, if_neg, mg_3, mg_0, mg_1, mg_2, mg_k, mg_up3, mg_upk, e_of, e_puts, cel_pu_n, gpu_lo]
  rfl
theorem e_takesQuoin (hr : 0 ≤ r ∧ r < 8) (h : RG g r) : fX7_takesQuoin 0 (ii r) (NW K (mg A g)) = some (Sum.inl none, NW K (mg A (gNoQ g r))) := by
  unfold gNoQ
  by_cases q : cel g r 2 = -1
  · simp (disch := first | assumption | omega) only [fX7_takesQuoin, nR1, nA1, nU1, nR2, nA2, nU2, nR3, nA3, nU3, nR4, nA4, nU4, nR5, nA5, nU5, nR6, nA6, nU6, nR7, nA7, nU7, nR8, nA8, nU8, nR9, nA9, nU9, nR10, nA10, nU10, nR11, nA11, nU11, nR12, nA12, nU12, nR13, nA13, nU13, nR14, nA14, nU14, nR15, nA15, nU15, nR16, nA16, nU16, nI0, nS0, nI1, nS1, nI2, nS2, nI3, nS3, nI4, nS4, nI5, nS5, nI6, nS6, nI7, nS7, nI8, nS8, nI9, nS9, nI15, nS15, nI18, nS18, nI19, nS19, nI20, nS20, nI21, nS21, nI22, nS22, nI23, nS23, nI24, nS24, nI25, nS25, nI26, nS26, nI27, nS27, nI32, nS32, nI36, nS36, nI37, nS37, nI40, nS40, nSZ1, nV, nC, il0, il1, il2, il3, il4, il5, il6, il7, il8, il9, il10, il11, il12, il15, il16, il20, il24, il31, il32, il44, il45, il48, il50, il57, il58, il59, il63, il91, il93, il97, il99, il100, il109, il113, il119, il120, il122, il200, il255, il480, il500, il501, il512, il999, il4112, il41120, il1000000, il1000003, ii_add, ii_sub, ii_mul, ii_neg, ii_le, ii_lt, ii_eq, ii_div, q_I, q_V, q_R, lt_q, rZ_q, md_M, md_16, md_4, md_8, md_10, if_true, if_false, if_pos, if_neg, mg_3, mg_0, mg_1, mg_2, mg_k, mg_up3, mg_upk, e_hasQuoin, e_puts, gpu_lo]
  · simp (disch := first | assumption | omega) only [fX7_takesQuoin, nR1, nA1, nU1, nR2, nA2, nU2, nR3, nA3, nU3, nR4, nA4, nU4, nR5, nA5, nU5, nR6, nA6, nU6, nR7, nA7, nU7, nR8, nA8, nU8, nR9, nA9, nU9, nR10, nA10, nU10, nR11, nA11, nU11, nR12, nA12, nU12, nR13, nA13, nU13, nR14, nA14, nU14, nR15, nA15, nU15, nR16, nA16, nU16, nI0, nS0, nI1, nS1, nI2, nS2, nI3, nS3, nI4, nS4, nI5, nS5, nI6, nS6, nI7, nS7, nI8, nS8, nI9, nS9, nI15, nS15, nI18, nS18, nI19, nS19, nI20, nS20, nI21, nS21, nI22, nS22, nI23, nS23, nI24, nS24, nI25, nS25, nI26, nS26, nI27, nS27, nI32, nS32, nI36, nS36, nI37, nS37, nI40, nS40, nSZ1, nV, nC, il0, il1, il2, il3, il4, il5, il6, il7, il8, il9, il10, il11, il12, il15, il16, il20, il24, il31, il32, il44, il45, il48, il50, il57, il58, il59, il63, il91, il93, il97, il99, il100, il109, il113, il119, il120, il122, il200, il255, il480, il500, il501, il512, il999, il4112, il41120, il1000000, il1000003, ii_add, ii_sub, ii_mul, ii_neg, ii_le, ii_lt, ii_eq, ii_div, q_I, q_V, q_R, lt_q, rZ_q, md_M, md_16, md_4, md_8, md_10, if_true, if_false, if_pos, if_neg, mg_3, mg_0, mg_1, mg_2, mg_k, mg_up3, mg_upk, e_hasQuoin, e_puts, gpu_lo]
theorem RG.z1 {g : Int → Int} {r r2 : Int} (hg : RG g r2) : RG (gpu g r 1 0) r2 := by
  have e : ∀ w, 0 ≤ w → w < 512 → cel (gpu g r 1 0) r2 w = _ := fun w a b => cel_pu g r 1 0 r2 w ⟨by omega, a, b⟩
  obtain ⟨h1, h2, h3, h4, h5, h6, h7⟩ := hg
  by_cases q : r2 = r
  · subst q
    unfold RG
    rw [e 0 (by omega) (by omega), e 1 (by omega) (by omega), e 2 (by omega) (by omega), e 3 (by omega) (by omega), e 4 (by omega) (by omega), if_neg (by omega), if_pos (by omega), if_neg (by omega), if_neg (by omega), if_neg (by omega)]
    exact ⟨h1, by omega, fun k a b => by rw [e (5 + k) (by omega) (by omega), if_neg (by omega)]; exact h3 k a b, fun k a b => by omega, h5, h6, h7⟩
  · exact RG.cong ⟨h1, h2, h3, h4, h5, h6, h7⟩ fun w a b => by rw [e w a b, if_neg (by omega)]
theorem RG.s4 {g : Int → Int} {r r2 v : Int} (hv : 0 ≤ v ∧ v ≤ 600000000) (hg : RG g r2) : RG (gpu g r 4 v) r2 := by
  have e : ∀ w, 0 ≤ w → w < 512 → cel (gpu g r 4 v) r2 w = _ := fun w a b => cel_pu g r 4 v r2 w ⟨by omega, a, b⟩
  obtain ⟨h1, h2, h3, h4, h5, h6, h7⟩ := hg
  by_cases q : r2 = r
  · subst q
    unfold RG
    rw [e 0 (by omega) (by omega), e 1 (by omega) (by omega), e 2 (by omega) (by omega), e 3 (by omega) (by omega), e 4 (by omega) (by omega), if_neg (by omega), if_neg (by omega), if_neg (by omega), if_neg (by omega), if_pos (by omega)]
    exact ⟨h1, h2, fun k a b => by rw [e (5 + k) (by omega) (by omega), if_neg (by omega)]; exact h3 k a b, fun k a b => by rw [e (11 + k) (by omega) (by omega), if_neg (by omega)]; exact h4 k a b, h5, h6, hv⟩
  · exact RG.cong ⟨h1, h2, h3, h4, h5, h6, h7⟩ fun w a b => by rw [e w a b, if_neg (by omega)]
theorem RG.left {g : Int → Int} {r n r2 : Int} (hr : 0 ≤ r2) (hg : RG g r2) : RG (gLeft g r n) r2 := hg.cong fun w a _ => cel_gLeft g r n r2 w ⟨hr, a⟩
theorem e_empties (hr : 0 ≤ r ∧ r < 8) (h : RG g r) : fX7_empties 0 (ii r) (NW K (mg A g)) = some (Sum.inl (some (Value.int (ii (cel g r 1)))), NW K (mg A (gEmp g r))) := by
  have h1 := h.2.1
  simp (disch := first | assumption | omega) only [fX7_empties, nR1, nA1, nU1, nR2, nA2, nU2, nR3, nA3, nU3, nR4, nA4, nU4, nR5, nA5, nU5, nR6, nA6, nU6, nR7, nA7, nU7, nR8, nA8, nU8, nR9, nA9, nU9, nR10, nA10, nU10, nR11, nA11, nU11, nR12, nA12, nU12, nR13, nA13, nU13, nR14, nA14, nU14, nR15, nA15, nU15, nR16, nA16, nU16, nI0, nS0, nI1, nS1, nI2, nS2, nI3, nS3, nI4, nS4, nI5, nS5, nI6, nS6, nI7, nS7, nI8, nS8, nI9, nS9, nI15, nS15, nI18, nS18, nI19, nS19, nI20, nS20, nI21, nS21, nI22, nS22, nI23, nS23, nI24, nS24, nI25, nS25, nI26, nS26, nI27, nS27, nI32, nS32, nI36, nS36, nI37, nS37, nI40, nS40, nSZ1, nV, nC, il0, il1, il2, il3, il4, il5, il6, il7, il8, il9, il10, il11, il12, il15, il16, il20, il24, il31, il32, il44, il45, il48, il50, il57, il58, il59, il63, il91, il93, il97, il99, il100, il109, il113, il119, il120, il122, il200, il255, il480, il500, il501, il512, il999, il4112, il41120, il1000000, il1000003, ii_add, ii_sub, ii_mul, ii_neg, ii_le, ii_lt, ii_eq, ii_div, q_I, q_V, q_R, lt_q, rZ_q, md_M, md_16, md_4, md_8, md_10, if_true, if_false, if_pos, if_neg, e_of]
  refine lp (fun n i (h : Int → Int) => fX7_empties_9 n 0 (ii r) (ii (cel g r 1)) (ii i) (NW K (mg A h))) (fun x => x = _) (fun i h => 0 ≤ i ∧ h = gLeft g r i) (cel g r 1) ?_ ?_ FU 0 g (by omega) ⟨by omega, ?_⟩ (by have := FU_e; omega)
  · rintro n i s hi ⟨hI, hs⟩
    have h3 := h.2.2.2.1 i hI hi
    refine Or.inr ⟨gLeft g r (i + 1), ⟨by omega, rfl⟩, ?_⟩
    have e : gu (gLeft g r i) (6 + cel g r (11 + i)) (gLeft g r i (6 + cel g r (11 + i)) + 1) = gLeft g r (i + 1) := by
      funext z
      unfold gu gLeft
      rw [sm_s _ _ hI]
      by_cases q : z = 6 + cel g r (11 + i)
      · rw [if_pos q, if_pos (by omega), if_pos (by omega), if_pos (by omega), ← q]; omega
      · rw [if_neg q]
        by_cases q2 : 6 ≤ z ∧ z < 16
        · rw [if_pos q2, if_pos q2, if_neg (by omega)]; omega
        · rw [if_neg q2, if_neg q2]
    rw [hs, ← e]
    simp (disch := first | assumption | omega) only [fX7_empties_9, nR1, nA1, nU1, nR2, nA2, nU2, nR3, nA3, nU3, nR4, nA4, nU4, nR5, nA5, nU5, nR6, nA6, nU6, nR7, nA7, nU7, nR8, nA8, nU8, nR9, nA9, nU9, nR10, nA10, nU10, nR11, nA11, nU11, nR12, nA12, nU12, nR13, nA13, nU13, nR14, nA14, nU14, nR15, nA15, nU15, nR16, nA16, nU16, nI0, nS0, nI1, nS1, nI2, nS2, nI3, nS3, nI4, nS4, nI5, nS5, nI6, nS6, nI7, nS7, nI8, nS8, nI9, nS9, nI15, nS15, nI18, nS18, nI19, nS19, nI20, nS20, nI21, nS21, nI22, nS22, nI23, nS23, nI24, nS24, nI25, nS25, nI26, nS26, nI27, nS27, nI32, nS32, nI36, nS36, nI37, nS37, nI40, nS40, nSZ1, nV, nC, il0, il1, il2, il3, il4, il5, il6, il7, il8, il9, il10, il11, il12, il15, il16, il20, il24, il31, il32, il44, il45, il48, il50, il57, il58, il59, il63, il91, il93, il97, il99, il100, il109, il113, il119, il120, il122, il200, il255, il480, il500, il501, il512, il999, il4112, il41120, il1000000, il1000003, ii_add, ii_sub, ii_mul, ii_neg, ii_le, ii_lt, ii_eq, ii_div, q_I, q_V, q_R, lt_q, rZ_q, md_M, md_16, md_4, md_8, md_10, if_true, if_false, if_pos, if_neg, mg_3, mg_0, mg_1, mg_2, mg_k, mg_up3, mg_upk, e_of, cel_gLeft]
  · rintro n s ⟨hI, hs⟩
    have k1 : RG (gpu (gpu (gLeft g r (cel g r 1)) r 1 0) r 4 0) r := RG.s4 (by omega) (RG.z1 (RG.left hr.1 h))
    rw [hs]
    simp (disch := first | assumption | omega) only [fX7_empties_9, fX7_empties_41, nR1, nA1, nU1, nR2, nA2, nU2, nR3, nA3, nU3, nR4, nA4, nU4, nR5, nA5, nU5, nR6, nA6, nU6, nR7, nA7, nU7, nR8, nA8, nU8, nR9, nA9, nU9, nR10, nA10, nU10, nR11, nA11, nU11, nR12, nA12, nU12, nR13, nA13, nU13, nR14, nA14, nU14, nR15, nA15, nU15, nR16, nA16, nU16, nI0, nS0, nI1, nS1, nI2, nS2, nI3, nS3, nI4, nS4, nI5, nS5, nI6, nS6, nI7, nS7, nI8, nS8, nI9, nS9, nI15, nS15, nI18, nS18, nI19, nS19, nI20, nS20, nI21, nS21, nI22, nS22, nI23, nS23, nI24, nS24, nI25, nS25, nI26, nS26, nI27, nS27, nI32, nS32, nI36, nS36, nI37, nS37, nI40, nS40, nSZ1, nV, nC, il0, il1, il2, il3, il4, il5, il6, il7, il8, il9, il10, il11, il12, il15, il16, il20, il24, il31, il32, il44, il45, il48, il50, il57, il58, il59, il63, il91, il93, il97, il99, il100, il109, il113, il119, il120, il122, il200, il255, il480, il500, il501, il512, il999, il4112, il41120, il1000000, il1000003, ii_add, ii_sub, ii_mul, ii_neg, ii_le, ii_lt, ii_eq, ii_div, q_I, q_V, q_R, lt_q, rZ_q, md_M, md_16, md_4, md_8, md_10, if_true, if_false, if_pos, if_neg, mg_3, mg_0, mg_1, mg_2, mg_k, mg_up3, mg_upk, e_of, e_puts, e_takesQuoin]
    rfl
  · funext z
    unfold gLeft
    rw [sm_0]
    split <;> omega
/-! the rows are looked at -/
theorem bit_or (s r : Int) (h : (0 ≤ s ∧ s < 2 ^ r.toNat) ∧ 0 ≤ r ∧ r < 8) : ii s ||| (ii 1 <<< (ii r &&& ii 31)) = ii (s + 2 ^ r.toNat) := by
  have key : ∀ r : Fin 8, ∀ s : Fin 128, (s : Nat) < 2 ^ (r : Nat) → ii (s : Nat) ||| (ii 1 <<< (ii (r : Nat) &&& ii 31)) = ii ((s : Nat) + 2 ^ (r : Nat) : Nat) := by decide +kernel
  have hp : ∀ r : Fin 8, 2 ^ (r : Nat) ≤ 128 := by decide
  have hr8 : r.toNat < 8 := by omega
  have e1 : (2 : Int) ^ r.toNat = ((2 ^ r.toNat : Nat) : Int) := by rw [Int.natCast_pow]; rfl
  have h2 := hp ⟨r.toNat, hr8⟩
  dsimp only at h2
  rw [e1] at h
  have h3 := key ⟨r.toNat, hr8⟩ ⟨s.toNat, by omega⟩ (by show s.toNat < 2 ^ r.toNat; omega)
  dsimp only at h3
  rw [show ((s.toNat : Nat) : Int) = s by omega, show ((r.toNat : Nat) : Int) = r by omega] at h3
  rw [h3, e1]
  congr 1
  omega
def fl (A : AI) (g : Int → Int) (r : Int) : Prop := 0 < cel g r 0 ∧ A 0 8 < cel g r 4 + 10 * gapM A g r
theorem fl_dec (A : AI) (g : Int → Int) (r : Int) : fl A g r ∨ ¬ fl A g r := Classical.em _
noncomputable def lkN (A : AI) (g : Int → Int) : Nat → Int × (Int → Int)
  | 0 => (0, g)
  | n + 1 => if 0 < cel (lkN A g n).2 n 0 ∧ A 0 8 < cel (lkN A g n).2 n 4 + 10 * gapM A (lkN A g n).2 n then ((lkN A g n).1 + 2 ^ n, gFall (lkN A g n).2 n) else lkN A g n
theorem lkN_b (A : AI) (g : Int → Int) : ∀ n : Nat, 0 ≤ (lkN A g n).1 ∧ (lkN A g n).1 < 2 ^ n
  | 0 => by show (0 : Int) ≤ 0 ∧ (0 : Int) < 1; omega
  | n + 1 => by
    have ih := lkN_b A g n
    rw [Int.pow_succ]
    unfold lkN
    split
    · dsimp only; omega
    · omega
theorem lkN_GR {A : AI} {g : Int → Int} (hg : GR g) : ∀ n : Nat, GR (lkN A g n).2
  | 0 => hg
  | n + 1 => by
    have ih := lkN_GR (A := A) hg n
    unfold lkN
    split
    · exact fun r a b => RG.fall ⟨by omega, a⟩ (ih r a b)
    · exact ih
theorem e_looksAtRows (hA : SA A) (hg : GR g) : fX7_looksAtRows 0 (NW K (mg A g)) = some (Sum.inl (some (Value.int (ii ((lkN A g (A 0 3).toNat).1)))), NW K (mg A (lkN A g (A 0 3).toNat).2)) := by
  have h3 := hA.1.2.1
  have h8 := hA.1.2.2.2.2.2.2.1
  simp only [fX7_looksAtRows, il0]
  refine lp (fun n i (s : Int × (Int → Int)) => fX7_looksAtRows_4 n 0 (ii s.1) (ii i) (NW K (mg A s.2))) (fun x => x = _) (fun i s => 0 ≤ i ∧ s = lkN A g i.toNat) (A 0 3) ?_ ?_ FU 0 (0, g) (by omega) ⟨by omega, rfl⟩ (by have := FU_e; omega)
  · rintro n i s hi ⟨hI, hs⟩
    have hR : RG s.2 i := by rw [hs]; exact lkN_GR hg _ i hI (by omega)
    have hb := lkN_b A g i.toNat
    have hc := hR.1
    have hd := hR.2.2.2.2.2.2
    have hgp := gapM_b hA hR
    refine Or.inr ⟨lkN A g (i + 1).toNat, ⟨by omega, rfl⟩, ?_⟩
    rw [show (i + 1).toNat = i.toNat + 1 by omega]
    unfold lkN
    rw [show ((i.toNat : Nat) : Int) = i by omega, ← hs]
    by_cases q : 0 < cel s.2 i 0
    · by_cases q2 : A 0 8 < cel s.2 i 4 + 10 * gapM A s.2 i
      · rw [if_pos ⟨q, q2⟩]
        have hb2 := bit_or s.1 i (by rw [hs]; exact ⟨hb, by omega⟩)
        have k1 : RG (gpu (gu (gu s.2 4 (s.2 4 + cel s.2 i 0)) 5 (s.2 5 + 1)) i 0 0) i := RG.noB ((hR.gu hI (by omega)).gu hI (by omega))
        simp (disch := first | assumption | omega) only [fX7_looksAtRows_4, fX7_looksAtRows_77, nR1, nA1, nU1, nR2, nA2, nU2, nR3, nA3, nU3, nR4, nA4, nU4, nR5, nA5, nU5, nR6, nA6, nU6, nR7, nA7, nU7, nR8, nA8, nU8, nR9, nA9, nU9, nR10, nA10, nU10, nR11, nA11, nU11, nR12, nA12, nU12, nR13, nA13, nU13, nR14, nA14, nU14, nR15, nA15, nU15, nR16, nA16, nU16, nI0, nS0, nI1, nS1, nI2, nS2, nI3, nS3, nI4, nS4, nI5, nS5, nI6, nS6, nI7, nS7, nI8, nS8, nI9, nS9, nI15, nS15, nI18, nS18, nI19, nS19, nI20, nS20, nI21, nS21, nI22, nS22, nI23, nS23, nI24, nS24, nI25, nS25, nI26, nS26, nI27, nS27, nI32, nS32, nI36, nS36, nI37, nS37, nI40, nS40, nSZ1, nV, nC, il0, il1, il2, il3, il4, il5, il6, il7, il8, il9, il10, il11, il12, il15, il16, il20, il24, il31, il32, il44, il45, il48, il50, il57, il58, il59, il63, il91, il93, il97, il99, il100, il109, il113, il119, il120, il122, il200, il255, il480, il500, il501, il512, il999, il4112, il41120, il1000000, il1000003, ii_add, ii_sub, ii_mul, ii_neg, ii_le, ii_lt, ii_eq, ii_div, q_I, q_V, q_R, lt_q, rZ_q, md_M, md_16, md_4, md_8, md_10, if_true, if_false, if_pos, if_neg, mg_3, mg_0, mg_1, mg_2, mg_k, mg_up3, mg_upk, e_of, e_puts, e_looseness, e_empties, hb2, gu_n, cel_gu]
        rfl
      · rw [if_neg (fun z => q2 z.2)]
        simp (disch := first | assumption | omega) only [fX7_looksAtRows_4, fX7_looksAtRows_77, nR1, nA1, nU1, nR2, nA2, nU2, nR3, nA3, nU3, nR4, nA4, nU4, nR5, nA5, nU5, nR6, nA6, nU6, nR7, nA7, nU7, nR8, nA8, nU8, nR9, nA9, nU9, nR10, nA10, nU10, nR11, nA11, nU11, nR12, nA12, nU12, nR13, nA13, nU13, nR14, nA14, nU14, nR15, nA15, nU15, nR16, nA16, nU16, nI0, nS0, nI1, nS1, nI2, nS2, nI3, nS3, nI4, nS4, nI5, nS5, nI6, nS6, nI7, nS7, nI8, nS8, nI9, nS9, nI15, nS15, nI18, nS18, nI19, nS19, nI20, nS20, nI21, nS21, nI22, nS22, nI23, nS23, nI24, nS24, nI25, nS25, nI26, nS26, nI27, nS27, nI32, nS32, nI36, nS36, nI37, nS37, nI40, nS40, nSZ1, nV, nC, il0, il1, il2, il3, il4, il5, il6, il7, il8, il9, il10, il11, il12, il15, il16, il20, il24, il31, il32, il44, il45, il48, il50, il57, il58, il59, il63, il91, il93, il97, il99, il100, il109, il113, il119, il120, il122, il200, il255, il480, il500, il501, il512, il999, il4112, il41120, il1000000, il1000003, ii_add, ii_sub, ii_mul, ii_neg, ii_le, ii_lt, ii_eq, ii_div, q_I, q_V, q_R, lt_q, rZ_q, md_M, md_16, md_4, md_8, md_10, if_true, if_false, if_pos, if_neg, mg_3, mg_0, mg_1, mg_2, mg_k, mg_up3, mg_upk, e_of, e_looseness]
    · rw [if_neg (fun z => q z.1)]
      simp (disch := first | assumption | omega) only [fX7_looksAtRows_4, fX7_looksAtRows_77, nR1, nA1, nU1, nR2, nA2, nU2, nR3, nA3, nU3, nR4, nA4, nU4, nR5, nA5, nU5, nR6, nA6, nU6, nR7, nA7, nU7, nR8, nA8, nU8, nR9, nA9, nU9, nR10, nA10, nU10, nR11, nA11, nU11, nR12, nA12, nU12, nR13, nA13, nU13, nR14, nA14, nU14, nR15, nA15, nU15, nR16, nA16, nU16, nI0, nS0, nI1, nS1, nI2, nS2, nI3, nS3, nI4, nS4, nI5, nS5, nI6, nS6, nI7, nS7, nI8, nS8, nI9, nS9, nI15, nS15, nI18, nS18, nI19, nS19, nI20, nS20, nI21, nS21, nI22, nS22, nI23, nS23, nI24, nS24, nI25, nS25, nI26, nS26, nI27, nS27, nI32, nS32, nI36, nS36, nI37, nS37, nI40, nS40, nSZ1, nV, nC, il0, il1, il2, il3, il4, il5, il6, il7, il8, il9, il10, il11, il12, il15, il16, il20, il24, il31, il32, il44, il45, il48, il50, il57, il58, il59, il63, il91, il93, il97, il99, il100, il109, il113, il119, il120, il122, il200, il255, il480, il500, il501, il512, il999, il4112, il41120, il1000000, il1000003, ii_add, ii_sub, ii_mul, ii_neg, ii_le, ii_lt, ii_eq, ii_div, q_I, q_V, q_R, lt_q, rZ_q, md_M, md_16, md_4, md_8, md_10, if_true, if_false, if_pos, if_neg, mg_3, mg_0, mg_1, mg_2, mg_k, mg_up3, mg_upk, e_of]
  · rintro n s ⟨hI, hs⟩
    rw [← hs]
    simp (disch := first | assumption | omega) only [fX7_looksAtRows_4, nR1, nA1, nU1, nR2, nA2, nU2, nR3, nA3, nU3, nR4, nA4, nU4, nR5, nA5, nU5, nR6, nA6, nU6, nR7, nA7, nU7, nR8, nA8, nU8, nR9, nA9, nU9, nR10, nA10, nU10, nR11, nA11, nU11, nR12, nA12, nU12, nR13, nA13, nU13, nR14, nA14, nU14, nR15, nA15, nU15, nR16, nA16, nU16, nI0, nS0, nI1, nS1, nI2, nS2, nI3, nS3, nI4, nS4, nI5, nS5, nI6, nS6, nI7, nS7, nI8, nS8, nI9, nS9, nI15, nS15, nI18, nS18, nI19, nS19, nI20, nS20, nI21, nS21, nI22, nS22, nI23, nS23, nI24, nS24, nI25, nS25, nI26, nS26, nI27, nS27, nI32, nS32, nI36, nS36, nI37, nS37, nI40, nS40, nSZ1, nV, nC, il0, il1, il2, il3, il4, il5, il6, il7, il8, il9, il10, il11, il12, il15, il16, il20, il24, il31, il32, il44, il45, il48, il50, il57, il58, il59, il63, il91, il93, il97, il99, il100, il109, il113, il119, il120, il122, il200, il255, il480, il500, il501, il512, il999, il4112, il41120, il1000000, il1000003, ii_add, ii_sub, ii_mul, ii_neg, ii_le, ii_lt, ii_eq, ii_div, q_I, q_V, q_R, lt_q, rZ_q, md_M, md_16, md_4, md_8, md_10, if_true, if_false, if_pos, if_neg, mg_3, mg_0, mg_1, mg_2, mg_k, mg_up3, mg_upk]
end MWR
