/-! THE MODEL'S STORE -/
section STC
variable {M : AI} {g g' : Int → Int} {B : Int}
theorem cel_cg (e : ∀ z, 0 ≤ z → z < 4112 → g' z = g z) (r w : Int) (hr : 0 ≤ r ∧ r < 8) (hw : 0 ≤ w ∧ w < 512) : cel g' r w = cel g r w := e _ (by omega) (by omega)
theorem GC_cg (h : GC M g B) (hM : SA M) (e : ∀ z, 0 ≤ z → z < 4112 → g' z = g z) : GC M g' B := by
  obtain ⟨⟨g1, g2, g3, g4, g5⟩, h2, h3, h4, h5⟩ := h
  have h38 := hM.1.2.1
  have ec := fun r w a b => cel_cg e r w a b
  refine ⟨⟨fun r a b => (g1 r a b).cong fun w c d => ec r w ⟨a, b⟩ ⟨c, d⟩, fun r a b q => ?_, fun r a b => ?_, fun r a b k p q => ?_, fun r a b => ?_⟩, fun k a b => ?_, ?_, fun r a b q => ?_, fun r a b => ?_⟩
  · rw [ec r 2 ⟨a, b⟩ (by omega)] at q
    rw [ec r 3 ⟨a, b⟩ (by omega)]; exact g2 r a b q
  · rw [ec r 0 (by omega) (by omega), ec r 1 (by omega) (by omega), ec r 2 (by omega) (by omega), ec r 3 (by omega) (by omega), ec r 4 (by omega) (by omega)]
    exact g3 r a b
  · have := (g1 r a b).2.1
    rw [ec r 1 ⟨a, b⟩ (by omega)] at q
    rw [ec r _ ⟨a, b⟩ (by omega)]; exact g4 r a b k p q
  · rw [ec r 4 ⟨a, b⟩ (by omega)]; exact g5 r a b
  · rw [e (6 + k) (by omega) (by omega), sm_c (fun r => cnt g' r k) (fun r => cnt g r k) 8 (fun r c d => cnt_cg (g1 r c d) (fun w p s => ec r w ⟨c, d⟩ ⟨p, s⟩) k)]
    exact h2 k a b
  · rw [e 0 (by omega) (by omega), sm_c (fun r => qi g' r) (fun r => qi g r) 8 (fun r c d => by unfold qi; rw [ec r 2 ⟨c, d⟩ (by omega)])]
    exact h3
  · rw [ec r 2 ⟨a, b⟩ (by omega)] at q ⊢
    rw [ec r 3 ⟨a, b⟩ (by omega)]; exact h4 r a b q
  · rw [gapM_cong (g1 r a (by omega)) (fun w c d _ => ec r w ⟨a, by omega⟩ ⟨c, d⟩)]; exact h5 r a b
theorem SR_cg {A : AI} {J : JI} {S : Nat} {len : Int → Int} (h : SR A J S len g (g 5)) (hg : GR g) (e : ∀ z, 0 ≤ z → z < 4112 → g' z = g z) : SR A J S len g' (g' 5) := by
  refine ⟨⟨?_, fun k a b => by rw [e _ (by omega) (by omega)]; exact h.1.2 k a b⟩, fun r a b => RR.frame (h.2 r a b) (hg r a b) (fun _ _ _ => rfl) (fun _ _ _ => rfl) (fun w c d => cel_cg e r w ⟨a, b⟩ ⟨c, d⟩)⟩
  rw [e 0 (by omega) (by omega), e 1 (by omega) (by omega), e 2 (by omega) (by omega), e 3 (by omega) (by omega), e 4 (by omega) (by omega), e 5 (by omega) (by omega)]
  exact h.1.1
end STC
/-- the cell that is put aside is other -/
def cA4 (M : AI) (X : Int → Int) : AI := fun b z => if b = 4 then X z else M b z
/-- only scratch and what is put aside is other -/
def scr4 (M M' : AI) : Prop := (∀ z, z ≠ 36 → M' 0 z = M 0 z) ∧ ∀ (b : Nat) (z : Int), 0 < b → b ≠ 4 → (b < 12 ∨ b = 16) → M' b z = M b z
theorem scr4.c4 {M M' : AI} (h : scr4 M M') : scr (cA4 M (M' 4)) M' := by
  refine ⟨fun z q => h.1 z q, fun b z q p => ?_⟩
  unfold cA4
  by_cases y : b = 4
  · rw [if_pos y, y]
  · rw [if_neg y]; exact h.2 b z q y p
theorem scr.s4 {M M' : AI} (h : scr M M') : scr4 M M' := ⟨h.1, fun b z q _ p => h.2 b z q p⟩
theorem scr4.trans {M M1 M2 : AI} (h : scr4 M M1) (k : scr4 M1 M2) : scr4 M M2 := ⟨fun z q => (k.1 z q).trans (h.1 z q), fun b z q q2 q3 => (k.2 b z q q2 q3).trans (h.2 b z q q2 q3)⟩
theorem scr4_c4 (M : AI) (X : Int → Int) : scr4 M (cA4 M X) := ⟨fun _ _ => rfl, fun _ _ _ q _ => if_neg q⟩
theorem SA_4 {M M' : AI} (h : scr4 M M') (hM : SA M) : SA M' := scr_SA h.c4 (A := cA4 M (M' 4)) hM
section STI
variable {C0 N0 n : Nat} {K : Nat × Nat} {c : CC} {A : AI} {J : JI} {M : AI} {g g' : Int → Int} {pl sp tv cap : Nat}
theorem Inv.c4 (h : Inv C0 N0 n pl sp tv cap c A J M g) (X : Int → Int) : Inv C0 N0 n pl sp tv cap c A J (cA4 M X) g := h
theorem Inv.cg (h : Inv C0 N0 n pl sp tv cap c A J M g) (e : ∀ z, 0 ≤ z → z < 4112 → g' z = g z) : Inv C0 N0 n pl sp tv cap c A J M g' := by
  obtain ⟨h1, h2, h3, h4, h5, h6, h7, h8, h9, h10⟩ := h
  refine ⟨h1, h2, h3, h4, h5, h6, fun hl => ?_, h8, h9, h10⟩
  obtain ⟨l1, l2, l3, l4⟩ := h7 hl
  exact ⟨l1, l2, SR_cg l3 l4.1.1 e, GC_cg l4 l1 e⟩
theorem e_putsAside : ∃ X : Int → Int, fX7_putsAside 0 (NW K (mg M g)) = some (Sum.inl none, NW K (mg (cA4 M X) g)) ∧ ∀ z, 0 ≤ z → z < 4112 → X z = g z := by
  simp only [fX7_putsAside, il0]
  refine lp (fun m i (s : AI) => fX7_putsAside_2 m 0 (ii i) (NW K (mg s g))) (fun x => ∃ X : Int → Int, x = some (Sum.inl none, NW K (mg (cA4 M X) g)) ∧ ∀ z, 0 ≤ z → z < 4112 → X z = g z) (fun i s => 0 ≤ i ∧ ∃ X, s = cA4 M X ∧ ∀ z, 0 ≤ z → z < i → X z = g z) 4112 ?_ ?_ FU 0 M (by omega) ⟨by omega, M 4, ?_, fun z a b => by omega⟩ (by have := FU_e; omega)
  · rintro m i s hi ⟨hJ, X, rfl, hs⟩
    refine Or.inr ⟨cA4 M (gu X i (g i)), ⟨by omega, _, rfl, fun z a b => ?_⟩, ?_⟩
    · unfold gu
      by_cases y : z = i
      · rw [if_pos y, y]
      · rw [if_neg y]; exact hs z a (by omega)
    · have e : up (cA4 M X) 4 i (g i) = cA4 M (gu X i (g i)) := by
        funext b z
        unfold up cA4 gu
        by_cases y : b = 4
        · by_cases w : z = i
          · rw [if_pos ⟨y, w⟩, if_pos y, if_pos w]
          · rw [if_neg (fun q => w q.2), if_pos y, if_pos y, if_neg w]
        · rw [if_neg (fun q => y q.1), if_neg y, if_neg y]
      rw [← e]
      simp (disch := first | assumption | omega) only [fX7_putsAside_2, nR1, nA1, nU1, nR2, nA2, nU2, nR3, nA3, nU3, nR4, nA4, nU4, nR5, nA5, nU5, nR6, nA6, nU6, nR7, nA7, nU7, nR8, nA8, nU8, nR9, nA9, nU9, nR10, nA10, nU10, nR11, nA11, nU11, nR12, nA12, nU12, nR13, nA13, nU13, nR14, nA14, nU14, nR15, nA15, nU15, nR16, nA16, nU16, nI0, nS0, nI1, nS1, nI2, nS2, nI3, nS3, nI4, nS4, nI5, nS5, nI6, nS6, nI7, nS7, nI8, nS8, nI9, nS9, nI15, nS15, nI18, nS18, nI19, nS19, nI20, nS20, nI21, nS21, nI22, nS22, nI23, nS23, nI24, nS24, nI25, nS25, nI26, nS26, nI27, nS27, nI32, nS32, nI36, nS36, nI37, nS37, nI40, nS40, nSZ1, nV, nC, ↓reduceIte, tr_lt, fa_lt, tr_le, fa_le, tr_eq, fa_eq, and_true, true_and, and_false, false_and, il0, il1, il2, il3, il4, il5, il6, il7, il8, il9, il10, il11, il12, il15, il16, il20, il24, il31, il32, il44, il45, il48, il50, il57, il58, il59, il63, il91, il93, il97, il99, il100, il109, il113, il119, il120, il122, il200, il255, il480, il500, il501, il512, il999, il4112, il41120, il1000000, il1000003, ii_add, ii_sub, ii_mul, ii_neg, ii_le, ii_lt, ii_eq, ii_div, q_I, q_V, q_R, lt_q, rZ_q, md_M, md_16, md_4, md_8, md_10, if_true, if_false, if_pos, if_neg, mg_3, mg_0, mg_1, mg_2, mg_k, mg_up3, mg_upk]
  · rintro m s ⟨hJ, X, rfl, hs⟩
    refine ⟨X, ?_, hs⟩
    simp (disch := first | assumption | omega) only [fX7_putsAside_2, nR1, nA1, nU1, nR2, nA2, nU2, nR3, nA3, nU3, nR4, nA4, nU4, nR5, nA5, nU5, nR6, nA6, nU6, nR7, nA7, nU7, nR8, nA8, nU8, nR9, nA9, nU9, nR10, nA10, nU10, nR11, nA11, nU11, nR12, nA12, nU12, nR13, nA13, nU13, nR14, nA14, nU14, nR15, nA15, nU15, nR16, nA16, nU16, nI0, nS0, nI1, nS1, nI2, nS2, nI3, nS3, nI4, nS4, nI5, nS5, nI6, nS6, nI7, nS7, nI8, nS8, nI9, nS9, nI15, nS15, nI18, nS18, nI19, nS19, nI20, nS20, nI21, nS21, nI22, nS22, nI23, nS23, nI24, nS24, nI25, nS25, nI26, nS26, nI27, nS27, nI32, nS32, nI36, nS36, nI37, nS37, nI40, nS40, nSZ1, nV, nC, ↓reduceIte, tr_lt, fa_lt, tr_le, fa_le, tr_eq, fa_eq, and_true, true_and, and_false, false_and, il0, il1, il2, il3, il4, il5, il6, il7, il8, il9, il10, il11, il12, il15, il16, il20, il24, il31, il32, il44, il45, il48, il50, il57, il58, il59, il63, il91, il93, il97, il99, il100, il109, il113, il119, il120, il122, il200, il255, il480, il500, il501, il512, il999, il4112, il41120, il1000000, il1000003, ii_add, ii_sub, ii_mul, ii_neg, ii_le, ii_lt, ii_eq, ii_div, q_I, q_V, q_R, lt_q, rZ_q, md_M, md_16, md_4, md_8, md_10, if_true, if_false, if_pos, if_neg, mg_3, mg_0, mg_1, mg_2, mg_k, mg_up3, mg_upk]
  · funext b z
    unfold cA4
    by_cases y : b = 4
    · rw [if_pos y, y]
    · rw [if_neg y]
theorem e_fetchesBack (v : Int) : ∃ h : Int → Int, fX7_fetchesBack 0 (ii v) (NW K (mg M g)) = some (Sum.inl (some (Value.int (ii (v)))), NW K (mg M h)) ∧ ∀ z, 0 ≤ z → z < 4112 → h z = M 4 z := by
  simp only [fX7_fetchesBack, il0]
  refine lp (fun m i (s : Int → Int) => fX7_fetchesBack_2 m 0 (ii v) (ii i) (NW K (mg M s))) (fun x => ∃ h : Int → Int, x = some (Sum.inl (some (Value.int (ii (v)))), NW K (mg M h)) ∧ ∀ z, 0 ≤ z → z < 4112 → h z = M 4 z) (fun i s => 0 ≤ i ∧ ∀ z, 0 ≤ z → z < i → s z = M 4 z) 4112 ?_ ?_ FU 0 g (by omega) ⟨by omega, fun z a b => by omega⟩ (by have := FU_e; omega)
  · rintro m i s hi ⟨hJ, hs⟩
    refine Or.inr ⟨gu s i (M 4 i), ⟨by omega, fun z a b => ?_⟩, ?_⟩
    · unfold gu
      by_cases y : z = i
      · rw [if_pos y, y]
      · rw [if_neg y]; exact hs z a (by omega)
    · simp (disch := first | assumption | omega) only [fX7_fetchesBack_2, nR1, nA1, nU1, nR2, nA2, nU2, nR3, nA3, nU3, nR4, nA4, nU4, nR5, nA5, nU5, nR6, nA6, nU6, nR7, nA7, nU7, nR8, nA8, nU8, nR9, nA9, nU9, nR10, nA10, nU10, nR11, nA11, nU11, nR12, nA12, nU12, nR13, nA13, nU13, nR14, nA14, nU14, nR15, nA15, nU15, nR16, nA16, nU16, nI0, nS0, nI1, nS1, nI2, nS2, nI3, nS3, nI4, nS4, nI5, nS5, nI6, nS6, nI7, nS7, nI8, nS8, nI9, nS9, nI15, nS15, nI18, nS18, nI19, nS19, nI20, nS20, nI21, nS21, nI22, nS22, nI23, nS23, nI24, nS24, nI25, nS25, nI26, nS26, nI27, nS27, nI32, nS32, nI36, nS36, nI37, nS37, nI40, nS40, nSZ1, nV, nC, ↓reduceIte, tr_lt, fa_lt, tr_le, fa_le, tr_eq, fa_eq, and_true, true_and, and_false, false_and, il0, il1, il2, il3, il4, il5, il6, il7, il8, il9, il10, il11, il12, il15, il16, il20, il24, il31, il32, il44, il45, il48, il50, il57, il58, il59, il63, il91, il93, il97, il99, il100, il109, il113, il119, il120, il122, il200, il255, il480, il500, il501, il512, il999, il4112, il41120, il1000000, il1000003, ii_add, ii_sub, ii_mul, ii_neg, ii_le, ii_lt, ii_eq, ii_div, q_I, q_V, q_R, lt_q, rZ_q, md_M, md_16, md_4, md_8, md_10, if_true, if_false, if_pos, if_neg, mg_3, mg_0, mg_1, mg_2, mg_k, mg_up3, mg_upk]
  · rintro m s ⟨hJ, hs⟩
    refine ⟨s, ?_, hs⟩
    simp (disch := first | assumption | omega) only [fX7_fetchesBack_2, nR1, nA1, nU1, nR2, nA2, nU2, nR3, nA3, nU3, nR4, nA4, nU4, nR5, nA5, nU5, nR6, nA6, nU6, nR7, nA7, nU7, nR8, nA8, nU8, nR9, nA9, nU9, nR10, nA10, nU10, nR11, nA11, nU11, nR12, nA12, nU12, nR13, nA13, nU13, nR14, nA14, nU14, nR15, nA15, nU15, nR16, nA16, nU16, nI0, nS0, nI1, nS1, nI2, nS2, nI3, nS3, nI4, nS4, nI5, nS5, nI6, nS6, nI7, nS7, nI8, nS8, nI9, nS9, nI15, nS15, nI18, nS18, nI19, nS19, nI20, nS20, nI21, nS21, nI22, nS22, nI23, nS23, nI24, nS24, nI25, nS25, nI26, nS26, nI27, nS27, nI32, nS32, nI36, nS36, nI37, nS37, nI40, nS40, nSZ1, nV, nC, ↓reduceIte, tr_lt, fa_lt, tr_le, fa_le, tr_eq, fa_eq, and_true, true_and, and_false, false_and, il0, il1, il2, il3, il4, il5, il6, il7, il8, il9, il10, il11, il12, il15, il16, il20, il24, il31, il32, il44, il45, il48, il50, il57, il58, il59, il63, il91, il93, il97, il99, il100, il109, il113, il119, il120, il122, il200, il255, il480, il500, il501, il512, il999, il4112, il41120, il1000000, il1000003, ii_add, ii_sub, ii_mul, ii_neg, ii_le, ii_lt, ii_eq, ii_div, q_I, q_V, q_R, lt_q, rZ_q, md_M, md_16, md_4, md_8, md_10, if_true, if_false, if_pos, if_neg, mg_3, mg_0, mg_1, mg_2, mg_k, mg_up3, mg_upk]
end STI
