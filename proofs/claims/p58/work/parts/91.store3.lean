/-! THE MODEL'S STORE, III: one content more is kept -/
section STO3
variable {K : Nat × Nat} {M : AI} {g : Int → Int}
abbrev KAll (M : AI) (g : Int → Int) (m : Int) (M' : AI) : Prop :=
  (M' 0 15 = (if m = 8 then 8 else m + 1) ∧ (∀ z, z ≠ 15 → M' 0 z = M 0 z) ∧ ∀ (b : Nat) (z : Int), 0 < b → b ≠ 5 → M' b z = M b z) ∧
  (∀ z, 0 ≤ z → z < 4112 → pastg M' ((if m = 8 then 8 else m + 1) - 1) z = g z) ∧
  (∀ i, 0 ≤ i → i < (if m = 8 then 8 else m + 1) - 1 → ∀ z, 0 ≤ z → z < 4112 → pastg M' i z = pastg M (if m = 8 then i + 1 else i) z) ∧ ∀ z, 32896 ≤ z → M' 5 z = M 5 z
theorem e_shift : ∃ Y : Int → Int, fX7_keepsAll_11 FU 0 (ii 0) (NW K (mg M g)) = fX7_keepsAll_40 0 (NW K (mg (cB 5 M Y) g)) ∧ (∀ z, 0 ≤ z → z < 28784 → Y z = M 5 (z + 4112)) ∧ ∀ z, 28784 ≤ z → Y z = M 5 z := by
  refine lp (fun n i (s : Int → Int) => fX7_keepsAll_11 n 0 (ii i) (NW K (mg (cB 5 M s) g))) (fun x => ∃ Y : Int → Int, x = fX7_keepsAll_40 0 (NW K (mg (cB 5 M Y) g)) ∧ (∀ z, 0 ≤ z → z < 28784 → Y z = M 5 (z + 4112)) ∧ ∀ z, 28784 ≤ z → Y z = M 5 z)
    (fun i s => 0 ≤ i ∧ (∀ z, 0 ≤ z → z < i → s z = M 5 (z + 4112)) ∧ ∀ z, i ≤ z → s z = M 5 z) 28784 ?_ ?_ FU 0 (M 5) (by omega) ⟨by omega, fun z a b => by omega, fun _ _ => rfl⟩ (by have := FU_e; omega) |> fun h => by rw [cB_self] at h; exact h
  · rintro n i s hi ⟨hJ, hs, hr⟩
    have er := hr (i + 4112) (by omega)
    refine Or.inr ⟨gu s i (M 5 (i + 4112)), ⟨by omega, fun z a b => ?_, fun z a => ?_⟩, ?_⟩
    · unfold gu
      by_cases y : z = i
      · rw [if_pos y, y]
      · rw [if_neg y]; exact hs z a (by omega)
    · rw [gu_n _ _ _ _ (by omega)]; exact hr z (by omega)
    · rw [← cB_up, ← er]
      simp (disch := first | assumption | omega) only [fX7_keepsAll_11, show (28784 : Int32) = ii 28784 from rfl, nR1, nA1, nU1, nR2, nA2, nU2, nR3, nA3, nU3, nR4, nA4, nU4, nR5, nA5, nU5, nR6, nA6, nU6, nR7, nA7, nU7, nR8, nA8, nU8, nR9, nA9, nU9, nR10, nA10, nU10, nR11, nA11, nU11, nR12, nA12, nU12, nR13, nA13, nU13, nR14, nA14, nU14, nR15, nA15, nU15, nR16, nA16, nU16, nI0, nS0, nI1, nS1, nI2, nS2, nI3, nS3, nI4, nS4, nI5, nS5, nI6, nS6, nI7, nS7, nI8, nS8, nI9, nS9, nI15, nS15, nI18, nS18, nI19, nS19, nI20, nS20, nI21, nS21, nI22, nS22, nI23, nS23, nI24, nS24, nI25, nS25, nI26, nS26, nI27, nS27, nI32, nS32, nI36, nS36, nI37, nS37, nI40, nS40, nSZ1, nV, nC, ↓reduceIte, tr_lt, fa_lt, tr_le, fa_le, tr_eq, fa_eq, and_true, true_and, and_false, false_and, il0, il1, il2, il3, il4, il5, il6, il7, il8, il9, il10, il11, il12, il15, il16, il20, il24, il31, il32, il44, il45, il48, il50, il57, il58, il59, il63, il91, il93, il97, il99, il100, il109, il113, il119, il120, il122, il200, il255, il480, il500, il501, il512, il999, il4112, il41120, il1000000, il1000003, ii_add, ii_sub, ii_mul, ii_neg, ii_le, ii_lt, ii_eq, ii_div, q_I, q_V, q_R, lt_q, rZ_q, md_M, md_16, md_4, md_8, md_10, if_true, if_false, if_pos, if_neg, mg_3, mg_0, mg_1, mg_2, mg_k, mg_up3, mg_upk, cB_k]
  · rintro n s ⟨hJ, hs, hr⟩
    refine ⟨s, ?_, hs, hr⟩
    simp (disch := first | assumption | omega) only [fX7_keepsAll_11, show (28784 : Int32) = ii 28784 from rfl, nR1, nA1, nU1, nR2, nA2, nU2, nR3, nA3, nU3, nR4, nA4, nU4, nR5, nA5, nU5, nR6, nA6, nU6, nR7, nA7, nU7, nR8, nA8, nU8, nR9, nA9, nU9, nR10, nA10, nU10, nR11, nA11, nU11, nR12, nA12, nU12, nR13, nA13, nU13, nR14, nA14, nU14, nR15, nA15, nU15, nR16, nA16, nU16, nI0, nS0, nI1, nS1, nI2, nS2, nI3, nS3, nI4, nS4, nI5, nS5, nI6, nS6, nI7, nS7, nI8, nS8, nI9, nS9, nI15, nS15, nI18, nS18, nI19, nS19, nI20, nS20, nI21, nS21, nI22, nS22, nI23, nS23, nI24, nS24, nI25, nS25, nI26, nS26, nI27, nS27, nI32, nS32, nI36, nS36, nI37, nS37, nI40, nS40, nSZ1, nV, nC, ↓reduceIte, tr_lt, fa_lt, tr_le, fa_le, tr_eq, fa_eq, and_true, true_and, and_false, false_and, il0, il1, il2, il3, il4, il5, il6, il7, il8, il9, il10, il11, il12, il15, il16, il20, il24, il31, il32, il44, il45, il48, il50, il57, il58, il59, il63, il91, il93, il97, il99, il100, il109, il113, il119, il120, il122, il200, il255, il480, il500, il501, il512, il999, il4112, il41120, il1000000, il1000003, ii_add, ii_sub, ii_mul, ii_neg, ii_le, ii_lt, ii_eq, ii_div, q_I, q_V, q_R, lt_q, rZ_q, md_M, md_16, md_4, md_8, md_10, if_true, if_false, if_pos, if_neg, mg_3, mg_0, mg_1, mg_2, mg_k, mg_up3, mg_upk]
theorem e_keepsAll7 (m : Int) (hm : 0 ≤ m ∧ m ≤ 8) (y : ¬ m = 8) (h15 : M 0 15 = m) : ∃ M', fX7_keepsAll 0 (NW K (mg M g)) = some (Sum.inl none, NW K (mg M' g)) ∧ KAll M g m M' := by
  obtain ⟨Z, z1, z2, z3⟩ := e_keeps (K := K) (M := M) (g := g) m (by omega)
  have e15b : cB 5 M Z 0 15 = m := h15
  refine ⟨up (cB 5 M Z) 0 15 (m + 1), ?_, ⟨by rw [if_neg y]; exact up_s _ _ _ _, fun z q => ?_, fun b z q p => ?_⟩, fun z a b => ?_, fun i a b z d e => ?_, fun z a => ?_⟩
  · simp (disch := first | assumption | omega) only [fX7_keepsAll, fX7_keepsAll_50, nR1, nA1, nU1, nR2, nA2, nU2, nR3, nA3, nU3, nR4, nA4, nU4, nR5, nA5, nU5, nR6, nA6, nU6, nR7, nA7, nU7, nR8, nA8, nU8, nR9, nA9, nU9, nR10, nA10, nU10, nR11, nA11, nU11, nR12, nA12, nU12, nR13, nA13, nU13, nR14, nA14, nU14, nR15, nA15, nU15, nR16, nA16, nU16, nI0, nS0, nI1, nS1, nI2, nS2, nI3, nS3, nI4, nS4, nI5, nS5, nI6, nS6, nI7, nS7, nI8, nS8, nI9, nS9, nI15, nS15, nI18, nS18, nI19, nS19, nI20, nS20, nI21, nS21, nI22, nS22, nI23, nS23, nI24, nS24, nI25, nS25, nI26, nS26, nI27, nS27, nI32, nS32, nI36, nS36, nI37, nS37, nI40, nS40, nSZ1, nV, nC, ↓reduceIte, tr_lt, fa_lt, tr_le, fa_le, tr_eq, fa_eq, and_true, true_and, and_false, false_and, il0, il1, il2, il3, il4, il5, il6, il7, il8, il9, il10, il11, il12, il15, il16, il20, il24, il31, il32, il44, il45, il48, il50, il57, il58, il59, il63, il91, il93, il97, il99, il100, il109, il113, il119, il120, il122, il200, il255, il480, il500, il501, il512, il999, il4112, il41120, il1000000, il1000003, ii_add, ii_sub, ii_mul, ii_neg, ii_le, ii_lt, ii_eq, ii_div, q_I, q_V, q_R, lt_q, rZ_q, md_M, md_16, md_4, md_8, md_10, if_true, if_false, if_pos, if_neg, mg_3, mg_0, mg_1, mg_2, mg_k, mg_up3, mg_upk, h15, Int.zero_add, z1, e15b]
  · rw [up_n _ _ _ _ _ _ (fun x => q x.2), cB_n _ _ _ _ _ (by omega)]
  · rw [up_n _ _ _ _ _ _ (by omega), cB_n _ _ _ _ _ p]
  · rw [if_neg y]
    show Z (4112 * (m + 1 - 1) + z) = g z
    rw [show m + 1 - 1 = m by omega]
    exact z2 z a b
  · rw [if_neg y] at b
    rw [if_neg y]
    show Z (4112 * i + z) = M 5 (4112 * i + z)
    exact z3 _ (by omega)
  · show Z z = M 5 z
    exact z3 _ (by omega)
theorem e_kA (Y : Int → Int) (e15 : cB 5 M Y 0 15 = 8) : fX7_keepsAll_40 0 (NW K (mg (cB 5 M Y) g)) = fX7_keepsAll_50 0 (NW K (mg (up (cB 5 M Y) 0 15 7) g)) := by
  rw [fX7_keepsAll_40, nI15, mg_0, e15, il1, ii_sub, nS15, mg_upk _ _ _ _ _ (by omega), show (8 : Int) - 1 = 7 from by omega]
theorem e_kB (M1 : AI) (Z : Int → Int) (h1 : M1 0 15 = 7) (z1 : fX7_keeps 0 (ii 7) (NW K (mg M1 g)) = some (Sum.inl none, NW K (mg (cB 5 M1 Z) g))) : fX7_keepsAll_50 0 (NW K (mg M1 g)) = some (Sum.inl none, NW K (mg (up (cB 5 M1 Z) 0 15 8) g)) := by
  have h2 : cB 5 M1 Z 0 15 = 7 := (cB_n _ _ _ _ _ (by omega)).trans h1
  simp (disch := first | assumption | omega) only [fX7_keepsAll_50, nR1, nA1, nU1, nR2, nA2, nU2, nR3, nA3, nU3, nR4, nA4, nU4, nR5, nA5, nU5, nR6, nA6, nU6, nR7, nA7, nU7, nR8, nA8, nU8, nR9, nA9, nU9, nR10, nA10, nU10, nR11, nA11, nU11, nR12, nA12, nU12, nR13, nA13, nU13, nR14, nA14, nU14, nR15, nA15, nU15, nR16, nA16, nU16, nI0, nS0, nI1, nS1, nI2, nS2, nI3, nS3, nI4, nS4, nI5, nS5, nI6, nS6, nI7, nS7, nI8, nS8, nI9, nS9, nI15, nS15, nI18, nS18, nI19, nS19, nI20, nS20, nI21, nS21, nI22, nS22, nI23, nS23, nI24, nS24, nI25, nS25, nI26, nS26, nI27, nS27, nI32, nS32, nI36, nS36, nI37, nS37, nI40, nS40, nSZ1, nV, nC, ↓reduceIte, tr_lt, fa_lt, tr_le, fa_le, tr_eq, fa_eq, and_true, true_and, and_false, false_and, il0, il1, il2, il3, il4, il5, il6, il7, il8, il9, il10, il11, il12, il15, il16, il20, il24, il31, il32, il44, il45, il48, il50, il57, il58, il59, il63, il91, il93, il97, il99, il100, il109, il113, il119, il120, il122, il200, il255, il480, il500, il501, il512, il999, il4112, il41120, il1000000, il1000003, ii_add, ii_sub, ii_mul, ii_neg, ii_le, ii_lt, ii_eq, ii_div, q_I, q_V, q_R, lt_q, rZ_q, md_M, md_16, md_4, md_8, md_10, if_true, if_false, if_pos, if_neg, mg_3, mg_0, mg_1, mg_2, mg_k, mg_up3, mg_upk, h1, Int.zero_add, z1, h2]
  rw [show (7 : Int) + 1 = 8 from by omega]
theorem e_kC (h15 : M 0 15 = 8) : fX7_keepsAll 0 (NW K (mg M g)) = fX7_keepsAll_11 FU 0 (ii 0) (NW K (mg M g)) := by
  have key : ∀ F : Nat → Nat → Int32 → AS → Option AR, gI (NW K (mg M g)) 0 11 15 (fun v1 => if v1 = (8 : Int32) then F FU 0 0 (NW K (mg M g)) else fX7_keepsAll_50 0 (NW K (mg M g))) = F FU 0 (ii 0) (NW K (mg M g)) := by
    intro F
    rw [nI15, mg_0, h15]
    exact if_pos rfl
  rw [fX7_keepsAll]
  exact key fX7_keepsAll_11
theorem e_keepsAll8 (h15 : M 0 15 = 8) : ∃ Y Z : Int → Int, fX7_keepsAll 0 (NW K (mg M g)) = some (Sum.inl none, NW K (mg (up (cB 5 (up (cB 5 M Y) 0 15 7) Z) 0 15 8) g)) ∧ ((∀ z, 0 ≤ z → z < 28784 → Y z = M 5 (z + 4112)) ∧ ∀ z, 28784 ≤ z → Y z = M 5 z) ∧ (∀ z, 0 ≤ z → z < 4112 → Z (4112 * 7 + z) = g z) ∧ ∀ z, (z < 4112 * 7 ∨ 4112 * 7 + 4112 ≤ z) → Z z = Y z := by
  obtain ⟨Y, y1, y2, y3⟩ := e_shift (K := K) (M := M) (g := g)
  obtain ⟨Z, z1, z2, z3⟩ := e_keeps (K := K) (M := up (cB 5 M Y) 0 15 7) (g := g) 7 (by omega)
  have e15 : cB 5 M Y 0 15 = 8 := (cB_n _ _ _ _ _ (by omega)).trans h15
  have x1 := e_kA (K := K) (M := M) (g := g) Y e15
  have x2 := e_kB (K := K) (g := g) (up (cB 5 M Y) 0 15 7) Z (up_s _ _ _ _) z1
  have x3 := e_kC (K := K) (M := M) (g := g) h15
  refine ⟨Y, Z, x3.trans (y1.trans (x1.trans x2)), ⟨y2, y3⟩, z2, fun z a => ?_⟩
  rw [z3 z a, up_n _ _ _ _ _ _ (by omega), cB_k]
theorem e_keepsAll (m : Int) (hm : 0 ≤ m ∧ m ≤ 8) (h15 : M 0 15 = m) : ∃ M', fX7_keepsAll 0 (NW K (mg M g)) = some (Sum.inl none, NW K (mg M' g)) ∧ KAll M g m M' := by
  by_cases y : m = 8
  · subst y
    obtain ⟨Y, Z, x, ⟨y2, y3⟩, z2, z3⟩ := e_keepsAll8 (K := K) (M := M) (g := g) h15
    refine ⟨up (cB 5 (up (cB 5 M Y) 0 15 7) Z) 0 15 8, x, ⟨by rw [if_pos rfl]; exact up_s _ _ _ _, fun z q => ?_, fun b z q p => ?_⟩, fun z a b => ?_, fun i a b z d e => ?_, fun z a => ?_⟩
    · rw [up_n _ _ _ _ _ _ (fun x => q x.2), cB_n _ _ _ _ _ (by omega), up_n _ _ _ _ _ _ (fun x => q x.2), cB_n _ _ _ _ _ (by omega)]
    · rw [up_n _ _ _ _ _ _ (by omega), cB_n _ _ _ _ _ p, up_n _ _ _ _ _ _ (by omega), cB_n _ _ _ _ _ p]
    · rw [if_pos rfl]
      show up (cB 5 (up (cB 5 M Y) 0 15 7) Z) 0 15 8 5 (4112 * (8 - 1) + z) = g z
      rw [up_n _ _ _ _ _ _ (by omega), cB_k]
      exact z2 z a b
    · rw [if_pos rfl] at b
      rw [if_pos rfl]
      show up (cB 5 (up (cB 5 M Y) 0 15 7) Z) 0 15 8 5 (4112 * i + z) = M 5 (4112 * (i + 1) + z)
      rw [up_n _ _ _ _ _ _ (by omega), cB_k, z3 _ (by omega), y2 _ (by omega) (by omega), show 4112 * i + z + 4112 = 4112 * (i + 1) + z by omega]
    · rw [up_n _ _ _ _ _ _ (by omega), cB_k, z3 _ (by omega)]
      exact y3 z (by omega)
  · exact e_keepsAll7 m hm y h15
end STO3
