/-! THE LAW'S WORLD: what it tells -/
/-- the law's world tells what the class's content tells -/
def WR (w : Nat) (A M : AI) (o g : Int → Int) : Prop :=
  ((A (w + 3) 0 = M 0 2 ∧ A (w + 3) 1 = M 0 3 ∧ A (w + 3) 2 = M 0 4 ∧ A (w + 3) 3 = M 0 5 ∧ A (w + 3) 4 = M 0 6 ∧ A (w + 3) 5 = M 0 7 ∧ A (w + 3) 6 = M 0 8) ∧ A w 14 = M 0 9 ∧ A w 15 = g 0) ∧
  (∀ k, 0 ≤ k → k < M 0 9 → A (w + 4) k = M 2 k ∧ A (w + 8) k = M 1 k ∧ A (w + 5) k = g (6 + k)) ∧
  (A (w + 7) 0 = g 1 ∧ A (w + 7) 1 = g 2 ∧ A (w + 7) 2 = g 3 ∧ A (w + 7) 3 = g 4 ∧ A (w + 7) 4 = g 5) ∧
  (∀ r, 0 ≤ r → r < M 0 3 → (A (w + 27) r = cel g r 0 ∧ A (w + 28) r = cel g r 1 ∧ A (w + 29) r = cel g r 2 ∧ (cel g r 2 ≠ -1 → A (w + 30) r = cel g r 3) ∧ A (w + 31) r = cel g r 4) ∧
    (∀ k, 0 ≤ k → k < cel g r 0 → A (w + 10 + r.toNat) k = cel g r (5 + k)) ∧ ∀ k, 0 ≤ k → k < cel g r 1 → A (w + 19 + r.toNat) k = cel g r (11 + k)) ∧
  (∀ p, 0 ≤ p → p < M 0 9 → A (w + 6) p = o p) ∧ ∀ k, 0 ≤ k → k < 4 → 0 ≤ A (w + 8) k ∧ A (w + 8) k ≤ 1
section WRD
variable {c : CC} {A : AI} {J : JI} {w : Nat} {M : AI} {o g : Int → Int} {r B : Int}
theorem n_blocksIn (hW : isWorld c w) (hR : WR w A M o g) (hM : SA M) (hG : GC M g B) (hr : 0 ≤ r ∧ r < M 0 3) : fX19_blocksIn w (ii r) (CW c A J) = some (Sum.inl (some (Value.int (ii (suB g r)))), CW c A J) := by
  obtain ⟨⟨⟨s0, s1, s2, s3, s4, s5, s6⟩, sK, sQ⟩, hKd, ⟨c0, c1, c2, c3, c4⟩, hRo, hOr⟩ := hR
  have h38 := hM.1.2.1
  have hr8 : 0 ≤ r ∧ r < 8 := by omega
  have hgr := hG.1.1 r hr8.1 hr8.2
  obtain ⟨⟨w27, w28, w29, w30, w31⟩, wB, wP⟩ := hRo r hr.1 hr.2
  have b0 := hgr.1
  have b1 := hgr.2.1
  have b2 := hgr.2.2.2.2.1
  have b3 := hgr.2.2.2.2.2.1
  have b4 := hgr.2.2.2.2.2.2
  simp only [fX19_blocksIn, il0]
  refine lp (fun n i (s : Int) => fX19_blocksIn_4 n w (ii r) (ii s) (ii i) (CW c A J)) (fun x => x = _) (fun i s => 0 ≤ i ∧ s = sm (fun k => cel g r (5 + k)) i) (cel g r 0) ?_ ?_ FU 0 0 (by omega) ⟨by omega, rfl⟩ (by have := FU_e; omega)
  · rintro n i s hi ⟨hI, hs⟩
    have hb := wB i hI hi
    refine Or.inr ⟨s + cel g r (5 + i), ⟨by omega, by rw [sm_s _ _ hI, ← hs]⟩, ?_⟩
    simp (disch := first | assumption | omega) only [fX19_blocksIn_4, wdR1, wdR2, wdR3, wdR4, wdR5, wdR6, wdR7, wdR8, wdR9, wdR10, wdR11, wdR12, wdR13, wdI14, wdS14, wdI15, wdS15, wdA3, wdU3, wdA4, wdU4, wdA5, wdU5, wdA6, wdU6, wdA7, wdU7, wdA8, wdU8, wdA27, wdU27, wdA28, wdU28, wdA29, wdU29, wdA30, wdU30, wdA31, wdU31, wdB, wdP, wdAB, wdUB, wdAP, wdUP, wdV, drV, drR0, drI1, drS1, k_C, ↓reduceIte, tr_lt, fa_lt, tr_le, fa_le, tr_eq, fa_eq, and_true, true_and, and_false, false_and, il0, il1, il2, il3, il4, il5, il6, il7, il8, il9, il10, il11, il12, il15, il16, il20, il24, il31, il32, il44, il45, il48, il50, il57, il58, il59, il63, il91, il93, il97, il99, il100, il109, il113, il119, il120, il122, il200, il255, il480, il500, il501, il512, il999, il4112, il41120, il1000000, il1000003, ii_add, ii_sub, ii_mul, ii_neg, ii_le, ii_lt, ii_eq, ii_div, q_I, q_V, q_R, lt_q, rZ_q, md_M, md_16, md_4, md_8, md_10, if_true, if_false, if_pos, if_neg, w27, hb]
  · rintro n s ⟨hI, hs⟩
    simp (disch := first | assumption | omega) only [fX19_blocksIn_4, wdR1, wdR2, wdR3, wdR4, wdR5, wdR6, wdR7, wdR8, wdR9, wdR10, wdR11, wdR12, wdR13, wdI14, wdS14, wdI15, wdS15, wdA3, wdU3, wdA4, wdU4, wdA5, wdU5, wdA6, wdU6, wdA7, wdU7, wdA8, wdU8, wdA27, wdU27, wdA28, wdU28, wdA29, wdU29, wdA30, wdU30, wdA31, wdU31, wdB, wdP, wdAB, wdUB, wdAP, wdUP, wdV, drV, drR0, drI1, drS1, k_C, ↓reduceIte, tr_lt, fa_lt, tr_le, fa_le, tr_eq, fa_eq, and_true, true_and, and_false, false_and, il0, il1, il2, il3, il4, il5, il6, il7, il8, il9, il10, il11, il12, il15, il16, il20, il24, il31, il32, il44, il45, il48, il50, il57, il58, il59, il63, il91, il93, il97, il99, il100, il109, il113, il119, il120, il122, il200, il255, il480, il500, il501, il512, il999, il4112, il41120, il1000000, il1000003, ii_add, ii_sub, ii_mul, ii_neg, ii_le, ii_lt, ii_eq, ii_div, q_I, q_V, q_R, lt_q, rZ_q, md_M, md_16, md_4, md_8, md_10, if_true, if_false, if_pos, if_neg, w27]
    rw [hs]
    rfl
theorem n_need (hW : isWorld c w) (hR : WR w A M o g) (hM : SA M) (hG : GC M g B) (h4 : M 0 9 ≤ 4) (hr : 0 ≤ r ∧ r < M 0 3) : fX19_need w (ii r) (CW c A J) = some (Sum.inl (some (Value.int (ii (M 0 2 - suB g r - suP (M 2) g r)))), CW c A J) := by
  have hbl := n_blocksIn (J := J) hW hR hM hG hr
  obtain ⟨⟨⟨s0, s1, s2, s3, s4, s5, s6⟩, sK, sQ⟩, hKd, ⟨c0, c1, c2, c3, c4⟩, hRo, hOr⟩ := hR
  have h38 := hM.1.2.1
  have hr8 : 0 ≤ r ∧ r < 8 := by omega
  have hgr := hG.1.1 r hr8.1 hr8.2
  obtain ⟨⟨w27, w28, w29, w30, w31⟩, wB, wP⟩ := hRo r hr.1 hr.2
  have b0 := hgr.1
  have b1 := hgr.2.1
  have b2 := hgr.2.2.2.2.1
  have b3 := hgr.2.2.2.2.2.1
  have b4 := hgr.2.2.2.2.2.2
  have hkb := hG.1.2.2.2.1 r hr8.1 hr8.2
  simp (disch := first | assumption | omega) only [fX19_need, wdR1, wdR2, wdR3, wdR4, wdR5, wdR6, wdR7, wdR8, wdR9, wdR10, wdR11, wdR12, wdR13, wdI14, wdS14, wdI15, wdS15, wdA3, wdU3, wdA4, wdU4, wdA5, wdU5, wdA6, wdU6, wdA7, wdU7, wdA8, wdU8, wdA27, wdU27, wdA28, wdU28, wdA29, wdU29, wdA30, wdU30, wdA31, wdU31, wdB, wdP, wdAB, wdUB, wdAP, wdUP, wdV, drV, drR0, drI1, drS1, k_C, ↓reduceIte, tr_lt, fa_lt, tr_le, fa_le, tr_eq, fa_eq, and_true, true_and, and_false, false_and, il0, il1, il2, il3, il4, il5, il6, il7, il8, il9, il10, il11, il12, il15, il16, il20, il24, il31, il32, il44, il45, il48, il50, il57, il58, il59, il63, il91, il93, il97, il99, il100, il109, il113, il119, il120, il122, il200, il255, il480, il500, il501, il512, il999, il4112, il41120, il1000000, il1000003, ii_add, ii_sub, ii_mul, ii_neg, ii_le, ii_lt, ii_eq, ii_div, q_I, q_V, q_R, lt_q, rZ_q, md_M, md_16, md_4, md_8, md_10, if_true, if_false, if_pos, if_neg, hbl, s0]
  refine lp (fun n i (s : Int) => fX19_need_15 n w (ii r) (ii s) (ii i) (CW c A J)) (fun x => x = _) (fun i s => 0 ≤ i ∧ s = M 0 2 - suB g r - sm (fun k => M 2 (cel g r (11 + k))) i) (cel g r 1) ?_ ?_ FU 0 (M 0 2 - suB g r) (by omega) ⟨by omega, by rw [sm_0]; omega⟩ (by have := FU_e; omega)
  · rintro n i s hi ⟨hI, hs⟩
    have hb := wP i hI hi
    have hk := hkb i hI hi
    have hk0 := (hgr.2.2.2.1 i hI hi).1
    have hl := (hKd _ hk0 hk).1
    refine Or.inr ⟨s - M 2 (cel g r (11 + i)), ⟨by omega, by rw [sm_s _ _ hI]; omega⟩, ?_⟩
    simp (disch := first | assumption | omega) only [fX19_need_15, wdR1, wdR2, wdR3, wdR4, wdR5, wdR6, wdR7, wdR8, wdR9, wdR10, wdR11, wdR12, wdR13, wdI14, wdS14, wdI15, wdS15, wdA3, wdU3, wdA4, wdU4, wdA5, wdU5, wdA6, wdU6, wdA7, wdU7, wdA8, wdU8, wdA27, wdU27, wdA28, wdU28, wdA29, wdU29, wdA30, wdU30, wdA31, wdU31, wdB, wdP, wdAB, wdUB, wdAP, wdUP, wdV, drV, drR0, drI1, drS1, k_C, ↓reduceIte, tr_lt, fa_lt, tr_le, fa_le, tr_eq, fa_eq, and_true, true_and, and_false, false_and, il0, il1, il2, il3, il4, il5, il6, il7, il8, il9, il10, il11, il12, il15, il16, il20, il24, il31, il32, il44, il45, il48, il50, il57, il58, il59, il63, il91, il93, il97, il99, il100, il109, il113, il119, il120, il122, il200, il255, il480, il500, il501, il512, il999, il4112, il41120, il1000000, il1000003, ii_add, ii_sub, ii_mul, ii_neg, ii_le, ii_lt, ii_eq, ii_div, q_I, q_V, q_R, lt_q, rZ_q, md_M, md_16, md_4, md_8, md_10, if_true, if_false, if_pos, if_neg, w28, hb, hl]
  · rintro n s ⟨hI, hs⟩
    simp (disch := first | assumption | omega) only [fX19_need_15, wdR1, wdR2, wdR3, wdR4, wdR5, wdR6, wdR7, wdR8, wdR9, wdR10, wdR11, wdR12, wdR13, wdI14, wdS14, wdI15, wdS15, wdA3, wdU3, wdA4, wdU4, wdA5, wdU5, wdA6, wdU6, wdA7, wdU7, wdA8, wdU8, wdA27, wdU27, wdA28, wdU28, wdA29, wdU29, wdA30, wdU30, wdA31, wdU31, wdB, wdP, wdAB, wdUB, wdAP, wdUP, wdV, drV, drR0, drI1, drS1, k_C, ↓reduceIte, tr_lt, fa_lt, tr_le, fa_le, tr_eq, fa_eq, and_true, true_and, and_false, false_and, il0, il1, il2, il3, il4, il5, il6, il7, il8, il9, il10, il11, il12, il15, il16, il20, il24, il31, il32, il44, il45, il48, il50, il57, il58, il59, il63, il91, il93, il97, il99, il100, il109, il113, il119, il120, il122, il200, il255, il480, il500, il501, il512, il999, il4112, il41120, il1000000, il1000003, ii_add, ii_sub, ii_mul, ii_neg, ii_le, ii_lt, ii_eq, ii_div, q_I, q_V, q_R, lt_q, rZ_q, md_M, md_16, md_4, md_8, md_10, if_true, if_false, if_pos, if_neg, w28]
    rw [hs]
    rfl
theorem n_gap (hW : isWorld c w) (hR : WR w A M o g) (hM : SA M) (hG : GC M g B) (h4 : M 0 9 ≤ 4) (hr : 0 ≤ r ∧ r < M 0 3) : fX19_gap w (ii r) (CW c A J) = some (Sum.inl (some (Value.int (ii (gapM M g r)))), CW c A J) := by
  have hne := n_need (J := J) hW hR hM hG h4 hr
  obtain ⟨⟨⟨s0, s1, s2, s3, s4, s5, s6⟩, sK, sQ⟩, hKd, ⟨c0, c1, c2, c3, c4⟩, hRo, hOr⟩ := hR
  have h38 := hM.1.2.1
  have hr8 : 0 ≤ r ∧ r < 8 := by omega
  have hgr := hG.1.1 r hr8.1 hr8.2
  obtain ⟨⟨w27, w28, w29, w30, w31⟩, wB, wP⟩ := hRo r hr.1 hr.2
  have b0 := hgr.1
  have b1 := hgr.2.1
  have b2 := hgr.2.2.2.2.1
  have b3 := hgr.2.2.2.2.2.1
  have b4 := hgr.2.2.2.2.2.2
  by_cases q : cel g r 2 = -1
  · have e : M 0 2 - suB g r - suP (M 2) g r - 0 = gapM M g r := by unfold gapM uQ; rw [if_pos q]; omega
    simp (disch := first | assumption | omega) only [fX19_gap, wdR1, wdR2, wdR3, wdR4, wdR5, wdR6, wdR7, wdR8, wdR9, wdR10, wdR11, wdR12, wdR13, wdI14, wdS14, wdI15, wdS15, wdA3, wdU3, wdA4, wdU4, wdA5, wdU5, wdA6, wdU6, wdA7, wdU7, wdA8, wdU8, wdA27, wdU27, wdA28, wdU28, wdA29, wdU29, wdA30, wdU30, wdA31, wdU31, wdB, wdP, wdAB, wdUB, wdAP, wdUP, wdV, drV, drR0, drI1, drS1, k_C, ↓reduceIte, tr_lt, fa_lt, tr_le, fa_le, tr_eq, fa_eq, and_true, true_and, and_false, false_and, il0, il1, il2, il3, il4, il5, il6, il7, il8, il9, il10, il11, il12, il15, il16, il20, il24, il31, il32, il44, il45, il48, il50, il57, il58, il59, il63, il91, il93, il97, il99, il100, il109, il113, il119, il120, il122, il200, il255, il480, il500, il501, il512, il999, il4112, il41120, il1000000, il1000003, ii_add, ii_sub, ii_mul, ii_neg, ii_le, ii_lt, ii_eq, ii_div, q_I, q_V, q_R, lt_q, rZ_q, md_M, md_16, md_4, md_8, md_10, if_true, if_false, if_pos, if_neg, hne, w29]
    rw [e]
  · have e : M 0 2 - suB g r - suP (M 2) g r - (M 0 4 + cel g r 2 - cel g r 3) = gapM M g r := by unfold gapM uQ; rw [if_neg q]; omega
    have w3 := w30 q
    simp (disch := first | assumption | omega) only [fX19_gap, wdR1, wdR2, wdR3, wdR4, wdR5, wdR6, wdR7, wdR8, wdR9, wdR10, wdR11, wdR12, wdR13, wdI14, wdS14, wdI15, wdS15, wdA3, wdU3, wdA4, wdU4, wdA5, wdU5, wdA6, wdU6, wdA7, wdU7, wdA8, wdU8, wdA27, wdU27, wdA28, wdU28, wdA29, wdU29, wdA30, wdU30, wdA31, wdU31, wdB, wdP, wdAB, wdUB, wdAP, wdUP, wdV, drV, drR0, drI1, drS1, k_C, ↓reduceIte, tr_lt, fa_lt, tr_le, fa_le, tr_eq, fa_eq, and_true, true_and, and_false, false_and, il0, il1, il2, il3, il4, il5, il6, il7, il8, il9, il10, il11, il12, il15, il16, il20, il24, il31, il32, il44, il45, il48, il50, il57, il58, il59, il63, il91, il93, il97, il99, il100, il109, il113, il119, il120, il122, il200, il255, il480, il500, il501, il512, il999, il4112, il41120, il1000000, il1000003, ii_add, ii_sub, ii_mul, ii_neg, ii_le, ii_lt, ii_eq, ii_div, q_I, q_V, q_R, lt_q, rZ_q, md_M, md_16, md_4, md_8, md_10, if_true, if_false, if_pos, if_neg, hne, w29, w3, s2]
    rw [e]
theorem n_wood (hW : isWorld c w) (hR : WR w A M o g) (hM : SA M) (hG : GC M g B) (h4 : M 0 9 ≤ 4) (hr : 0 ≤ r ∧ r < M 0 3) : fX19_wood w (ii r) (CW c A J) = some (Sum.inl (some (Value.int (ii (suW (M 1) g r)))), CW c A J) := by
  obtain ⟨⟨⟨s0, s1, s2, s3, s4, s5, s6⟩, sK, sQ⟩, hKd, ⟨c0, c1, c2, c3, c4⟩, hRo, hOr⟩ := hR
  have h38 := hM.1.2.1
  have hr8 : 0 ≤ r ∧ r < 8 := by omega
  have hgr := hG.1.1 r hr8.1 hr8.2
  obtain ⟨⟨w27, w28, w29, w30, w31⟩, wB, wP⟩ := hRo r hr.1 hr.2
  have b0 := hgr.1
  have b1 := hgr.2.1
  have b2 := hgr.2.2.2.2.1
  have b3 := hgr.2.2.2.2.2.1
  have b4 := hgr.2.2.2.2.2.2
  have hkb := hG.1.2.2.2.1 r hr8.1 hr8.2
  simp only [fX19_wood, il0]
  refine lp (fun n i (s : Int) => fX19_wood_4 n w (ii r) (ii s) (ii i) (CW c A J)) (fun x => x = _) (fun i s => 0 ≤ i ∧ s = sm (fun k => if M 1 (cel g r (11 + k)) = 0 then 1 else 0) i) (cel g r 1) ?_ ?_ FU 0 0 (by omega) ⟨by omega, rfl⟩ (by have := FU_e; omega)
  · rintro n i s hi ⟨hI, hs⟩
    have hb := wP i hI hi
    have hk := hkb i hI hi
    have hk0 := (hgr.2.2.2.1 i hI hi).1
    have hl := (hKd _ hk0 hk).2.1
    have hm := hM.2.1 (cel g r (11 + i)) hk0 (by omega)
    refine Or.inr ⟨s + (if M 1 (cel g r (11 + i)) = 0 then 1 else 0), ⟨by omega, by rw [sm_s _ _ hI, ← hs]⟩, ?_⟩
    by_cases q : M 1 (cel g r (11 + i)) = 0
    · rw [if_pos q]
      simp (disch := first | assumption | omega) only [fX19_wood_4, fX19_wood_36, wdR1, wdR2, wdR3, wdR4, wdR5, wdR6, wdR7, wdR8, wdR9, wdR10, wdR11, wdR12, wdR13, wdI14, wdS14, wdI15, wdS15, wdA3, wdU3, wdA4, wdU4, wdA5, wdU5, wdA6, wdU6, wdA7, wdU7, wdA8, wdU8, wdA27, wdU27, wdA28, wdU28, wdA29, wdU29, wdA30, wdU30, wdA31, wdU31, wdB, wdP, wdAB, wdUB, wdAP, wdUP, wdV, drV, drR0, drI1, drS1, k_C, ↓reduceIte, tr_lt, fa_lt, tr_le, fa_le, tr_eq, fa_eq, and_true, true_and, and_false, false_and, il0, il1, il2, il3, il4, il5, il6, il7, il8, il9, il10, il11, il12, il15, il16, il20, il24, il31, il32, il44, il45, il48, il50, il57, il58, il59, il63, il91, il93, il97, il99, il100, il109, il113, il119, il120, il122, il200, il255, il480, il500, il501, il512, il999, il4112, il41120, il1000000, il1000003, ii_add, ii_sub, ii_mul, ii_neg, ii_le, ii_lt, ii_eq, ii_div, q_I, q_V, q_R, lt_q, rZ_q, md_M, md_16, md_4, md_8, md_10, if_true, if_false, if_pos, if_neg, w28, hb, hl, q]
    · rw [if_neg q]
      simp (disch := first | assumption | omega) only [fX19_wood_4, fX19_wood_36, wdR1, wdR2, wdR3, wdR4, wdR5, wdR6, wdR7, wdR8, wdR9, wdR10, wdR11, wdR12, wdR13, wdI14, wdS14, wdI15, wdS15, wdA3, wdU3, wdA4, wdU4, wdA5, wdU5, wdA6, wdU6, wdA7, wdU7, wdA8, wdU8, wdA27, wdU27, wdA28, wdU28, wdA29, wdU29, wdA30, wdU30, wdA31, wdU31, wdB, wdP, wdAB, wdUB, wdAP, wdUP, wdV, drV, drR0, drI1, drS1, k_C, ↓reduceIte, tr_lt, fa_lt, tr_le, fa_le, tr_eq, fa_eq, and_true, true_and, and_false, false_and, il0, il1, il2, il3, il4, il5, il6, il7, il8, il9, il10, il11, il12, il15, il16, il20, il24, il31, il32, il44, il45, il48, il50, il57, il58, il59, il63, il91, il93, il97, il99, il100, il109, il113, il119, il120, il122, il200, il255, il480, il500, il501, il512, il999, il4112, il41120, il1000000, il1000003, ii_add, ii_sub, ii_mul, ii_neg, ii_le, ii_lt, ii_eq, ii_div, q_I, q_V, q_R, lt_q, rZ_q, md_M, md_16, md_4, md_8, md_10, if_true, if_false, if_pos, if_neg, w28, hb, hl]
  · rintro n s ⟨hI, hs⟩
    simp (disch := first | assumption | omega) only [fX19_wood_4, wdR1, wdR2, wdR3, wdR4, wdR5, wdR6, wdR7, wdR8, wdR9, wdR10, wdR11, wdR12, wdR13, wdI14, wdS14, wdI15, wdS15, wdA3, wdU3, wdA4, wdU4, wdA5, wdU5, wdA6, wdU6, wdA7, wdU7, wdA8, wdU8, wdA27, wdU27, wdA28, wdU28, wdA29, wdU29, wdA30, wdU30, wdA31, wdU31, wdB, wdP, wdAB, wdUB, wdAP, wdUP, wdV, drV, drR0, drI1, drS1, k_C, ↓reduceIte, tr_lt, fa_lt, tr_le, fa_le, tr_eq, fa_eq, and_true, true_and, and_false, false_and, il0, il1, il2, il3, il4, il5, il6, il7, il8, il9, il10, il11, il12, il15, il16, il20, il24, il31, il32, il44, il45, il48, il50, il57, il58, il59, il63, il91, il93, il97, il99, il100, il109, il113, il119, il120, il122, il200, il255, il480, il500, il501, il512, il999, il4112, il41120, il1000000, il1000003, ii_add, ii_sub, ii_mul, ii_neg, ii_le, ii_lt, ii_eq, ii_div, q_I, q_V, q_R, lt_q, rZ_q, md_M, md_16, md_4, md_8, md_10, if_true, if_false, if_pos, if_neg, w28]
    rw [hs]
    rfl
theorem n_isTight (hW : isWorld c w) (hR : WR w A M o g) (hM : SA M) (hG : GC M g B) (h4 : M 0 9 ≤ 4) (hr : 0 ≤ r ∧ r < M 0 3) : fX19_isTight w (ii r) (CW c A J) = some (Sum.inl (some (Value.int (ii (if gapM M g r = 0 ∧ cel g r 4 = 0 then 1 else 0)))), CW c A J) := by
  have hga := n_gap (J := J) hW hR hM hG h4 hr
  obtain ⟨⟨⟨s0, s1, s2, s3, s4, s5, s6⟩, sK, sQ⟩, hKd, ⟨c0, c1, c2, c3, c4⟩, hRo, hOr⟩ := hR
  have h38 := hM.1.2.1
  have hr8 : 0 ≤ r ∧ r < 8 := by omega
  have hgr := hG.1.1 r hr8.1 hr8.2
  obtain ⟨⟨w27, w28, w29, w30, w31⟩, wB, wP⟩ := hRo r hr.1 hr.2
  have b0 := hgr.1
  have b1 := hgr.2.1
  have b2 := hgr.2.2.2.2.1
  have b3 := hgr.2.2.2.2.2.1
  have b4 := hgr.2.2.2.2.2.2
  have hgb := gapM_b hM hgr
  by_cases q : gapM M g r = 0
  · by_cases q2 : cel g r 4 = 0
    · rw [if_pos ⟨q, q2⟩]
      simp (disch := first | assumption | omega) only [fX19_isTight, wdR1, wdR2, wdR3, wdR4, wdR5, wdR6, wdR7, wdR8, wdR9, wdR10, wdR11, wdR12, wdR13, wdI14, wdS14, wdI15, wdS15, wdA3, wdU3, wdA4, wdU4, wdA5, wdU5, wdA6, wdU6, wdA7, wdU7, wdA8, wdU8, wdA27, wdU27, wdA28, wdU28, wdA29, wdU29, wdA30, wdU30, wdA31, wdU31, wdB, wdP, wdAB, wdUB, wdAP, wdUP, wdV, drV, drR0, drI1, drS1, k_C, ↓reduceIte, tr_lt, fa_lt, tr_le, fa_le, tr_eq, fa_eq, and_true, true_and, and_false, false_and, il0, il1, il2, il3, il4, il5, il6, il7, il8, il9, il10, il11, il12, il15, il16, il20, il24, il31, il32, il44, il45, il48, il50, il57, il58, il59, il63, il91, il93, il97, il99, il100, il109, il113, il119, il120, il122, il200, il255, il480, il500, il501, il512, il999, il4112, il41120, il1000000, il1000003, ii_add, ii_sub, ii_mul, ii_neg, ii_le, ii_lt, ii_eq, ii_div, q_I, q_V, q_R, lt_q, rZ_q, md_M, md_16, md_4, md_8, md_10, if_true, if_false, if_pos, if_neg, hga, w31, q, q2]
    · rw [if_neg (fun x => q2 x.2)]
      simp (disch := first | assumption | omega) only [fX19_isTight, wdR1, wdR2, wdR3, wdR4, wdR5, wdR6, wdR7, wdR8, wdR9, wdR10, wdR11, wdR12, wdR13, wdI14, wdS14, wdI15, wdS15, wdA3, wdU3, wdA4, wdU4, wdA5, wdU5, wdA6, wdU6, wdA7, wdU7, wdA8, wdU8, wdA27, wdU27, wdA28, wdU28, wdA29, wdU29, wdA30, wdU30, wdA31, wdU31, wdB, wdP, wdAB, wdUB, wdAP, wdUP, wdV, drV, drR0, drI1, drS1, k_C, ↓reduceIte, tr_lt, fa_lt, tr_le, fa_le, tr_eq, fa_eq, and_true, true_and, and_false, false_and, il0, il1, il2, il3, il4, il5, il6, il7, il8, il9, il10, il11, il12, il15, il16, il20, il24, il31, il32, il44, il45, il48, il50, il57, il58, il59, il63, il91, il93, il97, il99, il100, il109, il113, il119, il120, il122, il200, il255, il480, il500, il501, il512, il999, il4112, il41120, il1000000, il1000003, ii_add, ii_sub, ii_mul, ii_neg, ii_le, ii_lt, ii_eq, ii_div, q_I, q_V, q_R, lt_q, rZ_q, md_M, md_16, md_4, md_8, md_10, if_true, if_false, if_pos, if_neg, hga, w31, q]
  · rw [if_neg (fun x => q x.1)]
    simp (disch := first | assumption | omega) only [fX19_isTight, wdR1, wdR2, wdR3, wdR4, wdR5, wdR6, wdR7, wdR8, wdR9, wdR10, wdR11, wdR12, wdR13, wdI14, wdS14, wdI15, wdS15, wdA3, wdU3, wdA4, wdU4, wdA5, wdU5, wdA6, wdU6, wdA7, wdU7, wdA8, wdU8, wdA27, wdU27, wdA28, wdU28, wdA29, wdU29, wdA30, wdU30, wdA31, wdU31, wdB, wdP, wdAB, wdUB, wdAP, wdUP, wdV, drV, drR0, drI1, drS1, k_C, ↓reduceIte, tr_lt, fa_lt, tr_le, fa_le, tr_eq, fa_eq, and_true, true_and, and_false, false_and, il0, il1, il2, il3, il4, il5, il6, il7, il8, il9, il10, il11, il12, il15, il16, il20, il24, il31, il32, il44, il45, il48, il50, il57, il58, il59, il63, il91, il93, il97, il99, il100, il109, il113, il119, il120, il122, il200, il255, il480, il500, il501, il512, il999, il4112, il41120, il1000000, il1000003, ii_add, ii_sub, ii_mul, ii_neg, ii_le, ii_lt, ii_eq, ii_div, q_I, q_V, q_R, lt_q, rZ_q, md_M, md_16, md_4, md_8, md_10, if_true, if_false, if_pos, if_neg, hga]
theorem n_loose (hW : isWorld c w) (hR : WR w A M o g) (hM : SA M) (hG : GC M g B) (h4 : M 0 9 ≤ 4) (hr : 0 ≤ r ∧ r < M 0 3) : fX19_loose w (ii r) (CW c A J) = some (Sum.inl (some (Value.int (ii (cel g r 4 + 10 * gapM M g r)))), CW c A J) := by
  have hga := n_gap (J := J) hW hR hM hG h4 hr
  obtain ⟨⟨⟨s0, s1, s2, s3, s4, s5, s6⟩, sK, sQ⟩, hKd, ⟨c0, c1, c2, c3, c4⟩, hRo, hOr⟩ := hR
  have h38 := hM.1.2.1
  have hr8 : 0 ≤ r ∧ r < 8 := by omega
  have hgr := hG.1.1 r hr8.1 hr8.2
  obtain ⟨⟨w27, w28, w29, w30, w31⟩, wB, wP⟩ := hRo r hr.1 hr.2
  have b0 := hgr.1
  have b1 := hgr.2.1
  have b2 := hgr.2.2.2.2.1
  have b3 := hgr.2.2.2.2.2.1
  have b4 := hgr.2.2.2.2.2.2
  simp (disch := first | assumption | omega) only [fX19_loose, wdR1, wdR2, wdR3, wdR4, wdR5, wdR6, wdR7, wdR8, wdR9, wdR10, wdR11, wdR12, wdR13, wdI14, wdS14, wdI15, wdS15, wdA3, wdU3, wdA4, wdU4, wdA5, wdU5, wdA6, wdU6, wdA7, wdU7, wdA8, wdU8, wdA27, wdU27, wdA28, wdU28, wdA29, wdU29, wdA30, wdU30, wdA31, wdU31, wdB, wdP, wdAB, wdUB, wdAP, wdUP, wdV, drV, drR0, drI1, drS1, k_C, ↓reduceIte, tr_lt, fa_lt, tr_le, fa_le, tr_eq, fa_eq, and_true, true_and, and_false, false_and, il0, il1, il2, il3, il4, il5, il6, il7, il8, il9, il10, il11, il12, il15, il16, il20, il24, il31, il32, il44, il45, il48, il50, il57, il58, il59, il63, il91, il93, il97, il99, il100, il109, il113, il119, il120, il122, il200, il255, il480, il500, il501, il512, il999, il4112, il41120, il1000000, il1000003, ii_add, ii_sub, ii_mul, ii_neg, ii_le, ii_lt, ii_eq, ii_div, q_I, q_V, q_R, lt_q, rZ_q, md_M, md_16, md_4, md_8, md_10, if_true, if_false, if_pos, if_neg, hga, w31]
theorem n_tight (hW : isWorld c w) (hR : WR w A M o g) (hM : SA M) (hG : GC M g B) (h4 : M 0 9 ≤ 4) : fX19_tight w (CW c A J) = some (Sum.inl (some (Value.int (ii (sm (fun r => if gapM M g r = 0 ∧ cel g r 4 = 0 then 1 else 0) (M 0 3))))), CW c A J) := by
  have h38 := hM.1.2.1
  have s1 := hR.1.1.2.1
  simp only [fX19_tight, il0]
  refine lp (fun n i (s : Int) => fX19_tight_4 n w (ii s) (ii i) (CW c A J)) (fun x => x = _) (fun i s => 0 ≤ i ∧ s = sm (fun r => if gapM M g r = 0 ∧ cel g r 4 = 0 then 1 else 0) i) (M 0 3) ?_ ?_ FU 0 0 (by omega) ⟨by omega, rfl⟩ (by have := FU_e; omega)
  · rintro n i s hi ⟨hI, hs⟩
    have ht := n_isTight (J := J) hW hR hM hG h4 ⟨hI, hi⟩
    refine Or.inr ⟨s + (if gapM M g i = 0 ∧ cel g i 4 = 0 then 1 else 0), ⟨by omega, by rw [sm_s _ _ hI, ← hs]⟩, ?_⟩
    by_cases q : gapM M g i = 0 ∧ cel g i 4 = 0
    · rw [if_pos q] at ht ⊢
      simp (disch := first | assumption | omega) only [fX19_tight_4, fX19_tight_28, wdR1, wdR2, wdR3, wdR4, wdR5, wdR6, wdR7, wdR8, wdR9, wdR10, wdR11, wdR12, wdR13, wdI14, wdS14, wdI15, wdS15, wdA3, wdU3, wdA4, wdU4, wdA5, wdU5, wdA6, wdU6, wdA7, wdU7, wdA8, wdU8, wdA27, wdU27, wdA28, wdU28, wdA29, wdU29, wdA30, wdU30, wdA31, wdU31, wdB, wdP, wdAB, wdUB, wdAP, wdUP, wdV, drV, drR0, drI1, drS1, k_C, ↓reduceIte, tr_lt, fa_lt, tr_le, fa_le, tr_eq, fa_eq, and_true, true_and, and_false, false_and, il0, il1, il2, il3, il4, il5, il6, il7, il8, il9, il10, il11, il12, il15, il16, il20, il24, il31, il32, il44, il45, il48, il50, il57, il58, il59, il63, il91, il93, il97, il99, il100, il109, il113, il119, il120, il122, il200, il255, il480, il500, il501, il512, il999, il4112, il41120, il1000000, il1000003, ii_add, ii_sub, ii_mul, ii_neg, ii_le, ii_lt, ii_eq, ii_div, q_I, q_V, q_R, lt_q, rZ_q, md_M, md_16, md_4, md_8, md_10, if_true, if_false, if_pos, if_neg, s1, ht]
    · rw [if_neg q] at ht ⊢
      simp (disch := first | assumption | omega) only [fX19_tight_4, fX19_tight_28, wdR1, wdR2, wdR3, wdR4, wdR5, wdR6, wdR7, wdR8, wdR9, wdR10, wdR11, wdR12, wdR13, wdI14, wdS14, wdI15, wdS15, wdA3, wdU3, wdA4, wdU4, wdA5, wdU5, wdA6, wdU6, wdA7, wdU7, wdA8, wdU8, wdA27, wdU27, wdA28, wdU28, wdA29, wdU29, wdA30, wdU30, wdA31, wdU31, wdB, wdP, wdAB, wdUB, wdAP, wdUP, wdV, drV, drR0, drI1, drS1, k_C, ↓reduceIte, tr_lt, fa_lt, tr_le, fa_le, tr_eq, fa_eq, and_true, true_and, and_false, false_and, il0, il1, il2, il3, il4, il5, il6, il7, il8, il9, il10, il11, il12, il15, il16, il20, il24, il31, il32, il44, il45, il48, il50, il57, il58, il59, il63, il91, il93, il97, il99, il100, il109, il113, il119, il120, il122, il200, il255, il480, il500, il501, il512, il999, il4112, il41120, il1000000, il1000003, ii_add, ii_sub, ii_mul, ii_neg, ii_le, ii_lt, ii_eq, ii_div, q_I, q_V, q_R, lt_q, rZ_q, md_M, md_16, md_4, md_8, md_10, if_true, if_false, if_pos, if_neg, s1, ht]
  · rintro n s ⟨hI, hs⟩
    simp (disch := first | assumption | omega) only [fX19_tight_4, wdR1, wdR2, wdR3, wdR4, wdR5, wdR6, wdR7, wdR8, wdR9, wdR10, wdR11, wdR12, wdR13, wdI14, wdS14, wdI15, wdS15, wdA3, wdU3, wdA4, wdU4, wdA5, wdU5, wdA6, wdU6, wdA7, wdU7, wdA8, wdU8, wdA27, wdU27, wdA28, wdU28, wdA29, wdU29, wdA30, wdU30, wdA31, wdU31, wdB, wdP, wdAB, wdUB, wdAP, wdUP, wdV, drV, drR0, drI1, drS1, k_C, ↓reduceIte, tr_lt, fa_lt, tr_le, fa_le, tr_eq, fa_eq, and_true, true_and, and_false, false_and, il0, il1, il2, il3, il4, il5, il6, il7, il8, il9, il10, il11, il12, il15, il16, il20, il24, il31, il32, il44, il45, il48, il50, il57, il58, il59, il63, il91, il93, il97, il99, il100, il109, il113, il119, il120, il122, il200, il255, il480, il500, il501, il512, il999, il4112, il41120, il1000000, il1000003, ii_add, ii_sub, ii_mul, ii_neg, ii_le, ii_lt, ii_eq, ii_div, q_I, q_V, q_R, lt_q, rZ_q, md_M, md_16, md_4, md_8, md_10, if_true, if_false, if_pos, if_neg, s1]
    rw [hs]
end WRD
