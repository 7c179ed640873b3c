/-! THE LAW'S WORLD: kinds, tight rows; the draws -/
section WMI
variable {c : CC} {A : AI} {J : JI} {w d : Nat} {M : AI} {o g : Int → Int} {r B n : Int} {met len : Int → Int}
theorem n_kind (hW : isWorld c w) (m L : Int) (hn : 0 ≤ n ∧ n ≤ 4) (h7 : A w 14 = n) (hk : ∀ k, 0 ≤ k → k < n → (A (w + 8) k = met k ∧ A (w + 4) k = len k) ∧ (0 ≤ met k ∧ met k ≤ 1) ∧ 0 ≤ len k ∧ len k ≤ 99) (hm : 0 ≤ m ∧ m ≤ 1) (hL : -1000 ≤ L ∧ L < 1000) : fX19_kind w (ii m) (ii L) (CW c A J) = some (Sum.inl (some (Value.int (ii (fdN met len m L 0 n.toNat)))), CW c A J) := by
  simp only [fX19_kind, il0]
  refine lp (fun j i (_ : Unit) => fX19_kind_2 j w (ii m) (ii L) (ii i) (CW c A J)) (fun x => x = _) (fun i _ => 0 ≤ i ∧ fdN met len m L 0 n.toNat = fdN met len m L i (n - i).toNat) n ?_ ?_ FU 0 () (by omega) ⟨by omega, by rw [show n - 0 = n by omega]⟩ (by have := FU_e; omega)
  · rintro j i ⟨⟩ hi ⟨hI, he⟩
    obtain ⟨⟨x1, x2⟩, x3, x4⟩ := hk i hI hi
    have e : fdN met len m L i (n - i).toNat = if met i = m ∧ len i = L then i else fdN met len m L (i + 1) (n - (i + 1)).toNat := by
      rw [show (n - i).toNat = (n - (i + 1)).toNat + 1 by omega]
      rfl
    rw [e] at he
    by_cases q : met i = m ∧ len i = L
    · rw [if_pos q] at he
      left
      rw [he]
      simp (disch := first | assumption | omega) only [fX19_kind_2, wdR1, wdR2, wdR3, wdR4, wdR5, wdR6, wdR7, wdR8, wdR9, wdR10, wdR11, wdR12, wdR13, wdI14, wdS14, wdI15, wdS15, wdA3, wdU3, wdA4, wdU4, wdA5, wdU5, wdA6, wdU6, wdA7, wdU7, wdA8, wdU8, wdA27, wdU27, wdA28, wdU28, wdA29, wdU29, wdA30, wdU30, wdA31, wdU31, wdB, wdP, wdAB, wdUB, wdAP, wdUP, wdV, drV, drR0, drI1, drS1, k_C, ↓reduceIte, tr_lt, fa_lt, tr_le, fa_le, tr_eq, fa_eq, and_true, true_and, and_false, false_and, il0, il1, il2, il3, il4, il5, il6, il7, il8, il9, il10, il11, il12, il15, il16, il20, il24, il31, il32, il44, il45, il48, il50, il57, il58, il59, il63, il91, il93, il97, il99, il100, il109, il113, il119, il120, il122, il200, il255, il480, il500, il501, il512, il999, il4112, il41120, il1000000, il1000003, ii_add, ii_sub, ii_mul, ii_neg, ii_le, ii_lt, ii_eq, ii_div, q_I, q_V, q_R, lt_q, rZ_q, md_M, md_16, md_4, md_8, md_10, if_true, if_false, if_pos, if_neg, h7, x1, x2]
    · rw [if_neg q] at he
      refine Or.inr ⟨(), ⟨by omega, he⟩, ?_⟩
      by_cases q1 : met i = m
      · have q2 : len i ≠ L := fun z => q ⟨q1, z⟩
        simp (disch := first | assumption | omega) only [fX19_kind_2, fX19_kind_32, wdR1, wdR2, wdR3, wdR4, wdR5, wdR6, wdR7, wdR8, wdR9, wdR10, wdR11, wdR12, wdR13, wdI14, wdS14, wdI15, wdS15, wdA3, wdU3, wdA4, wdU4, wdA5, wdU5, wdA6, wdU6, wdA7, wdU7, wdA8, wdU8, wdA27, wdU27, wdA28, wdU28, wdA29, wdU29, wdA30, wdU30, wdA31, wdU31, wdB, wdP, wdAB, wdUB, wdAP, wdUP, wdV, drV, drR0, drI1, drS1, k_C, ↓reduceIte, tr_lt, fa_lt, tr_le, fa_le, tr_eq, fa_eq, and_true, true_and, and_false, false_and, il0, il1, il2, il3, il4, il5, il6, il7, il8, il9, il10, il11, il12, il15, il16, il20, il24, il31, il32, il44, il45, il48, il50, il57, il58, il59, il63, il91, il93, il97, il99, il100, il109, il113, il119, il120, il122, il200, il255, il480, il500, il501, il512, il999, il4112, il41120, il1000000, il1000003, ii_add, ii_sub, ii_mul, ii_neg, ii_le, ii_lt, ii_eq, ii_div, q_I, q_V, q_R, lt_q, rZ_q, md_M, md_16, md_4, md_8, md_10, if_true, if_false, if_pos, if_neg, h7, x1, x2]
      · simp (disch := first | assumption | omega) only [fX19_kind_2, fX19_kind_32, wdR1, wdR2, wdR3, wdR4, wdR5, wdR6, wdR7, wdR8, wdR9, wdR10, wdR11, wdR12, wdR13, wdI14, wdS14, wdI15, wdS15, wdA3, wdU3, wdA4, wdU4, wdA5, wdU5, wdA6, wdU6, wdA7, wdU7, wdA8, wdU8, wdA27, wdU27, wdA28, wdU28, wdA29, wdU29, wdA30, wdU30, wdA31, wdU31, wdB, wdP, wdAB, wdUB, wdAP, wdUP, wdV, drV, drR0, drI1, drS1, k_C, ↓reduceIte, tr_lt, fa_lt, tr_le, fa_le, tr_eq, fa_eq, and_true, true_and, and_false, false_and, il0, il1, il2, il3, il4, il5, il6, il7, il8, il9, il10, il11, il12, il15, il16, il20, il24, il31, il32, il44, il45, il48, il50, il57, il58, il59, il63, il91, il93, il97, il99, il100, il109, il113, il119, il120, il122, il200, il255, il480, il500, il501, il512, il999, il4112, il41120, il1000000, il1000003, ii_add, ii_sub, ii_mul, ii_neg, ii_le, ii_lt, ii_eq, ii_div, q_I, q_V, q_R, lt_q, rZ_q, md_M, md_16, md_4, md_8, md_10, if_true, if_false, if_pos, if_neg, h7, x1, x2]
  · rintro j ⟨⟩ ⟨hI, he⟩
    rw [show (n - n).toNat = 0 by omega] at he
    rw [he]
    simp (disch := first | assumption | omega) only [fX19_kind_2, wdR1, wdR2, wdR3, wdR4, wdR5, wdR6, wdR7, wdR8, wdR9, wdR10, wdR11, wdR12, wdR13, wdI14, wdS14, wdI15, wdS15, wdA3, wdU3, wdA4, wdU4, wdA5, wdU5, wdA6, wdU6, wdA7, wdU7, wdA8, wdU8, wdA27, wdU27, wdA28, wdU28, wdA29, wdU29, wdA30, wdU30, wdA31, wdU31, wdB, wdP, wdAB, wdUB, wdAP, wdUP, wdV, drV, drR0, drI1, drS1, k_C, ↓reduceIte, tr_lt, fa_lt, tr_le, fa_le, tr_eq, fa_eq, and_true, true_and, and_false, false_and, il0, il1, il2, il3, il4, il5, il6, il7, il8, il9, il10, il11, il12, il15, il16, il20, il24, il31, il32, il44, il45, il48, il50, il57, il58, il59, il63, il91, il93, il97, il99, il100, il109, il113, il119, il120, il122, il200, il255, il480, il500, il501, il512, il999, il4112, il41120, il1000000, il1000003, ii_add, ii_sub, ii_mul, ii_neg, ii_le, ii_lt, ii_eq, ii_div, q_I, q_V, q_R, lt_q, rZ_q, md_M, md_16, md_4, md_8, md_10, if_true, if_false, if_pos, if_neg, h7]
    rfl
theorem n_tightN (hW : isWorld c w) (hR : WR w A M o g) (hM : SA M) (hG : GC M g B) (h4 : M 0 9 ≤ 4) : fX19_tight w (CW c A J) = some (Sum.inl (some (Value.int (ii (sm (fun r => if gapM M g r = 0 ∧ cel g r 4 = 0 then 1 else 0) (M 0 3))))), CW c A J) := by
  have h38 := hM.1.2.1
  simp only [fX19_tight, il0]
  refine lp (fun n i (s : Int) => fX19_tight_4 n w (ii s) (ii i) (CW c A J)) (fun x => x = _) (fun i s => (0 ≤ i ∧ 0 ≤ s ∧ s ≤ i) ∧ s = sm (fun r => if gapM M g r = 0 ∧ cel g r 4 = 0 then 1 else 0) i) (M 0 3) ?_ ?_ FU 0 0 (by omega) ⟨by omega, by rw [sm_0]⟩ (by have := FU_e; omega)
  · rintro n i s hi ⟨hI, hs⟩
    have s1 := hR.1.1.2.1
    have ht := n_isTight (J := J) hW hR hM hG h4 ⟨hI.1, hi⟩
    refine Or.inr ⟨s + (if gapM M g i = 0 ∧ cel g i 4 = 0 then 1 else 0), ⟨by split <;> omega, by rw [sm_s _ _ hI.1, ← hs]⟩, ?_⟩
    by_cases q : gapM M g i = 0 ∧ cel g i 4 = 0
    · rw [if_pos q] at ht ⊢
      simp (disch := first | assumption | omega) only [fX19_tight_4, fX19_tight_28, wdR1, wdR2, wdR3, wdR4, wdR5, wdR6, wdR7, wdR8, wdR9, wdR10, wdR11, wdR12, wdR13, wdI14, wdS14, wdI15, wdS15, wdA3, wdU3, wdA4, wdU4, wdA5, wdU5, wdA6, wdU6, wdA7, wdU7, wdA8, wdU8, wdA27, wdU27, wdA28, wdU28, wdA29, wdU29, wdA30, wdU30, wdA31, wdU31, wdB, wdP, wdAB, wdUB, wdAP, wdUP, wdV, drV, drR0, drI1, drS1, k_C, ↓reduceIte, tr_lt, fa_lt, tr_le, fa_le, tr_eq, fa_eq, and_true, true_and, and_false, false_and, il0, il1, il2, il3, il4, il5, il6, il7, il8, il9, il10, il11, il12, il15, il16, il20, il24, il31, il32, il44, il45, il48, il50, il57, il58, il59, il63, il91, il93, il97, il99, il100, il109, il113, il119, il120, il122, il200, il255, il480, il500, il501, il512, il999, il4112, il41120, il1000000, il1000003, ii_add, ii_sub, ii_mul, ii_neg, ii_le, ii_lt, ii_eq, ii_div, q_I, q_V, q_R, lt_q, rZ_q, md_M, md_16, md_4, md_8, md_10, if_true, if_false, if_pos, if_neg, s1, ht]
    · rw [if_neg q] at ht ⊢
      simp (disch := first | assumption | omega) only [fX19_tight_4, fX19_tight_28, wdR1, wdR2, wdR3, wdR4, wdR5, wdR6, wdR7, wdR8, wdR9, wdR10, wdR11, wdR12, wdR13, wdI14, wdS14, wdI15, wdS15, wdA3, wdU3, wdA4, wdU4, wdA5, wdU5, wdA6, wdU6, wdA7, wdU7, wdA8, wdU8, wdA27, wdU27, wdA28, wdU28, wdA29, wdU29, wdA30, wdU30, wdA31, wdU31, wdB, wdP, wdAB, wdUB, wdAP, wdUP, wdV, drV, drR0, drI1, drS1, k_C, ↓reduceIte, tr_lt, fa_lt, tr_le, fa_le, tr_eq, fa_eq, and_true, true_and, and_false, false_and, il0, il1, il2, il3, il4, il5, il6, il7, il8, il9, il10, il11, il12, il15, il16, il20, il24, il31, il32, il44, il45, il48, il50, il57, il58, il59, il63, il91, il93, il97, il99, il100, il109, il113, il119, il120, il122, il200, il255, il480, il500, il501, il512, il999, il4112, il41120, il1000000, il1000003, ii_add, ii_sub, ii_mul, ii_neg, ii_le, ii_lt, ii_eq, ii_div, q_I, q_V, q_R, lt_q, rZ_q, md_M, md_16, md_4, md_8, md_10, if_true, if_false, if_pos, if_neg, s1, ht]
  · rintro n s ⟨hI, hs⟩
    have s1 := hR.1.1.2.1
    simp (disch := first | assumption | omega) only [fX19_tight_4, wdR1, wdR2, wdR3, wdR4, wdR5, wdR6, wdR7, wdR8, wdR9, wdR10, wdR11, wdR12, wdR13, wdI14, wdS14, wdI15, wdS15, wdA3, wdU3, wdA4, wdU4, wdA5, wdU5, wdA6, wdU6, wdA7, wdU7, wdA8, wdU8, wdA27, wdU27, wdA28, wdU28, wdA29, wdU29, wdA30, wdU30, wdA31, wdU31, wdB, wdP, wdAB, wdUB, wdAP, wdUP, wdV, drV, drR0, drI1, drS1, k_C, ↓reduceIte, tr_lt, fa_lt, tr_le, fa_le, tr_eq, fa_eq, and_true, true_and, and_false, false_and, il0, il1, il2, il3, il4, il5, il6, il7, il8, il9, il10, il11, il12, il15, il16, il20, il24, il31, il32, il44, il45, il48, il50, il57, il58, il59, il63, il91, il93, il97, il99, il100, il109, il113, il119, il120, il122, il200, il255, il480, il500, il501, il512, il999, il4112, il41120, il1000000, il1000003, ii_add, ii_sub, ii_mul, ii_neg, ii_le, ii_lt, ii_eq, ii_div, q_I, q_V, q_R, lt_q, rZ_q, md_M, md_16, md_4, md_8, md_10, if_true, if_false, if_pos, if_neg, s1]
    rw [hs]
theorem and_pos (x : Int32) : ∃ z : Int, (0 ≤ z ∧ z < 2147483648) ∧ x &&& 2147483647 = ii z := by
  refine ⟨(x &&& 2147483647).toInt, ⟨?_, ?_⟩, (ii_of _).symm⟩
  · have hm : (x &&& 2147483647).toBitVec.msb = false := by
      rw [Int32.toBitVec_and, BitVec.msb_and, show (2147483647 : Int32).toBitVec.msb = false by decide, Bool.and_false]
    show 0 ≤ (x &&& 2147483647).toBitVec.toInt
    rw [BitVec.toInt_eq_toNat_of_msb hm]
    omega
  · exact Int32.toInt_lt _
/-- a draw: some value between the two -/
theorem n_next (hd : isDraws c d) (sc : Nat × (Nat → Int32)) (hs : sc.1 < 2147483648) (lo hi : Int) (hl : (-1000 ≤ lo ∧ lo ≤ hi) ∧ hi ≤ 1000) (h1 : 0 ≤ A d 1 ∧ A d 1 < 1000000000) : ∃ v : Int, (lo ≤ v ∧ v ≤ hi) ∧ fX17_next sc d (ii lo) (ii hi) (CW c A J) = some (Sum.inl (some (Value.int (ii (v)))), CW c (up A d 1 (A d 1 + 1)) J) := by
  have key : ∀ z : Int, 0 ≤ z ∧ z < 2147483648 → (lo ≤ lo + z % (hi - lo + 1) ∧ lo + z % (hi - lo + 1) ≤ hi) ∧ fX17_next_28 sc d (ii lo) (ii hi) (ii z) (CW c A J) = some (Sum.inl (some (Value.int (ii (lo + z % (hi - lo + 1))))), CW c (up A d 1 (A d 1 + 1)) J) := by
    intro z hz
    have m1 := Int.emod_nonneg z (show hi - lo + 1 ≠ 0 by omega)
    have m2 := Int.emod_lt_of_pos z (show 0 < hi - lo + 1 by omega)
    have m3 : z - z / (hi - lo + 1) * (hi - lo + 1) = z % (hi - lo + 1) := by
      have := Int.emod_def z (hi - lo + 1)
      rw [this, Int.mul_comm]
    refine ⟨by omega, ?_⟩
    simp (disch := first | assumption | omega) only [fX17_next_28, drI1 hd, drS1 hd, ↓reduceIte, tr_lt, fa_lt, tr_le, fa_le, tr_eq, fa_eq, and_true, true_and, and_false, false_and, il0, il1, il2, il3, il4, il5, il6, il7, il8, il9, il10, il11, il12, il15, il16, il20, il24, il31, il32, il44, il45, il48, il50, il57, il58, il59, il63, il91, il93, il97, il99, il100, il109, il113, il119, il120, il122, il200, il255, il480, il500, il501, il512, il999, il4112, il41120, il1000000, il1000003, ii_add, ii_sub, ii_mul, ii_neg, ii_le, ii_lt, ii_eq, ii_div, q_I, q_V, q_R, lt_q, rZ_q, md_M, md_16, md_4, md_8, md_10, if_true, if_false, if_pos, if_neg, m3]
  have hL : Int32.ofNat sc.1 = ii (sc.1 : Nat) := Int32.ofInt_eq_ofNat.symm
  have e5 : ∀ k : Int32 → Option AR, sL 5000000 sc k = k (ii (sc.1 : Nat)) := fun k => by unfold sL; rw [if_pos rfl, hL]
  by_cases q : (sc.1 : Int) ≤ A d 1
  · obtain ⟨k1, k2⟩ := key 0 (by omega)
    refine ⟨_, k1, ?_⟩
    rw [← k2]
    simp (disch := first | assumption | omega) only [fX17_next, drI1 hd, drR0 hd, e5, ↓reduceIte, tr_lt, fa_lt, tr_le, fa_le, tr_eq, fa_eq, and_true, true_and, and_false, false_and, il0, il1, il2, il3, il4, il5, il6, il7, il8, il9, il10, il11, il12, il15, il16, il20, il24, il31, il32, il44, il45, il48, il50, il57, il58, il59, il63, il91, il93, il97, il99, il100, il109, il113, il119, il120, il122, il200, il255, il480, il500, il501, il512, il999, il4112, il41120, il1000000, il1000003, ii_add, ii_sub, ii_mul, ii_neg, ii_le, ii_lt, ii_eq, ii_div, q_I, q_V, q_R, lt_q, rZ_q, md_M, md_16, md_4, md_8, md_10, if_true, if_false, if_pos, if_neg]
  · have e6 : ∀ k : Int32 → Option AR, sG 5000000 sc (ii (A d 1)) k = k (sc.2 (A d 1).toNat) := fun k => by
      unfold sG
      rw [if_pos ⟨rfl, ii_ib (A d 1) sc.1 (by omega)⟩, ii_tn _ (by omega)]
    obtain ⟨z, hz, ez⟩ := and_pos (sc.2 (A d 1).toNat)
    obtain ⟨k1, k2⟩ := key z hz
    refine ⟨_, k1, ?_⟩
    rw [← k2, ← ez]
    simp (disch := first | assumption | omega) only [fX17_next, drI1 hd, drR0 hd, e5, e6, ↓reduceIte, tr_lt, fa_lt, tr_le, fa_le, tr_eq, fa_eq, and_true, true_and, and_false, false_and, il0, il1, il2, il3, il4, il5, il6, il7, il8, il9, il10, il11, il12, il15, il16, il20, il24, il31, il32, il44, il45, il48, il50, il57, il58, il59, il63, il91, il93, il97, il99, il100, il109, il113, il119, il120, il122, il200, il255, il480, il500, il501, il512, il999, il4112, il41120, il1000000, il1000003, ii_add, ii_sub, ii_mul, ii_neg, ii_le, ii_lt, ii_eq, ii_div, q_I, q_V, q_R, lt_q, rZ_q, md_M, md_16, md_4, md_8, md_10, if_true, if_false, if_pos, if_neg]
end WMI
