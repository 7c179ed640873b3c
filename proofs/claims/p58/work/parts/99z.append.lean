/-! APPEND -/
theorem b255 (i : Nat) : (255#32).getLsbD i = decide (i < 8) := by
  by_cases h : i < 8
  · have key : ∀ k : Fin 8, (255#32).getLsbD k = true := by decide
    rw [key ⟨i, h⟩, decide_eq_true h]
  · rw [decide_eq_false h, BitVec.getLsbD]
    apply Nat.testBit_lt_two_pow
    calc (255#32).toNat < 2 ^ 8 := by decide
      _ ≤ 2 ^ i := Nat.pow_le_pow_right (by decide) (by omega)
theorem byt_bv (x : BitVec 32) (s : Nat) (hs : s ≤ 24) : (x >>> s) &&& 255#32 = (x.sshiftRight s) &&& 255#32 := by
  apply BitVec.eq_of_getLsbD_eq
  intro i hi
  rw [BitVec.getLsbD_and, BitVec.getLsbD_and, b255]
  by_cases h : i < 8
  · rw [BitVec.getLsbD_ushiftRight, BitVec.getLsbD_sshiftRight, if_pos (by omega), decide_eq_false (show ¬ 32 ≤ i by omega)]
    rfl
  · rw [decide_eq_false h, Bool.and_false, Bool.and_false]
theorem byt_eq (x : Int32) (s : Int) (hs : s = 24 ∨ s = 16 ∨ s = 8 ∨ s = 0) : ((x.toUInt32 >>> ((ii s).toUInt32 &&& Int32.toUInt32 31)).toInt32) &&& 255 = (x >>> (ii s &&& 31)) &&& 255 := by
  rcases hs with rfl | rfl | rfl | rfl
  · exact Int32.toBitVec_inj.mp (byt_bv x.toBitVec 24 (by decide))
  · exact Int32.toBitVec_inj.mp (byt_bv x.toBitVec 16 (by decide))
  · exact Int32.toBitVec_inj.mp (byt_bv x.toBitVec 8 (by decide))
  · exact Int32.toBitVec_inj.mp (byt_bv x.toBitVec 0 (by decide))
def byv (x : Int32) (s : Int) : Int := ((x >>> (ii s &&& 31)) &&& 255).toInt
theorem byv_e (x : Int32) (s : Int) : (x >>> (ii s &&& 31)) &&& 255 = ii (byv x s) := (ii_of _).symm
theorem byv_b (x : Int32) (s : Int) : 0 ≤ byv x s ∧ byv x s ≤ 255 := by
  unfold byv
  generalize x >>> (ii s &&& 31) = y
  have h1 : (y.toBitVec &&& 255#32).toNat ≤ 255 := by
    rw [BitVec.toNat_and]
    exact Nat.and_le_right
  have h2 : (y.toBitVec &&& 255#32).toInt = ((y.toBitVec &&& 255#32).toNat : Int) := BitVec.toInt_eq_toNat_of_lt (by omega)
  have h3 : (y &&& 255).toInt = (y.toBitVec &&& 255#32).toInt := rfl
  rw [h3, h2]
  omega
/-- the k-th byte of five words -/
def wd5 (x1 x2 x3 x4 x5 : Int32) (k : Int) : Int32 := if 4 ≤ k then (if 8 ≤ k then (if 12 ≤ k then (if 16 ≤ k then x5 else x4) else x3) else x2) else x1
def by5 (x1 x2 x3 x4 x5 : Int32) (k : Int) : Int := byv (wd5 x1 x2 x3 x4 x5 k) (24 - 8 * (k % 4))
section APP
variable {C0 N0 n : Nat} {K : Nat × Nat} {c : CC} {A : AI} {J : JI} {M : AI} {g : Int → Int} {pl sp tv cap : Nat}
theorem c_aw1 (hRd : isReader c 1) (m : Nat) (x : Int32) (s p : Int) (hs : s = 24 ∨ s = 16 ∨ s = 8 ∨ s = 0) (h2 : A 1 2 = p) (hp : 0 ≤ p ∧ p < 500) : fX2_addWord_3 (m + 1) 1 x (ii s) (CW c A J) = fX2_addWord_3 m 1 x (ii (s - 8)) (CW c (up (up A (1 + 1) p (byv x s)) 1 2 (p + 1)) J) := by
  have e2 : up A (1 + 1) p (byv x s) 1 2 = p := by rw [up_n _ _ _ _ _ _ (by omega)]; exact h2
  rw [fX2_addWord_3, byt_eq x s hs, byv_e, if_neg (by rw [il0, ii_lt _ _ (by omega)]; omega), rdI2 hRd, h2, il500, if_neg (by rw [ii_le _ _ (by omega)]; omega), rdR0 hRd, rdI2 hRd, h2, rdU1 hRd _ _ _ (by omega), rdI2 hRd, e2, il1, ii_add, rdS2 hRd, il8, ii_neg, ii_add, lt_q]
  rfl
theorem c_aw (hRd : isReader c 1) (x : Int32) (p : Int) (h2 : A 1 2 = p) (hp : 0 ≤ p ∧ p ≤ 496) : ∃ A', fX2_addWord 1 x (CW c A J) = some (Sum.inl none, CW c A' J) ∧ A' 1 2 = p + 4 ∧ (∀ i, 0 ≤ i → i < 4 → A' (1 + 1) (p + i) = byv x (24 - 8 * i)) ∧ ∀ (b : Nat) (z : Int), ¬ (b = 1 ∧ z = 2) → ¬ (b = 1 + 1 ∧ p ≤ z ∧ z < p + 4) → A' b z = A b z := by
  obtain ⟨w, hw, hw2⟩ := FU_1
  obtain ⟨u, hu⟩ : ∃ u, w = u + 1 + 1 + 1 + 1 := ⟨w - 4, by omega⟩
  refine ⟨up (up (up (up (up (up (up (up A (1 + 1) p (byv x 24)) 1 2 (p + 1)) (1 + 1) (p + 1) (byv x 16)) 1 2 (p + 1 + 1)) (1 + 1) (p + 1 + 1) (byv x 8)) 1 2 (p + 1 + 1 + 1)) (1 + 1) (p + 1 + 1 + 1) (byv x 0)) 1 2 (p + 1 + 1 + 1 + 1), ?_, ?_, fun i a b => ?_, fun b z q r => ?_⟩
  · rw [fX2_addWord, show (24 : Int32) = ii 24 from rfl, hw, hu, c_aw1 hRd _ x 24 p (by omega) h2 (by omega), show (24 : Int) - 8 = 16 by omega, c_aw1 hRd _ x 16 (p + 1) (by omega) (up_s _ _ _ _) (by omega), show (16 : Int) - 8 = 8 by omega, c_aw1 hRd _ x 8 (p + 1 + 1) (by omega) (up_s _ _ _ _) (by omega), show (8 : Int) - 8 = 0 by omega, c_aw1 hRd _ x 0 (p + 1 + 1 + 1) (by omega) (up_s _ _ _ _) (by omega), fX2_addWord_3, il0, if_pos (by rw [ii_lt _ _ (by omega)]; omega)]
  · rw [up_s]; omega
  · have h : i = 0 ∨ i = 1 ∨ i = 2 ∨ i = 3 := by omega
    rcases h with h | h | h | h
    · rw [h, show p + 0 = p by omega, show (24 : Int) - 8 * 0 = 24 by omega]
      simp (disch := first | assumption | omega) only [up_s, up_n]
    · rw [h, show (24 : Int) - 8 * 1 = 16 by omega]
      simp (disch := first | assumption | omega) only [up_s, up_n]
    · rw [h, show p + 2 = p + 1 + 1 by omega, show (24 : Int) - 8 * 2 = 8 by omega]
      simp (disch := first | assumption | omega) only [up_s, up_n]
    · rw [h, show p + 3 = p + 1 + 1 + 1 by omega, show (24 : Int) - 8 * 3 = 0 by omega]
      simp (disch := first | assumption | omega) only [up_s, up_n]
  · simp (disch := first | assumption | omega) only [up_n]
end APP
