/-! APPEND, all of it -/
section AP2
variable {C0 N0 n : Nat} {K : Nat × Nat} {c : CC} {A : AI} {J : JI} {M : AI} {g : Int → Int} {pl sp tv cap : Nat}
theorem c_app (hRd : isReader c 1) (x1 x2 x3 x4 x5 : Int32) (L : Int) (h2 : A 1 2 = L) (hL : 0 ≤ L ∧ L ≤ 480) : ∃ A', fX2_addBytes 1 x1 x2 x3 x4 x5 (CW c A J) = some (Sum.inl (some (Value.int (ii (1)))), CW c A' J) ∧ A' 1 2 = L + 20 ∧ (∀ k, 0 ≤ k → k < 20 → A' (1 + 1) (L + k) = by5 x1 x2 x3 x4 x5 k) ∧ ∀ (b : Nat) (z : Int), ¬ (b = 1 ∧ z = 2) → ¬ (b = 1 + 1 ∧ L ≤ z) → A' b z = A b z := by
  obtain ⟨A1, e1, l1, y1, f1⟩ := c_aw (c := c) (J := J) hRd x1 L h2 (by omega)
  obtain ⟨A2, e2, l2, y2, f2⟩ := c_aw (c := c) (J := J) hRd x2 (L + 4) l1 (by omega)
  obtain ⟨A3, e3, l3, y3, f3⟩ := c_aw (c := c) (J := J) hRd x3 (L + 4 + 4) l2 (by omega)
  obtain ⟨A4, e4, l4, y4, f4⟩ := c_aw (c := c) (J := J) hRd x4 (L + 4 + 4 + 4) l3 (by omega)
  obtain ⟨A5, e5, l5, y5, f5⟩ := c_aw (c := c) (J := J) hRd x5 (L + 4 + 4 + 4 + 4) l4 (by omega)
  refine ⟨A5, ?_, by omega, fun k a b => ?_, fun b z q r => ?_⟩
  · rw [fX2_addBytes, rdI2 hRd, h2, il480, if_pos (by rw [ii_le _ _ (by omega)]; omega), rdV hRd, e1, k_C, q_V, rdV hRd, e2, k_C, q_V, rdV hRd, e3, k_C, q_V, rdV hRd, e4, k_C, q_V, rdV hRd, e5, k_C, q_V]
    rfl
  · unfold by5 wd5
    by_cases q4 : 4 ≤ k
    · by_cases q8 : 8 ≤ k
      · by_cases q12 : 12 ≤ k
        · by_cases q16 : 16 ≤ k
          · rw [if_pos q4, if_pos q8, if_pos q12, if_pos q16, show k % 4 = k - 16 by omega, ← y5 (k - 16) (by omega) (by omega), show L + 4 + 4 + 4 + 4 + (k - 16) = L + k by omega]
          · rw [if_pos q4, if_pos q8, if_pos q12, if_neg q16, show k % 4 = k - 12 by omega, ← y4 (k - 12) (by omega) (by omega), show L + 4 + 4 + 4 + (k - 12) = L + k by omega, f5 _ _ (by omega) (by omega)]
        · rw [if_pos q4, if_pos q8, if_neg q12, show k % 4 = k - 8 by omega, ← y3 (k - 8) (by omega) (by omega), show L + 4 + 4 + (k - 8) = L + k by omega, f5 _ _ (by omega) (by omega), f4 _ _ (by omega) (by omega)]
      · rw [if_pos q4, if_neg q8, show k % 4 = k - 4 by omega, ← y2 (k - 4) (by omega) (by omega), show L + 4 + (k - 4) = L + k by omega, f5 _ _ (by omega) (by omega), f4 _ _ (by omega) (by omega), f3 _ _ (by omega) (by omega)]
    · rw [if_neg q4, show k % 4 = k by omega, ← y1 k a (by omega), f5 _ _ (by omega) (by omega), f4 _ _ (by omega) (by omega), f3 _ _ (by omega) (by omega), f2 _ _ (by omega) (by omega)]
  · rw [f5 b z q (by omega), f4 b z q (by omega), f3 b z q (by omega), f2 b z q (by omega), f1 b z q (by omega)]
theorem byv_e' (x : Int32) (s : Int) : (x >>> (ii s &&& ii 31)) &&& ii 255 = ii (byv x s) := byv_e x s
theorem m_apl (x1 x2 x3 x4 x5 : Int32) (L : Int) (hL : 0 ≤ L ∧ L ≤ 480) (h18 : M 0 18 = L) : ∃ M', fX7_append_23 FU 0 x1 x2 x3 x4 x5 (ii 0) (NW K (mg M g)) = some (Sum.inl (some (Value.int (ii (L + 20)))), NW K (mg M' g)) ∧ M' 0 18 = L + 20 ∧ (∀ k, 0 ≤ k → k < 20 → M' 7 (L + k) = by5 x1 x2 x3 x4 x5 k) ∧ ∀ (b : Nat) (z : Int), ¬ (b = 0 ∧ z = 18) → ¬ (b = 7 ∧ L ≤ z) → M' b z = M b z := by
  refine lp (fun m i (N : AI) => fX7_append_23 m 0 x1 x2 x3 x4 x5 (ii i) (NW K (mg N g))) (fun X => ∃ M', X = some (Sum.inl (some (Value.int (ii (L + 20)))), NW K (mg M' g)) ∧ M' 0 18 = L + 20 ∧ (∀ k, 0 ≤ k → k < 20 → M' 7 (L + k) = by5 x1 x2 x3 x4 x5 k) ∧ ∀ (b : Nat) (z : Int), ¬ (b = 0 ∧ z = 18) → ¬ (b = 7 ∧ L ≤ z) → M' b z = M b z)
    (fun i N => 0 ≤ i ∧ (∀ k, 0 ≤ k → k < i → N 7 (L + k) = by5 x1 x2 x3 x4 x5 k) ∧ ∀ (b : Nat) (z : Int), ¬ (b = 7 ∧ L ≤ z) → N b z = M b z) 20 ?_ ?_ FU 0 M (by omega) ⟨by omega, fun k a b => by omega, fun _ _ _ => rfl⟩ (by have := FU_e; omega)
  · rintro m i N hi ⟨hI, t1, t2⟩
    have x18 : N 0 18 = L := by rw [t2 0 18 (by omega)]; exact h18
    refine Or.inr ⟨up N 7 (L + i) (by5 x1 x2 x3 x4 x5 i), ⟨by omega, fun k a b => ?_, fun b z q => ?_⟩, ?_⟩
    · by_cases q : k = i
      · rw [q, up_s]
      · rw [up_n _ _ _ _ _ _ (by omega)]; exact t1 k a (by omega)
    · rw [up_n _ _ _ _ _ _ (by omega)]; exact t2 b z q
    · have key : ∀ (F : Nat → Int32 → Int32 → Int32 → Int32 → Int32 → Int32 → AS → Option AR) (xj : Int32), wd5 x1 x2 x3 x4 x5 i = xj → fX7_append_76 F 0 x1 x2 x3 x4 x5 (ii i) xj (NW K (mg N g)) = F 0 x1 x2 x3 x4 x5 (ii (i + 1)) (NW K (mg (up N 7 (L + i) (by5 x1 x2 x3 x4 x5 i)) g)) := fun F xj hj => by
        have e5 : byv xj (24 - 8 * (i % 4)) = by5 x1 x2 x3 x4 x5 i := by unfold by5; rw [hj]
        have hd : ii i - ii i / ii 4 * ii 4 = ii (i % 4) := by rw [ii_div _ _ (by omega), ii_mul, ii_sub, md_4]
        rw [fX7_append_76, il1, il4, il8, il24, il31, il255, nR7, nI18, mg_0, x18, if_neg (by decide), ii_add, hd, ii_mul, ii_sub, byv_e', e5, nU7 _ _ _ _ (by omega), mg_upk _ _ _ _ _ (by decide), ii_add, lt_q]
      show fX7_append_23 (m + 1) 0 x1 x2 x3 x4 x5 (ii i) (NW K (mg N g)) = fX7_append_23 m 0 x1 x2 x3 x4 x5 (ii (i + 1)) (NW K (mg (up N 7 (L + i) (by5 x1 x2 x3 x4 x5 i)) g))
      rw [fX7_append_23, show (20 : Int32) = ii 20 from rfl, il4, il8, il12, il16, if_neg (by rw [ii_le _ _ (by omega)]; omega)]
      by_cases q4 : 4 ≤ i
      · rw [if_pos (by rw [ii_le _ _ (by omega)]; exact q4)]
        by_cases q8 : 8 ≤ i
        · rw [if_pos (by rw [ii_le _ _ (by omega)]; exact q8)]
          by_cases q12 : 12 ≤ i
          · rw [if_pos (by rw [ii_le _ _ (by omega)]; exact q12)]
            by_cases q16 : 16 ≤ i
            · rw [if_pos (by rw [ii_le _ _ (by omega)]; exact q16)]
              exact key _ _ (by unfold wd5; rw [if_pos q4, if_pos q8, if_pos q12, if_pos q16])
            · rw [if_neg (by rw [ii_le _ _ (by omega)]; exact q16)]
              exact key _ _ (by unfold wd5; rw [if_pos q4, if_pos q8, if_pos q12, if_neg q16])
          · rw [if_neg (by rw [ii_le _ _ (by omega)]; exact q12)]
            exact key _ _ (by unfold wd5; rw [if_pos q4, if_pos q8, if_neg q12])
        · rw [if_neg (by rw [ii_le _ _ (by omega)]; exact q8)]
          exact key _ _ (by unfold wd5; rw [if_pos q4, if_neg q8])
      · rw [if_neg (by rw [ii_le _ _ (by omega)]; exact q4)]
        exact key _ _ (by unfold wd5; rw [if_neg q4])
  · rintro m N ⟨hI, t1, t2⟩
    have x18 : N 0 18 = L := by rw [t2 0 18 (by omega)]; exact h18
    refine ⟨up N 0 18 (L + 20), ?_, up_s _ _ _ _, fun k a b => by rw [up_n _ _ _ _ _ _ (by omega)]; exact t1 k a b, fun b z q r => by rw [up_n _ _ _ _ _ _ q]; exact t2 b z r⟩
    show fX7_append_23 (m + 1) 0 x1 x2 x3 x4 x5 (ii 20) (NW K (mg N g)) = _
    rw [fX7_append_23, show (20 : Int32) = ii 20 from rfl, if_pos (by rw [ii_le _ _ (by omega)]; omega), fX7_append_113, show (20 : Int32) = ii 20 from rfl, nI18, mg_0, x18, ii_add, nS18, mg_upk _ _ _ _ _ (by decide), nI18, mg_0, up_s]
end AP2
