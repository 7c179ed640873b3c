/-! CALLS THAT READ, III -/
theorem ord_tot {met len o : Int → Int} {n : Int} (h : ordOK met len n o) (j k : Int) (hj : 0 ≤ j ∧ j < n) (hk : 0 ≤ k ∧ k < n) (e : j ≠ k) : ahd met len j k ∨ ahd met len k j := by
  obtain ⟨p, hp, rfl⟩ := ord_surj h j hj
  obtain ⟨q, hq, rfl⟩ := ord_surj h k hk
  by_cases y : p < q
  · exact Or.inl (h.2.1 p q hp.1 y hq.2)
  · by_cases z : p = q
    · rw [z] at e; exact absurd rfl e
    · exact Or.inr (h.2.1 q p hq.1 (by omega) hp.2)
theorem best_first {met len o : Int → Int} {n v b : Int} (P : Int → Prop) (h : ordOK met len n o) (hv : (v = -1 ∧ ∀ p, 0 ≤ p → p < n → ¬ P (o p)) ∨ ∃ p, (0 ≤ p ∧ p < n) ∧ v = o p ∧ P (o p) ∧ ∀ q, 0 ≤ q → q < p → ¬ P (o q))
    (hb : (b = -1 ∧ ∀ k, 0 ≤ k → k < n → ¬ P k) ∨ ((0 ≤ b ∧ b < n) ∧ P b ∧ ∀ k, 0 ≤ k → k < n → P k → k = b ∨ ahd met len b k)) : v = b := by
  rcases hv with ⟨v1, v2⟩ | ⟨p, p1, p2, p3, p4⟩
  · rcases hb with ⟨b1, b2⟩ | ⟨b1, b2, b3⟩
    · omega
    · obtain ⟨q, hq, rfl⟩ := ord_surj h b b1
      exact absurd b2 (v2 q hq.1 hq.2)
  · rcases hb with ⟨b1, b2⟩ | ⟨b1, b2, b3⟩
    · have := h.1 p p1.1 p1.2
      exact absurd p3 (b2 _ this.1 this.2)
    · obtain ⟨q, hq, rfl⟩ := ord_surj h b b1
      have hop := h.1 p p1.1 p1.2
      rw [p2]
      rcases b3 (o p) hop.1 hop.2 p3 with z | z
      · exact z
      · by_cases y : q < p
        · exact absurd b2 (p4 q hq.1 y)
        · by_cases w : q = p
          · rw [w]
          · have h1 := h.2.1 p q p1.1 (by omega) hq.2
            omega
section OPS3
variable {C0 N0 n : Nat} {K : Nat × Nat} {c : CC} {A : AI} {J : JI} {M : AI} {g : Int → Int} {pl sp tv cap : Nat}
theorem c_takesPiece (hk : isLock c pl sp tv cap) (hNow : isState c 303) (hPl : isPlan c pl) (r k : Int) (hr : 0 ≤ r ∧ r < 8) (hkk : 0 ≤ k ∧ k < 10) (hM : SA M) (hS : SR A J 303 (M 2) g (g 5)) (hg : GR g) (p0 : A pl 0 = M 0 2) (p2 : A pl 2 = M 0 4) (hl : A (pl + 2) k = M 2 k) (hL : 0 ≤ g (6 + k) ∧ g (6 + k) ≤ 5000) :
    fX6_takesPiece 0 (rc 303 r) (ii k) (CW c A J) = some (Sum.inl (some (Value.int (ii (if 0 < g (6 + k) ∧ M 2 k ≤ gapM M g r then 1 else 0)))), CW c A J) := by
  have hR := hNow.row r hr
  have hgp := c_gapIn (c := c) hR hPl (hS.2 r hr.1 hr.2) (hg r hr.1 hr.2) p0 p2
  have hgb := gapM_b hM (hg r hr.1 hr.2)
  have e6 := hS.1.2 k hkk.1 hkk.2
  have hb := hM.2.2.1 k hkk.1 hkk.2
  by_cases y : 0 < g (6 + k)
  · by_cases z : M 2 k ≤ gapM M g r
    · simp (disch := first | assumption | omega) only [fX6_takesPiece, lkV hk, lkR0 hk, lkR1 hk, lkR2 hk, lkR3 hk, lkR4 hk, lkR5 hk, lkR6 hk, lkR7 hk, lkR8 hk, lkR9 hk, lkI hk, k_E, t_E, rwI1, rwS1, rwI2, rwS2, rwI4, rwS4, rwI5, rwS5, rwI7, rwS7, rwI8, rwS8, rwI9, rwS9, rwR0, rwR3, rwR6, rwA1, rwU1, rwA3, rwU3, rwV, rwJ, rwUJ, plI0, plS0, plI1, plS1, plI2, plS2, plI3, plS3, plI4, plS4, plI5, plS5, plI6, plS6, plI7, plS7, plR8, plR9, plR10, plA1, plU1, plA2, plU2, plA3, plU3, plV, stI2, stS2, stI3, stS3, stI4, stS4, stI5, stS5, stI6, stS6, stI7, stS7, stR0, stR1, stA2, stU2, stV, stRow, svI5, svS5, svI6, svS6, svI7, svS7, svR0, svR1, svR2, svR3, svR4, svA13, svU13, svA14, svU14, svA15, svU15, svA16, svU16, svV, svRow, svF, svUF, hiI1, hiS1, hiI2, hiS2, hiR0, hiV, hiRow, rdI2, rdS2, rdI3, rdS3, rdI4, rdS4, rdI5, rdS5, rdI6, rdS6, rdI7, rdS7, rdI8, rdS8, rdR0, rdR1, rdA1, rdU1, rdA2, rdU2, rdV, k_C, ↓reduceIte, tr_lt, fa_lt, tr_le, fa_le, tr_eq, fa_eq, and_true, true_and, and_false, false_and, il0, il1, il2, il3, il4, il5, il6, il7, il8, il9, il10, il11, il12, il15, il16, il20, il24, il31, il32, il44, il45, il48, il50, il57, il58, il59, il63, il91, il93, il97, il99, il100, il109, il113, il119, il120, il122, il200, il255, il480, il500, il501, il512, il999, il4112, il41120, il1000000, il1000003, ii_add, ii_sub, ii_mul, ii_neg, ii_le, ii_lt, ii_eq, ii_div, q_I, q_V, q_R, lt_q, rZ_q, md_M, md_16, md_4, md_8, md_10, if_true, if_false, if_pos, if_neg, e6, hl, hgp]
    · simp (disch := first | assumption | omega) only [fX6_takesPiece, lkV hk, lkR0 hk, lkR1 hk, lkR2 hk, lkR3 hk, lkR4 hk, lkR5 hk, lkR6 hk, lkR7 hk, lkR8 hk, lkR9 hk, lkI hk, k_E, t_E, rwI1, rwS1, rwI2, rwS2, rwI4, rwS4, rwI5, rwS5, rwI7, rwS7, rwI8, rwS8, rwI9, rwS9, rwR0, rwR3, rwR6, rwA1, rwU1, rwA3, rwU3, rwV, rwJ, rwUJ, plI0, plS0, plI1, plS1, plI2, plS2, plI3, plS3, plI4, plS4, plI5, plS5, plI6, plS6, plI7, plS7, plR8, plR9, plR10, plA1, plU1, plA2, plU2, plA3, plU3, plV, stI2, stS2, stI3, stS3, stI4, stS4, stI5, stS5, stI6, stS6, stI7, stS7, stR0, stR1, stA2, stU2, stV, stRow, svI5, svS5, svI6, svS6, svI7, svS7, svR0, svR1, svR2, svR3, svR4, svA13, svU13, svA14, svU14, svA15, svU15, svA16, svU16, svV, svRow, svF, svUF, hiI1, hiS1, hiI2, hiS2, hiR0, hiV, hiRow, rdI2, rdS2, rdI3, rdS3, rdI4, rdS4, rdI5, rdS5, rdI6, rdS6, rdI7, rdS7, rdI8, rdS8, rdR0, rdR1, rdA1, rdU1, rdA2, rdU2, rdV, k_C, ↓reduceIte, tr_lt, fa_lt, tr_le, fa_le, tr_eq, fa_eq, and_true, true_and, and_false, false_and, il0, il1, il2, il3, il4, il5, il6, il7, il8, il9, il10, il11, il12, il15, il16, il20, il24, il31, il32, il44, il45, il48, il50, il57, il58, il59, il63, il91, il93, il97, il99, il100, il109, il113, il119, il120, il122, il200, il255, il480, il500, il501, il512, il999, il4112, il41120, il1000000, il1000003, ii_add, ii_sub, ii_mul, ii_neg, ii_le, ii_lt, ii_eq, ii_div, q_I, q_V, q_R, lt_q, rZ_q, md_M, md_16, md_4, md_8, md_10, if_true, if_false, if_pos, if_neg, e6, hl, hgp]
  · simp (disch := first | assumption | omega) only [fX6_takesPiece, lkV hk, lkR0 hk, lkR1 hk, lkR2 hk, lkR3 hk, lkR4 hk, lkR5 hk, lkR6 hk, lkR7 hk, lkR8 hk, lkR9 hk, lkI hk, k_E, t_E, rwI1, rwS1, rwI2, rwS2, rwI4, rwS4, rwI5, rwS5, rwI7, rwS7, rwI8, rwS8, rwI9, rwS9, rwR0, rwR3, rwR6, rwA1, rwU1, rwA3, rwU3, rwV, rwJ, rwUJ, plI0, plS0, plI1, plS1, plI2, plS2, plI3, plS3, plI4, plS4, plI5, plS5, plI6, plS6, plI7, plS7, plR8, plR9, plR10, plA1, plU1, plA2, plU2, plA3, plU3, plV, stI2, stS2, stI3, stS3, stI4, stS4, stI5, stS5, stI6, stS6, stI7, stS7, stR0, stR1, stA2, stU2, stV, stRow, svI5, svS5, svI6, svS6, svI7, svS7, svR0, svR1, svR2, svR3, svR4, svA13, svU13, svA14, svU14, svA15, svU15, svA16, svU16, svV, svRow, svF, svUF, hiI1, hiS1, hiI2, hiS2, hiR0, hiV, hiRow, rdI2, rdS2, rdI3, rdS3, rdI4, rdS4, rdI5, rdS5, rdI6, rdS6, rdI7, rdS7, rdI8, rdS8, rdR0, rdR1, rdA1, rdU1, rdA2, rdU2, rdV, k_C, ↓reduceIte, tr_lt, fa_lt, tr_le, fa_le, tr_eq, fa_eq, and_true, true_and, and_false, false_and, il0, il1, il2, il3, il4, il5, il6, il7, il8, il9, il10, il11, il12, il15, il16, il20, il24, il31, il32, il44, il45, il48, il50, il57, il58, il59, il63, il91, il93, il97, il99, il100, il109, il113, il119, il120, il122, il200, il255, il480, il500, il501, il512, il999, il4112, il41120, il1000000, il1000003, ii_add, ii_sub, ii_mul, ii_neg, ii_le, ii_lt, ii_eq, ii_div, q_I, q_V, q_R, lt_q, rZ_q, md_M, md_16, md_4, md_8, md_10, if_true, if_false, if_pos, if_neg, e6, hl, hgp]
def wgN (f : Int → Int) : Nat → Int
  | 0 => 0
  | i + 1 => if f (wgN f i) < f (i + 1) then (i : Int) + 1 else wgN f i
theorem wgN_b (f : Int → Int) : ∀ i : Nat, 0 ≤ wgN f i ∧ wgN f i ≤ i
  | 0 => by show (0 : Int) ≤ 0 ∧ (0 : Int) ≤ ((0 : Nat) : Int); omega
  | i + 1 => by
    have := wgN_b f i
    unfold wgN
    split <;> omega
end OPS3
