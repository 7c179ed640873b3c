/-! THE READER: a kind comes in -/
theorem ord_cg {met len met' len' o : Int → Int} {n : Int} (h : ordOK met len n o) (e : ∀ k, 0 ≤ k → k < n → met' k = met k ∧ len' k = len k) : ordOK met' len' n o := by
  refine ⟨h.1, fun p q a b d => ?_, h.2.2⟩
  have h1 := h.1 p a (by omega)
  have h2 := h.1 q (by omega) d
  have e1 := e _ h1.1 h1.2
  have e2 := e _ h2.1 h2.2
  show len' (o q) < len' (o p) ∨ (len' (o p) = len' (o q) ∧ met' (o p) ≠ 0 ∧ met' (o q) = 0)
  rw [e1.1, e1.2, e2.1, e2.2]
  exact h.2.1 p q a b d
theorem ord_ins {met len o o' : Int → Int} {n p : Int} (h : ordOK met len n o) (hn : 0 ≤ n) (hp : 0 ≤ p ∧ p ≤ n) (h1 : ∀ z, 0 ≤ z → z < p → o' z = o z) (h2 : o' p = n) (h3 : ∀ z, p < z → z ≤ n → o' z = o (z - 1)) (ha : ∀ q, p ≤ q → q < n → ahd met len n (o q)) (hb : p = 0 ∨ ¬ ahd met len n (o (p - 1))) (hm : ∀ k, 0 ≤ k → k ≤ n → 0 ≤ met k ∧ met k ≤ 1) (hd : ∀ k, 0 ≤ k → k < n → ¬ (met k = met n ∧ len k = len n)) : ordOK met len (n + 1) o' := by
  refine ⟨fun z a b => ?_, fun q1 q2 a b d => ?_, fun f => ?_⟩
  · by_cases y : z < p
    · rw [h1 z a y]
      have := h.1 z a (by omega)
      omega
    · by_cases y2 : z = p
      · rw [y2, h2]; omega
      · rw [h3 z (by omega) (by omega)]
        have := h.1 (z - 1) (by omega) (by omega)
        omega
  · by_cases y : q2 < p
    · rw [h1 q1 a (by omega), h1 q2 (by omega) y]
      exact h.2.1 q1 q2 a b (by omega)
    · by_cases y2 : q2 = p
      · rw [y2, h2, h1 q1 a (by omega)]
        have hb' := hb.resolve_left (by omega)
        have r1 := h.1 (p - 1) (by omega) (by omega)
        have m1 := hm _ r1.1 (by omega)
        have m2 := hm n hn (by omega)
        have d1 := hd _ r1.1 r1.2
        have key : ahd met len (o (p - 1)) n := by
          have hb2 : ¬ (len (o (p - 1)) < len n ∨ (len n = len (o (p - 1)) ∧ met n ≠ 0 ∧ met (o (p - 1)) = 0)) := hb'
          show len n < len (o (p - 1)) ∨ (len (o (p - 1)) = len n ∧ met (o (p - 1)) ≠ 0 ∧ met n = 0)
          omega
        by_cases y3 : q1 = p - 1
        · rw [y3]; exact key
        · have k2 : len (o (p - 1)) < len (o q1) ∨ (len (o q1) = len (o (p - 1)) ∧ met (o q1) ≠ 0 ∧ met (o (p - 1)) = 0) := h.2.1 q1 (p - 1) a (by omega) (by omega)
          have key' : len n < len (o (p - 1)) ∨ (len (o (p - 1)) = len n ∧ met (o (p - 1)) ≠ 0 ∧ met n = 0) := key
          show len n < len (o q1) ∨ (len (o q1) = len n ∧ met (o q1) ≠ 0 ∧ met n = 0)
          omega
      · rw [h3 q2 (by omega) (by omega)]
        by_cases y3 : q1 < p
        · rw [h1 q1 a y3]
          exact h.2.1 q1 (q2 - 1) a (by omega) (by omega)
        · by_cases y4 : q1 = p
          · rw [y4, h2]
            exact ha (q2 - 1) (by omega) (by omega)
          · rw [h3 q1 (by omega) (by omega)]
            exact h.2.1 (q1 - 1) (q2 - 1) (by omega) (by omega) (by omega)
  · have e := sm_del (fun z => f (o' z)) (fun z => f (o z)) p n.toNat hp.1 (by omega) (fun k a b => by rw [h1 k a b]) (fun k a b => by rw [h3 (k + 1) (by omega) (by omega), show k + 1 - 1 = k by omega])
    rw [show ((n.toNat : Nat) : Int) = n by omega] at e
    rw [← e, sm_s f n hn, ← h.2.2 f, h2]
theorem b199 (a b : Int) (h : (0 ≤ a ∧ a ≤ 99) ∧ 0 ≤ b ∧ b ≤ 99) : (-2147483648 ≤ a ∧ a < 2147483648) ∧ (-2147483648 ≤ b ∧ b < 2147483648) := by omega
section KNC
variable {c : CC} {A : AI} {J : JI} {Q : Nat} {n : Int}
theorem c_ahead (hPl : isPlan c Q) (a b : Int) (ha : 0 ≤ a ∧ a < 10) (hb : 0 ≤ b ∧ b < 10) (ma : 0 ≤ A (Q + 1) a ∧ A (Q + 1) a ≤ 1) (mb : 0 ≤ A (Q + 1) b ∧ A (Q + 1) b ≤ 1) (la : 0 ≤ A (Q + 2) a ∧ A (Q + 2) a ≤ 99) (lb : 0 ≤ A (Q + 2) b ∧ A (Q + 2) b ≤ 99) : fX1_isAhead Q (ii a) (ii b) (CW c A J) = some (Sum.inl (some (Value.int (ii (if ahd (A (Q + 1)) (A (Q + 2)) a b then 1 else 0)))), CW c A J) := by
  by_cases q1 : A (Q + 2) b < A (Q + 2) a
  · rw [if_pos (Or.inl q1)]
    simp (disch := first | assumption | omega) only [fX1_isAhead, rwI1, rwS1, rwI2, rwS2, rwI4, rwS4, rwI5, rwS5, rwI7, rwS7, rwI8, rwS8, rwI9, rwS9, rwR0, rwR3, rwR6, rwA1, rwU1, rwA3, rwU3, rwV, rwJ, rwUJ, plI0, plS0, plI1, plS1, plI2, plS2, plI3, plS3, plI4, plS4, plI5, plS5, plI6, plS6, plI7, plS7, plR8, plR9, plR10, plA1, plU1, plA2, plU2, plA3, plU3, plV, stI2, stS2, stI3, stS3, stI4, stS4, stI5, stS5, stI6, stS6, stI7, stS7, stR0, stR1, stA2, stU2, stV, stRow, svI5, svS5, svI6, svS6, svI7, svS7, svR0, svR1, svR2, svR3, svR4, svA13, svU13, svA14, svU14, svA15, svU15, svA16, svU16, svV, svRow, svF, svUF, hiI1, hiS1, hiI2, hiS2, hiR0, hiV, hiRow, rdI2, rdS2, rdI3, rdS3, rdI4, rdS4, rdI5, rdS5, rdI6, rdS6, rdI7, rdS7, rdI8, rdS8, rdR0, rdR1, rdA1, rdU1, rdA2, rdU2, rdV, k_C, ↓reduceIte, tr_lt, fa_lt, tr_le, fa_le, tr_eq, fa_eq, and_true, true_and, and_false, false_and, il0, il1, il2, il3, il4, il5, il6, il7, il8, il9, il10, il11, il12, il15, il16, il20, il24, il31, il32, il44, il45, il48, il50, il57, il58, il59, il63, il91, il93, il97, il99, il100, il109, il113, il119, il120, il122, il200, il255, il480, il500, il501, il512, il999, il4112, il41120, il1000000, il1000003, ii_add, ii_sub, ii_mul, ii_neg, ii_le, ii_lt, ii_eq, ii_div, q_I, q_V, q_R, lt_q, rZ_q, md_M, md_16, md_4, md_8, md_10, if_true, if_false, if_pos, if_neg]
  · by_cases q2 : A (Q + 2) a = A (Q + 2) b
    · by_cases q3 : A (Q + 1) a = 0
      · rw [if_neg (by omega)]
        simp (disch := first | assumption | omega) only [fX1_isAhead, rwI1, rwS1, rwI2, rwS2, rwI4, rwS4, rwI5, rwS5, rwI7, rwS7, rwI8, rwS8, rwI9, rwS9, rwR0, rwR3, rwR6, rwA1, rwU1, rwA3, rwU3, rwV, rwJ, rwUJ, plI0, plS0, plI1, plS1, plI2, plS2, plI3, plS3, plI4, plS4, plI5, plS5, plI6, plS6, plI7, plS7, plR8, plR9, plR10, plA1, plU1, plA2, plU2, plA3, plU3, plV, stI2, stS2, stI3, stS3, stI4, stS4, stI5, stS5, stI6, stS6, stI7, stS7, stR0, stR1, stA2, stU2, stV, stRow, svI5, svS5, svI6, svS6, svI7, svS7, svR0, svR1, svR2, svR3, svR4, svA13, svU13, svA14, svU14, svA15, svU15, svA16, svU16, svV, svRow, svF, svUF, hiI1, hiS1, hiI2, hiS2, hiR0, hiV, hiRow, rdI2, rdS2, rdI3, rdS3, rdI4, rdS4, rdI5, rdS5, rdI6, rdS6, rdI7, rdS7, rdI8, rdS8, rdR0, rdR1, rdA1, rdU1, rdA2, rdU2, rdV, k_C, ↓reduceIte, tr_lt, fa_lt, tr_le, fa_le, tr_eq, fa_eq, and_true, true_and, and_false, false_and, il0, il1, il2, il3, il4, il5, il6, il7, il8, il9, il10, il11, il12, il15, il16, il20, il24, il31, il32, il44, il45, il48, il50, il57, il58, il59, il63, il91, il93, il97, il99, il100, il109, il113, il119, il120, il122, il200, il255, il480, il500, il501, il512, il999, il4112, il41120, il1000000, il1000003, ii_add, ii_sub, ii_mul, ii_neg, ii_le, ii_lt, ii_eq, ii_div, q_I, q_V, q_R, lt_q, rZ_q, md_M, md_16, md_4, md_8, md_10, if_true, if_false, if_pos, if_neg]
      · by_cases q4 : A (Q + 1) b = 0
        · rw [if_pos (by omega)]
          simp (disch := first | assumption | omega) only [fX1_isAhead, rwI1, rwS1, rwI2, rwS2, rwI4, rwS4, rwI5, rwS5, rwI7, rwS7, rwI8, rwS8, rwI9, rwS9, rwR0, rwR3, rwR6, rwA1, rwU1, rwA3, rwU3, rwV, rwJ, rwUJ, plI0, plS0, plI1, plS1, plI2, plS2, plI3, plS3, plI4, plS4, plI5, plS5, plI6, plS6, plI7, plS7, plR8, plR9, plR10, plA1, plU1, plA2, plU2, plA3, plU3, plV, stI2, stS2, stI3, stS3, stI4, stS4, stI5, stS5, stI6, stS6, stI7, stS7, stR0, stR1, stA2, stU2, stV, stRow, svI5, svS5, svI6, svS6, svI7, svS7, svR0, svR1, svR2, svR3, svR4, svA13, svU13, svA14, svU14, svA15, svU15, svA16, svU16, svV, svRow, svF, svUF, hiI1, hiS1, hiI2, hiS2, hiR0, hiV, hiRow, rdI2, rdS2, rdI3, rdS3, rdI4, rdS4, rdI5, rdS5, rdI6, rdS6, rdI7, rdS7, rdI8, rdS8, rdR0, rdR1, rdA1, rdU1, rdA2, rdU2, rdV, k_C, ↓reduceIte, tr_lt, fa_lt, tr_le, fa_le, tr_eq, fa_eq, and_true, true_and, and_false, false_and, il0, il1, il2, il3, il4, il5, il6, il7, il8, il9, il10, il11, il12, il15, il16, il20, il24, il31, il32, il44, il45, il48, il50, il57, il58, il59, il63, il91, il93, il97, il99, il100, il109, il113, il119, il120, il122, il200, il255, il480, il500, il501, il512, il999, il4112, il41120, il1000000, il1000003, ii_add, ii_sub, ii_mul, ii_neg, ii_le, ii_lt, ii_eq, ii_div, q_I, q_V, q_R, lt_q, rZ_q, md_M, md_16, md_4, md_8, md_10, if_true, if_false, if_pos, if_neg]
        · rw [if_neg (by omega)]
          simp (disch := first | assumption | omega) only [fX1_isAhead, rwI1, rwS1, rwI2, rwS2, rwI4, rwS4, rwI5, rwS5, rwI7, rwS7, rwI8, rwS8, rwI9, rwS9, rwR0, rwR3, rwR6, rwA1, rwU1, rwA3, rwU3, rwV, rwJ, rwUJ, plI0, plS0, plI1, plS1, plI2, plS2, plI3, plS3, plI4, plS4, plI5, plS5, plI6, plS6, plI7, plS7, plR8, plR9, plR10, plA1, plU1, plA2, plU2, plA3, plU3, plV, stI2, stS2, stI3, stS3, stI4, stS4, stI5, stS5, stI6, stS6, stI7, stS7, stR0, stR1, stA2, stU2, stV, stRow, svI5, svS5, svI6, svS6, svI7, svS7, svR0, svR1, svR2, svR3, svR4, svA13, svU13, svA14, svU14, svA15, svU15, svA16, svU16, svV, svRow, svF, svUF, hiI1, hiS1, hiI2, hiS2, hiR0, hiV, hiRow, rdI2, rdS2, rdI3, rdS3, rdI4, rdS4, rdI5, rdS5, rdI6, rdS6, rdI7, rdS7, rdI8, rdS8, rdR0, rdR1, rdA1, rdU1, rdA2, rdU2, rdV, k_C, ↓reduceIte, tr_lt, fa_lt, tr_le, fa_le, tr_eq, fa_eq, and_true, true_and, and_false, false_and, il0, il1, il2, il3, il4, il5, il6, il7, il8, il9, il10, il11, il12, il15, il16, il20, il24, il31, il32, il44, il45, il48, il50, il57, il58, il59, il63, il91, il93, il97, il99, il100, il109, il113, il119, il120, il122, il200, il255, il480, il500, il501, il512, il999, il4112, il41120, il1000000, il1000003, ii_add, ii_sub, ii_mul, ii_neg, ii_le, ii_lt, ii_eq, ii_div, q_I, q_V, q_R, lt_q, rZ_q, md_M, md_16, md_4, md_8, md_10, if_true, if_false, if_pos, if_neg]
    · rw [if_neg (by omega)]
      simp (disch := first | assumption | omega) only [fX1_isAhead, rwI1, rwS1, rwI2, rwS2, rwI4, rwS4, rwI5, rwS5, rwI7, rwS7, rwI8, rwS8, rwI9, rwS9, rwR0, rwR3, rwR6, rwA1, rwU1, rwA3, rwU3, rwV, rwJ, rwUJ, plI0, plS0, plI1, plS1, plI2, plS2, plI3, plS3, plI4, plS4, plI5, plS5, plI6, plS6, plI7, plS7, plR8, plR9, plR10, plA1, plU1, plA2, plU2, plA3, plU3, plV, stI2, stS2, stI3, stS3, stI4, stS4, stI5, stS5, stI6, stS6, stI7, stS7, stR0, stR1, stA2, stU2, stV, stRow, svI5, svS5, svI6, svS6, svI7, svS7, svR0, svR1, svR2, svR3, svR4, svA13, svU13, svA14, svU14, svA15, svU15, svA16, svU16, svV, svRow, svF, svUF, hiI1, hiS1, hiI2, hiS2, hiR0, hiV, hiRow, rdI2, rdS2, rdI3, rdS3, rdI4, rdS4, rdI5, rdS5, rdI6, rdS6, rdI7, rdS7, rdI8, rdS8, rdR0, rdR1, rdA1, rdU1, rdA2, rdU2, rdV, k_C, ↓reduceIte, tr_lt, fa_lt, tr_le, fa_le, tr_eq, fa_eq, and_true, true_and, and_false, false_and, il0, il1, il2, il3, il4, il5, il6, il7, il8, il9, il10, il11, il12, il15, il16, il20, il24, il31, il32, il44, il45, il48, il50, il57, il58, il59, il63, il91, il93, il97, il99, il100, il109, il113, il119, il120, il122, il200, il255, il480, il500, il501, il512, il999, il4112, il41120, il1000000, il1000003, ii_add, ii_sub, ii_mul, ii_neg, ii_le, ii_lt, ii_eq, ii_div, q_I, q_V, q_R, lt_q, rZ_q, md_M, md_16, md_4, md_8, md_10, if_true, if_false, if_pos, if_neg]
theorem c_addLoop (hPl : isPlan c Q) (hn : 0 ≤ n ∧ n < 10) (h7 : A Q 7 = n) (hm : ∀ k, 0 ≤ k → k ≤ n → (0 ≤ A (Q + 1) k ∧ A (Q + 1) k ≤ 1) ∧ 0 ≤ A (Q + 2) k ∧ A (Q + 2) k ≤ 99) (hd : ∀ k, 0 ≤ k → k < n → ¬ (A (Q + 1) k = A (Q + 1) n ∧ A (Q + 2) k = A (Q + 2) n)) (ho : ordOK (A (Q + 1)) (A (Q + 2)) n (A (Q + 3))) :
    ∃ A', fX1_addKind_35 FU Q (ii n) (CW c A J) = some (Sum.inl none, CW c A' J) ∧ ordOK (A (Q + 1)) (A (Q + 2)) (n + 1) (A' (Q + 3)) ∧ A' Q 7 = n + 1 ∧ ∀ (b : Nat) (z : Int), ¬ (b = Q ∧ z = 7) → b ≠ Q + 3 → A' b z = A b z := by
  refine lpd (fun m p (T : AI) => fX1_addKind_35 m Q (ii p) (CW c T J)) (fun x => ∃ A', x = some (Sum.inl none, CW c A' J) ∧ ordOK (A (Q + 1)) (A (Q + 2)) (n + 1) (A' (Q + 3)) ∧ A' Q 7 = n + 1 ∧ ∀ (b : Nat) (z : Int), ¬ (b = Q ∧ z = 7) → b ≠ Q + 3 → A' b z = A b z)
    (fun p T => (0 ≤ p ∧ p ≤ n) ∧ (∀ z, 0 ≤ z → z < p → T (Q + 3) z = A (Q + 3) z) ∧ (∀ z, p < z → z ≤ n → T (Q + 3) z = A (Q + 3) (z - 1)) ∧ (∀ q, p ≤ q → q < n → ahd (A (Q + 1)) (A (Q + 2)) n (A (Q + 3) q)) ∧ ∀ (b : Nat) (z : Int), b ≠ Q + 3 → T b z = A b z) 0 ?_ ?_ FU n A hn.1 ⟨by omega, fun _ _ _ => rfl, fun z a b => by omega, fun q a b => by omega, fun _ _ _ => rfl⟩ (by have := FU_e; omega)
  · rintro m p T hp0 ⟨hp, t1, t2, t3, t4⟩
    have x7 : T Q 7 = n := by rw [t4 _ _ (by omega)]; exact h7
    have x3 : T (Q + 3) (p - 1) = A (Q + 3) (p - 1) := t1 _ (by omega) (by omega)
    have ho1 := ho.1 (p - 1) (by omega) (by omega)
    have hm1 := hm n hn.1 (by omega)
    have hm2 := hm _ ho1.1 (by omega)
    have e1 : T (Q + 1) = A (Q + 1) := funext fun z => t4 _ _ (by omega)
    have e2 : T (Q + 2) = A (Q + 2) := funext fun z => t4 _ _ (by omega)
    have hah := c_ahead (c := c) (A := T) (J := J) hPl n (A (Q + 3) (p - 1)) hn (by omega) (by rw [e1]; exact hm1.1) (by rw [e1]; exact hm2.1) (by rw [e2]; exact hm1.2) (by rw [e2]; exact hm2.2)
    rw [e1, e2] at hah
    by_cases q : ahd (A (Q + 1)) (A (Q + 2)) n (A (Q + 3) (p - 1))
    · rw [if_pos q] at hah
      refine Or.inr ⟨up T (Q + 3) p (A (Q + 3) (p - 1)), ⟨by omega, fun z a b => ?_, fun z a b => ?_, fun z a b => ?_, fun b z y => ?_⟩, ?_⟩
      · rw [up_n _ _ _ _ _ _ (by omega)]; exact t1 z a (by omega)
      · by_cases y : z = p
        · rw [y, up_s]
        · rw [up_n _ _ _ _ _ _ (by omega)]; exact t2 z (by omega) b
      · by_cases y : z = p - 1
        · rw [y]; exact q
        · exact t3 z (by omega) b
      · rw [up_n _ _ _ _ _ _ (by omega)]; exact t4 b z y
      · rw [show p - 1 = p + -1 by omega] at x3 hah ⊢
        simp (disch := first | assumption | omega) only [fX1_addKind_35, rwI1, rwS1, rwI2, rwS2, rwI4, rwS4, rwI5, rwS5, rwI7, rwS7, rwI8, rwS8, rwI9, rwS9, rwR0, rwR3, rwR6, rwA1, rwU1, rwA3, rwU3, rwV, rwJ, rwUJ, plI0, plS0, plI1, plS1, plI2, plS2, plI3, plS3, plI4, plS4, plI5, plS5, plI6, plS6, plI7, plS7, plR8, plR9, plR10, plA1, plU1, plA2, plU2, plA3, plU3, plV, stI2, stS2, stI3, stS3, stI4, stS4, stI5, stS5, stI6, stS6, stI7, stS7, stR0, stR1, stA2, stU2, stV, stRow, svI5, svS5, svI6, svS6, svI7, svS7, svR0, svR1, svR2, svR3, svR4, svA13, svU13, svA14, svU14, svA15, svU15, svA16, svU16, svV, svRow, svF, svUF, hiI1, hiS1, hiI2, hiS2, hiR0, hiV, hiRow, rdI2, rdS2, rdI3, rdS3, rdI4, rdS4, rdI5, rdS5, rdI6, rdS6, rdI7, rdS7, rdI8, rdS8, rdR0, rdR1, rdA1, rdU1, rdA2, rdU2, rdV, k_C, ↓reduceIte, tr_lt, fa_lt, tr_le, fa_le, tr_eq, fa_eq, and_true, true_and, and_false, false_and, il0, il1, il2, il3, il4, il5, il6, il7, il8, il9, il10, il11, il12, il15, il16, il20, il24, il31, il32, il44, il45, il48, il50, il57, il58, il59, il63, il91, il93, il97, il99, il100, il109, il113, il119, il120, il122, il200, il255, il480, il500, il501, il512, il999, il4112, il41120, il1000000, il1000003, ii_add, ii_sub, ii_mul, ii_neg, ii_le, ii_lt, ii_eq, ii_div, q_I, q_V, q_R, lt_q, rZ_q, md_M, md_16, md_4, md_8, md_10, if_true, if_false, if_pos, if_neg, x7, x3, hah, show p - 1 = p + -1 by omega]
    · rw [if_neg q] at hah
      refine Or.inl ⟨up (up T (Q + 3) p n) Q 7 (n + 1), ?_, ?_, up_s _ _ _ _, fun b z y1 y2 => ?_⟩
      · simp (disch := first | assumption | omega) only [fX1_addKind_35, fX1_addKind_78, rwI1, rwS1, rwI2, rwS2, rwI4, rwS4, rwI5, rwS5, rwI7, rwS7, rwI8, rwS8, rwI9, rwS9, rwR0, rwR3, rwR6, rwA1, rwU1, rwA3, rwU3, rwV, rwJ, rwUJ, plI0, plS0, plI1, plS1, plI2, plS2, plI3, plS3, plI4, plS4, plI5, plS5, plI6, plS6, plI7, plS7, plR8, plR9, plR10, plA1, plU1, plA2, plU2, plA3, plU3, plV, stI2, stS2, stI3, stS3, stI4, stS4, stI5, stS5, stI6, stS6, stI7, stS7, stR0, stR1, stA2, stU2, stV, stRow, svI5, svS5, svI6, svS6, svI7, svS7, svR0, svR1, svR2, svR3, svR4, svA13, svU13, svA14, svU14, svA15, svU15, svA16, svU16, svV, svRow, svF, svUF, hiI1, hiS1, hiI2, hiS2, hiR0, hiV, hiRow, rdI2, rdS2, rdI3, rdS3, rdI4, rdS4, rdI5, rdS5, rdI6, rdS6, rdI7, rdS7, rdI8, rdS8, rdR0, rdR1, rdA1, rdU1, rdA2, rdU2, rdV, k_C, ↓reduceIte, tr_lt, fa_lt, tr_le, fa_le, tr_eq, fa_eq, and_true, true_and, and_false, false_and, il0, il1, il2, il3, il4, il5, il6, il7, il8, il9, il10, il11, il12, il15, il16, il20, il24, il31, il32, il44, il45, il48, il50, il57, il58, il59, il63, il91, il93, il97, il99, il100, il109, il113, il119, il120, il122, il200, il255, il480, il500, il501, il512, il999, il4112, il41120, il1000000, il1000003, ii_add, ii_sub, ii_mul, ii_neg, ii_le, ii_lt, ii_eq, ii_div, q_I, q_V, q_R, lt_q, rZ_q, md_M, md_16, md_4, md_8, md_10, if_true, if_false, if_pos, if_neg, x7, x3, hah, up_n]
      · refine ord_ins ho hn.1 (p := p) hp (fun z a b => ?_) ?_ (fun z a b => ?_) t3 (Or.inr q) (fun k a b => (hm k a b).1) hd
        · rw [up_n _ _ _ _ _ _ (by omega), up_n _ _ _ _ _ _ (by omega)]; exact t1 z a b
        · rw [up_n _ _ _ _ _ _ (by omega), up_s]
        · rw [up_n _ _ _ _ _ _ (by omega), up_n _ _ _ _ _ _ (by omega)]; exact t2 z a b
      · rw [up_n _ _ _ _ _ _ (by omega), up_n _ _ _ _ _ _ (by omega)]; exact t4 b z y2
  · rintro m T ⟨hp, t1, t2, t3, t4⟩
    have x7 : T Q 7 = n := by rw [t4 _ _ (by omega)]; exact h7
    refine ⟨up (up T (Q + 3) 0 n) Q 7 (n + 1), ?_, ?_, up_s _ _ _ _, fun b z y1 y2 => ?_⟩
    · simp (disch := first | assumption | omega) only [fX1_addKind_35, fX1_addKind_78, rwI1, rwS1, rwI2, rwS2, rwI4, rwS4, rwI5, rwS5, rwI7, rwS7, rwI8, rwS8, rwI9, rwS9, rwR0, rwR3, rwR6, rwA1, rwU1, rwA3, rwU3, rwV, rwJ, rwUJ, plI0, plS0, plI1, plS1, plI2, plS2, plI3, plS3, plI4, plS4, plI5, plS5, plI6, plS6, plI7, plS7, plR8, plR9, plR10, plA1, plU1, plA2, plU2, plA3, plU3, plV, stI2, stS2, stI3, stS3, stI4, stS4, stI5, stS5, stI6, stS6, stI7, stS7, stR0, stR1, stA2, stU2, stV, stRow, svI5, svS5, svI6, svS6, svI7, svS7, svR0, svR1, svR2, svR3, svR4, svA13, svU13, svA14, svU14, svA15, svU15, svA16, svU16, svV, svRow, svF, svUF, hiI1, hiS1, hiI2, hiS2, hiR0, hiV, hiRow, rdI2, rdS2, rdI3, rdS3, rdI4, rdS4, rdI5, rdS5, rdI6, rdS6, rdI7, rdS7, rdI8, rdS8, rdR0, rdR1, rdA1, rdU1, rdA2, rdU2, rdV, k_C, ↓reduceIte, tr_lt, fa_lt, tr_le, fa_le, tr_eq, fa_eq, and_true, true_and, and_false, false_and, il0, il1, il2, il3, il4, il5, il6, il7, il8, il9, il10, il11, il12, il15, il16, il20, il24, il31, il32, il44, il45, il48, il50, il57, il58, il59, il63, il91, il93, il97, il99, il100, il109, il113, il119, il120, il122, il200, il255, il480, il500, il501, il512, il999, il4112, il41120, il1000000, il1000003, ii_add, ii_sub, ii_mul, ii_neg, ii_le, ii_lt, ii_eq, ii_div, q_I, q_V, q_R, lt_q, rZ_q, md_M, md_16, md_4, md_8, md_10, if_true, if_false, if_pos, if_neg, x7, up_n]
    · refine ord_ins ho hn.1 (p := 0) hp (fun z a b => by omega) ?_ (fun z a b => ?_) t3 (Or.inl rfl) (fun k a b => (hm k a b).1) hd
      · rw [up_n _ _ _ _ _ _ (by omega), up_s]
      · rw [up_n _ _ _ _ _ _ (by omega), up_n _ _ _ _ _ _ (by omega)]; exact t2 z a b
    · rw [up_n _ _ _ _ _ _ (by omega), up_n _ _ _ _ _ _ (by omega)]; exact t4 b z y2
theorem c_addKind (hPl : isPlan c Q) (hn : 0 ≤ n ∧ n < 10) (h7 : A Q 7 = n) (m L : Int) (hmL : (0 ≤ m ∧ m ≤ 1) ∧ 0 ≤ L ∧ L ≤ 99) (hm : ∀ k, 0 ≤ k → k < n → (0 ≤ A (Q + 1) k ∧ A (Q + 1) k ≤ 1) ∧ 0 ≤ A (Q + 2) k ∧ A (Q + 2) k ≤ 99) (hd : ∀ k, 0 ≤ k → k < n → ¬ (A (Q + 1) k = m ∧ A (Q + 2) k = L)) (ho : ordOK (A (Q + 1)) (A (Q + 2)) n (A (Q + 3))) :
    ∃ A', fX1_addKind Q (ii m) (ii L) (CW c A J) = some (Sum.inl none, CW c A' J) ∧ ordOK (A' (Q + 1)) (A' (Q + 2)) (n + 1) (A' (Q + 3)) ∧ A' Q 7 = n + 1 ∧ (A' (Q + 1) n = m ∧ A' (Q + 2) n = L) ∧ ∀ (b : Nat) (z : Int), ¬ (b = Q ∧ z = 7) → ¬ (b = Q + 1 ∧ z = n) → ¬ (b = Q + 2 ∧ z = n) → b ≠ Q + 3 → A' b z = A b z := by
  have u1 : ∀ z, z ≠ n → up (up A (Q + 1) n m) (Q + 2) n L (Q + 1) z = A (Q + 1) z := fun z q => by rw [up_n _ _ _ _ _ _ (by omega), up_n _ _ _ _ _ _ (by omega)]
  have u2 : ∀ z, z ≠ n → up (up A (Q + 1) n m) (Q + 2) n L (Q + 2) z = A (Q + 2) z := fun z q => by rw [up_n _ _ _ _ _ _ (by omega), up_n _ _ _ _ _ _ (by omega)]
  have u3 : up (up A (Q + 1) n m) (Q + 2) n L (Q + 3) = A (Q + 3) := funext fun z => by rw [up_n _ _ _ _ _ _ (by omega), up_n _ _ _ _ _ _ (by omega)]
  have v1 : up (up A (Q + 1) n m) (Q + 2) n L (Q + 1) n = m := by rw [up_n _ _ _ _ _ _ (by omega), up_s]
  have v2 : up (up A (Q + 1) n m) (Q + 2) n L (Q + 2) n = L := up_s _ _ _ _
  have v7 : up (up A (Q + 1) n m) (Q + 2) n L Q 7 = n := by rw [up_n _ _ _ _ _ _ (by omega), up_n _ _ _ _ _ _ (by omega)]; exact h7
  have w7 : up A (Q + 1) n m Q 7 = n := by rw [up_n _ _ _ _ _ _ (by omega)]; exact h7
  obtain ⟨A', e1, e2, e3, e4⟩ := c_addLoop (c := c) (A := up (up A (Q + 1) n m) (Q + 2) n L) (J := J) hPl hn v7 (fun k a b => by
      by_cases q : k = n
      · rw [q, v1, v2]; exact hmL
      · rw [u1 k q, u2 k q]; exact hm k a (by omega)) (fun k a b => by rw [v1, v2, u1 k (by omega), u2 k (by omega)]; exact hd k a b)
    (by rw [u3]; exact ord_cg ho (fun k a b => ⟨u1 k (by omega), u2 k (by omega)⟩))
  have f1 : A' (Q + 1) = up (up A (Q + 1) n m) (Q + 2) n L (Q + 1) := funext fun z => e4 _ _ (by omega) (by omega)
  have f2 : A' (Q + 2) = up (up A (Q + 1) n m) (Q + 2) n L (Q + 2) := funext fun z => e4 _ _ (by omega) (by omega)
  refine ⟨A', ?_, by rw [f1, f2]; exact e2, e3, ⟨by rw [f1]; exact v1, by rw [f2]; exact v2⟩, fun b z p q r s => ?_⟩
  · rw [← e1]
    simp (disch := first | assumption | omega) only [fX1_addKind, rwI1, rwS1, rwI2, rwS2, rwI4, rwS4, rwI5, rwS5, rwI7, rwS7, rwI8, rwS8, rwI9, rwS9, rwR0, rwR3, rwR6, rwA1, rwU1, rwA3, rwU3, rwV, rwJ, rwUJ, plI0, plS0, plI1, plS1, plI2, plS2, plI3, plS3, plI4, plS4, plI5, plS5, plI6, plS6, plI7, plS7, plR8, plR9, plR10, plA1, plU1, plA2, plU2, plA3, plU3, plV, stI2, stS2, stI3, stS3, stI4, stS4, stI5, stS5, stI6, stS6, stI7, stS7, stR0, stR1, stA2, stU2, stV, stRow, svI5, svS5, svI6, svS6, svI7, svS7, svR0, svR1, svR2, svR3, svR4, svA13, svU13, svA14, svU14, svA15, svU15, svA16, svU16, svV, svRow, svF, svUF, hiI1, hiS1, hiI2, hiS2, hiR0, hiV, hiRow, rdI2, rdS2, rdI3, rdS3, rdI4, rdS4, rdI5, rdS5, rdI6, rdS6, rdI7, rdS7, rdI8, rdS8, rdR0, rdR1, rdA1, rdU1, rdA2, rdU2, rdV, k_C, ↓reduceIte, tr_lt, fa_lt, tr_le, fa_le, tr_eq, fa_eq, and_true, true_and, and_false, false_and, il0, il1, il2, il3, il4, il5, il6, il7, il8, il9, il10, il11, il12, il15, il16, il20, il24, il31, il32, il44, il45, il48, il50, il57, il58, il59, il63, il91, il93, il97, il99, il100, il109, il113, il119, il120, il122, il200, il255, il480, il500, il501, il512, il999, il4112, il41120, il1000000, il1000003, ii_add, ii_sub, ii_mul, ii_neg, ii_le, ii_lt, ii_eq, ii_div, q_I, q_V, q_R, lt_q, rZ_q, md_M, md_16, md_4, md_8, md_10, if_true, if_false, if_pos, if_neg, h7, w7, v7]
  · rw [e4 b z p s, up_n _ _ _ _ _ _ r, up_n _ _ _ _ _ _ q]
end KNC
theorem RR.len {A : AI} {J : JI} {R : Nat} {len len' g : Int → Int} {r : Int} (h : RR A J R len g r) (h1 : cel g r 1 = 0) : RR A J R len' g r := by
  have e : ∀ l : Int → Int, suP l g r = 0 := fun l => by
    unfold suP
    rw [h1]
    rfl
  unfold RR at h ⊢
  rw [e] at h ⊢
  exact h
section KNL
variable {A A' : AI} {J : JI} {M M' : AI} {g : Int → Int} {sp : Nat}
/-- the content with a kind more -/
theorem LdS.kind (h : LdS A J M g sp) (hsp : sp = 377 ∨ sp = 381) (n m L v : Int) (hn : n = M 0 9 ∧ n < 10) (hm : (0 ≤ m ∧ m ≤ 1) ∧ (1 ≤ L ∧ L ≤ 99) ∧ 0 ≤ v ∧ v ≤ 99)
    (h9 : M' 0 9 = n + 1) (h0 : ∀ z, 2 ≤ z → z ≤ 8 → M' 0 z = M 0 z) (e1 : ∀ k, 0 ≤ k → k < 10 → M' 1 k = if k = n then m else M 1 k) (e2 : ∀ k, 0 ≤ k → k < 10 → M' 2 k = if k = n then L else M 2 k)
    (hA : ∀ (b : Nat) (z : Int), ((b = sp ∧ 0 ≤ z ∧ z ≤ 6) ∨ (inS 338 b ∧ ¬ (b = 338 + 2 ∧ z = n))) → A' b z = A b z) (hv : A' (338 + 2) n = v) (ho : ordOK (A' (sp + 1)) (A' (sp + 2)) (n + 1) (A' (sp + 3))) (h7 : A' sp 7 = n + 1) (hk : A' (sp + 1) n = m ∧ A' (sp + 2) n = L) (hk2 : ∀ k, 0 ≤ k → k < n → A' (sp + 1) k = A (sp + 1) k ∧ A' (sp + 2) k = A (sp + 2) k) : LdS A' J M' (gu g (6 + n) v) sp := by
  obtain ⟨hM, hP, hS, hG, hp, h5⟩ := h
  have hn0 := hM.1.2.2.2.2.2.2.2
  have hg := hG.1.1
  have cg : ∀ r w, 0 ≤ r → 0 ≤ w → cel (gu g (6 + n) v) r w = cel g r w := fun r w a b => cel_gu _ _ _ _ _ (by omega)
  have zcn : ∀ (h : Int → Int) r k, cel h r 1 = 0 → cnt h r k = 0 := fun h r k q => by
    unfold cnt
    rw [q]
    rfl
  have hpl : ∀ k, 0 ≤ k → k < n + 1 → A' (sp + 1) k = M' 1 k ∧ A' (sp + 2) k = M' 2 k := fun k a b => by
    rw [e1 k a (by omega), e2 k a (by omega)]
    by_cases q : k = n
    · rw [if_pos q, if_pos q, q]; exact hk
    · rw [if_neg q, if_neg q, (hk2 k a (by omega)).1, (hk2 k a (by omega)).2]
      exact hP.2.1 k a (by omega)
  have s0 : inS 338 338 := by unfold inS; omega
  have s2 : inS 338 (338 + 2) := by unfold inS; omega
  have gap : ∀ r, 0 ≤ r → r < M 0 3 → gapM M' (gu g (6 + n) v) r = gapM M g r := fun r a b => by
    have q := hp r a (by have := hM.1.2.1; omega)
    unfold gapM suB uQ suP
    simp only [cg r _ a (show (0 : Int) ≤ 0 by omega), cg r _ a (show (0 : Int) ≤ 1 by omega), cg r _ a (show (0 : Int) ≤ 2 by omega), cg r _ a (show (0 : Int) ≤ 3 by omega), h0 2 (by omega) (by omega), h0 4 (by omega) (by omega), q]
    have hB : sm (fun k => cel (gu g (6 + n) v) r (5 + k)) (cel g r 0) = sm (fun k => cel g r (5 + k)) (cel g r 0) := sm_c _ _ _ (fun k p _ => cg r _ a (by omega))
    rw [hB]
    rfl
  refine ⟨⟨?_, fun k a b => ?_, fun k a b => ?_, fun k a b => ?_⟩, ⟨?_, fun k a b => hpl k a (by omega), ?_⟩, ⟨⟨?_, fun k a b => ?_⟩, fun r a b => ?_⟩, ⟨⟨fun r a b => ?_, fun r a b q => ?_, fun r a b => ?_, fun r a b k p q => ?_, fun r a b => ?_⟩, fun k a b => ?_, ?_, fun r a b q => ?_, fun r a b => ?_⟩, fun r a b => ?_, ?_⟩
  · rw [h0 2 (by omega) (by omega), h0 3 (by omega) (by omega), h0 4 (by omega) (by omega), h0 5 (by omega) (by omega), h0 6 (by omega) (by omega), h0 7 (by omega) (by omega), h0 8 (by omega) (by omega), h9]
    obtain ⟨a1, a2, a3, a4, a5, a6, a7, a8⟩ := hM.1
    exact ⟨a1, a2, a3, a4, a5, a6, a7, by omega⟩
  · rw [e1 k a b]
    split
    · exact hm.1
    · exact hM.2.1 k a b
  · rw [e2 k a b]
    split
    · omega
    · exact hM.2.2.1 k a b
  · rw [e2 k a (by omega)]
    split
    · omega
    · exact hM.2.2.2 k a (by omega)
  · rw [hA sp 0 (by omega), hA sp 1 (by omega), hA sp 2 (by omega), hA sp 3 (by omega), hA sp 4 (by omega), hA sp 5 (by omega), hA sp 6 (by omega), h7, h0 2 (by omega) (by omega), h0 3 (by omega) (by omega), h0 4 (by omega) (by omega), h0 5 (by omega) (by omega), h0 6 (by omega) (by omega), h0 7 (by omega) (by omega), h0 8 (by omega) (by omega), h9]
    obtain ⟨a1, a2, a3, a4, a5, a6, a7, a8⟩ := hP.1
    exact ⟨a1, a2, a3, a4, a5, a6, a7, rfl⟩
  · rw [h9]
    exact ord_cg ho (fun k a b => ⟨(hpl k a b).1.symm, (hpl k a b).2.symm⟩)
  · rw [hA 338 2 (Or.inr ⟨s0, by omega⟩), hA 338 3 (Or.inr ⟨s0, by omega⟩), hA 338 4 (Or.inr ⟨s0, by omega⟩), hA 338 5 (Or.inr ⟨s0, by omega⟩), hA 338 6 (Or.inr ⟨s0, by omega⟩), hA 338 7 (Or.inr ⟨s0, by omega⟩), gu_n _ _ _ _ (by omega), gu_n _ _ _ _ (by omega), gu_n _ _ _ _ (by omega), gu_n _ _ _ _ (by omega), gu_n _ _ _ _ (by omega)]
    exact hS.1.1
  · by_cases q : k = n
    · rw [q, hv, gu_s]
    · rw [hA _ _ (Or.inr ⟨s2, by omega⟩), gu_n _ _ _ _ (by omega)]
      exact hS.1.2 k a b
  · refine RR.frame (RR.len (hS.2 r a b) (hp r a b)) (hg r a b) (fun x z hx => ?_) (fun _ _ _ => rfl) (fun w p q => cg r w a p)
    have hx2 := (rc_in ⟨a, b⟩ hx).1
    exact hA x z (Or.inr ⟨hx2.1, fun y => hx2.2.2 y.1⟩)
  · exact RG.cong (hg r a b) (fun w p q => cg r w a p)
  · rw [cg r 3 a (by omega)]
    rw [cg r 2 a (by omega)] at q
    exact hG.1.2.1 r a b q
  · rw [h0 3 (by omega) (by omega)] at a
    have a' : 0 ≤ r := by have := hM.1.2.1; omega
    rw [cg r 0 a' (by omega), cg r 1 a' (by omega), cg r 2 a' (by omega), cg r 3 a' (by omega), cg r 4 a' (by omega)]
    exact hG.1.2.2.1 r a b
  · rw [cg r 1 a (by omega), hp r a b] at q
    omega
  · rw [cg r 4 a (by omega)]
    exact hG.1.2.2.2.2 r a b
  · have z1 : sm (fun r => cnt (gu g (6 + n) v) r k) 8 = 0 := sm_z _ 8 (fun r p q => zcn _ r k (by rw [cg r 1 p (by omega)]; exact hp r p q))
    have z2 : sm (fun r => cnt g r k) 8 = 0 := sm_z _ 8 (fun r p q => zcn _ r k (hp r p q))
    have z3 := hG.2.1 k a b
    rw [z2] at z3
    rw [z1]
    unfold lim at z3 ⊢
    by_cases q : k = n
    · rw [q, gu_s, if_neg (by omega)]
      omega
    · rw [gu_n _ _ _ _ (by omega)]
      by_cases q2 : M 0 9 ≤ k
      · rw [if_pos q2] at z3
        rw [if_pos (by omega)]
        exact z3
      · rw [if_neg q2] at z3
        rw [if_neg (by omega)]
        exact z3
  · have z1 : sm (fun r => qi (gu g (6 + n) v) r) 8 = sm (fun r => qi g r) 8 := sm_c _ _ _ (fun r p q => by dsimp only [qi]; rw [cg r 2 p (by omega)])
    rw [z1, gu_n _ _ _ _ (by omega)]
    exact hG.2.2.1
  · rw [cg r 2 a (by omega)] at q ⊢
    rw [cg r 3 a (by omega), h0 5 (by omega) (by omega)]
    exact hG.2.2.2.1 r a b q
  · rw [h0 3 (by omega) (by omega)] at b
    rw [gap r a b]
    exact hG.2.2.2.2 r a b
  · rw [cg r 1 a (by omega)]
    exact hp r a b
  · rw [gu_n _ _ _ _ (by omega)]
    exact h5
end KNL
