/-! THE LAW'S WORLD: all fillings, by the program -/
def isFil (c : CC) (f : Nat) : Prop := okc c f 12 4 ∧ ptr c f 0 (f + 1) ∧ okc c (f + 1) 100 4
section FIL
variable {c : CC} {A : AI} {J : JI} {f : Nat}
theorem fiR0 (h : isFil c f) (k : Nat → Option AR) : gR (CW c A J) f 12 0 k = k (f + 1) := k_gR h.1 h.2.1 k
theorem fiI1 (h : isFil c f) (k : Int32 → Option AR) : gI (CW c A J) f 12 1 k = k (ii (A f 1)) := k_gI h.1 1 k
theorem fiS1 (h : isFil c f) (v : Int) (k : AS → Option AR) : sI (CW c A J) f 12 1 (ii v) k = k (CW c (up A f 1 v) J) := k_sI h.1 1 v k
theorem fiI2 (h : isFil c f) (k : Int32 → Option AR) : gI (CW c A J) f 12 2 k = k (ii (A f 2)) := k_gI h.1 2 k
theorem fiS2 (h : isFil c f) (v : Int) (k : AS → Option AR) : sI (CW c A J) f 12 2 (ii v) k = k (CW c (up A f 2 v) J) := k_sI h.1 2 v k
theorem fiI3 (h : isFil c f) (k : Int32 → Option AR) : gI (CW c A J) f 12 3 k = k (ii (A f 3)) := k_gI h.1 3 k
theorem fiS3 (h : isFil c f) (v : Int) (k : AS → Option AR) : sI (CW c A J) f 12 3 (ii v) k = k (CW c (up A f 3 v) J) := k_sI h.1 3 v k
theorem fiA (h : isFil c f) (z : Int) (k : Int32 → Option AR) (hz : 0 ≤ z ∧ z < 4) : aI (CW c A J) (f + 1) 100 (ii z) k = k (ii (A (f + 1) z)) := k_aI h.2.2 z (by omega) k
theorem fiU (h : isFil c f) (z v : Int) (k : AS → Option AR) (hz : 0 ≤ z ∧ z < 4) : uI (CW c A J) (f + 1) (ii z) (ii v) k = k (CW c (up A (f + 1) z v) J) := k_uI h.2.2 z v (by omega) k
theorem fiT {q : Nat} (h : okc c q 100 4) (z : Int) (k : Int32 → Option AR) (hz : 0 ≤ z ∧ z < 4) : aI (CW c A J) q 100 (ii z) k = k (ii (A q z)) := k_aI h z (by omega) k
end FIL
/-- where the search stands -/
def FS (f : Nat) (A D : AI) (S : SS) (ways : Int) : Prop :=
  (D f 1 = S.1 ∧ D f 2 = S.2.1 ∧ D f 3 = ways) ∧ (D (f + 1) 0 = S.2.2.1 ∧ D (f + 1) 1 = S.2.2.2.1 ∧ D (f + 1) 2 = S.2.2.2.2.1 ∧ D (f + 1) 3 = S.2.2.2.2.2) ∧ (0 ≤ S.1 ∧ S.1 ≤ 1000000 ∧ 0 ≤ ways ∧ (ways = 0 ↔ S.1 = 1000000)) ∧ ∀ (b : Nat) (z : Int), b ≠ f → b ≠ f + 1 → D b z = A b z
/-- what the search is about -/
def FX (c : CC) (A : AI) (w f q : Nat) (n : Int) (o len st : Int → Int) : Prop :=
  (isWorld c w ∧ isFil c f ∧ okc c q 100 4) ∧ ((f < w ∨ w + 32 ≤ f) ∧ f + 1 < w ∨ w + 32 ≤ f) ∧ (q ≠ f ∧ q ≠ f + 1) ∧ (0 ≤ n ∧ n ≤ 4) ∧ (kindsOK n o len st ∧ ∀ p, 0 ≤ p → p < n → o p < 4 ∧ len (o p) ≤ 99 ∧ st (o p) ≤ 5001) ∧
  A w 14 = n ∧ (∀ p, 0 ≤ p → p < n → A (w + 6) p = o p ∧ A (w + 4) (o p) = len (o p)) ∧ ∀ p, 0 ≤ p → p < 4 → A q p = Tp n o st p
section FLS
variable {c : CC} {A D : AI} {J : JI} {w f q : Nat} {n : Int} {o len st : Int → Int} {S : SS} {ways : Int}
theorem FX.LT (hX : FX c A w f q n o len st) (p : Int) (hp : 0 ≤ p) : (0 < Lp n o len p ∧ Lp n o len p ≤ 99) ∧ 0 ≤ Tp n o st p ∧ Tp n o st p ≤ 5001 := by
  obtain ⟨-, -, -, -, ⟨hk, h5⟩, -⟩ := hX
  refine ⟨⟨Lp_b n o len st hk p hp, ?_⟩, Tp_b n o len st hk p hp, ?_⟩
  · unfold Lp
    split
    · exact (h5 p hp (by assumption)).2.1
    · omega
  · unfold Tp
    split
    · exact (h5 p hp (by assumption)).2.2
    · omega
theorem n_fL (hX : FX c A w f q n o len st) (hD : FS f A D S ways) (op sum a b k : Int) (hs : -300 ≤ sum ∧ sum ≤ 120) (ha : 0 ≤ a ∧ a ≤ Tp n o st 0) (hb : 0 ≤ b ∧ b ≤ Tp n o st 1) (hkk : 0 ≤ k ∧ k ≤ Tp n o st 2) (hw : ways < 2000000000) (x1 x3 : Int32) {r41 : _} {r141 : _} {r152 : _} {r163 : _} :
    ∃ D' ways', fX19_fills_195 r41 r141 r152 r163 w x1 f x3 (ii op) (ii sum) q (ii a) (ii b) (ii k) (ii sum) (ii (a * Lp n o len 0)) (CW c D J) = fX19_fills_412 r41 r141 r152 r163 w x1 f x3 (ii op) (ii sum) q (ii a) (ii b) (ii k) (CW c D' J) ∧
      FS f A D' (sup S (a + b + k + Gp n o len st 3 (sum - a * Lp n o len 0 - b * Lp n o len 1 - k * Lp n o len 2)) (pE n o len st op a b k (sum - a * Lp n o len 0 - b * Lp n o len 1 - k * Lp n o len 2))) ways' ∧ (ways ≤ ways' ∧ ways' ≤ ways + 1) ∧ (sum - a * Lp n o len 0 - b * Lp n o len 1 - k * Lp n o len 2 < 0 → ways' = ways) := by
  obtain ⟨l0, t0⟩ := hX.LT 0 (by omega)
  obtain ⟨l1, t1⟩ := hX.LT 1 (by omega)
  obtain ⟨l2, t2⟩ := hX.LT 2 (by omega)
  obtain ⟨l3, t3⟩ := hX.LT 3 (by omega)
  obtain ⟨⟨hW, hF, hq⟩, hwf, hqf, h4, ⟨hk, h5⟩, hn, ho, hT⟩ := hX
  obtain ⟨⟨d1, d2, d3⟩, ⟨m0, m1, m2, m3⟩, ⟨hS1, hS2, hS3, hS4⟩, hfr⟩ := id hD
  have dn : D w 14 = n := by rw [hfr _ _ (by omega) (by omega)]; exact hn
  have dT : D q 3 = Tp n o st 3 := by rw [hfr _ _ (by omega) (by omega)]; exact hT 3 (by omega) (by omega)
  have dO : ∀ p, 0 ≤ p → p < n → D (w + 6) p = o p ∧ D (w + 4) (o p) = Lp n o len p := fun p x y => by
    rw [hfr _ _ (by omega) (by omega), hfr _ _ (by omega) (by omega)]
    refine ⟨(ho p x y).1, ?_⟩
    rw [(ho p x y).2]
    unfold Lp
    rw [if_pos y]
  have Tz : ∀ p, n ≤ p → Tp n o st p = 0 := fun p x => if_neg (by omega)
  have mA := mul_b (a := a) (b := Lp n o len 0) (m := 5001) (n := 99) ⟨by omega, by omega⟩
  have mB := mul_b (a := b) (b := Lp n o len 1) (m := 5001) (n := 99) ⟨by omega, by omega⟩
  have mC := mul_b (a := k) (b := Lp n o len 2) (m := 5001) (n := 99) ⟨by omega, by omega⟩
  obtain ⟨L0, hL0⟩ : ∃ L0, L0 = Lp n o len 0 := ⟨_, rfl⟩
  obtain ⟨rest, hre⟩ : ∃ rest, rest = sum - a * Lp n o len 0 - b * Lp n o len 1 - k * Lp n o len 2 := ⟨_, rfl⟩
  have s195 : ∀ t0 t1 : Int, fX19_fills_195 r41 r141 r152 r163 w x1 f x3 (ii op) (ii sum) q (ii a) (ii b) (ii k) (ii t0) (ii t1) (CW c D J) = fX19_fills_222 r41 r141 r152 r163 w x1 f x3 (ii op) (ii sum) q (ii a) (ii b) (ii k) (ii (t0 - t1)) (ii (b * Lp n o len 1)) (CW c D J) := by
    intro t0 t1
    by_cases y : n ≤ 1
    · have hb0 : b = 0 := by have := Tz 1 y; omega
      have e : b * Lp n o len 1 = 0 := by rw [hb0, Int.zero_mul]
      rw [e]
      simp (disch := first | assumption | omega) only [fX19_fills_195, wdR1, wdR2, wdR3, wdR4, wdR5, wdR6, wdR7, wdR8, wdR9, wdR10, wdR11, wdR12, wdR13, wdI14, wdS14, wdI15, wdS15, wdA3, wdU3, wdA4, wdU4, wdA5, wdU5, wdA6, wdU6, wdA7, wdU7, wdA8, wdU8, wdA27, wdU27, wdA28, wdU28, wdA29, wdU29, wdA30, wdU30, wdA31, wdU31, wdB, wdP, wdAB, wdUB, wdAP, wdUP, wdV, drV, drR0, drI1, drS1, k_C, ↓reduceIte, tr_lt, fa_lt, tr_le, fa_le, tr_eq, fa_eq, and_true, true_and, and_false, false_and, il0, il1, il2, il3, il4, il5, il6, il7, il8, il9, il10, il11, il12, il15, il16, il20, il24, il31, il32, il44, il45, il48, il50, il57, il58, il59, il63, il91, il93, il97, il99, il100, il109, il113, il119, il120, il122, il200, il255, il480, il500, il501, il512, il999, il4112, il41120, il1000000, il1000003, ii_add, ii_sub, ii_mul, ii_neg, ii_le, ii_lt, ii_eq, ii_div, q_I, q_V, q_R, lt_q, rZ_q, md_M, md_16, md_4, md_8, md_10, if_true, if_false, if_pos, if_neg, dn]
    · obtain ⟨p1, p2⟩ := dO 1 (by omega) (by omega)
      have p3 := (hk 1 (by omega) (by omega)).1
      have p4 := (h5 1 (by omega) (by omega)).1
      simp (disch := first | assumption | omega) only [fX19_fills_195, wdR1, wdR2, wdR3, wdR4, wdR5, wdR6, wdR7, wdR8, wdR9, wdR10, wdR11, wdR12, wdR13, wdI14, wdS14, wdI15, wdS15, wdA3, wdU3, wdA4, wdU4, wdA5, wdU5, wdA6, wdU6, wdA7, wdU7, wdA8, wdU8, wdA27, wdU27, wdA28, wdU28, wdA29, wdU29, wdA30, wdU30, wdA31, wdU31, wdB, wdP, wdAB, wdUB, wdAP, wdUP, wdV, drV, drR0, drI1, drS1, k_C, ↓reduceIte, tr_lt, fa_lt, tr_le, fa_le, tr_eq, fa_eq, and_true, true_and, and_false, false_and, il0, il1, il2, il3, il4, il5, il6, il7, il8, il9, il10, il11, il12, il15, il16, il20, il24, il31, il32, il44, il45, il48, il50, il57, il58, il59, il63, il91, il93, il97, il99, il100, il109, il113, il119, il120, il122, il200, il255, il480, il500, il501, il512, il999, il4112, il41120, il1000000, il1000003, ii_add, ii_sub, ii_mul, ii_neg, ii_le, ii_lt, ii_eq, ii_div, q_I, q_V, q_R, lt_q, rZ_q, md_M, md_16, md_4, md_8, md_10, if_true, if_false, if_pos, if_neg, dn, p1, p2]
  have s222 : ∀ t0 t1 : Int, fX19_fills_222 r41 r141 r152 r163 w x1 f x3 (ii op) (ii sum) q (ii a) (ii b) (ii k) (ii t0) (ii t1) (CW c D J) = fX19_fills_249 r41 r141 r152 r163 w x1 f x3 (ii op) (ii sum) q (ii a) (ii b) (ii k) (ii (t0 - t1)) (ii (k * Lp n o len 2)) (CW c D J) := by
    intro t0 t1
    by_cases y : n ≤ 2
    · have hb0 : k = 0 := by have := Tz 2 y; omega
      have e : k * Lp n o len 2 = 0 := by rw [hb0, Int.zero_mul]
      rw [e]
      simp (disch := first | assumption | omega) only [fX19_fills_222, wdR1, wdR2, wdR3, wdR4, wdR5, wdR6, wdR7, wdR8, wdR9, wdR10, wdR11, wdR12, wdR13, wdI14, wdS14, wdI15, wdS15, wdA3, wdU3, wdA4, wdU4, wdA5, wdU5, wdA6, wdU6, wdA7, wdU7, wdA8, wdU8, wdA27, wdU27, wdA28, wdU28, wdA29, wdU29, wdA30, wdU30, wdA31, wdU31, wdB, wdP, wdAB, wdUB, wdAP, wdUP, wdV, drV, drR0, drI1, drS1, k_C, ↓reduceIte, tr_lt, fa_lt, tr_le, fa_le, tr_eq, fa_eq, and_true, true_and, and_false, false_and, il0, il1, il2, il3, il4, il5, il6, il7, il8, il9, il10, il11, il12, il15, il16, il20, il24, il31, il32, il44, il45, il48, il50, il57, il58, il59, il63, il91, il93, il97, il99, il100, il109, il113, il119, il120, il122, il200, il255, il480, il500, il501, il512, il999, il4112, il41120, il1000000, il1000003, ii_add, ii_sub, ii_mul, ii_neg, ii_le, ii_lt, ii_eq, ii_div, q_I, q_V, q_R, lt_q, rZ_q, md_M, md_16, md_4, md_8, md_10, if_true, if_false, if_pos, if_neg, dn]
    · obtain ⟨p1, p2⟩ := dO 2 (by omega) (by omega)
      have p3 := (hk 2 (by omega) (by omega)).1
      have p4 := (h5 2 (by omega) (by omega)).1
      simp (disch := first | assumption | omega) only [fX19_fills_222, wdR1, wdR2, wdR3, wdR4, wdR5, wdR6, wdR7, wdR8, wdR9, wdR10, wdR11, wdR12, wdR13, wdI14, wdS14, wdI15, wdS15, wdA3, wdU3, wdA4, wdU4, wdA5, wdU5, wdA6, wdU6, wdA7, wdU7, wdA8, wdU8, wdA27, wdU27, wdA28, wdU28, wdA29, wdU29, wdA30, wdU30, wdA31, wdU31, wdB, wdP, wdAB, wdUB, wdAP, wdUP, wdV, drV, drR0, drI1, drS1, k_C, ↓reduceIte, tr_lt, fa_lt, tr_le, fa_le, tr_eq, fa_eq, and_true, true_and, and_false, false_and, il0, il1, il2, il3, il4, il5, il6, il7, il8, il9, il10, il11, il12, il15, il16, il20, il24, il31, il32, il44, il45, il48, il50, il57, il58, il59, il63, il91, il93, il97, il99, il100, il109, il113, il119, il120, il122, il200, il255, il480, il500, il501, il512, il999, il4112, il41120, il1000000, il1000003, ii_add, ii_sub, ii_mul, ii_neg, ii_le, ii_lt, ii_eq, ii_div, q_I, q_V, q_R, lt_q, rZ_q, md_M, md_16, md_4, md_8, md_10, if_true, if_false, if_pos, if_neg, dn, p1, p2]
  have s249 : ∀ t0 t1 : Int, t0 - t1 = rest → fX19_fills_249 r41 r141 r152 r163 w x1 f x3 (ii op) (ii sum) q (ii a) (ii b) (ii k) (ii t0) (ii t1) (CW c D J) = fX19_fills_309 r41 r141 r152 r163 w x1 f x3 (ii op) (ii sum) q (ii a) (ii b) (ii k) (ii (eL n (Lp n o len 3) rest)) (CW c D J) := by
    intro t0 t1 ht
    unfold eL
    by_cases y : n ≤ 3
    · rw [if_neg (fun z => by omega)]
      by_cases z : rest = 0
      · rw [if_pos z]
        simp (disch := first | assumption | omega) only [fX19_fills_249, fX19_fills_299, wdR1, wdR2, wdR3, wdR4, wdR5, wdR6, wdR7, wdR8, wdR9, wdR10, wdR11, wdR12, wdR13, wdI14, wdS14, wdI15, wdS15, wdA3, wdU3, wdA4, wdU4, wdA5, wdU5, wdA6, wdU6, wdA7, wdU7, wdA8, wdU8, wdA27, wdU27, wdA28, wdU28, wdA29, wdU29, wdA30, wdU30, wdA31, wdU31, wdB, wdP, wdAB, wdUB, wdAP, wdUP, wdV, drV, drR0, drI1, drS1, k_C, ↓reduceIte, tr_lt, fa_lt, tr_le, fa_le, tr_eq, fa_eq, and_true, true_and, and_false, false_and, il0, il1, il2, il3, il4, il5, il6, il7, il8, il9, il10, il11, il12, il15, il16, il20, il24, il31, il32, il44, il45, il48, il50, il57, il58, il59, il63, il91, il93, il97, il99, il100, il109, il113, il119, il120, il122, il200, il255, il480, il500, il501, il512, il999, il4112, il41120, il1000000, il1000003, ii_add, ii_sub, ii_mul, ii_neg, ii_le, ii_lt, ii_eq, ii_div, q_I, q_V, q_R, lt_q, rZ_q, md_M, md_16, md_4, md_8, md_10, if_true, if_false, if_pos, if_neg, dn, ht]
      · rw [if_neg z]
        simp (disch := first | assumption | omega) only [fX19_fills_249, fX19_fills_299, wdR1, wdR2, wdR3, wdR4, wdR5, wdR6, wdR7, wdR8, wdR9, wdR10, wdR11, wdR12, wdR13, wdI14, wdS14, wdI15, wdS15, wdA3, wdU3, wdA4, wdU4, wdA5, wdU5, wdA6, wdU6, wdA7, wdU7, wdA8, wdU8, wdA27, wdU27, wdA28, wdU28, wdA29, wdU29, wdA30, wdU30, wdA31, wdU31, wdB, wdP, wdAB, wdUB, wdAP, wdUP, wdV, drV, drR0, drI1, drS1, k_C, ↓reduceIte, tr_lt, fa_lt, tr_le, fa_le, tr_eq, fa_eq, and_true, true_and, and_false, false_and, il0, il1, il2, il3, il4, il5, il6, il7, il8, il9, il10, il11, il12, il15, il16, il20, il24, il31, il32, il44, il45, il48, il50, il57, il58, il59, il63, il91, il93, il97, il99, il100, il109, il113, il119, il120, il122, il200, il255, il480, il500, il501, il512, il999, il4112, il41120, il1000000, il1000003, ii_add, ii_sub, ii_mul, ii_neg, ii_le, ii_lt, ii_eq, ii_div, q_I, q_V, q_R, lt_q, rZ_q, md_M, md_16, md_4, md_8, md_10, if_true, if_false, if_pos, if_neg, dn, ht]
    · obtain ⟨p1, p2⟩ := dO 3 (by omega) (by omega)
      have p3 := (hk 3 (by omega) (by omega)).1
      have p4 := (h5 3 (by omega) (by omega)).1
      by_cases z : rest < 0
      · rw [if_neg (fun z => by omega), if_neg (by omega)]
        simp (disch := first | assumption | omega) only [fX19_fills_249, fX19_fills_299, wdR1, wdR2, wdR3, wdR4, wdR5, wdR6, wdR7, wdR8, wdR9, wdR10, wdR11, wdR12, wdR13, wdI14, wdS14, wdI15, wdS15, wdA3, wdU3, wdA4, wdU4, wdA5, wdU5, wdA6, wdU6, wdA7, wdU7, wdA8, wdU8, wdA27, wdU27, wdA28, wdU28, wdA29, wdU29, wdA30, wdU30, wdA31, wdU31, wdB, wdP, wdAB, wdUB, wdAP, wdUP, wdV, drV, drR0, drI1, drS1, k_C, ↓reduceIte, tr_lt, fa_lt, tr_le, fa_le, tr_eq, fa_eq, and_true, true_and, and_false, false_and, il0, il1, il2, il3, il4, il5, il6, il7, il8, il9, il10, il11, il12, il15, il16, il20, il24, il31, il32, il44, il45, il48, il50, il57, il58, il59, il63, il91, il93, il97, il99, il100, il109, il113, il119, il120, il122, il200, il255, il480, il500, il501, il512, il999, il4112, il41120, il1000000, il1000003, ii_add, ii_sub, ii_mul, ii_neg, ii_le, ii_lt, ii_eq, ii_div, q_I, q_V, q_R, lt_q, rZ_q, md_M, md_16, md_4, md_8, md_10, if_true, if_false, if_pos, if_neg, dn, ht]
      · have v1 := Int.ediv_mul_le rest (show Lp n o len 3 ≠ 0 by omega)
        have v2 := Int.ediv_nonneg (show 0 ≤ rest by omega) (show 0 ≤ Lp n o len 3 by omega)
        have v3 := Int.mul_nonneg v2 (show 0 ≤ Lp n o len 3 by omega)
        by_cases u : rest - rest / Lp n o len 3 * Lp n o len 3 = 0
        · rw [if_pos ⟨by omega, by omega, u⟩]
          simp (disch := first | assumption | omega) only [fX19_fills_249, fX19_fills_299, wdR1, wdR2, wdR3, wdR4, wdR5, wdR6, wdR7, wdR8, wdR9, wdR10, wdR11, wdR12, wdR13, wdI14, wdS14, wdI15, wdS15, wdA3, wdU3, wdA4, wdU4, wdA5, wdU5, wdA6, wdU6, wdA7, wdU7, wdA8, wdU8, wdA27, wdU27, wdA28, wdU28, wdA29, wdU29, wdA30, wdU30, wdA31, wdU31, wdB, wdP, wdAB, wdUB, wdAP, wdUP, wdV, drV, drR0, drI1, drS1, k_C, ↓reduceIte, tr_lt, fa_lt, tr_le, fa_le, tr_eq, fa_eq, and_true, true_and, and_false, false_and, il0, il1, il2, il3, il4, il5, il6, il7, il8, il9, il10, il11, il12, il15, il16, il20, il24, il31, il32, il44, il45, il48, il50, il57, il58, il59, il63, il91, il93, il97, il99, il100, il109, il113, il119, il120, il122, il200, il255, il480, il500, il501, il512, il999, il4112, il41120, il1000000, il1000003, ii_add, ii_sub, ii_mul, ii_neg, ii_le, ii_lt, ii_eq, ii_div, q_I, q_V, q_R, lt_q, rZ_q, md_M, md_16, md_4, md_8, md_10, if_true, if_false, if_pos, if_neg, dn, p1, p2, ht]
        · have u2 : rest ≠ 0 := fun z => u (by rw [z, Int.zero_ediv, Int.zero_mul]; rfl)
          rw [if_neg (fun z => u z.2.2), if_neg u2]
          simp (disch := first | assumption | omega) only [fX19_fills_249, fX19_fills_299, wdR1, wdR2, wdR3, wdR4, wdR5, wdR6, wdR7, wdR8, wdR9, wdR10, wdR11, wdR12, wdR13, wdI14, wdS14, wdI15, wdS15, wdA3, wdU3, wdA4, wdU4, wdA5, wdU5, wdA6, wdU6, wdA7, wdU7, wdA8, wdU8, wdA27, wdU27, wdA28, wdU28, wdA29, wdU29, wdA30, wdU30, wdA31, wdU31, wdB, wdP, wdAB, wdUB, wdAP, wdUP, wdV, drV, drR0, drI1, drS1, k_C, ↓reduceIte, tr_lt, fa_lt, tr_le, fa_le, tr_eq, fa_eq, and_true, true_and, and_false, false_and, il0, il1, il2, il3, il4, il5, il6, il7, il8, il9, il10, il11, il12, il15, il16, il20, il24, il31, il32, il44, il45, il48, il50, il57, il58, il59, il63, il91, il93, il97, il99, il100, il109, il113, il119, il120, il122, il200, il255, il480, il500, il501, il512, il999, il4112, il41120, il1000000, il1000003, ii_add, ii_sub, ii_mul, ii_neg, ii_le, ii_lt, ii_eq, ii_div, q_I, q_V, q_R, lt_q, rZ_q, md_M, md_16, md_4, md_8, md_10, if_true, if_false, if_pos, if_neg, dn, p1, p2, ht]
  obtain ⟨g1, g2, g3, g4⟩ := leaf n o len st hk h4.2 rest (by omega)
  rw [s195, s222, s249 _ _ hre.symm, ← hre]
  unfold pE
  obtain ⟨e, he⟩ : ∃ e, e = eL n (Lp n o len 3) rest := ⟨_, rfl⟩
  rw [← he] at g1 g2 g3 g4 ⊢
  by_cases y : 0 ≤ e ∧ e ≤ Tp n o st 3
  · obtain ⟨g5, g6⟩ := g3 y
    rw [g5, g6]
    unfold sup
    by_cases z : a + b + k + e < S.1
    · rw [if_pos z]
      refine ⟨up (up (up (up (up (up (up D f 3 (ways + 1)) f 1 (a + b + k + e)) f 2 op) (f + 1) 0 a) (f + 1) 1 b) (f + 1) 2 k) (f + 1) 3 e, ways + 1, by simp (disch := first | assumption | omega) only [fX19_fills_309, fiR0, fiI1, fiS1, fiI2, fiS2, fiI3, fiS3, fiA, fiU, fiT, ↓reduceIte, tr_lt, fa_lt, tr_le, fa_le, tr_eq, fa_eq, and_true, true_and, and_false, false_and, il0, il1, il2, il3, il4, il5, il6, il7, il8, il9, il10, il11, il12, il15, il16, il20, il24, il31, il32, il44, il45, il48, il50, il57, il58, il59, il63, il91, il93, il97, il99, il100, il109, il113, il119, il120, il122, il200, il255, il480, il500, il501, il512, il999, il4112, il41120, il1000000, il1000003, ii_add, ii_sub, ii_mul, ii_neg, ii_le, ii_lt, ii_eq, ii_div, q_I, q_V, q_R, lt_q, rZ_q, md_M, md_16, md_4, md_8, md_10, if_true, if_false, if_pos, if_neg, dT, d1, d2, d3, up_n], ⟨⟨?_, ?_, ?_⟩, ⟨?_, ?_, ?_, ?_⟩, ⟨?_, ?_, ?_, ?_⟩, fun b' z' i1 i2 => ?_⟩, by omega, fun u => by omega⟩
      · simp (disch := first | assumption | omega) only [up_s, up_n]
      · simp (disch := first | assumption | omega) only [up_s, up_n]
      · simp (disch := first | assumption | omega) only [up_s, up_n]
      · simp (disch := first | assumption | omega) only [up_s, up_n]
      · simp (disch := first | assumption | omega) only [up_s, up_n]
      · simp (disch := first | assumption | omega) only [up_s, up_n]
      · simp (disch := first | assumption | omega) only [up_s, up_n]
      · show 0 ≤ a + b + k + e; omega
      · show a + b + k + e ≤ 1000000; omega
      · omega
      · show ways + 1 = 0 ↔ a + b + k + e = 1000000; omega
      · simp (disch := first | assumption | omega) only [up_n]; exact hfr b' z' i1 i2
    · rw [if_neg z]
      refine ⟨up D f 3 (ways + 1), ways + 1, by simp (disch := first | assumption | omega) only [fX19_fills_309, fiR0, fiI1, fiS1, fiI2, fiS2, fiI3, fiS3, fiA, fiU, fiT, ↓reduceIte, tr_lt, fa_lt, tr_le, fa_le, tr_eq, fa_eq, and_true, true_and, and_false, false_and, il0, il1, il2, il3, il4, il5, il6, il7, il8, il9, il10, il11, il12, il15, il16, il20, il24, il31, il32, il44, il45, il48, il50, il57, il58, il59, il63, il91, il93, il97, il99, il100, il109, il113, il119, il120, il122, il200, il255, il480, il500, il501, il512, il999, il4112, il41120, il1000000, il1000003, ii_add, ii_sub, ii_mul, ii_neg, ii_le, ii_lt, ii_eq, ii_div, q_I, q_V, q_R, lt_q, rZ_q, md_M, md_16, md_4, md_8, md_10, if_true, if_false, if_pos, if_neg, dT, d1, d2, d3, up_n], ⟨⟨?_, ?_, ?_⟩, ⟨?_, ?_, ?_, ?_⟩, ⟨hS1, hS2, by omega, ?_⟩, fun b' z' i1 i2 => ?_⟩, by omega, fun u => by omega⟩
      · rw [up_n _ _ _ _ _ _ (by omega)]; exact d1
      · rw [up_n _ _ _ _ _ _ (by omega)]; exact d2
      · exact up_s _ _ _ _
      · rw [up_n _ _ _ _ _ _ (by omega)]; exact m0
      · rw [up_n _ _ _ _ _ _ (by omega)]; exact m1
      · rw [up_n _ _ _ _ _ _ (by omega)]; exact m2
      · rw [up_n _ _ _ _ _ _ (by omega)]; exact m3
      · omega
      · rw [up_n _ _ _ _ _ _ (by omega)]; exact hfr b' z' i1 i2
  · rw [g4 y]
    unfold sup
    rw [if_neg (by omega)]
    refine ⟨D, ways, ?_, hD, by omega, fun _ => rfl⟩
    by_cases z : e < 0
    · simp (disch := first | assumption | omega) only [fX19_fills_309, ↓reduceIte, tr_lt, fa_lt, tr_le, fa_le, tr_eq, fa_eq, and_true, true_and, and_false, false_and, il0, il1, il2, il3, il4, il5, il6, il7, il8, il9, il10, il11, il12, il15, il16, il20, il24, il31, il32, il44, il45, il48, il50, il57, il58, il59, il63, il91, il93, il97, il99, il100, il109, il113, il119, il120, il122, il200, il255, il480, il500, il501, il512, il999, il4112, il41120, il1000000, il1000003, ii_add, ii_sub, ii_mul, ii_neg, ii_le, ii_lt, ii_eq, ii_div, q_I, q_V, q_R, lt_q, rZ_q, md_M, md_16, md_4, md_8, md_10, if_true, if_false, if_pos, if_neg]
    · simp (disch := first | assumption | omega) only [fX19_fills_309, fiT, ↓reduceIte, tr_lt, fa_lt, tr_le, fa_le, tr_eq, fa_eq, and_true, true_and, and_false, false_and, il0, il1, il2, il3, il4, il5, il6, il7, il8, il9, il10, il11, il12, il15, il16, il20, il24, il31, il32, il44, il45, il48, il50, il57, il58, il59, il63, il91, il93, il97, il99, il100, il109, il113, il119, il120, il122, il200, il255, il480, il500, il501, il512, il999, il4112, il41120, il1000000, il1000003, ii_add, ii_sub, ii_mul, ii_neg, ii_le, ii_lt, ii_eq, ii_div, q_I, q_V, q_R, lt_q, rZ_q, md_M, md_16, md_4, md_8, md_10, if_true, if_false, if_pos, if_neg, dT]
end FLS
