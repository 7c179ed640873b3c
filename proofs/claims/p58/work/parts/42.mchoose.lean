/-! THE MODEL'S CHOICE -/
theorem ord_inj {met len o : Int → Int} {n : Int} (h : ordOK met len n o) (p q : Int) (hp : 0 ≤ p ∧ p < n) (hq : 0 ≤ q ∧ q < n) (e : o p = o q) : p = q := by
  have h1 := rk_ord h p hp
  have h2 := rk_ord h q hq
  rw [e] at h1
  omega
def chL (A : AI) (g o : Int → Int) (r : Int) : Int × Int := if canO g r then chN (FW (A 0 9) o (A 2) (stM A g) 0) (needM A g r - A 0 4) (A 0 5 + 1).toNat else (FW (A 0 9) o (A 2) (stM A g) 0 (needM A g r), -1)
def chS (A : AI) (g o : Int → Int) (r : Int) : Int := if (chL A g o r).2 = -1 then needM A g r else needM A g r - A 0 4 - (chL A g o r).2
theorem chL_b {A : AI} {g o : Int → Int} {r : Int} (hA : SA A) (hN : 0 ≤ needM A g r ∧ needM A g r ≤ 500) : (0 ≤ (chL A g o r).1 ∧ (chL A g o r).1 ≤ 1000000) ∧ (-1 ≤ (chL A g o r).2 ∧ (chL A g o r).2 ≤ A 0 5) ∧ ((chL A g o r).1 < 1000000 → (0 ≤ chS A g o r ∧ chS A g o r ≤ needM A g r) ∧ FW (A 0 9) o (A 2) (stM A g) 0 (chS A g o r) = (chL A g o r).1 ∧ (canO g r → 0 ≤ (chL A g o r).2) ∧ (¬ canO g r → (chL A g o r).2 = -1)) := by
  have h5 := hA.1.2.2.2.1
  have h4 := hA.1.2.2.1
  unfold chS chL
  by_cases q : canO g r
  · rw [if_pos q]
    have h := chN_b (FW (A 0 9) o (A 2) (stM A g) 0) (needM A g r - A 0 4) (fun z => (FW_b _ _ _ _ _ z).1) (A 0 5 + 1).toNat
    refine ⟨h.1, by omega, fun hl => ?_⟩
    rcases h.2.2 with z | z
    · omega
    · rw [if_neg (by omega)]
      refine ⟨by omega, z.2.1, fun _ => z.1.1, fun q2 => absurd q q2⟩
  · rw [if_neg q]
    have h := FW_b (A 0 9) o (A 2) (stM A g) 0 (needM A g r)
    refine ⟨h, by dsimp only; omega, fun hl => ?_⟩
    rw [if_pos rfl]
    exact ⟨by omega, rfl, fun q2 => absurd q2 q, fun _ => rfl⟩
/-- what choosing leaves -/
abbrev PCh (K : Nat × Nat) (A : AI) (g o : Int → Int) (r : Int) (x : Option AR) : Prop := ∃ A', x = some (Sum.inl (some (Value.int (ii (if (chL A g o r).1 < 1000000 then 1 else 0)))), NW K (mg A' g)) ∧ scr A A' ∧ A' 0 36 = (chL A g o r).2 ∧ (∀ p, 0 ≤ p → p < A 0 9 → A' 12 p = o p) ∧ ((chL A g o r).1 < 1000000 → ∀ p, 0 ≤ p → p < A 0 9 → A' 14 (o p) = tk (A 0 9) o (A 2) (stM A g) (chS A g o r) p)
section MCH
variable {K : Nat × Nat} {A : AI} {g o : Int → Int} {r : Int}
theorem e_mostRow (hA : SA A) (hL : GL g) (h37 : -1 ≤ A 0 37 ∧ A 0 37 < 10) (hO : ordOK (A 1) (A 2) (A 0 9) o) {A1 : AI} (hs1 : scr A A1) (most w i : Int) (hwb : 0 ≤ w ∧ w ≤ most) (hm : most ≤ 500) (hI : 0 ≤ i) (hi : i < A 0 9) (ht : T13 (A 0 9) o (A 2) (stM A g) most 0 A1) (r4 : Nat → Int32 → Int32 → AS → Option AR) :
    fX7_laysChosen_26 r4 FU 0 (ii w) (ii i) (ii (o i)) (ii 0) (ii 0) (NW K (mg A1 g)) = fX7_laysChosen_121 r4 0 (ii w) (ii i) (ii (o i)) (ii (mob (FW (A 0 9) o (A 2) (stM A g) (i + 1)) (FW (A 0 9) o (A 2) (stM A g) i w) (A 2 (o i)) (stM A g (o i)) w)) (NW K (mg A1 g)) := by
  have h9 := hA.1.2.2.2.2.2.2.2
  have hk := kindsOK_of hA hL hO
  have e37 := hs1.1 37 (by omega)
  obtain ⟨k1, k2, k3⟩ := hk i hI hi
  have hlm := (hA.2.2.1 (o i) k1.1 (by omega)).2
  have hst := stM_b (A := A) hL (o i) (by omega)
  have hbm := bnd_mul (A 2 (o i)) (stM A g (o i)) w k2 hwb.1
  have hb0 := bnd_0 (A 2 (o i)) (stM A g (o i)) w k2 ⟨hst.1, hwb.1⟩
  have hbo := bnd_out (A 2 (o i)) (stM A g (o i)) w k2
  have hbb : bnd (A 2 (o i)) (stM A g (o i)) w ≤ 5002 := by unfold bnd; split <;> omega
  have hlo := e_leftOf (K := K) (A := A1) hL (o i) (by omega) (by rw [e37]; exact h37)
  rw [scr_st hs1] at hlo
  refine lp (fun m j (b : Int) => fX7_laysChosen_26 r4 m 0 (ii w) (ii i) (ii (o i)) (ii b) (ii j) (NW K (mg A1 g))) (fun x => x = _) (fun j b => 0 ≤ j ∧ b = moN (FW (A 0 9) o (A 2) (stM A g) (i + 1)) (FW (A 0 9) o (A 2) (stM A g) i w) (A 2 (o i)) w j.toNat) (bnd (A 2 (o i)) (stM A g (o i)) w) ?_ ?_ FU 0 0 (by omega) ⟨by omega, rfl⟩ (by have := FU_e; omega)
  · rintro m j b hj ⟨hJ, hb⟩
    obtain ⟨h1, h2⟩ := (bnd_lt (A 2 (o i)) (stM A g (o i)) w j k2).mp hj
    have h3 : 0 ≤ j * A 2 (o i) := Int.mul_nonneg hJ (by omega)
    have h4 := ht (i + 1) (w - j * A 2 (o i)) (by omega) (by omega) (by omega) (by omega)
    rw [show 501 * (i + 1) + (w - j * A 2 (o i)) = 501 * (i + 1) + w - j * A 2 (o i) by omega] at h4
    have h5 := ht i w (by omega) (by omega) (by omega) (by omega)
    have h6 := FW_b (A 0 9) o (A 2) (stM A g) (i + 1) (w - j * A 2 (o i))
    have h7 := FW_b (A 0 9) o (A 2) (stM A g) i w
    refine Or.inr ⟨moN (FW (A 0 9) o (A 2) (stM A g) (i + 1)) (FW (A 0 9) o (A 2) (stM A g) i w) (A 2 (o i)) w (j + 1).toNat, ⟨by omega, rfl⟩, ?_⟩
    rw [show (j + 1).toNat = j.toNat + 1 by omega]
    unfold moN
    rw [show ((j.toNat : Nat) : Int) = j by omega, ← hb]
    by_cases q : j + FW (A 0 9) o (A 2) (stM A g) (i + 1) (w - j * A 2 (o i)) = FW (A 0 9) o (A 2) (stM A g) i w
    · simp (disch := first | assumption | omega) only [fX7_laysChosen_26, fX7_laysChosen_99, fX7_laysChosen_113, nR1, nA1, nU1, nR2, nA2, nU2, nR3, nA3, nU3, nR4, nA4, nU4, nR5, nA5, nU5, nR6, nA6, nU6, nR7, nA7, nU7, nR8, nA8, nU8, nR9, nA9, nU9, nR10, nA10, nU10, nR11, nA11, nU11, nR12, nA12, nU12, nR13, nA13, nU13, nR14, nA14, nU14, nR15, nA15, nU15, nR16, nA16, nU16, nI0, nS0, nI1, nS1, nI2, nS2, nI3, nS3, nI4, nS4, nI5, nS5, nI6, nS6, nI7, nS7, nI8, nS8, nI9, nS9, nI15, nS15, nI18, nS18, nI19, nS19, nI20, nS20, nI21, nS21, nI22, nS22, nI23, nS23, nI24, nS24, nI25, nS25, nI26, nS26, nI27, nS27, nI32, nS32, nI36, nS36, nI37, nS37, nI40, nS40, nSZ1, nV, nC, il0, il1, il2, il3, il4, il5, il6, il7, il8, il9, il10, il11, il12, il15, il16, il20, il24, il31, il32, il44, il45, il48, il50, il57, il58, il59, il63, il91, il93, il97, il99, il100, il109, il113, il119, il120, il122, il200, il255, il480, il500, il501, il512, il999, il4112, il41120, il1000000, il1000003, ii_add, ii_sub, ii_mul, ii_neg, ii_le, ii_lt, ii_eq, ii_div, q_I, q_V, q_R, lt_q, rZ_q, md_M, md_16, md_4, md_8, md_10, if_true, if_false, if_pos, if_neg, mg_3, mg_0, mg_1, mg_2, mg_k, mg_up3, mg_upk, hlo, hs1.c2, h4, h5]
    · simp (disch := first | assumption | omega) only [fX7_laysChosen_26, fX7_laysChosen_99, fX7_laysChosen_113, nR1, nA1, nU1, nR2, nA2, nU2, nR3, nA3, nU3, nR4, nA4, nU4, nR5, nA5, nU5, nR6, nA6, nU6, nR7, nA7, nU7, nR8, nA8, nU8, nR9, nA9, nU9, nR10, nA10, nU10, nR11, nA11, nU11, nR12, nA12, nU12, nR13, nA13, nU13, nR14, nA14, nU14, nR15, nA15, nU15, nR16, nA16, nU16, nI0, nS0, nI1, nS1, nI2, nS2, nI3, nS3, nI4, nS4, nI5, nS5, nI6, nS6, nI7, nS7, nI8, nS8, nI9, nS9, nI15, nS15, nI18, nS18, nI19, nS19, nI20, nS20, nI21, nS21, nI22, nS22, nI23, nS23, nI24, nS24, nI25, nS25, nI26, nS26, nI27, nS27, nI32, nS32, nI36, nS36, nI37, nS37, nI40, nS40, nSZ1, nV, nC, il0, il1, il2, il3, il4, il5, il6, il7, il8, il9, il10, il11, il12, il15, il16, il20, il24, il31, il32, il44, il45, il48, il50, il57, il58, il59, il63, il91, il93, il97, il99, il100, il109, il113, il119, il120, il122, il200, il255, il480, il500, il501, il512, il999, il4112, il41120, il1000000, il1000003, ii_add, ii_sub, ii_mul, ii_neg, ii_le, ii_lt, ii_eq, ii_div, q_I, q_V, q_R, lt_q, rZ_q, md_M, md_16, md_4, md_8, md_10, if_true, if_false, if_pos, if_neg, mg_3, mg_0, mg_1, mg_2, mg_k, mg_up3, mg_upk, hlo, hs1.c2, h4, h5]
  · rintro m b ⟨hJ, hb⟩
    have h3 : 0 ≤ bnd (A 2 (o i)) (stM A g (o i)) w * A 2 (o i) := Int.mul_nonneg hJ (by omega)
    unfold mob
    rw [← hb]
    by_cases q : stM A g (o i) < bnd (A 2 (o i)) (stM A g (o i)) w
    · simp (disch := first | assumption | omega) only [fX7_laysChosen_26, nR1, nA1, nU1, nR2, nA2, nU2, nR3, nA3, nU3, nR4, nA4, nU4, nR5, nA5, nU5, nR6, nA6, nU6, nR7, nA7, nU7, nR8, nA8, nU8, nR9, nA9, nU9, nR10, nA10, nU10, nR11, nA11, nU11, nR12, nA12, nU12, nR13, nA13, nU13, nR14, nA14, nU14, nR15, nA15, nU15, nR16, nA16, nU16, nI0, nS0, nI1, nS1, nI2, nS2, nI3, nS3, nI4, nS4, nI5, nS5, nI6, nS6, nI7, nS7, nI8, nS8, nI9, nS9, nI15, nS15, nI18, nS18, nI19, nS19, nI20, nS20, nI21, nS21, nI22, nS22, nI23, nS23, nI24, nS24, nI25, nS25, nI26, nS26, nI27, nS27, nI32, nS32, nI36, nS36, nI37, nS37, nI40, nS40, nSZ1, nV, nC, il0, il1, il2, il3, il4, il5, il6, il7, il8, il9, il10, il11, il12, il15, il16, il20, il24, il31, il32, il44, il45, il48, il50, il57, il58, il59, il63, il91, il93, il97, il99, il100, il109, il113, il119, il120, il122, il200, il255, il480, il500, il501, il512, il999, il4112, il41120, il1000000, il1000003, ii_add, ii_sub, ii_mul, ii_neg, ii_le, ii_lt, ii_eq, ii_div, q_I, q_V, q_R, lt_q, rZ_q, md_M, md_16, md_4, md_8, md_10, if_true, if_false, if_pos, if_neg, mg_3, mg_0, mg_1, mg_2, mg_k, mg_up3, mg_upk, hlo, hs1.c2]
    · simp (disch := first | assumption | omega) only [fX7_laysChosen_26, nR1, nA1, nU1, nR2, nA2, nU2, nR3, nA3, nU3, nR4, nA4, nU4, nR5, nA5, nU5, nR6, nA6, nU6, nR7, nA7, nU7, nR8, nA8, nU8, nR9, nA9, nU9, nR10, nA10, nU10, nR11, nA11, nU11, nR12, nA12, nU12, nR13, nA13, nU13, nR14, nA14, nU14, nR15, nA15, nU15, nR16, nA16, nU16, nI0, nS0, nI1, nS1, nI2, nS2, nI3, nS3, nI4, nS4, nI5, nS5, nI6, nS6, nI7, nS7, nI8, nS8, nI9, nS9, nI15, nS15, nI18, nS18, nI19, nS19, nI20, nS20, nI21, nS21, nI22, nS22, nI23, nS23, nI24, nS24, nI25, nS25, nI26, nS26, nI27, nS27, nI32, nS32, nI36, nS36, nI37, nS37, nI40, nS40, nSZ1, nV, nC, il0, il1, il2, il3, il4, il5, il6, il7, il8, il9, il10, il11, il12, il15, il16, il20, il24, il31, il32, il44, il45, il48, il50, il57, il58, il59, il63, il91, il93, il97, il99, il100, il109, il113, il119, il120, il122, il200, il255, il480, il500, il501, il512, il999, il4112, il41120, il1000000, il1000003, ii_add, ii_sub, ii_mul, ii_neg, ii_le, ii_lt, ii_eq, ii_div, q_I, q_V, q_R, lt_q, rZ_q, md_M, md_16, md_4, md_8, md_10, if_true, if_false, if_pos, if_neg, mg_3, mg_0, mg_1, mg_2, mg_k, mg_up3, mg_upk, hlo, hs1.c2]
theorem e_laysChosen (hA : SA A) (hL : GL g) (h37 : -1 ≤ A 0 37 ∧ A 0 37 < 10) (hO : ordOK (A 1) (A 2) (A 0 9) o) (most s : Int) (hs : (0 ≤ s ∧ s ≤ most) ∧ most ≤ 500) (h12 : ∀ p, 0 ≤ p → p < A 0 9 → A 12 p = o p) (h13 : T13 (A 0 9) o (A 2) (stM A g) most 0 A) :
    ∃ A', fX7_laysChosen 0 (ii s) (NW K (mg A g)) = some (Sum.inl none, NW K (mg A' g)) ∧ scr A A' ∧ A' 12 = A 12 ∧ A' 0 36 = A 0 36 ∧ ∀ p, 0 ≤ p → p < A 0 9 → A' 14 (o p) = tk (A 0 9) o (A 2) (stM A g) s p := by
  have h9 := hA.1.2.2.2.2.2.2.2
  have hk := kindsOK_of hA hL hO
  simp only [fX7_laysChosen, il0]
  refine lp (fun n i (t : Int × AI) => fX7_laysChosen_4 n 0 (ii t.1) (ii i) (NW K (mg t.2 g))) (fun x => ∃ A', x = some (Sum.inl none, NW K (mg A' g)) ∧ scr A A' ∧ A' 12 = A 12 ∧ A' 0 36 = A 0 36 ∧ ∀ p, 0 ≤ p → p < A 0 9 → A' 14 (o p) = tk (A 0 9) o (A 2) (stM A g) s p)
    (fun i t => (0 ≤ i ∧ scr A t.2 ∧ t.2 12 = A 12 ∧ t.2 0 36 = A 0 36) ∧ (t.1 = reN (A 0 9) o (A 2) (stM A g) s i.toNat ∧ T13 (A 0 9) o (A 2) (stM A g) most 0 t.2) ∧ ∀ p, 0 ≤ p → p < i → t.2 14 (o p) = tk (A 0 9) o (A 2) (stM A g) s p) (A 0 9) ?_ ?_ FU 0 (s, A) (by omega) ⟨⟨by omega, scr.refl A, rfl, rfl⟩, ⟨rfl, h13⟩, fun p a b => by omega⟩ (by have := FU_e; omega)
  · rintro n i ⟨w, A1⟩ hi ⟨⟨hI, hs1, h121, h361⟩, ⟨hw, ht⟩, hc⟩
    dsimp only at hs1 h121 h361 hw ht hc ⊢
    have e9 := hs1.1 9 (by omega)
    have hwb := reN_b hk hs.1.1 i.toNat (by omega)
    rw [← hw] at hwb
    obtain ⟨k1, k2, k3⟩ := hk i hI hi
    have hst := stM_b (A := A) hL (o i) (by omega)
    have hmb := mob_b (FW (A 0 9) o (A 2) (stM A g) (i + 1)) (FW (A 0 9) o (A 2) (stM A g) i w) (A 2 (o i)) (stM A g (o i)) w k2 ⟨k3, hwb.1⟩
    have h12i := h12 i hI hi
    have tki : tk (A 0 9) o (A 2) (stM A g) s i = mob (FW (A 0 9) o (A 2) (stM A g) (i + 1)) (FW (A 0 9) o (A 2) (stM A g) i w) (A 2 (o i)) (stM A g (o i)) w := by unfold tk; rw [← hw]
    have inner := e_mostRow (K := K) (g := g) (o := o) hA hL h37 hO hs1 most w i (by omega) hs.2 hI hi ht (fX7_laysChosen_4 n)
    have hre := reN_s (A 0 9) o (A 2) (stM A g) s i hI
    rw [← hw] at hre
    refine Or.inr ⟨(w - tk (A 0 9) o (A 2) (stM A g) s i * A 2 (o i), up A1 14 (o i) (tk (A 0 9) o (A 2) (stM A g) s i)), ⟨⟨by omega, scr_up hs1 14 _ _ (by omega), ?_, ?_⟩, ⟨hre.symm, ?_⟩, ?_⟩, ?_⟩
    · dsimp only; rw [← h121]; funext z; exact up_n _ _ _ _ _ _ (by omega)
    · dsimp only; rw [← h361]; exact up_n _ _ _ _ _ _ (by omega)
    · intro k z a b c d
      dsimp only
      rw [up_n _ _ _ _ _ _ (by omega)]; exact ht k z a b c d
    · intro p a b
      dsimp only
      by_cases q : p = i
      · rw [q, up_s]
      · rw [up_n _ _ _ _ _ _ (fun z => q (ord_inj hO p i ⟨a, by omega⟩ ⟨hI, hi⟩ z.2))]
        exact hc p a (by omega)
    · simp (disch := first | assumption | omega) only [fX7_laysChosen_4, nR1, nA1, nU1, nR2, nA2, nU2, nR3, nA3, nU3, nR4, nA4, nU4, nR5, nA5, nU5, nR6, nA6, nU6, nR7, nA7, nU7, nR8, nA8, nU8, nR9, nA9, nU9, nR10, nA10, nU10, nR11, nA11, nU11, nR12, nA12, nU12, nR13, nA13, nU13, nR14, nA14, nU14, nR15, nA15, nU15, nR16, nA16, nU16, nI0, nS0, nI1, nS1, nI2, nS2, nI3, nS3, nI4, nS4, nI5, nS5, nI6, nS6, nI7, nS7, nI8, nS8, nI9, nS9, nI15, nS15, nI18, nS18, nI19, nS19, nI20, nS20, nI21, nS21, nI22, nS22, nI23, nS23, nI24, nS24, nI25, nS25, nI26, nS26, nI27, nS27, nI32, nS32, nI36, nS36, nI37, nS37, nI40, nS40, nSZ1, nV, nC, il0, il1, il2, il3, il4, il5, il6, il7, il8, il9, il10, il11, il12, il15, il16, il20, il24, il31, il32, il44, il45, il48, il50, il57, il58, il59, il63, il91, il93, il97, il99, il100, il109, il113, il119, il120, il122, il200, il255, il480, il500, il501, il512, il999, il4112, il41120, il1000000, il1000003, ii_add, ii_sub, ii_mul, ii_neg, ii_le, ii_lt, ii_eq, ii_div, q_I, q_V, q_R, lt_q, rZ_q, md_M, md_16, md_4, md_8, md_10, if_true, if_false, if_pos, if_neg, mg_3, mg_0, mg_1, mg_2, mg_k, mg_up3, mg_upk, e9, h121, h12i]
      rw [inner, ← tki]
      simp (disch := first | assumption | omega) only [fX7_laysChosen_121, nR1, nA1, nU1, nR2, nA2, nU2, nR3, nA3, nU3, nR4, nA4, nU4, nR5, nA5, nU5, nR6, nA6, nU6, nR7, nA7, nU7, nR8, nA8, nU8, nR9, nA9, nU9, nR10, nA10, nU10, nR11, nA11, nU11, nR12, nA12, nU12, nR13, nA13, nU13, nR14, nA14, nU14, nR15, nA15, nU15, nR16, nA16, nU16, nI0, nS0, nI1, nS1, nI2, nS2, nI3, nS3, nI4, nS4, nI5, nS5, nI6, nS6, nI7, nS7, nI8, nS8, nI9, nS9, nI15, nS15, nI18, nS18, nI19, nS19, nI20, nS20, nI21, nS21, nI22, nS22, nI23, nS23, nI24, nS24, nI25, nS25, nI26, nS26, nI27, nS27, nI32, nS32, nI36, nS36, nI37, nS37, nI40, nS40, nSZ1, nV, nC, il0, il1, il2, il3, il4, il5, il6, il7, il8, il9, il10, il11, il12, il15, il16, il20, il24, il31, il32, il44, il45, il48, il50, il57, il58, il59, il63, il91, il93, il97, il99, il100, il109, il113, il119, il120, il122, il200, il255, il480, il500, il501, il512, il999, il4112, il41120, il1000000, il1000003, ii_add, ii_sub, ii_mul, ii_neg, ii_le, ii_lt, ii_eq, ii_div, q_I, q_V, q_R, lt_q, rZ_q, md_M, md_16, md_4, md_8, md_10, if_true, if_false, if_pos, if_neg, mg_3, mg_0, mg_1, mg_2, mg_k, mg_up3, mg_upk, up_n, hs1.c2]
  · rintro n ⟨w, A1⟩ ⟨⟨hI, hs1, h121, h361⟩, ⟨hw, ht⟩, hc⟩
    dsimp only at hs1 h121 h361 hw ht hc ⊢
    have e9 := hs1.1 9 (by omega)
    refine ⟨A1, ?_, hs1, h121, h361, hc⟩
    rw [fX7_laysChosen_4, nI9, if_pos (show ii (mg A1 g 0 9) ≤ ii (A 0 9) by rw [mg_0, e9]; exact Int32.le_refl _)]
theorem e_chooses (hA : SA A) (hL : GL g) (h37 : -1 ≤ A 0 37 ∧ A 0 37 < 10) (hO : ordOK (A 1) (A 2) (A 0 9) o) (hr : 0 ≤ r ∧ r < 8) (hR : RG g r) (h0 : 0 ≤ g 0 ∧ g 0 ≤ 1000) (hN : 0 ≤ needM A g r ∧ needM A g r ≤ 500) :
    PCh K A g o r (fX7_chooses 0 (ii r) (NW K (mg A g))) := by
  have h5 := hA.1.2.2.2.1
  have h4 := hA.1.2.2.1
  obtain ⟨A1, e1, s1, o1, t1⟩ := e_laysFewest (K := K) (g := g) hA hL h37 hO (needM A g r) hN
  have hb := chL_b (o := o) (r := r) (g := g) hA hN
  -- the end
  have fin : ∀ A2, scr A A2 → A2 0 36 = (chL A g o r).2 → (∀ p, 0 ≤ p → p < A 0 9 → A2 12 p = o p) → T13 (A 0 9) o (A 2) (stM A g) (needM A g r) 0 A2 →
      PCh K A g o r (fX7_chooses_109 0 (ii r) (ii (chL A g o r).1) (NW K (mg A2 g))) := by
    intro A2 s2 p2 o2 t2
    by_cases q : (chL A g o r).1 < 1000000
    · have hb2 := hb.2.2 q
      have e9 := s2.1 9 (by omega)
      have e4 := s2.1 4 (by omega)
      have hsf := e_sumFor (K := K) (scr_SA s2 hA) hr hR (chL A g o r).2 (by omega)
      rw [scr_need s2, e4] at hsf
      have hsf2 : (if (chL A g o r).2 = -1 then needM A g r else needM A g r - A 0 4 - (chL A g o r).2) = chS A g o r := rfl
      rw [hsf2] at hsf
      obtain ⟨A3, e3, s3, o3, p3, c3⟩ := e_laysChosen (K := K) (g := g) (o := o) (scr_SA s2 hA) hL (by rw [s2.1 37 (by omega)]; exact h37) (by rw [s2.c1, s2.c2, e9]; exact hO) (needM A g r) (chS A g o r) ⟨hb2.1, hN.2⟩ (by rw [e9]; exact o2) (by rw [e9, s2.c2, scr_st s2]; exact t2)
      rw [e9, s2.c2, scr_st s2] at c3
      refine ⟨A3, ?_, s2.trans s3, p3.trans p2, by rw [o3]; exact o2, fun _ => c3⟩
      simp (disch := first | assumption | omega) only [fX7_chooses_109, nR1, nA1, nU1, nR2, nA2, nU2, nR3, nA3, nU3, nR4, nA4, nU4, nR5, nA5, nU5, nR6, nA6, nU6, nR7, nA7, nU7, nR8, nA8, nU8, nR9, nA9, nU9, nR10, nA10, nU10, nR11, nA11, nU11, nR12, nA12, nU12, nR13, nA13, nU13, nR14, nA14, nU14, nR15, nA15, nU15, nR16, nA16, nU16, nI0, nS0, nI1, nS1, nI2, nS2, nI3, nS3, nI4, nS4, nI5, nS5, nI6, nS6, nI7, nS7, nI8, nS8, nI9, nS9, nI15, nS15, nI18, nS18, nI19, nS19, nI20, nS20, nI21, nS21, nI22, nS22, nI23, nS23, nI24, nS24, nI25, nS25, nI26, nS26, nI27, nS27, nI32, nS32, nI36, nS36, nI37, nS37, nI40, nS40, nSZ1, nV, nC, il0, il1, il2, il3, il4, il5, il6, il7, il8, il9, il10, il11, il12, il15, il16, il20, il24, il31, il32, il44, il45, il48, il50, il57, il58, il59, il63, il91, il93, il97, il99, il100, il109, il113, il119, il120, il122, il200, il255, il480, il500, il501, il512, il999, il4112, il41120, il1000000, il1000003, ii_add, ii_sub, ii_mul, ii_neg, ii_le, ii_lt, ii_eq, ii_div, q_I, q_V, q_R, lt_q, rZ_q, md_M, md_16, md_4, md_8, md_10, if_true, if_false, if_pos, if_neg, mg_3, mg_0, mg_1, mg_2, mg_k, mg_up3, mg_upk, p2, hsf, e3]
    · refine ⟨A2, ?_, s2, p2, o2, fun z => absurd z q⟩
      simp (disch := first | assumption | omega) only [fX7_chooses_109, nR1, nA1, nU1, nR2, nA2, nU2, nR3, nA3, nU3, nR4, nA4, nU4, nR5, nA5, nU5, nR6, nA6, nU6, nR7, nA7, nU7, nR8, nA8, nU8, nR9, nA9, nU9, nR10, nA10, nU10, nR11, nA11, nU11, nR12, nA12, nU12, nR13, nA13, nU13, nR14, nA14, nU14, nR15, nA15, nU15, nR16, nA16, nU16, nI0, nS0, nI1, nS1, nI2, nS2, nI3, nS3, nI4, nS4, nI5, nS5, nI6, nS6, nI7, nS7, nI8, nS8, nI9, nS9, nI15, nS15, nI18, nS18, nI19, nS19, nI20, nS20, nI21, nS21, nI22, nS22, nI23, nS23, nI24, nS24, nI25, nS25, nI26, nS26, nI27, nS27, nI32, nS32, nI36, nS36, nI37, nS37, nI40, nS40, nSZ1, nV, nC, il0, il1, il2, il3, il4, il5, il6, il7, il8, il9, il10, il11, il12, il15, il16, il20, il24, il31, il32, il44, il45, il48, il50, il57, il58, il59, il63, il91, il93, il97, il99, il100, il109, il113, il119, il120, il122, il200, il255, il480, il500, il501, il512, il999, il4112, il41120, il1000000, il1000003, ii_add, ii_sub, ii_mul, ii_neg, ii_le, ii_lt, ii_eq, ii_div, q_I, q_V, q_R, lt_q, rZ_q, md_M, md_16, md_4, md_8, md_10, if_true, if_false, if_pos, if_neg, mg_3, mg_0, mg_1, mg_2, mg_k, mg_up3, mg_upk]
  have s1' : scr A (up A1 0 36 (-1)) := scr_up36 s1 (-1)
  have o1' : ∀ p, 0 ≤ p → p < A 0 9 → up A1 0 36 (-1) 12 p = o p := fun p a b => by rw [up_n _ _ _ _ _ _ (by omega)]; exact o1 p a b
  have t1' : T13 (A 0 9) o (A 2) (stM A g) (needM A g r) 0 (up A1 0 36 (-1)) := fun k z a b c d => by rw [up_n _ _ _ _ _ _ (by omega)]; exact t1 k z a b c d
  have e5' := s1'.1 5 (by omega)
  by_cases q : canO g r
  · have hco := e_canOpen (K := K) (A := up A1 0 36 (-1)) hr hR h0
    rw [if_pos q] at hco
    simp (disch := first | assumption | omega) only [fX7_chooses, fX7_chooses_33, fX7_chooses_51, nR1, nA1, nU1, nR2, nA2, nU2, nR3, nA3, nU3, nR4, nA4, nU4, nR5, nA5, nU5, nR6, nA6, nU6, nR7, nA7, nU7, nR8, nA8, nU8, nR9, nA9, nU9, nR10, nA10, nU10, nR11, nA11, nU11, nR12, nA12, nU12, nR13, nA13, nU13, nR14, nA14, nU14, nR15, nA15, nU15, nR16, nA16, nU16, nI0, nS0, nI1, nS1, nI2, nS2, nI3, nS3, nI4, nS4, nI5, nS5, nI6, nS6, nI7, nS7, nI8, nS8, nI9, nS9, nI15, nS15, nI18, nS18, nI19, nS19, nI20, nS20, nI21, nS21, nI22, nS22, nI23, nS23, nI24, nS24, nI25, nS25, nI26, nS26, nI27, nS27, nI32, nS32, nI36, nS36, nI37, nS37, nI40, nS40, nSZ1, nV, nC, il0, il1, il2, il3, il4, il5, il6, il7, il8, il9, il10, il11, il12, il15, il16, il20, il24, il31, il32, il44, il45, il48, il50, il57, il58, il59, il63, il91, il93, il97, il99, il100, il109, il113, il119, il120, il122, il200, il255, il480, il500, il501, il512, il999, il4112, il41120, il1000000, il1000003, ii_add, ii_sub, ii_mul, ii_neg, ii_le, ii_lt, ii_eq, ii_div, q_I, q_V, q_R, lt_q, rZ_q, md_M, md_16, md_4, md_8, md_10, if_true, if_false, if_pos, if_neg, mg_3, mg_0, mg_1, mg_2, mg_k, mg_up3, mg_upk, e_need, e1, hco, e5']
    refine lp (fun n i (t : Int × AI) => fX7_chooses_57 n 0 (ii r) (ii t.1) (ii (A 0 5)) (ii i) (NW K (mg t.2 g))) (PCh K A g o r)
      (fun i t => (0 ≤ i ∧ scr A t.2 ∧ t.2 0 36 = (chN (FW (A 0 9) o (A 2) (stM A g) 0) (needM A g r - A 0 4) i.toNat).2 ∧ t.1 = (chN (FW (A 0 9) o (A 2) (stM A g) 0) (needM A g r - A 0 4) i.toNat).1) ∧ (∀ p, 0 ≤ p → p < A 0 9 → t.2 12 p = o p) ∧ T13 (A 0 9) o (A 2) (stM A g) (needM A g r) 0 t.2) (A 0 5 + 1) ?_ ?_ FU 0 (1000000, up A1 0 36 (-1)) (by omega) ⟨⟨by omega, s1', (by show up A1 0 36 (-1) 0 36 = -1; exact up_s _ _ _ _), rfl⟩, o1', t1'⟩ (by have := FU_e; omega)
    · rintro n i ⟨l, A2⟩ hi ⟨⟨hI, s2, p2, hl⟩, o2, t2⟩
      dsimp only at s2 p2 hl o2 t2 ⊢
      have e4 := s2.1 4 (by omega)
      have hsf := e_sumFor (K := K) (scr_SA s2 hA) hr hR i (by omega)
      rw [scr_need s2, e4, if_neg (by omega)] at hsf
      have hcb := chN_b (FW (A 0 9) o (A 2) (stM A g) 0) (needM A g r - A 0 4) (fun z => (FW_b _ _ _ _ _ z).1) i.toNat
      rw [← hl] at hcb
      have hfb := FW_b (A 0 9) o (A 2) (stM A g) 0 (needM A g r - A 0 4 - i)
      refine Or.inr ⟨((chN (FW (A 0 9) o (A 2) (stM A g) 0) (needM A g r - A 0 4) (i + 1).toNat).1, if 0 ≤ needM A g r - A 0 4 - i ∧ FW (A 0 9) o (A 2) (stM A g) 0 (needM A g r - A 0 4 - i) < l then up A2 0 36 i else A2), ?_, ?_⟩
      · dsimp only
        rw [show (i + 1).toNat = i.toNat + 1 by omega]
        unfold chN
        rw [show ((i.toNat : Nat) : Int) = i by omega, ← hl]
        by_cases c : 0 ≤ needM A g r - A 0 4 - i ∧ FW (A 0 9) o (A 2) (stM A g) 0 (needM A g r - A 0 4 - i) < l
        · rw [if_pos c, if_pos c]
          refine ⟨⟨by omega, scr_up36 s2 i, up_s _ _ _ _, rfl⟩, fun p a b => by rw [up_n _ _ _ _ _ _ (by omega)]; exact o2 p a b, fun k z a b c d => by rw [up_n _ _ _ _ _ _ (by omega)]; exact t2 k z a b c d⟩
        · rw [if_neg c, if_neg c]
          exact ⟨⟨by omega, s2, p2, rfl⟩, o2, t2⟩
      · dsimp only
        rw [show (i + 1).toNat = i.toNat + 1 by omega]
        unfold chN
        rw [show ((i.toNat : Nat) : Int) = i by omega, ← hl]
        by_cases c1 : 0 ≤ needM A g r - A 0 4 - i
        · have ht0 := t2 0 (needM A g r - A 0 4 - i) (by omega) (by have := hA.1.2.2.2.2.2.2.2; omega) c1 (by omega)
          rw [show 501 * 0 + (needM A g r - A 0 4 - i) = needM A g r - A 0 4 - i by omega] at ht0
          by_cases c2 : FW (A 0 9) o (A 2) (stM A g) 0 (needM A g r - A 0 4 - i) < l
          · rw [if_pos ⟨c1, c2⟩, if_pos ⟨c1, c2⟩]
            simp (disch := first | assumption | omega) only [fX7_chooses_57, fX7_chooses_103, nR1, nA1, nU1, nR2, nA2, nU2, nR3, nA3, nU3, nR4, nA4, nU4, nR5, nA5, nU5, nR6, nA6, nU6, nR7, nA7, nU7, nR8, nA8, nU8, nR9, nA9, nU9, nR10, nA10, nU10, nR11, nA11, nU11, nR12, nA12, nU12, nR13, nA13, nU13, nR14, nA14, nU14, nR15, nA15, nU15, nR16, nA16, nU16, nI0, nS0, nI1, nS1, nI2, nS2, nI3, nS3, nI4, nS4, nI5, nS5, nI6, nS6, nI7, nS7, nI8, nS8, nI9, nS9, nI15, nS15, nI18, nS18, nI19, nS19, nI20, nS20, nI21, nS21, nI22, nS22, nI23, nS23, nI24, nS24, nI25, nS25, nI26, nS26, nI27, nS27, nI32, nS32, nI36, nS36, nI37, nS37, nI40, nS40, nSZ1, nV, nC, il0, il1, il2, il3, il4, il5, il6, il7, il8, il9, il10, il11, il12, il15, il16, il20, il24, il31, il32, il44, il45, il48, il50, il57, il58, il59, il63, il91, il93, il97, il99, il100, il109, il113, il119, il120, il122, il200, il255, il480, il500, il501, il512, il999, il4112, il41120, il1000000, il1000003, ii_add, ii_sub, ii_mul, ii_neg, ii_le, ii_lt, ii_eq, ii_div, q_I, q_V, q_R, lt_q, rZ_q, md_M, md_16, md_4, md_8, md_10, if_true, if_false, if_pos, if_neg, mg_3, mg_0, mg_1, mg_2, mg_k, mg_up3, mg_upk, hsf, ht0]
          · rw [if_neg (fun z => c2 z.2), if_neg (fun z => c2 z.2), ← hl]
            simp (disch := first | assumption | omega) only [fX7_chooses_57, fX7_chooses_103, nR1, nA1, nU1, nR2, nA2, nU2, nR3, nA3, nU3, nR4, nA4, nU4, nR5, nA5, nU5, nR6, nA6, nU6, nR7, nA7, nU7, nR8, nA8, nU8, nR9, nA9, nU9, nR10, nA10, nU10, nR11, nA11, nU11, nR12, nA12, nU12, nR13, nA13, nU13, nR14, nA14, nU14, nR15, nA15, nU15, nR16, nA16, nU16, nI0, nS0, nI1, nS1, nI2, nS2, nI3, nS3, nI4, nS4, nI5, nS5, nI6, nS6, nI7, nS7, nI8, nS8, nI9, nS9, nI15, nS15, nI18, nS18, nI19, nS19, nI20, nS20, nI21, nS21, nI22, nS22, nI23, nS23, nI24, nS24, nI25, nS25, nI26, nS26, nI27, nS27, nI32, nS32, nI36, nS36, nI37, nS37, nI40, nS40, nSZ1, nV, nC, il0, il1, il2, il3, il4, il5, il6, il7, il8, il9, il10, il11, il12, il15, il16, il20, il24, il31, il32, il44, il45, il48, il50, il57, il58, il59, il63, il91, il93, il97, il99, il100, il109, il113, il119, il120, il122, il200, il255, il480, il500, il501, il512, il999, il4112, il41120, il1000000, il1000003, ii_add, ii_sub, ii_mul, ii_neg, ii_le, ii_lt, ii_eq, ii_div, q_I, q_V, q_R, lt_q, rZ_q, md_M, md_16, md_4, md_8, md_10, if_true, if_false, if_pos, if_neg, mg_3, mg_0, mg_1, mg_2, mg_k, mg_up3, mg_upk, hsf, ht0]
        · rw [if_neg (fun z => c1 z.1), if_neg (fun z => c1 z.1), ← hl]
          simp (disch := first | assumption | omega) only [fX7_chooses_57, fX7_chooses_103, nR1, nA1, nU1, nR2, nA2, nU2, nR3, nA3, nU3, nR4, nA4, nU4, nR5, nA5, nU5, nR6, nA6, nU6, nR7, nA7, nU7, nR8, nA8, nU8, nR9, nA9, nU9, nR10, nA10, nU10, nR11, nA11, nU11, nR12, nA12, nU12, nR13, nA13, nU13, nR14, nA14, nU14, nR15, nA15, nU15, nR16, nA16, nU16, nI0, nS0, nI1, nS1, nI2, nS2, nI3, nS3, nI4, nS4, nI5, nS5, nI6, nS6, nI7, nS7, nI8, nS8, nI9, nS9, nI15, nS15, nI18, nS18, nI19, nS19, nI20, nS20, nI21, nS21, nI22, nS22, nI23, nS23, nI24, nS24, nI25, nS25, nI26, nS26, nI27, nS27, nI32, nS32, nI36, nS36, nI37, nS37, nI40, nS40, nSZ1, nV, nC, il0, il1, il2, il3, il4, il5, il6, il7, il8, il9, il10, il11, il12, il15, il16, il20, il24, il31, il32, il44, il45, il48, il50, il57, il58, il59, il63, il91, il93, il97, il99, il100, il109, il113, il119, il120, il122, il200, il255, il480, il500, il501, il512, il999, il4112, il41120, il1000000, il1000003, ii_add, ii_sub, ii_mul, ii_neg, ii_le, ii_lt, ii_eq, ii_div, q_I, q_V, q_R, lt_q, rZ_q, md_M, md_16, md_4, md_8, md_10, if_true, if_false, if_pos, if_neg, mg_3, mg_0, mg_1, mg_2, mg_k, mg_up3, mg_upk, hsf]
    · rintro n ⟨l, A2⟩ ⟨⟨hI, s2, p2, hl⟩, o2, t2⟩
      dsimp only at s2 p2 hl o2 t2 ⊢
      have hE : chL A g o r = chN (FW (A 0 9) o (A 2) (stM A g) 0) (needM A g r - A 0 4) (A 0 5 + 1).toNat := if_pos q
      rw [← hE] at p2 hl
      rw [hl]
      simp (disch := first | assumption | omega) only [fX7_chooses_57, nR1, nA1, nU1, nR2, nA2, nU2, nR3, nA3, nU3, nR4, nA4, nU4, nR5, nA5, nU5, nR6, nA6, nU6, nR7, nA7, nU7, nR8, nA8, nU8, nR9, nA9, nU9, nR10, nA10, nU10, nR11, nA11, nU11, nR12, nA12, nU12, nR13, nA13, nU13, nR14, nA14, nU14, nR15, nA15, nU15, nR16, nA16, nU16, nI0, nS0, nI1, nS1, nI2, nS2, nI3, nS3, nI4, nS4, nI5, nS5, nI6, nS6, nI7, nS7, nI8, nS8, nI9, nS9, nI15, nS15, nI18, nS18, nI19, nS19, nI20, nS20, nI21, nS21, nI22, nS22, nI23, nS23, nI24, nS24, nI25, nS25, nI26, nS26, nI27, nS27, nI32, nS32, nI36, nS36, nI37, nS37, nI40, nS40, nSZ1, nV, nC, il0, il1, il2, il3, il4, il5, il6, il7, il8, il9, il10, il11, il12, il15, il16, il20, il24, il31, il32, il44, il45, il48, il50, il57, il58, il59, il63, il91, il93, il97, il99, il100, il109, il113, il119, il120, il122, il200, il255, il480, il500, il501, il512, il999, il4112, il41120, il1000000, il1000003, ii_add, ii_sub, ii_mul, ii_neg, ii_le, ii_lt, ii_eq, ii_div, q_I, q_V, q_R, lt_q, rZ_q, md_M, md_16, md_4, md_8, md_10, if_true, if_false, if_pos, if_neg, mg_3, mg_0, mg_1, mg_2, mg_k, mg_up3, mg_upk]
      exact fin A2 s2 p2 o2 t2
  · have hco := e_canOpen (K := K) (A := up A1 0 36 (-1)) hr hR h0
    rw [if_neg q] at hco
    have hE : chL A g o r = (FW (A 0 9) o (A 2) (stM A g) 0 (needM A g r), -1) := if_neg q
    have hsf := e_sumFor (K := K) (scr_SA s1' hA) hr hR (-1) (by omega)
    rw [scr_need s1', if_pos rfl] at hsf
    have ht0 := t1' 0 (needM A g r) (by omega) (by have := hA.1.2.2.2.2.2.2.2; omega) hN.1 (by omega)
    rw [show 501 * 0 + needM A g r = needM A g r by omega] at ht0
    have hfb := FW_b (A 0 9) o (A 2) (stM A g) 0 (needM A g r)
    obtain ⟨m2, hFU⟩ : ∃ m, FU = m + 1 + 1 := ⟨99999998, rfl⟩
    simp (disch := first | assumption | omega) only [fX7_chooses, fX7_chooses_33, fX7_chooses_51, nR1, nA1, nU1, nR2, nA2, nU2, nR3, nA3, nU3, nR4, nA4, nU4, nR5, nA5, nU5, nR6, nA6, nU6, nR7, nA7, nU7, nR8, nA8, nU8, nR9, nA9, nU9, nR10, nA10, nU10, nR11, nA11, nU11, nR12, nA12, nU12, nR13, nA13, nU13, nR14, nA14, nU14, nR15, nA15, nU15, nR16, nA16, nU16, nI0, nS0, nI1, nS1, nI2, nS2, nI3, nS3, nI4, nS4, nI5, nS5, nI6, nS6, nI7, nS7, nI8, nS8, nI9, nS9, nI15, nS15, nI18, nS18, nI19, nS19, nI20, nS20, nI21, nS21, nI22, nS22, nI23, nS23, nI24, nS24, nI25, nS25, nI26, nS26, nI27, nS27, nI32, nS32, nI36, nS36, nI37, nS37, nI40, nS40, nSZ1, nV, nC, il0, il1, il2, il3, il4, il5, il6, il7, il8, il9, il10, il11, il12, il15, il16, il20, il24, il31, il32, il44, il45, il48, il50, il57, il58, il59, il63, il91, il93, il97, il99, il100, il109, il113, il119, il120, il122, il200, il255, il480, il500, il501, il512, il999, il4112, il41120, il1000000, il1000003, ii_add, ii_sub, ii_mul, ii_neg, ii_le, ii_lt, ii_eq, ii_div, q_I, q_V, q_R, lt_q, rZ_q, md_M, md_16, md_4, md_8, md_10, if_true, if_false, if_pos, if_neg, mg_3, mg_0, mg_1, mg_2, mg_k, mg_up3, mg_upk, e_need, e1, hco]
    rw [hFU]
    by_cases c : FW (A 0 9) o (A 2) (stM A g) 0 (needM A g r) < 1000000
    · have f1 := fin (up (up A1 0 36 (-1)) 0 36 (-1)) (scr_up36 s1' _) (by rw [up_s, hE]) (fun p a b => by rw [up_n _ _ _ _ _ _ (by omega)]; exact o1' p a b) (fun k z a b c d => by rw [up_n _ _ _ _ _ _ (by omega)]; exact t1' k z a b c d)
      have hE1 : (chL A g o r).1 = FW (A 0 9) o (A 2) (stM A g) 0 (needM A g r) := by rw [hE]
      rw [hE1] at f1
      simp (disch := first | assumption | omega) only [fX7_chooses_57, fX7_chooses_103, nR1, nA1, nU1, nR2, nA2, nU2, nR3, nA3, nU3, nR4, nA4, nU4, nR5, nA5, nU5, nR6, nA6, nU6, nR7, nA7, nU7, nR8, nA8, nU8, nR9, nA9, nU9, nR10, nA10, nU10, nR11, nA11, nU11, nR12, nA12, nU12, nR13, nA13, nU13, nR14, nA14, nU14, nR15, nA15, nU15, nR16, nA16, nU16, nI0, nS0, nI1, nS1, nI2, nS2, nI3, nS3, nI4, nS4, nI5, nS5, nI6, nS6, nI7, nS7, nI8, nS8, nI9, nS9, nI15, nS15, nI18, nS18, nI19, nS19, nI20, nS20, nI21, nS21, nI22, nS22, nI23, nS23, nI24, nS24, nI25, nS25, nI26, nS26, nI27, nS27, nI32, nS32, nI36, nS36, nI37, nS37, nI40, nS40, nSZ1, nV, nC, il0, il1, il2, il3, il4, il5, il6, il7, il8, il9, il10, il11, il12, il15, il16, il20, il24, il31, il32, il44, il45, il48, il50, il57, il58, il59, il63, il91, il93, il97, il99, il100, il109, il113, il119, il120, il122, il200, il255, il480, il500, il501, il512, il999, il4112, il41120, il1000000, il1000003, ii_add, ii_sub, ii_mul, ii_neg, ii_le, ii_lt, ii_eq, ii_div, q_I, q_V, q_R, lt_q, rZ_q, md_M, md_16, md_4, md_8, md_10, if_true, if_false, if_pos, if_neg, mg_3, mg_0, mg_1, mg_2, mg_k, mg_up3, mg_upk, hsf, ht0]
      exact f1
    · have f1 := fin (up A1 0 36 (-1)) s1' (by rw [up_s, hE]) o1' t1'
      have hE1 : (chL A g o r).1 = 1000000 := by rw [hE]; dsimp only; omega
      rw [hE1] at f1
      simp (disch := first | assumption | omega) only [fX7_chooses_57, fX7_chooses_103, nR1, nA1, nU1, nR2, nA2, nU2, nR3, nA3, nU3, nR4, nA4, nU4, nR5, nA5, nU5, nR6, nA6, nU6, nR7, nA7, nU7, nR8, nA8, nU8, nR9, nA9, nU9, nR10, nA10, nU10, nR11, nA11, nU11, nR12, nA12, nU12, nR13, nA13, nU13, nR14, nA14, nU14, nR15, nA15, nU15, nR16, nA16, nU16, nI0, nS0, nI1, nS1, nI2, nS2, nI3, nS3, nI4, nS4, nI5, nS5, nI6, nS6, nI7, nS7, nI8, nS8, nI9, nS9, nI15, nS15, nI18, nS18, nI19, nS19, nI20, nS20, nI21, nS21, nI22, nS22, nI23, nS23, nI24, nS24, nI25, nS25, nI26, nS26, nI27, nS27, nI32, nS32, nI36, nS36, nI37, nS37, nI40, nS40, nSZ1, nV, nC, il0, il1, il2, il3, il4, il5, il6, il7, il8, il9, il10, il11, il12, il15, il16, il20, il24, il31, il32, il44, il45, il48, il50, il57, il58, il59, il63, il91, il93, il97, il99, il100, il109, il113, il119, il120, il122, il200, il255, il480, il500, il501, il512, il999, il4112, il41120, il1000000, il1000003, ii_add, ii_sub, ii_mul, ii_neg, ii_le, ii_lt, ii_eq, ii_div, q_I, q_V, q_R, lt_q, rZ_q, md_M, md_16, md_4, md_8, md_10, if_true, if_false, if_pos, if_neg, mg_3, mg_0, mg_1, mg_2, mg_k, mg_up3, mg_upk, hsf, ht0]
      exact f1
theorem e_chosenMany0 (h9 : 0 ≤ A 0 9 ∧ A 0 9 ≤ 10) : fX7_chosenMany 0 (ii 0) (NW K (mg A g)) = some (Sum.inl (some (Value.int (ii (sm (A 14) (A 0 9))))), NW K (mg A g)) := by
  simp only [fX7_chosenMany, il0]
  refine lp (fun n i (s : Int) => fX7_chosenMany_4 n 0 (ii 0) (ii s) (ii i) (NW K (mg A g))) (fun x => x = _) (fun i s => 0 ≤ i ∧ s = sm (A 14) i) (A 0 9) ?_ ?_ FU 0 0 (by omega) ⟨by omega, rfl⟩ (by have := FU_e; omega)
  · rintro n i s hi ⟨hI, hs⟩
    refine Or.inr ⟨s + A 14 i, ⟨by omega, by rw [sm_s _ _ hI, ← hs]⟩, ?_⟩
    simp (disch := first | assumption | omega) only [fX7_chosenMany_4, fX7_chosenMany_30, fX7_chosenMany_36, nR1, nA1, nU1, nR2, nA2, nU2, nR3, nA3, nU3, nR4, nA4, nU4, nR5, nA5, nU5, nR6, nA6, nU6, nR7, nA7, nU7, nR8, nA8, nU8, nR9, nA9, nU9, nR10, nA10, nU10, nR11, nA11, nU11, nR12, nA12, nU12, nR13, nA13, nU13, nR14, nA14, nU14, nR15, nA15, nU15, nR16, nA16, nU16, nI0, nS0, nI1, nS1, nI2, nS2, nI3, nS3, nI4, nS4, nI5, nS5, nI6, nS6, nI7, nS7, nI8, nS8, nI9, nS9, nI15, nS15, nI18, nS18, nI19, nS19, nI20, nS20, nI21, nS21, nI22, nS22, nI23, nS23, nI24, nS24, nI25, nS25, nI26, nS26, nI27, nS27, nI32, nS32, nI36, nS36, nI37, nS37, nI40, nS40, nSZ1, nV, nC, il0, il1, il2, il3, il4, il5, il6, il7, il8, il9, il10, il11, il12, il15, il16, il20, il24, il31, il32, il44, il45, il48, il50, il57, il58, il59, il63, il91, il93, il97, il99, il100, il109, il113, il119, il120, il122, il200, il255, il480, il500, il501, il512, il999, il4112, il41120, il1000000, il1000003, ii_add, ii_sub, ii_mul, ii_neg, ii_le, ii_lt, ii_eq, ii_div, q_I, q_V, q_R, lt_q, rZ_q, md_M, md_16, md_4, md_8, md_10, if_true, if_false, if_pos, if_neg, mg_3, mg_0, mg_1, mg_2, mg_k, mg_up3, mg_upk]
  · rintro n s ⟨hI, hs⟩
    simp (disch := first | assumption | omega) only [fX7_chosenMany_4, nR1, nA1, nU1, nR2, nA2, nU2, nR3, nA3, nU3, nR4, nA4, nU4, nR5, nA5, nU5, nR6, nA6, nU6, nR7, nA7, nU7, nR8, nA8, nU8, nR9, nA9, nU9, nR10, nA10, nU10, nR11, nA11, nU11, nR12, nA12, nU12, nR13, nA13, nU13, nR14, nA14, nU14, nR15, nA15, nU15, nR16, nA16, nU16, nI0, nS0, nI1, nS1, nI2, nS2, nI3, nS3, nI4, nS4, nI5, nS5, nI6, nS6, nI7, nS7, nI8, nS8, nI9, nS9, nI15, nS15, nI18, nS18, nI19, nS19, nI20, nS20, nI21, nS21, nI22, nS22, nI23, nS23, nI24, nS24, nI25, nS25, nI26, nS26, nI27, nS27, nI32, nS32, nI36, nS36, nI37, nS37, nI40, nS40, nSZ1, nV, nC, il0, il1, il2, il3, il4, il5, il6, il7, il8, il9, il10, il11, il12, il15, il16, il20, il24, il31, il32, il44, il45, il48, il50, il57, il58, il59, il63, il91, il93, il97, il99, il100, il109, il113, il119, il120, il122, il200, il255, il480, il500, il501, il512, il999, il4112, il41120, il1000000, il1000003, ii_add, ii_sub, ii_mul, ii_neg, ii_le, ii_lt, ii_eq, ii_div, q_I, q_V, q_R, lt_q, rZ_q, md_M, md_16, md_4, md_8, md_10, if_true, if_false, if_pos, if_neg, mg_3, mg_0, mg_1, mg_2, mg_k, mg_up3, mg_upk]
    rw [hs]
theorem e_chosenMany1 (hA : SA A) : fX7_chosenMany 0 (ii 1) (NW K (mg A g)) = some (Sum.inl (some (Value.int (ii (sm (fun k => if A 1 k = 0 then A 14 k else 0) (A 0 9))))), NW K (mg A g)) := by
  have h9 := hA.1.2.2.2.2.2.2.2
  simp only [fX7_chosenMany, il0]
  refine lp (fun n i (s : Int) => fX7_chosenMany_4 n 0 (ii 1) (ii s) (ii i) (NW K (mg A g))) (fun x => x = _) (fun i s => 0 ≤ i ∧ s = sm (fun k => if A 1 k = 0 then A 14 k else 0) i) (A 0 9) ?_ ?_ FU 0 0 (by omega) ⟨by omega, rfl⟩ (by have := FU_e; omega)
  · rintro n i s hi ⟨hI, hs⟩
    have h1 := hA.2.1 i hI (by omega)
    refine Or.inr ⟨s + (if A 1 i = 0 then A 14 i else 0), ⟨by omega, by rw [sm_s _ _ hI, ← hs]⟩, ?_⟩
    by_cases q : A 1 i = 0
    · simp (disch := first | assumption | omega) only [fX7_chosenMany_4, fX7_chosenMany_30, fX7_chosenMany_36, nR1, nA1, nU1, nR2, nA2, nU2, nR3, nA3, nU3, nR4, nA4, nU4, nR5, nA5, nU5, nR6, nA6, nU6, nR7, nA7, nU7, nR8, nA8, nU8, nR9, nA9, nU9, nR10, nA10, nU10, nR11, nA11, nU11, nR12, nA12, nU12, nR13, nA13, nU13, nR14, nA14, nU14, nR15, nA15, nU15, nR16, nA16, nU16, nI0, nS0, nI1, nS1, nI2, nS2, nI3, nS3, nI4, nS4, nI5, nS5, nI6, nS6, nI7, nS7, nI8, nS8, nI9, nS9, nI15, nS15, nI18, nS18, nI19, nS19, nI20, nS20, nI21, nS21, nI22, nS22, nI23, nS23, nI24, nS24, nI25, nS25, nI26, nS26, nI27, nS27, nI32, nS32, nI36, nS36, nI37, nS37, nI40, nS40, nSZ1, nV, nC, il0, il1, il2, il3, il4, il5, il6, il7, il8, il9, il10, il11, il12, il15, il16, il20, il24, il31, il32, il44, il45, il48, il50, il57, il58, il59, il63, il91, il93, il97, il99, il100, il109, il113, il119, il120, il122, il200, il255, il480, il500, il501, il512, il999, il4112, il41120, il1000000, il1000003, ii_add, ii_sub, ii_mul, ii_neg, ii_le, ii_lt, ii_eq, ii_div, q_I, q_V, q_R, lt_q, rZ_q, md_M, md_16, md_4, md_8, md_10, if_true, if_false, if_pos, if_neg, mg_3, mg_0, mg_1, mg_2, mg_k, mg_up3, mg_upk]
    · simp (disch := first | assumption | omega) only [fX7_chosenMany_4, fX7_chosenMany_30, fX7_chosenMany_36, nR1, nA1, nU1, nR2, nA2, nU2, nR3, nA3, nU3, nR4, nA4, nU4, nR5, nA5, nU5, nR6, nA6, nU6, nR7, nA7, nU7, nR8, nA8, nU8, nR9, nA9, nU9, nR10, nA10, nU10, nR11, nA11, nU11, nR12, nA12, nU12, nR13, nA13, nU13, nR14, nA14, nU14, nR15, nA15, nU15, nR16, nA16, nU16, nI0, nS0, nI1, nS1, nI2, nS2, nI3, nS3, nI4, nS4, nI5, nS5, nI6, nS6, nI7, nS7, nI8, nS8, nI9, nS9, nI15, nS15, nI18, nS18, nI19, nS19, nI20, nS20, nI21, nS21, nI22, nS22, nI23, nS23, nI24, nS24, nI25, nS25, nI26, nS26, nI27, nS27, nI32, nS32, nI36, nS36, nI37, nS37, nI40, nS40, nSZ1, nV, nC, il0, il1, il2, il3, il4, il5, il6, il7, il8, il9, il10, il11, il12, il15, il16, il20, il24, il31, il32, il44, il45, il48, il50, il57, il58, il59, il63, il91, il93, il97, il99, il100, il109, il113, il119, il120, il122, il200, il255, il480, il500, il501, il512, il999, il4112, il41120, il1000000, il1000003, ii_add, ii_sub, ii_mul, ii_neg, ii_le, ii_lt, ii_eq, ii_div, q_I, q_V, q_R, lt_q, rZ_q, md_M, md_16, md_4, md_8, md_10, if_true, if_false, if_pos, if_neg, mg_3, mg_0, mg_1, mg_2, mg_k, mg_up3, mg_upk]
  · rintro n s ⟨hI, hs⟩
    simp (disch := first | assumption | omega) only [fX7_chosenMany_4, nR1, nA1, nU1, nR2, nA2, nU2, nR3, nA3, nU3, nR4, nA4, nU4, nR5, nA5, nU5, nR6, nA6, nU6, nR7, nA7, nU7, nR8, nA8, nU8, nR9, nA9, nU9, nR10, nA10, nU10, nR11, nA11, nU11, nR12, nA12, nU12, nR13, nA13, nU13, nR14, nA14, nU14, nR15, nA15, nU15, nR16, nA16, nU16, nI0, nS0, nI1, nS1, nI2, nS2, nI3, nS3, nI4, nS4, nI5, nS5, nI6, nS6, nI7, nS7, nI8, nS8, nI9, nS9, nI15, nS15, nI18, nS18, nI19, nS19, nI20, nS20, nI21, nS21, nI22, nS22, nI23, nS23, nI24, nS24, nI25, nS25, nI26, nS26, nI27, nS27, nI32, nS32, nI36, nS36, nI37, nS37, nI40, nS40, nSZ1, nV, nC, il0, il1, il2, il3, il4, il5, il6, il7, il8, il9, il10, il11, il12, il15, il16, il20, il24, il31, il32, il44, il45, il48, il50, il57, il58, il59, il63, il91, il93, il97, il99, il100, il109, il113, il119, il120, il122, il200, il255, il480, il500, il501, il512, il999, il4112, il41120, il1000000, il1000003, ii_add, ii_sub, ii_mul, ii_neg, ii_le, ii_lt, ii_eq, ii_div, q_I, q_V, q_R, lt_q, rZ_q, md_M, md_16, md_4, md_8, md_10, if_true, if_false, if_pos, if_neg, mg_3, mg_0, mg_1, mg_2, mg_k, mg_up3, mg_upk]
    rw [hs]
theorem e_chosenLong (h9 : 0 ≤ A 0 9 ∧ A 0 9 ≤ 10) : fX7_chosenLong 0 (NW K (mg A g)) = some (Sum.inl (some (Value.int (ii (sm (fun k => A 14 k * A 2 k) (A 0 9))))), NW K (mg A g)) := by
  simp only [fX7_chosenLong, il0]
  refine lp (fun n i (s : Int) => fX7_chosenLong_4 n 0 (ii s) (ii i) (NW K (mg A g))) (fun x => x = _) (fun i s => 0 ≤ i ∧ s = sm (fun k => A 14 k * A 2 k) i) (A 0 9) ?_ ?_ FU 0 0 (by omega) ⟨by omega, rfl⟩ (by have := FU_e; omega)
  · rintro n i s hi ⟨hI, hs⟩
    refine Or.inr ⟨s + A 14 i * A 2 i, ⟨by omega, by rw [sm_s _ _ hI, ← hs]⟩, ?_⟩
    simp (disch := first | assumption | omega) only [fX7_chosenLong_4, nR1, nA1, nU1, nR2, nA2, nU2, nR3, nA3, nU3, nR4, nA4, nU4, nR5, nA5, nU5, nR6, nA6, nU6, nR7, nA7, nU7, nR8, nA8, nU8, nR9, nA9, nU9, nR10, nA10, nU10, nR11, nA11, nU11, nR12, nA12, nU12, nR13, nA13, nU13, nR14, nA14, nU14, nR15, nA15, nU15, nR16, nA16, nU16, nI0, nS0, nI1, nS1, nI2, nS2, nI3, nS3, nI4, nS4, nI5, nS5, nI6, nS6, nI7, nS7, nI8, nS8, nI9, nS9, nI15, nS15, nI18, nS18, nI19, nS19, nI20, nS20, nI21, nS21, nI22, nS22, nI23, nS23, nI24, nS24, nI25, nS25, nI26, nS26, nI27, nS27, nI32, nS32, nI36, nS36, nI37, nS37, nI40, nS40, nSZ1, nV, nC, il0, il1, il2, il3, il4, il5, il6, il7, il8, il9, il10, il11, il12, il15, il16, il20, il24, il31, il32, il44, il45, il48, il50, il57, il58, il59, il63, il91, il93, il97, il99, il100, il109, il113, il119, il120, il122, il200, il255, il480, il500, il501, il512, il999, il4112, il41120, il1000000, il1000003, ii_add, ii_sub, ii_mul, ii_neg, ii_le, ii_lt, ii_eq, ii_div, q_I, q_V, q_R, lt_q, rZ_q, md_M, md_16, md_4, md_8, md_10, if_true, if_false, if_pos, if_neg, mg_3, mg_0, mg_1, mg_2, mg_k, mg_up3, mg_upk]
  · rintro n s ⟨hI, hs⟩
    simp (disch := first | assumption | omega) only [fX7_chosenLong_4, nR1, nA1, nU1, nR2, nA2, nU2, nR3, nA3, nU3, nR4, nA4, nU4, nR5, nA5, nU5, nR6, nA6, nU6, nR7, nA7, nU7, nR8, nA8, nU8, nR9, nA9, nU9, nR10, nA10, nU10, nR11, nA11, nU11, nR12, nA12, nU12, nR13, nA13, nU13, nR14, nA14, nU14, nR15, nA15, nU15, nR16, nA16, nU16, nI0, nS0, nI1, nS1, nI2, nS2, nI3, nS3, nI4, nS4, nI5, nS5, nI6, nS6, nI7, nS7, nI8, nS8, nI9, nS9, nI15, nS15, nI18, nS18, nI19, nS19, nI20, nS20, nI21, nS21, nI22, nS22, nI23, nS23, nI24, nS24, nI25, nS25, nI26, nS26, nI27, nS27, nI32, nS32, nI36, nS36, nI37, nS37, nI40, nS40, nSZ1, nV, nC, il0, il1, il2, il3, il4, il5, il6, il7, il8, il9, il10, il11, il12, il15, il16, il20, il24, il31, il32, il44, il45, il48, il50, il57, il58, il59, il63, il91, il93, il97, il99, il100, il109, il113, il119, il120, il122, il200, il255, il480, il500, il501, il512, il999, il4112, il41120, il1000000, il1000003, ii_add, ii_sub, ii_mul, ii_neg, ii_le, ii_lt, ii_eq, ii_div, q_I, q_V, q_R, lt_q, rZ_q, md_M, md_16, md_4, md_8, md_10, if_true, if_false, if_pos, if_neg, mg_3, mg_0, mg_1, mg_2, mg_k, mg_up3, mg_upk]
    rw [hs]
end MCH
