/-! THE MODEL'S WAYS AND LOCKS -/
theorem wyN_s (len st : Int → Int) (k s : Int) (h : 0 ≤ k) : wyN len st (k + 1).toNat s = wsN (wyN len st k.toNat) (len k) s (bnd (len k) (st k) s).toNat := by
  rw [show (k + 1).toNat = k.toNat + 1 by omega]
  show wsN (wyN len st k.toNat) (len ((k.toNat : Nat) : Int)) s (bnd (len ((k.toNat : Nat) : Int)) (st ((k.toNat : Nat) : Int)) s).toNat = _
  rw [show ((k.toNat : Nat) : Int) = k by omega]
theorem cel_gPut (g : Int → Int) (r d r2 w : Int) (h : ((0 ≤ r ∧ 0 ≤ r2) ∧ 0 ≤ w ∧ w < 512) ∧ (0 ≤ cel g r 1 ∧ cel g r 1 ≤ 500) ∧ 0 ≤ d ∧ d < 10) : cel (gPut g r d) r2 w = if r2 = r ∧ w = 1 then cel g r 1 + 1 else if r2 = r ∧ w = 11 + cel g r 1 then d else cel g r2 w := by
  unfold gPut
  rw [cel_gu _ _ _ _ _ (by omega), cel_pu _ _ _ _ _ _ (by omega), cel_pu _ _ _ _ _ _ (by omega)]
theorem lo_gPut (g : Int → Int) (r d z : Int) (h : (0 ≤ r ∧ z < 16) ∧ 0 ≤ cel g r 1) : gPut g r d z = if z = 6 + d then g z - 1 else g z := by
  unfold gPut
  by_cases q : z = 6 + d
  · rw [q, gu_s, if_pos rfl]
  · rw [gu_n _ _ _ _ q, gpu_lo _ _ _ _ _ (by omega), gpu_lo _ _ _ _ _ (by omega), if_neg q]
theorem RG.put {g : Int → Int} {r d r2 : Int} (hr : 0 ≤ r ∧ 0 ≤ r2) (hp : 0 ≤ cel g r 1 ∧ cel g r 1 < 500) (hd : 0 ≤ d ∧ d < 10) (hg : RG g r2) : RG (gPut g r d) r2 := by
  have e : ∀ w, 0 ≤ w → w < 512 → cel (gPut g r d) r2 w = _ := fun w a b => cel_gPut g r d r2 w ⟨⟨hr, a, b⟩, by omega, hd⟩
  obtain ⟨h1, h2, h3, h4, h5, h6, h7⟩ := hg
  by_cases q : r2 = r
  · subst q
    unfold RG
    rw [e 0 (by omega) (by omega), e 1 (by omega) (by omega), e 2 (by omega) (by omega), e 3 (by omega) (by omega), e 4 (by omega) (by omega), if_neg (by omega), if_neg (by omega), if_pos (by omega), if_neg (by omega), if_neg (by omega), if_neg (by omega), if_neg (by omega), if_neg (by omega), if_neg (by omega)]
    refine ⟨h1, by omega, fun k a b => by rw [e (5 + k) (by omega) (by omega), if_neg (by omega), if_neg (by omega)]; exact h3 k a b, fun k a b => ?_, h5, h6, h7⟩
    rw [e (11 + k) (by omega) (by omega), if_neg (by omega)]
    by_cases c : k = cel g r2 1
    · rw [if_pos (by omega)]; exact hd
    · rw [if_neg (by omega)]; exact h4 k a (by omega)
  · exact RG.cong ⟨h1, h2, h3, h4, h5, h6, h7⟩ fun w a b => by rw [e w a b, if_neg (by omega), if_neg (by omega)]
def gQ (g : Int → Int) (r op : Int) : Int → Int := if op = -1 then g else gpu (gpu (gu g 0 (g 0 - (if cel g r 2 = -1 then 1 else 0))) r 2 op) r 3 0
def pcN (g : Int → Int) (r d : Int) : Nat → Int → Int
  | 0 => g
  | c + 1 => gPut (pcN g r d c) r d
def plN (g : Int → Int) (r : Int) (o c : Int → Int) : Nat → Int → Int
  | 0 => g
  | p + 1 => pcN (plN g r o c p) r (o p) (c p).toNat
def gLock (g : Int → Int) (r : Int) (o c : Int → Int) (n op : Int) : Int → Int := gpu (plN (gQ g r op) r o c n.toNat) r 4 0
theorem cel_gQ (g : Int → Int) (r op r2 w : Int) (h : (0 ≤ r ∧ 0 ≤ r2) ∧ 0 ≤ w ∧ w < 512) : cel (gQ g r op) r2 w = if op ≠ -1 ∧ r2 = r ∧ w = 3 then 0 else if op ≠ -1 ∧ r2 = r ∧ w = 2 then op else cel g r2 w := by
  unfold gQ
  by_cases q : op = -1
  · rw [if_pos q, if_neg (fun z => z.1 q), if_neg (fun z => z.1 q)]
  · rw [if_neg q, cel_pu _ _ _ _ _ _ (by omega), cel_pu _ _ _ _ _ _ (by omega), cel_gu _ _ _ _ _ (by omega)]
    simp only [ne_eq, q, not_false_eq_true, true_and]
theorem lo_gQ (g : Int → Int) (r op z : Int) (h : 0 ≤ r ∧ z < 16) : gQ g r op z = if z = 0 ∧ op ≠ -1 ∧ cel g r 2 = -1 then g 0 - 1 else g z := by
  unfold gQ
  by_cases q : op = -1
  · rw [if_pos q, if_neg (fun z => z.2.1 q)]
  · rw [if_neg q, gpu_lo _ _ _ _ _ (by omega), gpu_lo _ _ _ _ _ (by omega)]
    by_cases q2 : z = 0
    · rw [q2, gu_s]
      by_cases q3 : cel g r 2 = -1
      · rw [if_pos q3, if_pos ⟨rfl, q, q3⟩]
      · rw [if_neg q3, if_neg (fun z => q3 z.2.2)]; omega
    · rw [gu_n _ _ _ _ q2, if_neg (fun z => q2 z.1)]
theorem RG.q {g : Int → Int} {r op r2 : Int} (hr : 0 ≤ r ∧ 0 ≤ r2) (ho : -1 ≤ op ∧ op ≤ 20) (hg : RG g r2) : RG (gQ g r op) r2 := by
  have e : ∀ w, 0 ≤ w → w < 512 → cel (gQ g r op) r2 w = _ := fun w a b => cel_gQ g r op r2 w ⟨hr, a, b⟩
  obtain ⟨h1, h2, h3, h4, h5, h6, h7⟩ := hg
  unfold RG
  rw [e 0 (by omega) (by omega), e 1 (by omega) (by omega), e 2 (by omega) (by omega), e 3 (by omega) (by omega), e 4 (by omega) (by omega), if_neg (by omega), if_neg (by omega), if_neg (by omega), if_neg (by omega), if_neg (by omega), if_neg (show ¬ (op ≠ -1 ∧ r2 = r ∧ (3 : Int) = 2) by omega), if_neg (show ¬ (op ≠ -1 ∧ r2 = r ∧ (4 : Int) = 3) by omega), if_neg (show ¬ (op ≠ -1 ∧ r2 = r ∧ (4 : Int) = 2) by omega)]
  refine ⟨h1, h2, fun k a b => by rw [e (5 + k) (by omega) (by omega), if_neg (by omega), if_neg (by omega)]; exact h3 k a b, fun k a b => by rw [e (11 + k) (by omega) (by omega), if_neg (by omega), if_neg (by omega)]; exact h4 k a b, ?_, ?_, h7⟩
  · split <;> omega
  · split <;> omega
section MLK
variable {K : Nat × Nat} {A : AI} {g o : Int → Int} {r : Int}
theorem e_wCount (hA : SA A) (hL : GL g) (h37 : -1 ≤ A 0 37 ∧ A 0 37 < 10) {A1 : AI} (hs1 : scr A A1) (most k s : Int) (hs : (0 ≤ s ∧ s ≤ most) ∧ most ≤ 500) (hk : 0 ≤ k ∧ k < A 0 9) (ht : ∀ z, 0 ≤ z → z ≤ s → A1 15 z = wyN (A 2) (stM A g) k.toNat z) (r3 : Nat → Int32 → Int32 → AS → Option AR) (r4 : Nat → Int32 → Int32 → Int32 → AS → Option AR) :
    fX7_laysWays_53 r3 r4 FU 0 (ii most) (ii k) (ii s) (ii 0) (ii 0) (NW K (mg A1 g)) = fX7_laysWays_107 r3 r4 0 (ii most) (ii k) (ii s) (ii (wyN (A 2) (stM A g) (k + 1).toNat s)) (NW K (mg A1 g)) := by
  have h9 := hA.1.2.2.2.2.2.2.2
  have e37 := hs1.1 37 (by omega)
  have k2 := hA.2.2.2 k hk.1 hk.2
  have hlm := (hA.2.2.1 k hk.1 (by omega)).2
  have hst := stM_b (A := A) hL k (by omega)
  have hbm := bnd_mul (A 2 k) (stM A g k) s (by omega) hs.1.1
  have hb0 := bnd_0 (A 2 k) (stM A g k) s (by omega) ⟨hst.1, hs.1.1⟩
  have hbo := bnd_out (A 2 k) (stM A g k) s (by omega)
  have hbb : bnd (A 2 k) (stM A g k) s ≤ 5002 := by unfold bnd; split <;> omega
  have hlo := e_leftOf (K := K) (A := A1) hL k (by omega) (by rw [e37]; exact h37)
  rw [scr_st hs1] at hlo
  rw [wyN_s _ _ _ _ hk.1]
  refine lp (fun m j (b : Int) => fX7_laysWays_53 r3 r4 m 0 (ii most) (ii k) (ii s) (ii b) (ii j) (NW K (mg A1 g))) (fun x => x = _) (fun j b => 0 ≤ j ∧ b = wsN (wyN (A 2) (stM A g) k.toNat) (A 2 k) s j.toNat) (bnd (A 2 k) (stM A g k) s) ?_ ?_ FU 0 0 (by omega) ⟨by omega, rfl⟩ (by have := FU_e; omega)
  · rintro m j b hj ⟨hJ, hb⟩
    obtain ⟨h1, h2⟩ := (bnd_lt (A 2 k) (stM A g k) s j (by omega)).mp hj
    have h3 : 0 ≤ j * A 2 k := Int.mul_nonneg hJ (by omega)
    have h4 := ht (s - j * A 2 k) (by omega) (by omega)
    have h5 := wyN_b (A 2) (stM A g) k.toNat (s - j * A 2 k)
    have h6 := wsN_b (wyN (A 2) (stM A g) k.toNat) (A 2 k) s j.toNat
    rw [← hb] at h6
    refine Or.inr ⟨wsN (wyN (A 2) (stM A g) k.toNat) (A 2 k) s (j + 1).toNat, ⟨by omega, rfl⟩, ?_⟩
    rw [show (j + 1).toNat = j.toNat + 1 by omega]
    unfold wsN
    rw [show ((j.toNat : Nat) : Int) = j by omega, ← hb]
    simp (disch := first | assumption | omega) only [fX7_laysWays_53, nR1, nA1, nU1, nR2, nA2, nU2, nR3, nA3, nU3, nR4, nA4, nU4, nR5, nA5, nU5, nR6, nA6, nU6, nR7, nA7, nU7, nR8, nA8, nU8, nR9, nA9, nU9, nR10, nA10, nU10, nR11, nA11, nU11, nR12, nA12, nU12, nR13, nA13, nU13, nR14, nA14, nU14, nR15, nA15, nU15, nR16, nA16, nU16, nI0, nS0, nI1, nS1, nI2, nS2, nI3, nS3, nI4, nS4, nI5, nS5, nI6, nS6, nI7, nS7, nI8, nS8, nI9, nS9, nI15, nS15, nI18, nS18, nI19, nS19, nI20, nS20, nI21, nS21, nI22, nS22, nI23, nS23, nI24, nS24, nI25, nS25, nI26, nS26, nI27, nS27, nI32, nS32, nI36, nS36, nI37, nS37, nI40, nS40, nSZ1, nV, nC, il0, il1, il2, il3, il4, il5, il6, il7, il8, il9, il10, il11, il12, il15, il16, il20, il24, il31, il32, il44, il45, il48, il50, il57, il58, il59, il63, il91, il93, il97, il99, il100, il109, il113, il119, il120, il122, il200, il255, il480, il500, il501, il512, il999, il4112, il41120, il1000000, il1000003, ii_add, ii_sub, ii_mul, ii_neg, ii_le, ii_lt, ii_eq, ii_div, q_I, q_V, q_R, lt_q, rZ_q, md_M, md_16, md_4, md_8, md_10, if_true, if_false, if_pos, if_neg, mg_3, mg_0, mg_1, mg_2, mg_k, mg_up3, mg_upk, hlo, hs1.c2, h4]
  · rintro m b ⟨hJ, hb⟩
    have h3 : 0 ≤ bnd (A 2 k) (stM A g k) s * A 2 k := Int.mul_nonneg hJ (by omega)
    rw [← hb]
    by_cases q : stM A g k < bnd (A 2 k) (stM A g k) s
    · simp (disch := first | assumption | omega) only [fX7_laysWays_53, nR1, nA1, nU1, nR2, nA2, nU2, nR3, nA3, nU3, nR4, nA4, nU4, nR5, nA5, nU5, nR6, nA6, nU6, nR7, nA7, nU7, nR8, nA8, nU8, nR9, nA9, nU9, nR10, nA10, nU10, nR11, nA11, nU11, nR12, nA12, nU12, nR13, nA13, nU13, nR14, nA14, nU14, nR15, nA15, nU15, nR16, nA16, nU16, nI0, nS0, nI1, nS1, nI2, nS2, nI3, nS3, nI4, nS4, nI5, nS5, nI6, nS6, nI7, nS7, nI8, nS8, nI9, nS9, nI15, nS15, nI18, nS18, nI19, nS19, nI20, nS20, nI21, nS21, nI22, nS22, nI23, nS23, nI24, nS24, nI25, nS25, nI26, nS26, nI27, nS27, nI32, nS32, nI36, nS36, nI37, nS37, nI40, nS40, nSZ1, nV, nC, il0, il1, il2, il3, il4, il5, il6, il7, il8, il9, il10, il11, il12, il15, il16, il20, il24, il31, il32, il44, il45, il48, il50, il57, il58, il59, il63, il91, il93, il97, il99, il100, il109, il113, il119, il120, il122, il200, il255, il480, il500, il501, il512, il999, il4112, il41120, il1000000, il1000003, ii_add, ii_sub, ii_mul, ii_neg, ii_le, ii_lt, ii_eq, ii_div, q_I, q_V, q_R, lt_q, rZ_q, md_M, md_16, md_4, md_8, md_10, if_true, if_false, if_pos, if_neg, mg_3, mg_0, mg_1, mg_2, mg_k, mg_up3, mg_upk, hlo, hs1.c2]
    · simp (disch := first | assumption | omega) only [fX7_laysWays_53, nR1, nA1, nU1, nR2, nA2, nU2, nR3, nA3, nU3, nR4, nA4, nU4, nR5, nA5, nU5, nR6, nA6, nU6, nR7, nA7, nU7, nR8, nA8, nU8, nR9, nA9, nU9, nR10, nA10, nU10, nR11, nA11, nU11, nR12, nA12, nU12, nR13, nA13, nU13, nR14, nA14, nU14, nR15, nA15, nU15, nR16, nA16, nU16, nI0, nS0, nI1, nS1, nI2, nS2, nI3, nS3, nI4, nS4, nI5, nS5, nI6, nS6, nI7, nS7, nI8, nS8, nI9, nS9, nI15, nS15, nI18, nS18, nI19, nS19, nI20, nS20, nI21, nS21, nI22, nS22, nI23, nS23, nI24, nS24, nI25, nS25, nI26, nS26, nI27, nS27, nI32, nS32, nI36, nS36, nI37, nS37, nI40, nS40, nSZ1, nV, nC, il0, il1, il2, il3, il4, il5, il6, il7, il8, il9, il10, il11, il12, il15, il16, il20, il24, il31, il32, il44, il45, il48, il50, il57, il58, il59, il63, il91, il93, il97, il99, il100, il109, il113, il119, il120, il122, il200, il255, il480, il500, il501, il512, il999, il4112, il41120, il1000000, il1000003, ii_add, ii_sub, ii_mul, ii_neg, ii_le, ii_lt, ii_eq, ii_div, q_I, q_V, q_R, lt_q, rZ_q, md_M, md_16, md_4, md_8, md_10, if_true, if_false, if_pos, if_neg, mg_3, mg_0, mg_1, mg_2, mg_k, mg_up3, mg_upk, hlo, hs1.c2]
theorem e_wRow (hA : SA A) (hL : GL g) (h37 : -1 ≤ A 0 37 ∧ A 0 37 < 10) {A1 : AI} (hs1 : scr A A1) (most k : Int) (hm : 0 ≤ most ∧ most ≤ 500) (hk : 0 ≤ k ∧ k < A 0 9) (ht : ∀ z, 0 ≤ z → z ≤ most → A1 15 z = wyN (A 2) (stM A g) k.toNat z) (r3 : Nat → Int32 → Int32 → AS → Option AR) :
    ∃ A', fX7_laysWays_43 r3 FU 0 (ii most) (ii k) (ii most) (NW K (mg A1 g)) = r3 0 (ii most) (ii (k + 1)) (NW K (mg A' g)) ∧ scr A A' ∧ ∀ z, 0 ≤ z → z ≤ most → A' 15 z = wyN (A 2) (stM A g) (k + 1).toNat z := by
  refine lpd (fun n i (s : AI) => fX7_laysWays_43 r3 n 0 (ii most) (ii k) (ii i) (NW K (mg s g))) (fun x => ∃ A', x = r3 0 (ii most) (ii (k + 1)) (NW K (mg A' g)) ∧ scr A A' ∧ ∀ z, 0 ≤ z → z ≤ most → A' 15 z = wyN (A 2) (stM A g) (k + 1).toNat z)
    (fun i s => (i ≤ most ∧ scr A s) ∧ (∀ z, 0 ≤ z → z ≤ i → s 15 z = wyN (A 2) (stM A g) k.toNat z) ∧ ∀ z, i < z → z ≤ most → s 15 z = wyN (A 2) (stM A g) (k + 1).toNat z) (-1) ?_ ?_ FU most A1 (by omega) ⟨⟨by omega, hs1⟩, ht, fun z a b => by omega⟩ (by have := FU_e; omega)
  · rintro n i s hi ⟨⟨hI, hs⟩, ho, ht⟩
    have hw := e_wCount (K := K) hA hL h37 hs most k i (by omega) hk ho r3 (fX7_laysWays_43 r3 n)
    refine Or.inr ⟨up s 15 i (wyN (A 2) (stM A g) (k + 1).toNat i), ⟨⟨by omega, scr_up hs 15 _ _ (by omega)⟩, fun z a b => by rw [up_n _ _ _ _ _ _ (by omega)]; exact ho z a (by omega), fun z a b => ?_⟩, ?_⟩
    · by_cases q : z = i
      · rw [q, up_s]
      · rw [up_n _ _ _ _ _ _ (by omega)]; exact ht z (by omega) b
    · simp (disch := first | assumption | omega) only [fX7_laysWays_43, nR1, nA1, nU1, nR2, nA2, nU2, nR3, nA3, nU3, nR4, nA4, nU4, nR5, nA5, nU5, nR6, nA6, nU6, nR7, nA7, nU7, nR8, nA8, nU8, nR9, nA9, nU9, nR10, nA10, nU10, nR11, nA11, nU11, nR12, nA12, nU12, nR13, nA13, nU13, nR14, nA14, nU14, nR15, nA15, nU15, nR16, nA16, nU16, nI0, nS0, nI1, nS1, nI2, nS2, nI3, nS3, nI4, nS4, nI5, nS5, nI6, nS6, nI7, nS7, nI8, nS8, nI9, nS9, nI15, nS15, nI18, nS18, nI19, nS19, nI20, nS20, nI21, nS21, nI22, nS22, nI23, nS23, nI24, nS24, nI25, nS25, nI26, nS26, nI27, nS27, nI32, nS32, nI36, nS36, nI37, nS37, nI40, nS40, nSZ1, nV, nC, il0, il1, il2, il3, il4, il5, il6, il7, il8, il9, il10, il11, il12, il15, il16, il20, il24, il31, il32, il44, il45, il48, il50, il57, il58, il59, il63, il91, il93, il97, il99, il100, il109, il113, il119, il120, il122, il200, il255, il480, il500, il501, il512, il999, il4112, il41120, il1000000, il1000003, ii_add, ii_sub, ii_mul, ii_neg, ii_le, ii_lt, ii_eq, ii_div, q_I, q_V, q_R, lt_q, rZ_q, md_M, md_16, md_4, md_8, md_10, if_true, if_false, if_pos, if_neg, mg_3, mg_0, mg_1, mg_2, mg_k, mg_up3, mg_upk]
      rw [hw]
      simp (disch := first | assumption | omega) only [fX7_laysWays_107, nR1, nA1, nU1, nR2, nA2, nU2, nR3, nA3, nU3, nR4, nA4, nU4, nR5, nA5, nU5, nR6, nA6, nU6, nR7, nA7, nU7, nR8, nA8, nU8, nR9, nA9, nU9, nR10, nA10, nU10, nR11, nA11, nU11, nR12, nA12, nU12, nR13, nA13, nU13, nR14, nA14, nU14, nR15, nA15, nU15, nR16, nA16, nU16, nI0, nS0, nI1, nS1, nI2, nS2, nI3, nS3, nI4, nS4, nI5, nS5, nI6, nS6, nI7, nS7, nI8, nS8, nI9, nS9, nI15, nS15, nI18, nS18, nI19, nS19, nI20, nS20, nI21, nS21, nI22, nS22, nI23, nS23, nI24, nS24, nI25, nS25, nI26, nS26, nI27, nS27, nI32, nS32, nI36, nS36, nI37, nS37, nI40, nS40, nSZ1, nV, nC, il0, il1, il2, il3, il4, il5, il6, il7, il8, il9, il10, il11, il12, il15, il16, il20, il24, il31, il32, il44, il45, il48, il50, il57, il58, il59, il63, il91, il93, il97, il99, il100, il109, il113, il119, il120, il122, il200, il255, il480, il500, il501, il512, il999, il4112, il41120, il1000000, il1000003, ii_add, ii_sub, ii_mul, ii_neg, ii_le, ii_lt, ii_eq, ii_div, q_I, q_V, q_R, lt_q, rZ_q, md_M, md_16, md_4, md_8, md_10, if_true, if_false, if_pos, if_neg, mg_3, mg_0, mg_1, mg_2, mg_k, mg_up3, mg_upk]
      rfl
  · rintro n s ⟨⟨hI, hs⟩, ho, ht⟩
    refine ⟨s, ?_, hs, fun z a b => ht z (by omega) b⟩
    simp (disch := first | assumption | omega) only [fX7_laysWays_43, fX7_laysWays_121, nR1, nA1, nU1, nR2, nA2, nU2, nR3, nA3, nU3, nR4, nA4, nU4, nR5, nA5, nU5, nR6, nA6, nU6, nR7, nA7, nU7, nR8, nA8, nU8, nR9, nA9, nU9, nR10, nA10, nU10, nR11, nA11, nU11, nR12, nA12, nU12, nR13, nA13, nU13, nR14, nA14, nU14, nR15, nA15, nU15, nR16, nA16, nU16, nI0, nS0, nI1, nS1, nI2, nS2, nI3, nS3, nI4, nS4, nI5, nS5, nI6, nS6, nI7, nS7, nI8, nS8, nI9, nS9, nI15, nS15, nI18, nS18, nI19, nS19, nI20, nS20, nI21, nS21, nI22, nS22, nI23, nS23, nI24, nS24, nI25, nS25, nI26, nS26, nI27, nS27, nI32, nS32, nI36, nS36, nI37, nS37, nI40, nS40, nSZ1, nV, nC, il0, il1, il2, il3, il4, il5, il6, il7, il8, il9, il10, il11, il12, il15, il16, il20, il24, il31, il32, il44, il45, il48, il50, il57, il58, il59, il63, il91, il93, il97, il99, il100, il109, il113, il119, il120, il122, il200, il255, il480, il500, il501, il512, il999, il4112, il41120, il1000000, il1000003, ii_add, ii_sub, ii_mul, ii_neg, ii_le, ii_lt, ii_eq, ii_div, q_I, q_V, q_R, lt_q, rZ_q, md_M, md_16, md_4, md_8, md_10, if_true, if_false, if_pos, if_neg, mg_3, mg_0, mg_1, mg_2, mg_k, mg_up3, mg_upk]
theorem e_laysWays (hA : SA A) (hL : GL g) (h37 : -1 ≤ A 0 37 ∧ A 0 37 < 10) (most : Int) (hm : 0 ≤ most ∧ most ≤ 500) :
    ∃ A', fX7_laysWays 0 (ii most) (NW K (mg A g)) = some (Sum.inl none, NW K (mg A' g)) ∧ scr A A' ∧ ∀ z, 0 ≤ z → z ≤ most → A' 15 z = wyN (A 2) (stM A g) (A 0 9).toNat z := by
  have h9 := hA.1.2.2.2.2.2.2.2
  simp only [fX7_laysWays, il0]
  refine lp (fun n i (s : AI) => fX7_laysWays_2 n 0 (ii most) (ii i) (NW K (mg s g))) (fun x => ∃ A', x = some (Sum.inl none, NW K (mg A' g)) ∧ scr A A' ∧ ∀ z, 0 ≤ z → z ≤ most → A' 15 z = wyN (A 2) (stM A g) (A 0 9).toNat z)
    (fun i s => (0 ≤ i ∧ scr A s) ∧ ∀ z, 0 ≤ z → z < i → s 15 z = if z = 0 then 1 else 0) (most + 1) ?_ ?_ FU 0 A (by omega) ⟨⟨by omega, scr.refl A⟩, fun z a b => by omega⟩ (by have := FU_e; omega)
  · rintro n i s hi ⟨⟨hI, hs⟩, hz⟩
    refine Or.inr ⟨up s 15 i (if i = 0 then 1 else 0), ⟨⟨by omega, scr_up hs 15 _ _ (by omega)⟩, fun z a b => ?_⟩, ?_⟩
    · by_cases q : z = i
      · rw [q, up_s]
      · rw [up_n _ _ _ _ _ _ (by omega)]; exact hz z a (by omega)
    · by_cases q : i = 0
      · simp (disch := first | assumption | omega) only [fX7_laysWays_2, fX7_laysWays_21, nR1, nA1, nU1, nR2, nA2, nU2, nR3, nA3, nU3, nR4, nA4, nU4, nR5, nA5, nU5, nR6, nA6, nU6, nR7, nA7, nU7, nR8, nA8, nU8, nR9, nA9, nU9, nR10, nA10, nU10, nR11, nA11, nU11, nR12, nA12, nU12, nR13, nA13, nU13, nR14, nA14, nU14, nR15, nA15, nU15, nR16, nA16, nU16, nI0, nS0, nI1, nS1, nI2, nS2, nI3, nS3, nI4, nS4, nI5, nS5, nI6, nS6, nI7, nS7, nI8, nS8, nI9, nS9, nI15, nS15, nI18, nS18, nI19, nS19, nI20, nS20, nI21, nS21, nI22, nS22, nI23, nS23, nI24, nS24, nI25, nS25, nI26, nS26, nI27, nS27, nI32, nS32, nI36, nS36, nI37, nS37, nI40, nS40, nSZ1, nV, nC, il0, il1, il2, il3, il4, il5, il6, il7, il8, il9, il10, il11, il12, il15, il16, il20, il24, il31, il32, il44, il45, il48, il50, il57, il58, il59, il63, il91, il93, il97, il99, il100, il109, il113, il119, il120, il122, il200, il255, il480, il500, il501, il512, il999, il4112, il41120, il1000000, il1000003, ii_add, ii_sub, ii_mul, ii_neg, ii_le, ii_lt, ii_eq, ii_div, q_I, q_V, q_R, lt_q, rZ_q, md_M, md_16, md_4, md_8, md_10, if_true, if_false, if_pos, if_neg, mg_3, mg_0, mg_1, mg_2, mg_k, mg_up3, mg_upk, e_flag]
      · simp (disch := first | assumption | omega) only [fX7_laysWays_2, fX7_laysWays_21, nR1, nA1, nU1, nR2, nA2, nU2, nR3, nA3, nU3, nR4, nA4, nU4, nR5, nA5, nU5, nR6, nA6, nU6, nR7, nA7, nU7, nR8, nA8, nU8, nR9, nA9, nU9, nR10, nA10, nU10, nR11, nA11, nU11, nR12, nA12, nU12, nR13, nA13, nU13, nR14, nA14, nU14, nR15, nA15, nU15, nR16, nA16, nU16, nI0, nS0, nI1, nS1, nI2, nS2, nI3, nS3, nI4, nS4, nI5, nS5, nI6, nS6, nI7, nS7, nI8, nS8, nI9, nS9, nI15, nS15, nI18, nS18, nI19, nS19, nI20, nS20, nI21, nS21, nI22, nS22, nI23, nS23, nI24, nS24, nI25, nS25, nI26, nS26, nI27, nS27, nI32, nS32, nI36, nS36, nI37, nS37, nI40, nS40, nSZ1, nV, nC, il0, il1, il2, il3, il4, il5, il6, il7, il8, il9, il10, il11, il12, il15, il16, il20, il24, il31, il32, il44, il45, il48, il50, il57, il58, il59, il63, il91, il93, il97, il99, il100, il109, il113, il119, il120, il122, il200, il255, il480, il500, il501, il512, il999, il4112, il41120, il1000000, il1000003, ii_add, ii_sub, ii_mul, ii_neg, ii_le, ii_lt, ii_eq, ii_div, q_I, q_V, q_R, lt_q, rZ_q, md_M, md_16, md_4, md_8, md_10, if_true, if_false, if_pos, if_neg, mg_3, mg_0, mg_1, mg_2, mg_k, mg_up3, mg_upk, e_flag]
  · rintro n s ⟨⟨hI, hs⟩, hz⟩
    rw [fX7_laysWays_2, if_pos (show ii most < ii (most + 1) by rw [ii_lt _ _ (by omega)]; omega)]
    simp only [fX7_laysWays_31, il0]
    refine lp (fun n i (s : AI) => fX7_laysWays_33 n 0 (ii most) (ii i) (NW K (mg s g))) (fun x => ∃ A', x = some (Sum.inl none, NW K (mg A' g)) ∧ scr A A' ∧ ∀ z, 0 ≤ z → z ≤ most → A' 15 z = wyN (A 2) (stM A g) (A 0 9).toNat z)
      (fun i s => (0 ≤ i ∧ scr A s) ∧ ∀ z, 0 ≤ z → z ≤ most → s 15 z = wyN (A 2) (stM A g) i.toNat z) (A 0 9) ?_ ?_ FU 0 s (by omega) ⟨⟨by omega, hs⟩, fun z a b => hz z a (by omega)⟩ (by have := FU_e; omega)
    · rintro n i s hi ⟨⟨hI, hs⟩, hz⟩
      have e9 := hs.1 9 (by omega)
      obtain ⟨A', e', s', t'⟩ := e_wRow (K := K) hA hL h37 hs most i hm ⟨hI, hi⟩ hz (fX7_laysWays_33 n)
      refine Or.inr ⟨A', ⟨⟨by omega, s'⟩, t'⟩, ?_⟩
      simp (disch := first | assumption | omega) only [fX7_laysWays_33, nR1, nA1, nU1, nR2, nA2, nU2, nR3, nA3, nU3, nR4, nA4, nU4, nR5, nA5, nU5, nR6, nA6, nU6, nR7, nA7, nU7, nR8, nA8, nU8, nR9, nA9, nU9, nR10, nA10, nU10, nR11, nA11, nU11, nR12, nA12, nU12, nR13, nA13, nU13, nR14, nA14, nU14, nR15, nA15, nU15, nR16, nA16, nU16, nI0, nS0, nI1, nS1, nI2, nS2, nI3, nS3, nI4, nS4, nI5, nS5, nI6, nS6, nI7, nS7, nI8, nS8, nI9, nS9, nI15, nS15, nI18, nS18, nI19, nS19, nI20, nS20, nI21, nS21, nI22, nS22, nI23, nS23, nI24, nS24, nI25, nS25, nI26, nS26, nI27, nS27, nI32, nS32, nI36, nS36, nI37, nS37, nI40, nS40, nSZ1, nV, nC, il0, il1, il2, il3, il4, il5, il6, il7, il8, il9, il10, il11, il12, il15, il16, il20, il24, il31, il32, il44, il45, il48, il50, il57, il58, il59, il63, il91, il93, il97, il99, il100, il109, il113, il119, il120, il122, il200, il255, il480, il500, il501, il512, il999, il4112, il41120, il1000000, il1000003, ii_add, ii_sub, ii_mul, ii_neg, ii_le, ii_lt, ii_eq, ii_div, q_I, q_V, q_R, lt_q, rZ_q, md_M, md_16, md_4, md_8, md_10, if_true, if_false, if_pos, if_neg, mg_3, mg_0, mg_1, mg_2, mg_k, mg_up3, mg_upk, e9]
      exact e'
    · rintro n s ⟨⟨hI, hs⟩, hz⟩
      have e9 := hs.1 9 (by omega)
      refine ⟨s, ?_, hs, hz⟩
      rw [fX7_laysWays_33, nI9, if_pos (show ii (mg s g 0 9) ≤ ii (A 0 9) by rw [mg_0, e9]; exact Int32.le_refl _)]
/-- what locking leaves -/
abbrev PLk (K : Nat × Nat) (A : AI) (g o : Int → Int) (r : Int) (x : Option AR) : Prop := ∃ A', x = some (Sum.inl (some (Value.int (ii (if (chL A g o r).1 < 1000000 then 1 else 0)))), NW K (mg A' (if (chL A g o r).1 < 1000000 then gLock g r o (tk (A 0 9) o (A 2) (stM A g) (chS A g o r)) (A 0 9) (chL A g o r).2 else g))) ∧ scr A A' ∧ ((chL A g o r).1 < 1000000 → ∀ p, 0 ≤ p → p < A 0 9 → A' 14 (o p) = tk (A 0 9) o (A 2) (stM A g) (chS A g o r) p)
theorem e_locks60 (c : Int → Int) {g1 : Int → Int} (hA : SA A) (hO : ordOK (A 1) (A 2) (A 0 9) o) (hr : 0 ≤ r ∧ r < 8) (hR : RG g1 r) {A1 : AI} (hs1 : scr A A1) (h12 : ∀ p, 0 ≤ p → p < A 0 9 → A1 12 p = o p) (h14 : ∀ p, 0 ≤ p → p < A 0 9 → A1 14 (o p) = c p) (hc : ∀ p, 0 ≤ p → p < A 0 9 → 0 ≤ c p ∧ c p ≤ 500) (hrm : ∀ p, 0 ≤ p → p ≤ A 0 9 → cel g1 r 1 + sm c p ≤ 500) :
    fX7_locks_60 0 (ii r) (NW K (mg A1 g1)) = some (Sum.inl (some (Value.int (ii (1)))), NW K (mg A1 (gpu (plN g1 r o c (A 0 9).toNat) r 4 0))) := by
  have h9 := hA.1.2.2.2.2.2.2.2
  have e9 := hs1.1 9 (by omega)
  simp only [fX7_locks_60, il0]
  refine lp (fun n i (s : Int → Int) => fX7_locks_62 n 0 (ii r) (ii i) (NW K (mg A1 s))) (fun x => x = _) (fun i s => (0 ≤ i ∧ s = plN g1 r o c i.toNat) ∧ RG s r ∧ cel s r 1 = cel g1 r 1 + sm c i) (A 0 9) ?_ ?_ FU 0 g1 (by omega) ⟨⟨by omega, rfl⟩, hR, by rw [sm_0]; omega⟩ (by have := FU_e; omega)
  · rintro n i s hi ⟨⟨hI, hs⟩, hRs, hps⟩
    have ho := hO.1 i hI hi
    have hci := hc i hI hi
    have hrm1 := hrm (i + 1) (by omega) (by omega)
    rw [sm_s _ _ hI] at hrm1
    have h12i := h12 i hI hi
    have h14i := h14 i hI hi
    have inner : ∃ s', fX7_locks_72 (fX7_locks_62 n) FU 0 (ii r) (ii i) (ii 0) (NW K (mg A1 s)) = fX7_locks_62 n 0 (ii r) (ii (i + 1)) (NW K (mg A1 s')) ∧ (s' = pcN s r (o i) (c i).toNat ∧ RG s' r) ∧ cel s' r 1 = cel s r 1 + c i := by
      refine lp (fun m j (t : Int → Int) => fX7_locks_72 (fX7_locks_62 n) m 0 (ii r) (ii i) (ii j) (NW K (mg A1 t))) (fun x => ∃ s', x = fX7_locks_62 n 0 (ii r) (ii (i + 1)) (NW K (mg A1 s')) ∧ (s' = pcN s r (o i) (c i).toNat ∧ RG s' r) ∧ cel s' r 1 = cel s r 1 + c i)
        (fun j t => (0 ≤ j ∧ t = pcN s r (o i) j.toNat) ∧ RG t r ∧ cel t r 1 = cel s r 1 + j) (c i) ?_ ?_ FU 0 s (by omega) ⟨⟨by omega, rfl⟩, hRs, by omega⟩ (by have := FU_e; omega)
      · rintro m j t hj ⟨⟨hJ, ht⟩, hRt, hpt⟩
        have hp0 := hRt.2.1
        refine Or.inr ⟨gPut t r (o i), ⟨⟨by omega, ?_⟩, RG.put ⟨hr.1, hr.1⟩ (by omega) (by omega) hRt, ?_⟩, ?_⟩
        · rw [show (j + 1).toNat = j.toNat + 1 by omega, ht]; rfl
        · rw [cel_gPut _ _ _ _ _ (by omega), if_pos (by omega)]; omega
        · simp (disch := first | assumption | omega) only [fX7_locks_72, nR1, nA1, nU1, nR2, nA2, nU2, nR3, nA3, nU3, nR4, nA4, nU4, nR5, nA5, nU5, nR6, nA6, nU6, nR7, nA7, nU7, nR8, nA8, nU8, nR9, nA9, nU9, nR10, nA10, nU10, nR11, nA11, nU11, nR12, nA12, nU12, nR13, nA13, nU13, nR14, nA14, nU14, nR15, nA15, nU15, nR16, nA16, nU16, nI0, nS0, nI1, nS1, nI2, nS2, nI3, nS3, nI4, nS4, nI5, nS5, nI6, nS6, nI7, nS7, nI8, nS8, nI9, nS9, nI15, nS15, nI18, nS18, nI19, nS19, nI20, nS20, nI21, nS21, nI22, nS22, nI23, nS23, nI24, nS24, nI25, nS25, nI26, nS26, nI27, nS27, nI32, nS32, nI36, nS36, nI37, nS37, nI40, nS40, nSZ1, nV, nC, il0, il1, il2, il3, il4, il5, il6, il7, il8, il9, il10, il11, il12, il15, il16, il20, il24, il31, il32, il44, il45, il48, il50, il57, il58, il59, il63, il91, il93, il97, il99, il100, il109, il113, il119, il120, il122, il200, il255, il480, il500, il501, il512, il999, il4112, il41120, il1000000, il1000003, ii_add, ii_sub, ii_mul, ii_neg, ii_le, ii_lt, ii_eq, ii_div, q_I, q_V, q_R, lt_q, rZ_q, md_M, md_16, md_4, md_8, md_10, if_true, if_false, if_pos, if_neg, mg_3, mg_0, mg_1, mg_2, mg_k, mg_up3, mg_upk, h12i, h14i, e_putsPiece]
      · rintro m t ⟨⟨hJ, ht⟩, hRt, hpt⟩
        refine ⟨t, ?_, ⟨ht, hRt⟩, hpt⟩
        simp (disch := first | assumption | omega) only [fX7_locks_72, fX7_locks_104, nR1, nA1, nU1, nR2, nA2, nU2, nR3, nA3, nU3, nR4, nA4, nU4, nR5, nA5, nU5, nR6, nA6, nU6, nR7, nA7, nU7, nR8, nA8, nU8, nR9, nA9, nU9, nR10, nA10, nU10, nR11, nA11, nU11, nR12, nA12, nU12, nR13, nA13, nU13, nR14, nA14, nU14, nR15, nA15, nU15, nR16, nA16, nU16, nI0, nS0, nI1, nS1, nI2, nS2, nI3, nS3, nI4, nS4, nI5, nS5, nI6, nS6, nI7, nS7, nI8, nS8, nI9, nS9, nI15, nS15, nI18, nS18, nI19, nS19, nI20, nS20, nI21, nS21, nI22, nS22, nI23, nS23, nI24, nS24, nI25, nS25, nI26, nS26, nI27, nS27, nI32, nS32, nI36, nS36, nI37, nS37, nI40, nS40, nSZ1, nV, nC, il0, il1, il2, il3, il4, il5, il6, il7, il8, il9, il10, il11, il12, il15, il16, il20, il24, il31, il32, il44, il45, il48, il50, il57, il58, il59, il63, il91, il93, il97, il99, il100, il109, il113, il119, il120, il122, il200, il255, il480, il500, il501, il512, il999, il4112, il41120, il1000000, il1000003, ii_add, ii_sub, ii_mul, ii_neg, ii_le, ii_lt, ii_eq, ii_div, q_I, q_V, q_R, lt_q, rZ_q, md_M, md_16, md_4, md_8, md_10, if_true, if_false, if_pos, if_neg, mg_3, mg_0, mg_1, mg_2, mg_k, mg_up3, mg_upk, h12i, h14i]
    obtain ⟨s', i1, ⟨i2, i3⟩, i4⟩ := inner
    refine Or.inr ⟨s', ⟨⟨by omega, ?_⟩, i3, by rw [sm_s _ _ hI]; omega⟩, ?_⟩
    · rw [show (i + 1).toNat = i.toNat + 1 by omega, i2, hs]
      show _ = pcN (plN g1 r o c i.toNat) r (o ((i.toNat : Nat) : Int)) (c ((i.toNat : Nat) : Int)).toNat
      rw [show ((i.toNat : Nat) : Int) = i by omega]
    · rw [← i1, fX7_locks_62, nI9, if_neg (show ¬ ii (mg A1 s 0 9) ≤ ii i by rw [mg_0, e9, ii_le _ _ (by omega)]; omega)]
      rfl
  · rintro n s ⟨⟨hI, hs⟩, hRs, hps⟩
    rw [fX7_locks_62, nI9, if_pos (show ii (mg A1 s 0 9) ≤ ii (A 0 9) by rw [mg_0, e9]; exact Int32.le_refl _)]
    simp (disch := first | assumption | omega) only [fX7_locks_110, nR1, nA1, nU1, nR2, nA2, nU2, nR3, nA3, nU3, nR4, nA4, nU4, nR5, nA5, nU5, nR6, nA6, nU6, nR7, nA7, nU7, nR8, nA8, nU8, nR9, nA9, nU9, nR10, nA10, nU10, nR11, nA11, nU11, nR12, nA12, nU12, nR13, nA13, nU13, nR14, nA14, nU14, nR15, nA15, nU15, nR16, nA16, nU16, nI0, nS0, nI1, nS1, nI2, nS2, nI3, nS3, nI4, nS4, nI5, nS5, nI6, nS6, nI7, nS7, nI8, nS8, nI9, nS9, nI15, nS15, nI18, nS18, nI19, nS19, nI20, nS20, nI21, nS21, nI22, nS22, nI23, nS23, nI24, nS24, nI25, nS25, nI26, nS26, nI27, nS27, nI32, nS32, nI36, nS36, nI37, nS37, nI40, nS40, nSZ1, nV, nC, il0, il1, il2, il3, il4, il5, il6, il7, il8, il9, il10, il11, il12, il15, il16, il20, il24, il31, il32, il44, il45, il48, il50, il57, il58, il59, il63, il91, il93, il97, il99, il100, il109, il113, il119, il120, il122, il200, il255, il480, il500, il501, il512, il999, il4112, il41120, il1000000, il1000003, ii_add, ii_sub, ii_mul, ii_neg, ii_le, ii_lt, ii_eq, ii_div, q_I, q_V, q_R, lt_q, rZ_q, md_M, md_16, md_4, md_8, md_10, if_true, if_false, if_pos, if_neg, mg_3, mg_0, mg_1, mg_2, mg_k, mg_up3, mg_upk, e_puts]
    rw [hs]
theorem e_locks (hA : SA A) (hL : GL g) (h37 : -1 ≤ A 0 37 ∧ A 0 37 < 10) (hO : ordOK (A 1) (A 2) (A 0 9) o) (hr : 0 ≤ r ∧ r < 8) (hR : RG g r) (h0 : 0 ≤ g 0 ∧ g 0 ≤ 1000) (hN : 0 ≤ needM A g r ∧ needM A g r ≤ 500)
    (hrm : (chL A g o r).1 < 1000000 → ∀ p, 0 ≤ p → p ≤ A 0 9 → cel g r 1 + sm (tk (A 0 9) o (A 2) (stM A g) (chS A g o r)) p ≤ 500) : PLk K A g o r (fX7_locks 0 (ii r) (NW K (mg A g))) := by
  have h5 := hA.1.2.2.2.1
  have h9 := hA.1.2.2.2.2.2.2.2
  have hb := chL_b (o := o) (r := r) (g := g) hA hN
  obtain ⟨A1, e1, s1, p1, o1, c1⟩ := e_chooses (K := K) hA hL h37 hO hr hR h0 hN
  by_cases q : (chL A g o r).1 < 1000000
  · rw [if_pos q] at e1
    have hb2 := hb.2.2 q
    have hk := kindsOK_of hA hL hO
    refine ⟨A1, ?_, s1, c1⟩
    rw [if_pos q, if_pos q]
    have hc : ∀ p, 0 ≤ p → p < A 0 9 → 0 ≤ tk (A 0 9) o (A 2) (stM A g) (chS A g o r) p ∧ tk (A 0 9) o (A 2) (stM A g) (chS A g o r) p ≤ 500 := by
      intro p a b
      have h1 := tk_b hk hb2.1.1 p ⟨a, b⟩
      have h2 := reN_b hk hb2.1.1 p.toNat (by omega)
      have h3 := hk p a b
      have h4 : tk (A 0 9) o (A 2) (stM A g) (chS A g o r) p * 1 ≤ tk (A 0 9) o (A 2) (stM A g) (chS A g o r) p * A 2 (o p) := Int.mul_le_mul_of_nonneg_left (by omega) h1.1.1
      omega
    have hR2 : RG (gQ g r (chL A g o r).2) r := RG.q ⟨hr.1, hr.1⟩ (by omega) hR
    have hcel1 : cel (gQ g r (chL A g o r).2) r 1 = cel g r 1 := by rw [cel_gQ _ _ _ _ _ (by omega), if_neg (by omega), if_neg (by omega)]
    have h60 := e_locks60 (K := K) (tk (A 0 9) o (A 2) (stM A g) (chS A g o r)) hA hO hr hR2 s1 o1 (c1 q) hc (by rw [hcel1]; exact hrm q)
    unfold gLock
    rw [← h60]
    unfold gQ
    by_cases q2 : (chL A g o r).2 = -1
    · rw [if_pos q2]
      rw [q2] at p1
      simp (disch := first | assumption | omega) only [fX7_locks, nR1, nA1, nU1, nR2, nA2, nU2, nR3, nA3, nU3, nR4, nA4, nU4, nR5, nA5, nU5, nR6, nA6, nU6, nR7, nA7, nU7, nR8, nA8, nU8, nR9, nA9, nU9, nR10, nA10, nU10, nR11, nA11, nU11, nR12, nA12, nU12, nR13, nA13, nU13, nR14, nA14, nU14, nR15, nA15, nU15, nR16, nA16, nU16, nI0, nS0, nI1, nS1, nI2, nS2, nI3, nS3, nI4, nS4, nI5, nS5, nI6, nS6, nI7, nS7, nI8, nS8, nI9, nS9, nI15, nS15, nI18, nS18, nI19, nS19, nI20, nS20, nI21, nS21, nI22, nS22, nI23, nS23, nI24, nS24, nI25, nS25, nI26, nS26, nI27, nS27, nI32, nS32, nI36, nS36, nI37, nS37, nI40, nS40, nSZ1, nV, nC, il0, il1, il2, il3, il4, il5, il6, il7, il8, il9, il10, il11, il12, il15, il16, il20, il24, il31, il32, il44, il45, il48, il50, il57, il58, il59, il63, il91, il93, il97, il99, il100, il109, il113, il119, il120, il122, il200, il255, il480, il500, il501, il512, il999, il4112, il41120, il1000000, il1000003, ii_add, ii_sub, ii_mul, ii_neg, ii_le, ii_lt, ii_eq, ii_div, q_I, q_V, q_R, lt_q, rZ_q, md_M, md_16, md_4, md_8, md_10, if_true, if_false, if_pos, if_neg, mg_3, mg_0, mg_1, mg_2, mg_k, mg_up3, mg_upk, e1, p1]
    · rw [if_neg q2]
      by_cases q3 : cel g r 2 = -1
      · have hhq := e_hasQuoin (K := K) (A := A1) hr hR
        rw [if_pos q3] at hhq ⊢
        simp (disch := first | assumption | omega) only [fX7_locks, fX7_locks_38, nR1, nA1, nU1, nR2, nA2, nU2, nR3, nA3, nU3, nR4, nA4, nU4, nR5, nA5, nU5, nR6, nA6, nU6, nR7, nA7, nU7, nR8, nA8, nU8, nR9, nA9, nU9, nR10, nA10, nU10, nR11, nA11, nU11, nR12, nA12, nU12, nR13, nA13, nU13, nR14, nA14, nU14, nR15, nA15, nU15, nR16, nA16, nU16, nI0, nS0, nI1, nS1, nI2, nS2, nI3, nS3, nI4, nS4, nI5, nS5, nI6, nS6, nI7, nS7, nI8, nS8, nI9, nS9, nI15, nS15, nI18, nS18, nI19, nS19, nI20, nS20, nI21, nS21, nI22, nS22, nI23, nS23, nI24, nS24, nI25, nS25, nI26, nS26, nI27, nS27, nI32, nS32, nI36, nS36, nI37, nS37, nI40, nS40, nSZ1, nV, nC, il0, il1, il2, il3, il4, il5, il6, il7, il8, il9, il10, il11, il12, il15, il16, il20, il24, il31, il32, il44, il45, il48, il50, il57, il58, il59, il63, il91, il93, il97, il99, il100, il109, il113, il119, il120, il122, il200, il255, il480, il500, il501, il512, il999, il4112, il41120, il1000000, il1000003, ii_add, ii_sub, ii_mul, ii_neg, ii_le, ii_lt, ii_eq, ii_div, q_I, q_V, q_R, lt_q, rZ_q, md_M, md_16, md_4, md_8, md_10, if_true, if_false, if_pos, if_neg, mg_3, mg_0, mg_1, mg_2, mg_k, mg_up3, mg_upk, e1, p1, hhq, e_flag, e_puts]
      · have hhq := e_hasQuoin (K := K) (A := A1) hr hR
        rw [if_neg q3] at hhq ⊢
        simp (disch := first | assumption | omega) only [fX7_locks, fX7_locks_38, nR1, nA1, nU1, nR2, nA2, nU2, nR3, nA3, nU3, nR4, nA4, nU4, nR5, nA5, nU5, nR6, nA6, nU6, nR7, nA7, nU7, nR8, nA8, nU8, nR9, nA9, nU9, nR10, nA10, nU10, nR11, nA11, nU11, nR12, nA12, nU12, nR13, nA13, nU13, nR14, nA14, nU14, nR15, nA15, nU15, nR16, nA16, nU16, nI0, nS0, nI1, nS1, nI2, nS2, nI3, nS3, nI4, nS4, nI5, nS5, nI6, nS6, nI7, nS7, nI8, nS8, nI9, nS9, nI15, nS15, nI18, nS18, nI19, nS19, nI20, nS20, nI21, nS21, nI22, nS22, nI23, nS23, nI24, nS24, nI25, nS25, nI26, nS26, nI27, nS27, nI32, nS32, nI36, nS36, nI37, nS37, nI40, nS40, nSZ1, nV, nC, il0, il1, il2, il3, il4, il5, il6, il7, il8, il9, il10, il11, il12, il15, il16, il20, il24, il31, il32, il44, il45, il48, il50, il57, il58, il59, il63, il91, il93, il97, il99, il100, il109, il113, il119, il120, il122, il200, il255, il480, il500, il501, il512, il999, il4112, il41120, il1000000, il1000003, ii_add, ii_sub, ii_mul, ii_neg, ii_le, ii_lt, ii_eq, ii_div, q_I, q_V, q_R, lt_q, rZ_q, md_M, md_16, md_4, md_8, md_10, if_true, if_false, if_pos, if_neg, mg_3, mg_0, mg_1, mg_2, mg_k, mg_up3, mg_upk, e1, p1, hhq, e_flag, e_puts]
  · rw [if_neg q] at e1
    refine ⟨A1, ?_, s1, fun z => absurd z q⟩
    rw [if_neg q, if_neg q]
    simp (disch := first | assumption | omega) only [fX7_locks, nR1, nA1, nU1, nR2, nA2, nU2, nR3, nA3, nU3, nR4, nA4, nU4, nR5, nA5, nU5, nR6, nA6, nU6, nR7, nA7, nU7, nR8, nA8, nU8, nR9, nA9, nU9, nR10, nA10, nU10, nR11, nA11, nU11, nR12, nA12, nU12, nR13, nA13, nU13, nR14, nA14, nU14, nR15, nA15, nU15, nR16, nA16, nU16, nI0, nS0, nI1, nS1, nI2, nS2, nI3, nS3, nI4, nS4, nI5, nS5, nI6, nS6, nI7, nS7, nI8, nS8, nI9, nS9, nI15, nS15, nI18, nS18, nI19, nS19, nI20, nS20, nI21, nS21, nI22, nS22, nI23, nS23, nI24, nS24, nI25, nS25, nI26, nS26, nI27, nS27, nI32, nS32, nI36, nS36, nI37, nS37, nI40, nS40, nSZ1, nV, nC, il0, il1, il2, il3, il4, il5, il6, il7, il8, il9, il10, il11, il12, il15, il16, il20, il24, il31, il32, il44, il45, il48, il50, il57, il58, il59, il63, il91, il93, il97, il99, il100, il109, il113, il119, il120, il122, il200, il255, il480, il500, il501, il512, il999, il4112, il41120, il1000000, il1000003, ii_add, ii_sub, ii_mul, ii_neg, ii_le, ii_lt, ii_eq, ii_div, q_I, q_V, q_R, lt_q, rZ_q, md_M, md_16, md_4, md_8, md_10, if_true, if_false, if_pos, if_neg, mg_3, mg_0, mg_1, mg_2, mg_k, mg_up3, mg_upk, e1]
end MLK
