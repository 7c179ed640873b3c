/-! THE READER: tokens, on both sides -/
def skN (b : Int → Int) : Nat → Int → Int
  | 0, p => p
  | k + 1, p => if b p = 32 then skN b k (p + 1) else p
def sk (b : Int → Int) (n p : Int) : Int := skN b (n - p).toNat p
theorem sk_1 (b : Int → Int) (n p : Int) (h : p < n) (hb : b p = 32) : sk b n p = sk b n (p + 1) := by
  unfold sk
  rw [show (n - p).toNat = (n - (p + 1)).toNat + 1 by omega]
  exact if_pos hb
theorem sk_2 (b : Int → Int) (n p : Int) (hb : b p ≠ 32) : sk b n p = p := by
  unfold sk
  cases (n - p).toNat with
  | zero => rfl
  | succ k => exact if_neg hb
theorem sk_3 (b : Int → Int) (n p : Int) (h : n ≤ p) : sk b n p = p := by
  unfold sk
  rw [show (n - p).toNat = 0 by omega]
  rfl
theorem skN_b (b : Int → Int) : ∀ (k : Nat) (p : Int), p ≤ skN b k p ∧ skN b k p ≤ p + k ∧ (skN b k p < p + k → b (skN b k p) ≠ 32)
  | 0, p => by show p ≤ p ∧ p ≤ p + 0 ∧ _; exact ⟨by omega, by omega, fun h => by have h' : p < p + 0 := h; omega⟩
  | k + 1, p => by
    have ih := skN_b b k (p + 1)
    unfold skN
    split
    · exact ⟨by omega, by omega, fun h => ih.2.2 (by omega)⟩
    case isFalse q => exact ⟨by omega, by omega, fun _ => q⟩
theorem sk_b (b : Int → Int) (n p : Int) (h : p ≤ n) : p ≤ sk b n p ∧ sk b n p ≤ n ∧ (sk b n p < n → b (sk b n p) ≠ 32) := by
  have := skN_b b (n - p).toNat p
  unfold sk
  exact ⟨this.1, by omega, fun q => this.2.2 (by omega)⟩
def rnN (b : Int → Int) (lo hi : Int) : Nat → Int → Int
  | 0, p => p
  | k + 1, p => if lo ≤ b p ∧ b p ≤ hi then rnN b lo hi k (p + 1) else p
def rn (b : Int → Int) (n lo hi p : Int) : Int := rnN b lo hi (n - p).toNat p
theorem rn_1 (b : Int → Int) (n lo hi p : Int) (h : p < n) (hb : lo ≤ b p ∧ b p ≤ hi) : rn b n lo hi p = rn b n lo hi (p + 1) := by
  unfold rn
  rw [show (n - p).toNat = (n - (p + 1)).toNat + 1 by omega]
  exact if_pos hb
theorem rn_3 (b : Int → Int) (n lo hi p : Int) (h : n ≤ p) : rn b n lo hi p = p := by
  unfold rn
  rw [show (n - p).toNat = 0 by omega]
  rfl
theorem rnN_b (b : Int → Int) (lo hi : Int) : ∀ (k : Nat) (p : Int), p ≤ rnN b lo hi k p ∧ rnN b lo hi k p ≤ p + k ∧ (rnN b lo hi k p < p + k → ¬ (lo ≤ b (rnN b lo hi k p) ∧ b (rnN b lo hi k p) ≤ hi)) ∧ ∀ j, p ≤ j → j < rnN b lo hi k p → lo ≤ b j ∧ b j ≤ hi
  | 0, p => ⟨by show p ≤ p; omega, by show p ≤ p + 0; omega, fun h => by have h' : p < p + 0 := h; omega, fun j a d => by have d' : j < p := d; omega⟩
  | k + 1, p => by
    have ih := rnN_b b lo hi k (p + 1)
    unfold rnN
    split
    case isTrue q =>
      refine ⟨by omega, by omega, fun h => ih.2.2.1 (by omega), fun j a d => ?_⟩
      by_cases e : j = p
      · rw [e]; exact q
      · exact ih.2.2.2 j (by omega) d
    case isFalse q => exact ⟨by omega, by omega, fun _ => q, fun j a d => by omega⟩
theorem rn_b (b : Int → Int) (n lo hi p : Int) (h : p ≤ n) : p ≤ rn b n lo hi p ∧ rn b n lo hi p ≤ n ∧ (rn b n lo hi p < n → ¬ (lo ≤ b (rn b n lo hi p) ∧ b (rn b n lo hi p) ≤ hi)) ∧ ∀ j, p ≤ j → j < rn b n lo hi p → lo ≤ b j ∧ b j ≤ hi := by
  have := rnN_b b lo hi (n - p).toNat p
  unfold rn
  exact ⟨this.1, by omega, fun q => this.2.2.1 (by omega), this.2.2.2⟩
/-- the number that so many digits from there on tell -/
def nvN (b : Int → Int) (F : Int) : Nat → Int
  | 0 => 0
  | k + 1 => 10 * nvN b F k + b (F + k) - 48
theorem nv_s (b : Int → Int) (F i : Int) (h : 0 ≤ i) : nvN b F (i + 1).toNat = 10 * nvN b F i.toNat + b (F + i) - 48 := by
  rw [show (i + 1).toNat = i.toNat + 1 by omega]
  show 10 * nvN b F i.toNat + b (F + (i.toNat : Int)) - 48 = _
  rw [show ((i.toNat : Nat) : Int) = i by omega]
theorem nv_b (b : Int → Int) (F : Int) (k : Nat) (hk : k ≤ 3) (hd : ∀ j : Nat, j < k → 48 ≤ b (F + j) ∧ b (F + j) ≤ 57) : 0 ≤ nvN b F k ∧ nvN b F k ≤ 999 ∧ (k ≤ 2 → nvN b F k ≤ 99) ∧ (k ≤ 1 → nvN b F k ≤ 9) := by
  match k, hk with
  | 0, _ => exact ⟨by show (0 : Int) ≤ 0; omega, by show (0 : Int) ≤ 999; omega, fun _ => by show (0 : Int) ≤ 99; omega, fun _ => by show (0 : Int) ≤ 9; omega⟩
  | 1, _ =>
    have h0 := hd 0 (by omega)
    have e : nvN b F 1 = 10 * 0 + b (F + (0 : Nat)) - 48 := rfl
    omega
  | 2, _ =>
    have h0 := hd 0 (by omega)
    have h1 := hd 1 (by omega)
    have e : nvN b F 2 = 10 * (10 * 0 + b (F + (0 : Nat)) - 48) + b (F + (1 : Nat)) - 48 := rfl
    omega
  | 3, _ =>
    have h0 := hd 0 (by omega)
    have h1 := hd 1 (by omega)
    have h2 := hd 2 (by omega)
    have e : nvN b F 3 = 10 * (10 * (10 * 0 + b (F + (0 : Nat)) - 48) + b (F + (1 : Nat)) - 48) + b (F + (2 : Nat)) - 48 := rfl
    omega
def tkE (b : Int → Int) (n F : Int) : Int := if n ≤ F then F else if 97 ≤ b F ∧ b F ≤ 122 then rn b n 97 122 F else if 48 ≤ b F ∧ b F ≤ 57 then rn b n 48 57 F else F + 1
def tkS (b : Int → Int) (n F : Int) : Int := if n ≤ F then 0 else if 97 ≤ b F ∧ b F ≤ 122 then (if 6 < rn b n 97 122 F - F then 4 else 1) else if 48 ≤ b F ∧ b F ≤ 57 then (if 3 < rn b n 48 57 F - F then 4 else 2) else if b F = 59 then 3 else 4
section RDC
variable {c : CC} {A : AI} {J : JI} {b : Int → Int} {n : Int}
theorem c_skip (hRd : isReader c 1) (hb : ∀ k, 0 ≤ k → k < n → A (1 + 1) k = b k ∧ 0 ≤ b k ∧ b k ≤ 255) (h5 : A 1 5 = n) (hn : 0 ≤ n ∧ n ≤ 500) (p : Int) (hp : 0 ≤ p ∧ p ≤ n) : fX2_advance_8 FU 1 (CW c (up A 1 7 p) J) = fX2_advance_46 1 (CW c (up A 1 7 (sk b n p)) J) := by
  have hs := sk_b b n p hp.2
  refine lp (fun m i (_ : Unit) => fX2_advance_8 m 1 (CW c (up A 1 7 i) J)) (fun x => x = fX2_advance_46 1 (CW c (up A 1 7 (sk b n p)) J)) (fun i _ => p ≤ i ∧ sk b n i = sk b n p) (sk b n p) ?_ ?_ FU p () hs.1 ⟨by omega, rfl⟩ (by have := FU_e; omega)
  · rintro m i _ hi ⟨hI, he⟩
    have x7 : up A 1 7 i 1 7 = i := up_s _ _ _ _
    have x5 : up A 1 7 i 1 5 = n := by rw [up_n _ _ _ _ _ _ (by omega)]; exact h5
    have xb : up A 1 7 i (1 + 1) i = b i := by rw [up_n _ _ _ _ _ _ (by omega)]; exact (hb i (by omega) (by omega)).1
    have hbi := (hb i (by omega) (by omega)).2
    have h32 : b i = 32 := by
      by_cases q : b i = 32
      · exact q
      · rw [sk_2 b n i q] at he; omega
    refine Or.inr ⟨(), ⟨by omega, by rw [← he]; exact (sk_1 b n i (by omega) h32).symm⟩, ?_⟩
    simp (disch := first | assumption | omega) only [fX2_advance_8, rwI1, rwS1, rwI2, rwS2, rwI4, rwS4, rwI5, rwS5, rwI7, rwS7, rwI8, rwS8, rwI9, rwS9, rwR0, rwR3, rwR6, rwA1, rwU1, rwA3, rwU3, rwV, rwJ, rwUJ, plI0, plS0, plI1, plS1, plI2, plS2, plI3, plS3, plI4, plS4, plI5, plS5, plI6, plS6, plI7, plS7, plR8, plR9, plR10, plA1, plU1, plA2, plU2, plA3, plU3, plV, stI2, stS2, stI3, stS3, stI4, stS4, stI5, stS5, stI6, stS6, stI7, stS7, stR0, stR1, stA2, stU2, stV, stRow, svI5, svS5, svI6, svS6, svI7, svS7, svR0, svR1, svR2, svR3, svR4, svA13, svU13, svA14, svU14, svA15, svU15, svA16, svU16, svV, svRow, svF, svUF, hiI1, hiS1, hiI2, hiS2, hiR0, hiV, hiRow, rdI2, rdS2, rdI3, rdS3, rdI4, rdS4, rdI5, rdS5, rdI6, rdS6, rdI7, rdS7, rdI8, rdS8, rdR0, rdR1, rdA1, rdU1, rdA2, rdU2, rdV, k_C, ↓reduceIte, tr_lt, fa_lt, tr_le, fa_le, tr_eq, fa_eq, and_true, true_and, and_false, false_and, il0, il1, il2, il3, il4, il5, il6, il7, il8, il9, il10, il11, il12, il15, il16, il20, il24, il31, il32, il44, il45, il48, il50, il57, il58, il59, il63, il91, il93, il97, il99, il100, il109, il113, il119, il120, il122, il200, il255, il480, il500, il501, il512, il999, il4112, il41120, il1000000, il1000003, ii_add, ii_sub, ii_mul, ii_neg, ii_le, ii_lt, ii_eq, ii_div, q_I, q_V, q_R, lt_q, rZ_q, md_M, md_16, md_4, md_8, md_10, if_true, if_false, if_pos, if_neg, x7, x5, xb, h32, up_up]
  · rintro m _ ⟨hI, he⟩
    have x7 : up A 1 7 (sk b n p) 1 7 = sk b n p := up_s _ _ _ _
    have x5 : up A 1 7 (sk b n p) 1 5 = n := by rw [up_n _ _ _ _ _ _ (by omega)]; exact h5
    by_cases q : n ≤ sk b n p
    · simp (disch := first | assumption | omega) only [fX2_advance_8, rwI1, rwS1, rwI2, rwS2, rwI4, rwS4, rwI5, rwS5, rwI7, rwS7, rwI8, rwS8, rwI9, rwS9, rwR0, rwR3, rwR6, rwA1, rwU1, rwA3, rwU3, rwV, rwJ, rwUJ, plI0, plS0, plI1, plS1, plI2, plS2, plI3, plS3, plI4, plS4, plI5, plS5, plI6, plS6, plI7, plS7, plR8, plR9, plR10, plA1, plU1, plA2, plU2, plA3, plU3, plV, stI2, stS2, stI3, stS3, stI4, stS4, stI5, stS5, stI6, stS6, stI7, stS7, stR0, stR1, stA2, stU2, stV, stRow, svI5, svS5, svI6, svS6, svI7, svS7, svR0, svR1, svR2, svR3, svR4, svA13, svU13, svA14, svU14, svA15, svU15, svA16, svU16, svV, svRow, svF, svUF, hiI1, hiS1, hiI2, hiS2, hiR0, hiV, hiRow, rdI2, rdS2, rdI3, rdS3, rdI4, rdS4, rdI5, rdS5, rdI6, rdS6, rdI7, rdS7, rdI8, rdS8, rdR0, rdR1, rdA1, rdU1, rdA2, rdU2, rdV, k_C, ↓reduceIte, tr_lt, fa_lt, tr_le, fa_le, tr_eq, fa_eq, and_true, true_and, and_false, false_and, il0, il1, il2, il3, il4, il5, il6, il7, il8, il9, il10, il11, il12, il15, il16, il20, il24, il31, il32, il44, il45, il48, il50, il57, il58, il59, il63, il91, il93, il97, il99, il100, il109, il113, il119, il120, il122, il200, il255, il480, il500, il501, il512, il999, il4112, il41120, il1000000, il1000003, ii_add, ii_sub, ii_mul, ii_neg, ii_le, ii_lt, ii_eq, ii_div, q_I, q_V, q_R, lt_q, rZ_q, md_M, md_16, md_4, md_8, md_10, if_true, if_false, if_pos, if_neg, x7, x5]
    · have hbi := hb (sk b n p) (by omega) (by omega)
      have xb : up A 1 7 (sk b n p) (1 + 1) (sk b n p) = b (sk b n p) := by rw [up_n _ _ _ _ _ _ (by omega)]; exact hbi.1
      have h32 := hs.2.2 (by omega)
      have hb2 := hbi.2
      simp (disch := first | assumption | omega) only [fX2_advance_8, rwI1, rwS1, rwI2, rwS2, rwI4, rwS4, rwI5, rwS5, rwI7, rwS7, rwI8, rwS8, rwI9, rwS9, rwR0, rwR3, rwR6, rwA1, rwU1, rwA3, rwU3, rwV, rwJ, rwUJ, plI0, plS0, plI1, plS1, plI2, plS2, plI3, plS3, plI4, plS4, plI5, plS5, plI6, plS6, plI7, plS7, plR8, plR9, plR10, plA1, plU1, plA2, plU2, plA3, plU3, plV, stI2, stS2, stI3, stS3, stI4, stS4, stI5, stS5, stI6, stS6, stI7, stS7, stR0, stR1, stA2, stU2, stV, stRow, svI5, svS5, svI6, svS6, svI7, svS7, svR0, svR1, svR2, svR3, svR4, svA13, svU13, svA14, svU14, svA15, svU15, svA16, svU16, svV, svRow, svF, svUF, hiI1, hiS1, hiI2, hiS2, hiR0, hiV, hiRow, rdI2, rdS2, rdI3, rdS3, rdI4, rdS4, rdI5, rdS5, rdI6, rdS6, rdI7, rdS7, rdI8, rdS8, rdR0, rdR1, rdA1, rdU1, rdA2, rdU2, rdV, k_C, ↓reduceIte, tr_lt, fa_lt, tr_le, fa_le, tr_eq, fa_eq, and_true, true_and, and_false, false_and, il0, il1, il2, il3, il4, il5, il6, il7, il8, il9, il10, il11, il12, il15, il16, il20, il24, il31, il32, il44, il45, il48, il50, il57, il58, il59, il63, il91, il93, il97, il99, il100, il109, il113, il119, il120, il122, il200, il255, il480, il500, il501, il512, il999, il4112, il41120, il1000000, il1000003, ii_add, ii_sub, ii_mul, ii_neg, ii_le, ii_lt, ii_eq, ii_div, q_I, q_V, q_R, lt_q, rZ_q, md_M, md_16, md_4, md_8, md_10, if_true, if_false, if_pos, if_neg, x7, x5, xb]
theorem c_betw (hRd : isReader c 1) (k v lo hi : Int) (hk : 0 ≤ k ∧ k < 500) (hv : A (1 + 1) k = v) (hvb : 0 ≤ v ∧ v ≤ 255) (hlo : 0 ≤ lo ∧ lo ≤ 255) (hhi : 0 ≤ hi ∧ hi ≤ 255) : fX2_isBetween 1 (ii lo) (ii hi) (ii k) (CW c A J) = some (Sum.inl (some (Value.int (ii (if lo ≤ v ∧ v ≤ hi then 1 else 0)))), CW c A J) := by
  by_cases h1 : v < lo
  · rw [if_neg (by omega)]
    simp (disch := first | assumption | omega) only [fX2_isBetween, rwI1, rwS1, rwI2, rwS2, rwI4, rwS4, rwI5, rwS5, rwI7, rwS7, rwI8, rwS8, rwI9, rwS9, rwR0, rwR3, rwR6, rwA1, rwU1, rwA3, rwU3, rwV, rwJ, rwUJ, plI0, plS0, plI1, plS1, plI2, plS2, plI3, plS3, plI4, plS4, plI5, plS5, plI6, plS6, plI7, plS7, plR8, plR9, plR10, plA1, plU1, plA2, plU2, plA3, plU3, plV, stI2, stS2, stI3, stS3, stI4, stS4, stI5, stS5, stI6, stS6, stI7, stS7, stR0, stR1, stA2, stU2, stV, stRow, svI5, svS5, svI6, svS6, svI7, svS7, svR0, svR1, svR2, svR3, svR4, svA13, svU13, svA14, svU14, svA15, svU15, svA16, svU16, svV, svRow, svF, svUF, hiI1, hiS1, hiI2, hiS2, hiR0, hiV, hiRow, rdI2, rdS2, rdI3, rdS3, rdI4, rdS4, rdI5, rdS5, rdI6, rdS6, rdI7, rdS7, rdI8, rdS8, rdR0, rdR1, rdA1, rdU1, rdA2, rdU2, rdV, k_C, ↓reduceIte, tr_lt, fa_lt, tr_le, fa_le, tr_eq, fa_eq, and_true, true_and, and_false, false_and, il0, il1, il2, il3, il4, il5, il6, il7, il8, il9, il10, il11, il12, il15, il16, il20, il24, il31, il32, il44, il45, il48, il50, il57, il58, il59, il63, il91, il93, il97, il99, il100, il109, il113, il119, il120, il122, il200, il255, il480, il500, il501, il512, il999, il4112, il41120, il1000000, il1000003, ii_add, ii_sub, ii_mul, ii_neg, ii_le, ii_lt, ii_eq, ii_div, q_I, q_V, q_R, lt_q, rZ_q, md_M, md_16, md_4, md_8, md_10, if_true, if_false, if_pos, if_neg, hv]
  · by_cases h2 : hi < v
    · rw [if_neg (by omega)]
      simp (disch := first | assumption | omega) only [fX2_isBetween, rwI1, rwS1, rwI2, rwS2, rwI4, rwS4, rwI5, rwS5, rwI7, rwS7, rwI8, rwS8, rwI9, rwS9, rwR0, rwR3, rwR6, rwA1, rwU1, rwA3, rwU3, rwV, rwJ, rwUJ, plI0, plS0, plI1, plS1, plI2, plS2, plI3, plS3, plI4, plS4, plI5, plS5, plI6, plS6, plI7, plS7, plR8, plR9, plR10, plA1, plU1, plA2, plU2, plA3, plU3, plV, stI2, stS2, stI3, stS3, stI4, stS4, stI5, stS5, stI6, stS6, stI7, stS7, stR0, stR1, stA2, stU2, stV, stRow, svI5, svS5, svI6, svS6, svI7, svS7, svR0, svR1, svR2, svR3, svR4, svA13, svU13, svA14, svU14, svA15, svU15, svA16, svU16, svV, svRow, svF, svUF, hiI1, hiS1, hiI2, hiS2, hiR0, hiV, hiRow, rdI2, rdS2, rdI3, rdS3, rdI4, rdS4, rdI5, rdS5, rdI6, rdS6, rdI7, rdS7, rdI8, rdS8, rdR0, rdR1, rdA1, rdU1, rdA2, rdU2, rdV, k_C, ↓reduceIte, tr_lt, fa_lt, tr_le, fa_le, tr_eq, fa_eq, and_true, true_and, and_false, false_and, il0, il1, il2, il3, il4, il5, il6, il7, il8, il9, il10, il11, il12, il15, il16, il20, il24, il31, il32, il44, il45, il48, il50, il57, il58, il59, il63, il91, il93, il97, il99, il100, il109, il113, il119, il120, il122, il200, il255, il480, il500, il501, il512, il999, il4112, il41120, il1000000, il1000003, ii_add, ii_sub, ii_mul, ii_neg, ii_le, ii_lt, ii_eq, ii_div, q_I, q_V, q_R, lt_q, rZ_q, md_M, md_16, md_4, md_8, md_10, if_true, if_false, if_pos, if_neg, hv]
    · rw [if_pos (by omega)]
      simp (disch := first | assumption | omega) only [fX2_isBetween, rwI1, rwS1, rwI2, rwS2, rwI4, rwS4, rwI5, rwS5, rwI7, rwS7, rwI8, rwS8, rwI9, rwS9, rwR0, rwR3, rwR6, rwA1, rwU1, rwA3, rwU3, rwV, rwJ, rwUJ, plI0, plS0, plI1, plS1, plI2, plS2, plI3, plS3, plI4, plS4, plI5, plS5, plI6, plS6, plI7, plS7, plR8, plR9, plR10, plA1, plU1, plA2, plU2, plA3, plU3, plV, stI2, stS2, stI3, stS3, stI4, stS4, stI5, stS5, stI6, stS6, stI7, stS7, stR0, stR1, stA2, stU2, stV, stRow, svI5, svS5, svI6, svS6, svI7, svS7, svR0, svR1, svR2, svR3, svR4, svA13, svU13, svA14, svU14, svA15, svU15, svA16, svU16, svV, svRow, svF, svUF, hiI1, hiS1, hiI2, hiS2, hiR0, hiV, hiRow, rdI2, rdS2, rdI3, rdS3, rdI4, rdS4, rdI5, rdS5, rdI6, rdS6, rdI7, rdS7, rdI8, rdS8, rdR0, rdR1, rdA1, rdU1, rdA2, rdU2, rdV, k_C, ↓reduceIte, tr_lt, fa_lt, tr_le, fa_le, tr_eq, fa_eq, and_true, true_and, and_false, false_and, il0, il1, il2, il3, il4, il5, il6, il7, il8, il9, il10, il11, il12, il15, il16, il20, il24, il31, il32, il44, il45, il48, il50, il57, il58, il59, il63, il91, il93, il97, il99, il100, il109, il113, il119, il120, il122, il200, il255, il480, il500, il501, il512, il999, il4112, il41120, il1000000, il1000003, ii_add, ii_sub, ii_mul, ii_neg, ii_le, ii_lt, ii_eq, ii_div, q_I, q_V, q_R, lt_q, rZ_q, md_M, md_16, md_4, md_8, md_10, if_true, if_false, if_pos, if_neg, hv]
theorem c_run (hRd : isReader c 1) (hb : ∀ k, 0 ≤ k → k < n → A (1 + 1) k = b k ∧ 0 ≤ b k ∧ b k ≤ 255) (h5 : A 1 5 = n) (hn : 0 ≤ n ∧ n ≤ 500) (lo hi p : Int) (h7 : A 1 7 = p) (hp : 0 ≤ p ∧ p ≤ n) (hlo : 0 ≤ lo ∧ lo ≤ 255) (hhi : 0 ≤ hi ∧ hi ≤ 255) : fX2_endOfRun 1 (ii lo) (ii hi) (CW c A J) = some (Sum.inl (some (Value.int (ii (rn b n lo hi p)))), CW c A J) := by
  have hs := rn_b b n lo hi p hp.2
  simp (disch := first | assumption | omega) only [fX2_endOfRun, rwI1, rwS1, rwI2, rwS2, rwI4, rwS4, rwI5, rwS5, rwI7, rwS7, rwI8, rwS8, rwI9, rwS9, rwR0, rwR3, rwR6, rwA1, rwU1, rwA3, rwU3, rwV, rwJ, rwUJ, plI0, plS0, plI1, plS1, plI2, plS2, plI3, plS3, plI4, plS4, plI5, plS5, plI6, plS6, plI7, plS7, plR8, plR9, plR10, plA1, plU1, plA2, plU2, plA3, plU3, plV, stI2, stS2, stI3, stS3, stI4, stS4, stI5, stS5, stI6, stS6, stI7, stS7, stR0, stR1, stA2, stU2, stV, stRow, svI5, svS5, svI6, svS6, svI7, svS7, svR0, svR1, svR2, svR3, svR4, svA13, svU13, svA14, svU14, svA15, svU15, svA16, svU16, svV, svRow, svF, svUF, hiI1, hiS1, hiI2, hiS2, hiR0, hiV, hiRow, rdI2, rdS2, rdI3, rdS3, rdI4, rdS4, rdI5, rdS5, rdI6, rdS6, rdI7, rdS7, rdI8, rdS8, rdR0, rdR1, rdA1, rdU1, rdA2, rdU2, rdV, k_C, ↓reduceIte, tr_lt, fa_lt, tr_le, fa_le, tr_eq, fa_eq, and_true, true_and, and_false, false_and, il0, il1, il2, il3, il4, il5, il6, il7, il8, il9, il10, il11, il12, il15, il16, il20, il24, il31, il32, il44, il45, il48, il50, il57, il58, il59, il63, il91, il93, il97, il99, il100, il109, il113, il119, il120, il122, il200, il255, il480, il500, il501, il512, il999, il4112, il41120, il1000000, il1000003, ii_add, ii_sub, ii_mul, ii_neg, ii_le, ii_lt, ii_eq, ii_div, q_I, q_V, q_R, lt_q, rZ_q, md_M, md_16, md_4, md_8, md_10, if_true, if_false, if_pos, if_neg, h7]
  refine lp (fun m i (_ : Unit) => fX2_endOfRun_5 m 1 (ii lo) (ii hi) (ii i) (CW c A J)) (fun x => x = some (Sum.inl (some (Value.int (ii (rn b n lo hi p)))), CW c A J)) (fun i _ => p ≤ i ∧ rn b n lo hi i = rn b n lo hi p) (rn b n lo hi p) ?_ ?_ FU p () hs.1 ⟨by omega, rfl⟩ (by have := FU_e; omega)
  · rintro m i _ hi2 ⟨hI, he⟩
    have hbi := hb i (by omega) (by omega)
    have hin := hs.2.2.2 i hI hi2
    have hbt := c_betw (J := J) hRd i (b i) lo hi (by omega) hbi.1 hbi.2 hlo hhi
    rw [if_pos hin] at hbt
    refine Or.inr ⟨(), ⟨by omega, by rw [← he]; exact (rn_1 b n lo hi i (by omega) hin).symm⟩, ?_⟩
    simp (disch := first | assumption | omega) only [fX2_endOfRun_5, rwI1, rwS1, rwI2, rwS2, rwI4, rwS4, rwI5, rwS5, rwI7, rwS7, rwI8, rwS8, rwI9, rwS9, rwR0, rwR3, rwR6, rwA1, rwU1, rwA3, rwU3, rwV, rwJ, rwUJ, plI0, plS0, plI1, plS1, plI2, plS2, plI3, plS3, plI4, plS4, plI5, plS5, plI6, plS6, plI7, plS7, plR8, plR9, plR10, plA1, plU1, plA2, plU2, plA3, plU3, plV, stI2, stS2, stI3, stS3, stI4, stS4, stI5, stS5, stI6, stS6, stI7, stS7, stR0, stR1, stA2, stU2, stV, stRow, svI5, svS5, svI6, svS6, svI7, svS7, svR0, svR1, svR2, svR3, svR4, svA13, svU13, svA14, svU14, svA15, svU15, svA16, svU16, svV, svRow, svF, svUF, hiI1, hiS1, hiI2, hiS2, hiR0, hiV, hiRow, rdI2, rdS2, rdI3, rdS3, rdI4, rdS4, rdI5, rdS5, rdI6, rdS6, rdI7, rdS7, rdI8, rdS8, rdR0, rdR1, rdA1, rdU1, rdA2, rdU2, rdV, k_C, ↓reduceIte, tr_lt, fa_lt, tr_le, fa_le, tr_eq, fa_eq, and_true, true_and, and_false, false_and, il0, il1, il2, il3, il4, il5, il6, il7, il8, il9, il10, il11, il12, il15, il16, il20, il24, il31, il32, il44, il45, il48, il50, il57, il58, il59, il63, il91, il93, il97, il99, il100, il109, il113, il119, il120, il122, il200, il255, il480, il500, il501, il512, il999, il4112, il41120, il1000000, il1000003, ii_add, ii_sub, ii_mul, ii_neg, ii_le, ii_lt, ii_eq, ii_div, q_I, q_V, q_R, lt_q, rZ_q, md_M, md_16, md_4, md_8, md_10, if_true, if_false, if_pos, if_neg, h5, hbt]
  · rintro m _ ⟨hI, he⟩
    by_cases q : n ≤ rn b n lo hi p
    · simp (disch := first | assumption | omega) only [fX2_endOfRun_5, rwI1, rwS1, rwI2, rwS2, rwI4, rwS4, rwI5, rwS5, rwI7, rwS7, rwI8, rwS8, rwI9, rwS9, rwR0, rwR3, rwR6, rwA1, rwU1, rwA3, rwU3, rwV, rwJ, rwUJ, plI0, plS0, plI1, plS1, plI2, plS2, plI3, plS3, plI4, plS4, plI5, plS5, plI6, plS6, plI7, plS7, plR8, plR9, plR10, plA1, plU1, plA2, plU2, plA3, plU3, plV, stI2, stS2, stI3, stS3, stI4, stS4, stI5, stS5, stI6, stS6, stI7, stS7, stR0, stR1, stA2, stU2, stV, stRow, svI5, svS5, svI6, svS6, svI7, svS7, svR0, svR1, svR2, svR3, svR4, svA13, svU13, svA14, svU14, svA15, svU15, svA16, svU16, svV, svRow, svF, svUF, hiI1, hiS1, hiI2, hiS2, hiR0, hiV, hiRow, rdI2, rdS2, rdI3, rdS3, rdI4, rdS4, rdI5, rdS5, rdI6, rdS6, rdI7, rdS7, rdI8, rdS8, rdR0, rdR1, rdA1, rdU1, rdA2, rdU2, rdV, k_C, ↓reduceIte, tr_lt, fa_lt, tr_le, fa_le, tr_eq, fa_eq, and_true, true_and, and_false, false_and, il0, il1, il2, il3, il4, il5, il6, il7, il8, il9, il10, il11, il12, il15, il16, il20, il24, il31, il32, il44, il45, il48, il50, il57, il58, il59, il63, il91, il93, il97, il99, il100, il109, il113, il119, il120, il122, il200, il255, il480, il500, il501, il512, il999, il4112, il41120, il1000000, il1000003, ii_add, ii_sub, ii_mul, ii_neg, ii_le, ii_lt, ii_eq, ii_div, q_I, q_V, q_R, lt_q, rZ_q, md_M, md_16, md_4, md_8, md_10, if_true, if_false, if_pos, if_neg, h5]
    · have hbi := hb (rn b n lo hi p) (by omega) (by omega)
      have hbt := c_betw (J := J) hRd (rn b n lo hi p) (b (rn b n lo hi p)) lo hi (by omega) hbi.1 hbi.2 hlo hhi
      rw [if_neg (hs.2.2.1 (by omega))] at hbt
      simp (disch := first | assumption | omega) only [fX2_endOfRun_5, rwI1, rwS1, rwI2, rwS2, rwI4, rwS4, rwI5, rwS5, rwI7, rwS7, rwI8, rwS8, rwI9, rwS9, rwR0, rwR3, rwR6, rwA1, rwU1, rwA3, rwU3, rwV, rwJ, rwUJ, plI0, plS0, plI1, plS1, plI2, plS2, plI3, plS3, plI4, plS4, plI5, plS5, plI6, plS6, plI7, plS7, plR8, plR9, plR10, plA1, plU1, plA2, plU2, plA3, plU3, plV, stI2, stS2, stI3, stS3, stI4, stS4, stI5, stS5, stI6, stS6, stI7, stS7, stR0, stR1, stA2, stU2, stV, stRow, svI5, svS5, svI6, svS6, svI7, svS7, svR0, svR1, svR2, svR3, svR4, svA13, svU13, svA14, svU14, svA15, svU15, svA16, svU16, svV, svRow, svF, svUF, hiI1, hiS1, hiI2, hiS2, hiR0, hiV, hiRow, rdI2, rdS2, rdI3, rdS3, rdI4, rdS4, rdI5, rdS5, rdI6, rdS6, rdI7, rdS7, rdI8, rdS8, rdR0, rdR1, rdA1, rdU1, rdA2, rdU2, rdV, k_C, ↓reduceIte, tr_lt, fa_lt, tr_le, fa_le, tr_eq, fa_eq, and_true, true_and, and_false, false_and, il0, il1, il2, il3, il4, il5, il6, il7, il8, il9, il10, il11, il12, il15, il16, il20, il24, il31, il32, il44, il45, il48, il50, il57, il58, il59, il63, il91, il93, il97, il99, il100, il109, il113, il119, il120, il122, il200, il255, il480, il500, il501, il512, il999, il4112, il41120, il1000000, il1000003, ii_add, ii_sub, ii_mul, ii_neg, ii_le, ii_lt, ii_eq, ii_div, q_I, q_V, q_R, lt_q, rZ_q, md_M, md_16, md_4, md_8, md_10, if_true, if_false, if_pos, if_neg, h5, hbt]
/-- the class's next token -/
theorem c_adv (hRd : isReader c 1) (hb : ∀ k, 0 ≤ k → k < n → A (1 + 1) k = b k ∧ 0 ≤ b k ∧ b k ≤ 255) (h5 : A 1 5 = n) (hn : 0 ≤ n ∧ n ≤ 500) (p : Int) (h8 : A 1 8 = p) (hp : 0 ≤ p ∧ p ≤ n) :
    ∃ A', fX2_advance 1 (CW c A J) = some (Sum.inl none, CW c A' J) ∧ (A' 1 7 = sk b n p ∧ A' 1 6 = tkS b n (sk b n p) ∧ (1 ≤ tkS b n (sk b n p) ∧ tkS b n (sk b n p) ≤ 3 → A' 1 8 = tkE b n (sk b n p)) ∧ 0 ≤ A' 1 8 ∧ A' 1 8 ≤ 500) ∧ ∀ (a : Nat) (z : Int), ¬ (a = 1 ∧ 6 ≤ z ∧ z ≤ 8) → A' a z = A a z := by
  have hs := sk_b b n p hp.2
  have h0 : fX2_advance 1 (CW c A J) = fX2_advance_46 1 (CW c (up A 1 7 (sk b n p)) J) := by
    rw [← c_skip hRd hb h5 hn p hp]
    simp (disch := first | assumption | omega) only [fX2_advance, rwI1, rwS1, rwI2, rwS2, rwI4, rwS4, rwI5, rwS5, rwI7, rwS7, rwI8, rwS8, rwI9, rwS9, rwR0, rwR3, rwR6, rwA1, rwU1, rwA3, rwU3, rwV, rwJ, rwUJ, plI0, plS0, plI1, plS1, plI2, plS2, plI3, plS3, plI4, plS4, plI5, plS5, plI6, plS6, plI7, plS7, plR8, plR9, plR10, plA1, plU1, plA2, plU2, plA3, plU3, plV, stI2, stS2, stI3, stS3, stI4, stS4, stI5, stS5, stI6, stS6, stI7, stS7, stR0, stR1, stA2, stU2, stV, stRow, svI5, svS5, svI6, svS6, svI7, svS7, svR0, svR1, svR2, svR3, svR4, svA13, svU13, svA14, svU14, svA15, svU15, svA16, svU16, svV, svRow, svF, svUF, hiI1, hiS1, hiI2, hiS2, hiR0, hiV, hiRow, rdI2, rdS2, rdI3, rdS3, rdI4, rdS4, rdI5, rdS5, rdI6, rdS6, rdI7, rdS7, rdI8, rdS8, rdR0, rdR1, rdA1, rdU1, rdA2, rdU2, rdV, k_C, ↓reduceIte, tr_lt, fa_lt, tr_le, fa_le, tr_eq, fa_eq, and_true, true_and, and_false, false_and, il0, il1, il2, il3, il4, il5, il6, il7, il8, il9, il10, il11, il12, il15, il16, il20, il24, il31, il32, il44, il45, il48, il50, il57, il58, il59, il63, il91, il93, il97, il99, il100, il109, il113, il119, il120, il122, il200, il255, il480, il500, il501, il512, il999, il4112, il41120, il1000000, il1000003, ii_add, ii_sub, ii_mul, ii_neg, ii_le, ii_lt, ii_eq, ii_div, q_I, q_V, q_R, lt_q, rZ_q, md_M, md_16, md_4, md_8, md_10, if_true, if_false, if_pos, if_neg, h8]
  rw [h0]
  have x7 : up A 1 7 (sk b n p) 1 7 = sk b n p := up_s _ _ _ _
  have x5 : up A 1 7 (sk b n p) 1 5 = n := by rw [up_n _ _ _ _ _ _ (by omega)]; exact h5
  have fr : ∀ (v w : Int) (a : Nat) (z : Int), ¬ (a = 1 ∧ 6 ≤ z ∧ z ≤ 8) → up (up (up A 1 7 (sk b n p)) 1 8 w) 1 6 v a z = A a z := fun v w a z q => by
    rw [up_n _ _ _ _ _ _ (by omega), up_n _ _ _ _ _ _ (by omega), up_n _ _ _ _ _ _ (by omega)]
  generalize hF : sk b n p = F at *
  by_cases q1 : n ≤ F
  · refine ⟨up (up A 1 7 F) 1 6 0, ?_, ⟨by rw [up_n _ _ _ _ _ _ (by omega)]; exact x7, ?_, fun z => ?_, ?_⟩, fun a z q => ?_⟩
    · simp (disch := first | assumption | omega) only [fX2_advance_46, rwI1, rwS1, rwI2, rwS2, rwI4, rwS4, rwI5, rwS5, rwI7, rwS7, rwI8, rwS8, rwI9, rwS9, rwR0, rwR3, rwR6, rwA1, rwU1, rwA3, rwU3, rwV, rwJ, rwUJ, plI0, plS0, plI1, plS1, plI2, plS2, plI3, plS3, plI4, plS4, plI5, plS5, plI6, plS6, plI7, plS7, plR8, plR9, plR10, plA1, plU1, plA2, plU2, plA3, plU3, plV, stI2, stS2, stI3, stS3, stI4, stS4, stI5, stS5, stI6, stS6, stI7, stS7, stR0, stR1, stA2, stU2, stV, stRow, svI5, svS5, svI6, svS6, svI7, svS7, svR0, svR1, svR2, svR3, svR4, svA13, svU13, svA14, svU14, svA15, svU15, svA16, svU16, svV, svRow, svF, svUF, hiI1, hiS1, hiI2, hiS2, hiR0, hiV, hiRow, rdI2, rdS2, rdI3, rdS3, rdI4, rdS4, rdI5, rdS5, rdI6, rdS6, rdI7, rdS7, rdI8, rdS8, rdR0, rdR1, rdA1, rdU1, rdA2, rdU2, rdV, k_C, ↓reduceIte, tr_lt, fa_lt, tr_le, fa_le, tr_eq, fa_eq, and_true, true_and, and_false, false_and, il0, il1, il2, il3, il4, il5, il6, il7, il8, il9, il10, il11, il12, il15, il16, il20, il24, il31, il32, il44, il45, il48, il50, il57, il58, il59, il63, il91, il93, il97, il99, il100, il109, il113, il119, il120, il122, il200, il255, il480, il500, il501, il512, il999, il4112, il41120, il1000000, il1000003, ii_add, ii_sub, ii_mul, ii_neg, ii_le, ii_lt, ii_eq, ii_div, q_I, q_V, q_R, lt_q, rZ_q, md_M, md_16, md_4, md_8, md_10, if_true, if_false, if_pos, if_neg, x7, x5]
    · unfold tkS; rw [if_pos q1, up_s]
    · unfold tkS at z; rw [if_pos q1] at z; omega
    · rw [up_n _ _ _ _ _ _ (by omega), up_n _ _ _ _ _ _ (by omega)]; omega
    · rw [up_n _ _ _ _ _ _ (by omega), up_n _ _ _ _ _ _ (by omega)]
  · have hbF := hb F (by omega) (by omega)
    have hb2 := hbF.2
    have xb : up A 1 7 F (1 + 1) F = b F := by rw [up_n _ _ _ _ _ _ (by omega)]; exact hbF.1
    have hbU : ∀ k, 0 ≤ k → k < n → up A 1 7 F (1 + 1) k = b k ∧ 0 ≤ b k ∧ b k ≤ 255 := fun k a d => by rw [up_n _ _ _ _ _ _ (by omega)]; exact hb k a d
    have bt1 := c_betw (J := J) hRd F (b F) 97 122 (by omega) xb hb2 (by omega) (by omega)
    have bt2 := c_betw (J := J) hRd F (b F) 48 57 (by omega) xb hb2 (by omega) (by omega)
    have rn1 := c_run (J := J) hRd hbU x5 hn 97 122 F x7 (by omega) (by omega) (by omega)
    have rn2 := c_run (J := J) hRd hbU x5 hn 48 57 F x7 (by omega) (by omega) (by omega)
    have hr1 := rn_b b n 97 122 F (by omega)
    have hr2 := rn_b b n 48 57 F (by omega)
    by_cases q2 : b F = 59
    · refine ⟨up (up (up A 1 7 F) 1 6 3) 1 8 (F + 1), ?_, ⟨?_, ?_, fun z => ?_, ?_⟩, fun a z q => ?_⟩
      · have y7 : up (up A 1 7 F) 1 6 3 1 7 = F := by rw [up_n _ _ _ _ _ _ (by omega)]; exact x7
        simp (disch := first | assumption | omega) only [fX2_advance_46, rwI1, rwS1, rwI2, rwS2, rwI4, rwS4, rwI5, rwS5, rwI7, rwS7, rwI8, rwS8, rwI9, rwS9, rwR0, rwR3, rwR6, rwA1, rwU1, rwA3, rwU3, rwV, rwJ, rwUJ, plI0, plS0, plI1, plS1, plI2, plS2, plI3, plS3, plI4, plS4, plI5, plS5, plI6, plS6, plI7, plS7, plR8, plR9, plR10, plA1, plU1, plA2, plU2, plA3, plU3, plV, stI2, stS2, stI3, stS3, stI4, stS4, stI5, stS5, stI6, stS6, stI7, stS7, stR0, stR1, stA2, stU2, stV, stRow, svI5, svS5, svI6, svS6, svI7, svS7, svR0, svR1, svR2, svR3, svR4, svA13, svU13, svA14, svU14, svA15, svU15, svA16, svU16, svV, svRow, svF, svUF, hiI1, hiS1, hiI2, hiS2, hiR0, hiV, hiRow, rdI2, rdS2, rdI3, rdS3, rdI4, rdS4, rdI5, rdS5, rdI6, rdS6, rdI7, rdS7, rdI8, rdS8, rdR0, rdR1, rdA1, rdU1, rdA2, rdU2, rdV, k_C, ↓reduceIte, tr_lt, fa_lt, tr_le, fa_le, tr_eq, fa_eq, and_true, true_and, and_false, false_and, il0, il1, il2, il3, il4, il5, il6, il7, il8, il9, il10, il11, il12, il15, il16, il20, il24, il31, il32, il44, il45, il48, il50, il57, il58, il59, il63, il91, il93, il97, il99, il100, il109, il113, il119, il120, il122, il200, il255, il480, il500, il501, il512, il999, il4112, il41120, il1000000, il1000003, ii_add, ii_sub, ii_mul, ii_neg, ii_le, ii_lt, ii_eq, ii_div, q_I, q_V, q_R, lt_q, rZ_q, md_M, md_16, md_4, md_8, md_10, if_true, if_false, if_pos, if_neg, x7, x5, xb, q2, y7]
      · rw [up_n _ _ _ _ _ _ (by omega), up_n _ _ _ _ _ _ (by omega)]; exact x7
      · unfold tkS; rw [if_neg q1, if_neg (by omega), if_neg (by omega), if_pos q2, up_n _ _ _ _ _ _ (by omega), up_s]
      · unfold tkE; rw [if_neg q1, if_neg (by omega), if_neg (by omega), up_s]
      · rw [up_s]; omega
      · rw [up_n _ _ _ _ _ _ (by omega), up_n _ _ _ _ _ _ (by omega), up_n _ _ _ _ _ _ (by omega)]
    · by_cases q3 : 97 ≤ b F ∧ b F ≤ 122
      · rw [if_pos q3] at bt1
        have y8 : up (up A 1 7 F) 1 8 (rn b n 97 122 F) 1 8 = rn b n 97 122 F := up_s _ _ _ _
        have y7 : up (up A 1 7 F) 1 8 (rn b n 97 122 F) 1 7 = F := by rw [up_n _ _ _ _ _ _ (by omega)]; exact x7
        refine ⟨up (up (up A 1 7 F) 1 8 (rn b n 97 122 F)) 1 6 (if 6 < rn b n 97 122 F - F then 4 else 1), ?_, ⟨?_, ?_, fun z => ?_, ?_⟩, fun a z q => fr _ _ a z q⟩
        · by_cases q4 : 6 < rn b n 97 122 F - F
          · rw [if_pos q4]
            simp (disch := first | assumption | omega) only [fX2_advance_46, fX2_advance_144, rwI1, rwS1, rwI2, rwS2, rwI4, rwS4, rwI5, rwS5, rwI7, rwS7, rwI8, rwS8, rwI9, rwS9, rwR0, rwR3, rwR6, rwA1, rwU1, rwA3, rwU3, rwV, rwJ, rwUJ, plI0, plS0, plI1, plS1, plI2, plS2, plI3, plS3, plI4, plS4, plI5, plS5, plI6, plS6, plI7, plS7, plR8, plR9, plR10, plA1, plU1, plA2, plU2, plA3, plU3, plV, stI2, stS2, stI3, stS3, stI4, stS4, stI5, stS5, stI6, stS6, stI7, stS7, stR0, stR1, stA2, stU2, stV, stRow, svI5, svS5, svI6, svS6, svI7, svS7, svR0, svR1, svR2, svR3, svR4, svA13, svU13, svA14, svU14, svA15, svU15, svA16, svU16, svV, svRow, svF, svUF, hiI1, hiS1, hiI2, hiS2, hiR0, hiV, hiRow, rdI2, rdS2, rdI3, rdS3, rdI4, rdS4, rdI5, rdS5, rdI6, rdS6, rdI7, rdS7, rdI8, rdS8, rdR0, rdR1, rdA1, rdU1, rdA2, rdU2, rdV, k_C, ↓reduceIte, tr_lt, fa_lt, tr_le, fa_le, tr_eq, fa_eq, and_true, true_and, and_false, false_and, il0, il1, il2, il3, il4, il5, il6, il7, il8, il9, il10, il11, il12, il15, il16, il20, il24, il31, il32, il44, il45, il48, il50, il57, il58, il59, il63, il91, il93, il97, il99, il100, il109, il113, il119, il120, il122, il200, il255, il480, il500, il501, il512, il999, il4112, il41120, il1000000, il1000003, ii_add, ii_sub, ii_mul, ii_neg, ii_le, ii_lt, ii_eq, ii_div, q_I, q_V, q_R, lt_q, rZ_q, md_M, md_16, md_4, md_8, md_10, if_true, if_false, if_pos, if_neg, x7, x5, xb, bt1, rn1, y8, y7]
          · rw [if_neg q4]
            simp (disch := first | assumption | omega) only [fX2_advance_46, fX2_advance_144, rwI1, rwS1, rwI2, rwS2, rwI4, rwS4, rwI5, rwS5, rwI7, rwS7, rwI8, rwS8, rwI9, rwS9, rwR0, rwR3, rwR6, rwA1, rwU1, rwA3, rwU3, rwV, rwJ, rwUJ, plI0, plS0, plI1, plS1, plI2, plS2, plI3, plS3, plI4, plS4, plI5, plS5, plI6, plS6, plI7, plS7, plR8, plR9, plR10, plA1, plU1, plA2, plU2, plA3, plU3, plV, stI2, stS2, stI3, stS3, stI4, stS4, stI5, stS5, stI6, stS6, stI7, stS7, stR0, stR1, stA2, stU2, stV, stRow, svI5, svS5, svI6, svS6, svI7, svS7, svR0, svR1, svR2, svR3, svR4, svA13, svU13, svA14, svU14, svA15, svU15, svA16, svU16, svV, svRow, svF, svUF, hiI1, hiS1, hiI2, hiS2, hiR0, hiV, hiRow, rdI2, rdS2, rdI3, rdS3, rdI4, rdS4, rdI5, rdS5, rdI6, rdS6, rdI7, rdS7, rdI8, rdS8, rdR0, rdR1, rdA1, rdU1, rdA2, rdU2, rdV, k_C, ↓reduceIte, tr_lt, fa_lt, tr_le, fa_le, tr_eq, fa_eq, and_true, true_and, and_false, false_and, il0, il1, il2, il3, il4, il5, il6, il7, il8, il9, il10, il11, il12, il15, il16, il20, il24, il31, il32, il44, il45, il48, il50, il57, il58, il59, il63, il91, il93, il97, il99, il100, il109, il113, il119, il120, il122, il200, il255, il480, il500, il501, il512, il999, il4112, il41120, il1000000, il1000003, ii_add, ii_sub, ii_mul, ii_neg, ii_le, ii_lt, ii_eq, ii_div, q_I, q_V, q_R, lt_q, rZ_q, md_M, md_16, md_4, md_8, md_10, if_true, if_false, if_pos, if_neg, x7, x5, xb, bt1, rn1, y8, y7]
        · rw [up_n _ _ _ _ _ _ (by omega)]; exact y7
        · unfold tkS; rw [if_neg q1, if_pos q3, up_s]
        · unfold tkE; rw [if_neg q1, if_pos q3, up_n _ _ _ _ _ _ (by omega)]; exact y8
        · rw [up_n _ _ _ _ _ _ (by omega), y8]; omega
      · rw [if_neg q3] at bt1
        by_cases q5 : 48 ≤ b F ∧ b F ≤ 57
        · rw [if_pos q5] at bt2
          have y8 : up (up A 1 7 F) 1 8 (rn b n 48 57 F) 1 8 = rn b n 48 57 F := up_s _ _ _ _
          have y7 : up (up A 1 7 F) 1 8 (rn b n 48 57 F) 1 7 = F := by rw [up_n _ _ _ _ _ _ (by omega)]; exact x7
          refine ⟨up (up (up A 1 7 F) 1 8 (rn b n 48 57 F)) 1 6 (if 3 < rn b n 48 57 F - F then 4 else 2), ?_, ⟨?_, ?_, fun z => ?_, ?_⟩, fun a z q => fr _ _ a z q⟩
          · by_cases q4 : 3 < rn b n 48 57 F - F
            · rw [if_pos q4]
              simp (disch := first | assumption | omega) only [fX2_advance_46, fX2_advance_196, rwI1, rwS1, rwI2, rwS2, rwI4, rwS4, rwI5, rwS5, rwI7, rwS7, rwI8, rwS8, rwI9, rwS9, rwR0, rwR3, rwR6, rwA1, rwU1, rwA3, rwU3, rwV, rwJ, rwUJ, plI0, plS0, plI1, plS1, plI2, plS2, plI3, plS3, plI4, plS4, plI5, plS5, plI6, plS6, plI7, plS7, plR8, plR9, plR10, plA1, plU1, plA2, plU2, plA3, plU3, plV, stI2, stS2, stI3, stS3, stI4, stS4, stI5, stS5, stI6, stS6, stI7, stS7, stR0, stR1, stA2, stU2, stV, stRow, svI5, svS5, svI6, svS6, svI7, svS7, svR0, svR1, svR2, svR3, svR4, svA13, svU13, svA14, svU14, svA15, svU15, svA16, svU16, svV, svRow, svF, svUF, hiI1, hiS1, hiI2, hiS2, hiR0, hiV, hiRow, rdI2, rdS2, rdI3, rdS3, rdI4, rdS4, rdI5, rdS5, rdI6, rdS6, rdI7, rdS7, rdI8, rdS8, rdR0, rdR1, rdA1, rdU1, rdA2, rdU2, rdV, k_C, ↓reduceIte, tr_lt, fa_lt, tr_le, fa_le, tr_eq, fa_eq, and_true, true_and, and_false, false_and, il0, il1, il2, il3, il4, il5, il6, il7, il8, il9, il10, il11, il12, il15, il16, il20, il24, il31, il32, il44, il45, il48, il50, il57, il58, il59, il63, il91, il93, il97, il99, il100, il109, il113, il119, il120, il122, il200, il255, il480, il500, il501, il512, il999, il4112, il41120, il1000000, il1000003, ii_add, ii_sub, ii_mul, ii_neg, ii_le, ii_lt, ii_eq, ii_div, q_I, q_V, q_R, lt_q, rZ_q, md_M, md_16, md_4, md_8, md_10, if_true, if_false, if_pos, if_neg, x7, x5, xb, bt1, bt2, rn2, y8, y7]
            · rw [if_neg q4]
              simp (disch := first | assumption | omega) only [fX2_advance_46, fX2_advance_196, rwI1, rwS1, rwI2, rwS2, rwI4, rwS4, rwI5, rwS5, rwI7, rwS7, rwI8, rwS8, rwI9, rwS9, rwR0, rwR3, rwR6, rwA1, rwU1, rwA3, rwU3, rwV, rwJ, rwUJ, plI0, plS0, plI1, plS1, plI2, plS2, plI3, plS3, plI4, plS4, plI5, plS5, plI6, plS6, plI7, plS7, plR8, plR9, plR10, plA1, plU1, plA2, plU2, plA3, plU3, plV, stI2, stS2, stI3, stS3, stI4, stS4, stI5, stS5, stI6, stS6, stI7, stS7, stR0, stR1, stA2, stU2, stV, stRow, svI5, svS5, svI6, svS6, svI7, svS7, svR0, svR1, svR2, svR3, svR4, svA13, svU13, svA14, svU14, svA15, svU15, svA16, svU16, svV, svRow, svF, svUF, hiI1, hiS1, hiI2, hiS2, hiR0, hiV, hiRow, rdI2, rdS2, rdI3, rdS3, rdI4, rdS4, rdI5, rdS5, rdI6, rdS6, rdI7, rdS7, rdI8, rdS8, rdR0, rdR1, rdA1, rdU1, rdA2, rdU2, rdV, k_C, ↓reduceIte, tr_lt, fa_lt, tr_le, fa_le, tr_eq, fa_eq, and_true, true_and, and_false, false_and, il0, il1, il2, il3, il4, il5, il6, il7, il8, il9, il10, il11, il12, il15, il16, il20, il24, il31, il32, il44, il45, il48, il50, il57, il58, il59, il63, il91, il93, il97, il99, il100, il109, il113, il119, il120, il122, il200, il255, il480, il500, il501, il512, il999, il4112, il41120, il1000000, il1000003, ii_add, ii_sub, ii_mul, ii_neg, ii_le, ii_lt, ii_eq, ii_div, q_I, q_V, q_R, lt_q, rZ_q, md_M, md_16, md_4, md_8, md_10, if_true, if_false, if_pos, if_neg, x7, x5, xb, bt1, bt2, rn2, y8, y7]
          · rw [up_n _ _ _ _ _ _ (by omega)]; exact y7
          · unfold tkS; rw [if_neg q1, if_neg q3, if_pos q5, up_s]
          · unfold tkE; rw [if_neg q1, if_neg q3, if_pos q5, up_n _ _ _ _ _ _ (by omega)]; exact y8
          · rw [up_n _ _ _ _ _ _ (by omega), y8]; omega
        · rw [if_neg q5] at bt2
          refine ⟨up (up A 1 7 F) 1 6 4, ?_, ⟨by rw [up_n _ _ _ _ _ _ (by omega)]; exact x7, ?_, fun z => ?_, ?_⟩, fun a z q => ?_⟩
          · simp (disch := first | assumption | omega) only [fX2_advance_46, rwI1, rwS1, rwI2, rwS2, rwI4, rwS4, rwI5, rwS5, rwI7, rwS7, rwI8, rwS8, rwI9, rwS9, rwR0, rwR3, rwR6, rwA1, rwU1, rwA3, rwU3, rwV, rwJ, rwUJ, plI0, plS0, plI1, plS1, plI2, plS2, plI3, plS3, plI4, plS4, plI5, plS5, plI6, plS6, plI7, plS7, plR8, plR9, plR10, plA1, plU1, plA2, plU2, plA3, plU3, plV, stI2, stS2, stI3, stS3, stI4, stS4, stI5, stS5, stI6, stS6, stI7, stS7, stR0, stR1, stA2, stU2, stV, stRow, svI5, svS5, svI6, svS6, svI7, svS7, svR0, svR1, svR2, svR3, svR4, svA13, svU13, svA14, svU14, svA15, svU15, svA16, svU16, svV, svRow, svF, svUF, hiI1, hiS1, hiI2, hiS2, hiR0, hiV, hiRow, rdI2, rdS2, rdI3, rdS3, rdI4, rdS4, rdI5, rdS5, rdI6, rdS6, rdI7, rdS7, rdI8, rdS8, rdR0, rdR1, rdA1, rdU1, rdA2, rdU2, rdV, k_C, ↓reduceIte, tr_lt, fa_lt, tr_le, fa_le, tr_eq, fa_eq, and_true, true_and, and_false, false_and, il0, il1, il2, il3, il4, il5, il6, il7, il8, il9, il10, il11, il12, il15, il16, il20, il24, il31, il32, il44, il45, il48, il50, il57, il58, il59, il63, il91, il93, il97, il99, il100, il109, il113, il119, il120, il122, il200, il255, il480, il500, il501, il512, il999, il4112, il41120, il1000000, il1000003, ii_add, ii_sub, ii_mul, ii_neg, ii_le, ii_lt, ii_eq, ii_div, q_I, q_V, q_R, lt_q, rZ_q, md_M, md_16, md_4, md_8, md_10, if_true, if_false, if_pos, if_neg, x7, x5, xb, bt1, bt2]
          · unfold tkS; rw [if_neg q1, if_neg q3, if_neg q5, if_neg q2, up_s]
          · unfold tkS at z; rw [if_neg q1, if_neg q3, if_neg q5, if_neg q2] at z; omega
          · rw [up_n _ _ _ _ _ _ (by omega), up_n _ _ _ _ _ _ (by omega)]; omega
          · rw [up_n _ _ _ _ _ _ (by omega), up_n _ _ _ _ _ _ (by omega)]
end RDC
