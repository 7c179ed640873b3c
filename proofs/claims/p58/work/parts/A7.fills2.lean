/-! THE LAW'S WORLD: all fillings, the loops -/
section FLO
variable {c : CC} {A D : AI} {J : JI} {w f q : Nat} {n : Int} {o len st : Int → Int} {S : SS} {ways : Int}
/-- how many counts were tried that a row has room for -/
def tri (i : Int) : Int := if 120 < i then 0 else 120 - i
theorem cnt_le (w L i : Int) (h : 0 < L ∧ 0 ≤ i) (hw : 0 ≤ w - i * L ∧ w ≤ 120) : i ≤ 120 := by
  have := Int.mul_le_mul_of_nonneg_left (show 1 ≤ L by omega) h.2
  omega
theorem n_fC (hX : FX c A w f q n o len st) (hD : FS f A D S ways) (op sum a b : Int) (hs : -300 ≤ sum ∧ sum ≤ 120) (ha : 0 ≤ a ∧ a ≤ Tp n o st 0) (hb : 0 ≤ b ∧ b ≤ Tp n o st 1) (hw : ways < 1900000000) (x1 x3 : Int32) {r41 : _} {r141 : _} {r152 : _} :
    ∃ D' ways', fX19_fills_163 r41 r141 r152 FU w x1 f x3 (ii op) (ii sum) q (ii a) (ii b) (ii (Tp n o st 2)) (CW c D J) = fX19_fills_418 r41 r141 r152 w x1 f x3 (ii op) (ii sum) q (ii a) (ii b) (CW c D' J) ∧
      FS f A D' (sup S (a + b + Gp n o len st 2 (sum - a * Lp n o len 0 - b * Lp n o len 1)) (pC n o len st op a b (sum - a * Lp n o len 0 - b * Lp n o len 1))) ways' ∧ (ways ≤ ways' ∧ ways' ≤ ways + 121) ∧ (sum - a * Lp n o len 0 - b * Lp n o len 1 < 0 → ways' = ways) := by
  obtain ⟨l2, t2⟩ := hX.LT 2 (by omega)
  obtain ⟨l0, t0⟩ := hX.LT 0 (by omega)
  obtain ⟨l1, t1⟩ := hX.LT 1 (by omega)
  have hX' := hX
  obtain ⟨⟨hW, hF, hq⟩, hwf, hqf, h4, ⟨hk, h5⟩, hn, ho, hT⟩ := hX'
  have hS0 := hD.2.2.1
  have mA := mul_b (a := a) (b := Lp n o len 0) (m := 5001) (n := 99) ⟨by omega, by omega⟩
  have mB := mul_b (a := b) (b := Lp n o len 1) (m := 5001) (n := 99) ⟨by omega, by omega⟩
  obtain ⟨x, hx⟩ : ∃ x, x = sum - a * Lp n o len 0 - b * Lp n o len 1 := ⟨_, rfl⟩
  rw [← hx]
  refine lpd (fun m i (s : AI × SS × Int) => fX19_fills_163 r41 r141 r152 m w x1 f x3 (ii op) (ii sum) q (ii a) (ii b) (ii i) (CW c s.1 J)) (fun y => ∃ D' ways', y = fX19_fills_418 r41 r141 r152 w x1 f x3 (ii op) (ii sum) q (ii a) (ii b) (CW c D' J) ∧ FS f A D' (sup S (a + b + Gp n o len st 2 x) (pC n o len st op a b x)) ways' ∧ (ways ≤ ways' ∧ ways' ≤ ways + 121) ∧ (x < 0 → ways' = ways))
    (fun i s => (-1 ≤ i ∧ i ≤ Tp n o st 2) ∧ FS f A s.1 s.2.1 s.2.2 ∧ BS (Gp n o len st 3) (a + b) (Lp n o len 2) x (Tp n o st 2) (fun i => pE n o len st op a b i (x - i * Lp n o len 2)) S s.2.1 i ∧ (ways ≤ s.2.2 ∧ s.2.2 ≤ ways + tri i) ∧ (x < 0 → s.2.2 = ways)) (-1) ?_ ?_ FU (Tp n o st 2) (D, S, ways) (by omega) ⟨by omega, hD, BS.start _ _ _ _ _ _ _, by dsimp only; unfold tri; split <;> omega, fun _ => rfl⟩ (by have := FU_e; omega)
  · rintro m i ⟨E, T, u⟩ hi ⟨hI, hE, hB, hu, hz⟩
    dsimp only at hE hB hu hz ⊢
    have ht : tri i ≤ 121 := by unfold tri; split <;> omega
    obtain ⟨E', u', e1, e2, e3, e4⟩ := n_fL (J := J) (r41 := r41) (r141 := r141) (r152 := r152) (r163 := fX19_fills_163 r41 r141 r152 m) hX hE op sum a b i hs ha hb (by omega) (by omega) x1 x3
    have hB' := hB.step hI.2
    rw [← hx] at e2 e4
    have wE : E w 14 = n := by rw [hE.2.2.2 _ _ (by omega) (by omega)]; exact hn
    have dO : ∀ p, 0 ≤ p → p < n → E (w + 6) p = o p ∧ E (w + 4) (o p) = Lp n o len p := fun p x y => by
      rw [hE.2.2.2 _ _ (by omega) (by omega), hE.2.2.2 _ _ (by omega) (by omega)]
      refine ⟨(ho p x y).1, ?_⟩
      rw [(ho p x y).2]
      unfold Lp
      rw [if_pos y]
    refine Or.inr ⟨(E', sup T (a + b + i + Gp n o len st 3 (x - i * Lp n o len 2)) (pE n o len st op a b i (x - i * Lp n o len 2)), u'), ⟨by omega, e2, hB', ⟨by dsimp only; omega, ?_⟩, fun y => ?_⟩, ?_⟩
    · dsimp only
      by_cases y : x - i * Lp n o len 2 < 0
      · rw [e4 y]
        have : tri i ≤ tri (i - 1) := by unfold tri; split <;> split <;> omega
        omega
      · have := cnt_le x (Lp n o len 2) i (by omega) (by omega)
        have : tri (i - 1) = tri i + 1 := by unfold tri; rw [if_neg (by omega), if_neg (by omega)]; omega
        omega
    · have := Int.mul_nonneg (show 0 ≤ i by omega) (show 0 ≤ Lp n o len 2 by omega)
      dsimp only
      rw [e4 (by omega)]; exact hz y
    · have s163 : fX19_fills_163 r41 r141 r152 (m + 1) w x1 f x3 (ii op) (ii sum) q (ii a) (ii b) (ii i) (CW c E J) = fX19_fills_195 r41 r141 r152 (fX19_fills_163 r41 r141 r152 m) w x1 f x3 (ii op) (ii sum) q (ii a) (ii b) (ii i) (ii sum) (ii (a * Lp n o len 0)) (CW c E J) := by
        by_cases y : n ≤ 0
        · have ha0 : Tp n o st 0 = 0 := if_neg (by omega)
          have e : a * Lp n o len 0 = 0 := by rw [show a = 0 by omega, Int.zero_mul]
          rw [e]
          simp (disch := first | assumption | omega) only [fX19_fills_163, wdR1, wdR2, wdR3, wdR4, wdR5, wdR6, wdR7, wdR8, wdR9, wdR10, wdR11, wdR12, wdR13, wdI14, wdS14, wdI15, wdS15, wdA3, wdU3, wdA4, wdU4, wdA5, wdU5, wdA6, wdU6, wdA7, wdU7, wdA8, wdU8, wdA27, wdU27, wdA28, wdU28, wdA29, wdU29, wdA30, wdU30, wdA31, wdU31, wdB, wdP, wdAB, wdUB, wdAP, wdUP, wdV, drV, drR0, drI1, drS1, k_C, ↓reduceIte, tr_lt, fa_lt, tr_le, fa_le, tr_eq, fa_eq, and_true, true_and, and_false, false_and, il0, il1, il2, il3, il4, il5, il6, il7, il8, il9, il10, il11, il12, il15, il16, il20, il24, il31, il32, il44, il45, il48, il50, il57, il58, il59, il63, il91, il93, il97, il99, il100, il109, il113, il119, il120, il122, il200, il255, il480, il500, il501, il512, il999, il4112, il41120, il1000000, il1000003, ii_add, ii_sub, ii_mul, ii_neg, ii_le, ii_lt, ii_eq, ii_div, q_I, q_V, q_R, lt_q, rZ_q, md_M, md_16, md_4, md_8, md_10, if_true, if_false, if_pos, if_neg, wE]
        · obtain ⟨p1, p2⟩ := dO 0 (by omega) (by omega)
          have p3 := (hk 0 (by omega) (by omega)).1
          have p4 := (h5 0 (by omega) (by omega)).1
          simp (disch := first | assumption | omega) only [fX19_fills_163, wdR1, wdR2, wdR3, wdR4, wdR5, wdR6, wdR7, wdR8, wdR9, wdR10, wdR11, wdR12, wdR13, wdI14, wdS14, wdI15, wdS15, wdA3, wdU3, wdA4, wdU4, wdA5, wdU5, wdA6, wdU6, wdA7, wdU7, wdA8, wdU8, wdA27, wdU27, wdA28, wdU28, wdA29, wdU29, wdA30, wdU30, wdA31, wdU31, wdB, wdP, wdAB, wdUB, wdAP, wdUP, wdV, drV, drR0, drI1, drS1, k_C, ↓reduceIte, tr_lt, fa_lt, tr_le, fa_le, tr_eq, fa_eq, and_true, true_and, and_false, false_and, il0, il1, il2, il3, il4, il5, il6, il7, il8, il9, il10, il11, il12, il15, il16, il20, il24, il31, il32, il44, il45, il48, il50, il57, il58, il59, il63, il91, il93, il97, il99, il100, il109, il113, il119, il120, il122, il200, il255, il480, il500, il501, il512, il999, il4112, il41120, il1000000, il1000003, ii_add, ii_sub, ii_mul, ii_neg, ii_le, ii_lt, ii_eq, ii_div, q_I, q_V, q_R, lt_q, rZ_q, md_M, md_16, md_4, md_8, md_10, if_true, if_false, if_pos, if_neg, wE, p1, p2]
      rw [s163, e1]
      simp (disch := first | assumption | omega) only [fX19_fills_412, ↓reduceIte, tr_lt, fa_lt, tr_le, fa_le, tr_eq, fa_eq, and_true, true_and, and_false, false_and, il0, il1, il2, il3, il4, il5, il6, il7, il8, il9, il10, il11, il12, il15, il16, il20, il24, il31, il32, il44, il45, il48, il50, il57, il58, il59, il63, il91, il93, il97, il99, il100, il109, il113, il119, il120, il122, il200, il255, il480, il500, il501, il512, il999, il4112, il41120, il1000000, il1000003, ii_add, ii_sub, ii_mul, ii_neg, ii_le, ii_lt, ii_eq, ii_div, q_I, q_V, q_R, lt_q, rZ_q, md_M, md_16, md_4, md_8, md_10, if_true, if_false, if_pos, if_neg]
      rfl
  · rintro m ⟨E, T, u⟩ ⟨hI, hE, hB, hu, hz⟩
    dsimp only at hE hB hu hz ⊢
    have hT := hB.fin (fun z => Gp_b n o len st 3 z) (fun z hz => Gp_neg n o len st hk 3 z (by omega) hz) l2.1 t2.1 (by omega) hS0.2.1
    have hgs := Gp_s n o len st hk 2 x (by omega)
    rw [show (2 : Int) + 1 = 3 by omega] at hgs
    rw [hgs] at hT
    refine ⟨E, u, ?_, ?_, ⟨hu.1, ?_⟩, hz⟩
    · simp (disch := first | assumption | omega) only [fX19_fills_163, ↓reduceIte, tr_lt, fa_lt, tr_le, fa_le, tr_eq, fa_eq, and_true, true_and, and_false, false_and, il0, il1, il2, il3, il4, il5, il6, il7, il8, il9, il10, il11, il12, il15, il16, il20, il24, il31, il32, il44, il45, il48, il50, il57, il58, il59, il63, il91, il93, il97, il99, il100, il109, il113, il119, il120, il122, il200, il255, il480, il500, il501, il512, il999, il4112, il41120, il1000000, il1000003, ii_add, ii_sub, ii_mul, ii_neg, ii_le, ii_lt, ii_eq, ii_div, q_I, q_V, q_R, lt_q, rZ_q, md_M, md_16, md_4, md_8, md_10, if_true, if_false, if_pos, if_neg]
    · rw [hT] at hE; exact hE
    · have : tri (-1) = 121 := rfl
      omega
theorem n_fB (hX : FX c A w f q n o len st) (hD : FS f A D S ways) (op sum a : Int) (hs : -300 ≤ sum ∧ sum ≤ 120) (ha : 0 ≤ a ∧ a ≤ Tp n o st 0) (hw : ways < 1800000000) (x1 x3 : Int32) {r41 : _} {r141 : _} :
    ∃ D' ways', fX19_fills_152 r41 r141 FU w x1 f x3 (ii op) (ii sum) q (ii a) (ii (Tp n o st 1)) (CW c D J) = fX19_fills_424 r41 r141 w x1 f x3 (ii op) (ii sum) q (ii a) (CW c D' J) ∧
      FS f A D' (sup S (a + Gp n o len st 1 (sum - a * Lp n o len 0)) (pB n o len st op a (sum - a * Lp n o len 0))) ways' ∧ (ways ≤ ways' ∧ ways' ≤ ways + 14641) ∧ (sum - a * Lp n o len 0 < 0 → ways' = ways) := by
  obtain ⟨l0, t0⟩ := hX.LT 0 (by omega)
  obtain ⟨l1, t1⟩ := hX.LT 1 (by omega)
  have hX' := hX
  obtain ⟨⟨hW, hF, hq⟩, hwf, hqf, h4, ⟨hk, h5⟩, hn, ho, hT⟩ := hX'
  have hS0 := hD.2.2.1
  have mA := mul_b (a := a) (b := Lp n o len 0) (m := 5001) (n := 99) ⟨by omega, by omega⟩
  obtain ⟨x, hx⟩ : ∃ x, x = sum - a * Lp n o len 0 := ⟨_, rfl⟩
  rw [← hx]
  refine lpd (fun m i (s : AI × SS × Int) => fX19_fills_152 r41 r141 m w x1 f x3 (ii op) (ii sum) q (ii a) (ii i) (CW c s.1 J)) (fun y => ∃ D' ways', y = fX19_fills_424 r41 r141 w x1 f x3 (ii op) (ii sum) q (ii a) (CW c D' J) ∧ FS f A D' (sup S (a + Gp n o len st 1 x) (pB n o len st op a x)) ways' ∧ (ways ≤ ways' ∧ ways' ≤ ways + 14641) ∧ (x < 0 → ways' = ways))
    (fun i s => (-1 ≤ i ∧ i ≤ Tp n o st 1) ∧ FS f A s.1 s.2.1 s.2.2 ∧ BS (Gp n o len st 2) a (Lp n o len 1) x (Tp n o st 1) (fun i => pC n o len st op a i (x - i * Lp n o len 1)) S s.2.1 i ∧ (ways ≤ s.2.2 ∧ s.2.2 ≤ ways + 121 * tri i) ∧ (x < 0 → s.2.2 = ways)) (-1) ?_ ?_ FU (Tp n o st 1) (D, S, ways) (by omega) ⟨by omega, hD, BS.start _ _ _ _ _ _ _, by dsimp only; unfold tri; split <;> omega, fun _ => rfl⟩ (by have := FU_e; omega)
  · rintro m i ⟨E, T, u⟩ hi ⟨hI, hE, hB, hu, hz⟩
    dsimp only at hE hB hu hz ⊢
    have ht : tri i ≤ 121 := by unfold tri; split <;> omega
    obtain ⟨E', u', e1, e2, e3, e4⟩ := n_fC (J := J) (r41 := r41) (r141 := r141) (r152 := fX19_fills_152 r41 r141 m) hX hE op sum a i hs ha (by omega) (by omega) x1 x3
    have hB' := hB.step hI.2
    rw [← hx] at e2 e4
    have wE : E q 2 = Tp n o st 2 := by rw [hE.2.2.2 _ _ (by omega) (by omega)]; exact hT 2 (by omega) (by omega)
    refine Or.inr ⟨(E', sup T (a + i + Gp n o len st 2 (x - i * Lp n o len 1)) (pC n o len st op a i (x - i * Lp n o len 1)), u'), ⟨by omega, e2, hB', ⟨by dsimp only; omega, ?_⟩, fun y => ?_⟩, ?_⟩
    · dsimp only
      by_cases y : x - i * Lp n o len 1 < 0
      · rw [e4 y]
        have : tri i ≤ tri (i - 1) := by unfold tri; split <;> split <;> omega
        omega
      · have := cnt_le x (Lp n o len 1) i (by omega) (by omega)
        have : tri (i - 1) = tri i + 1 := by unfold tri; rw [if_neg (by omega), if_neg (by omega)]; omega
        omega
    · have := Int.mul_nonneg (show 0 ≤ i by omega) (show 0 ≤ Lp n o len 1 by omega)
      dsimp only
      rw [e4 (by omega)]; exact hz y
    · have s152 : fX19_fills_152 r41 r141 (m + 1) w x1 f x3 (ii op) (ii sum) q (ii a) (ii i) (CW c E J) = fX19_fills_163 r41 r141 (fX19_fills_152 r41 r141 m) FU w x1 f x3 (ii op) (ii sum) q (ii a) (ii i) (ii (Tp n o st 2)) (CW c E J) := by
        simp (disch := first | assumption | omega) only [fX19_fills_152, fiT, ↓reduceIte, tr_lt, fa_lt, tr_le, fa_le, tr_eq, fa_eq, and_true, true_and, and_false, false_and, il0, il1, il2, il3, il4, il5, il6, il7, il8, il9, il10, il11, il12, il15, il16, il20, il24, il31, il32, il44, il45, il48, il50, il57, il58, il59, il63, il91, il93, il97, il99, il100, il109, il113, il119, il120, il122, il200, il255, il480, il500, il501, il512, il999, il4112, il41120, il1000000, il1000003, ii_add, ii_sub, ii_mul, ii_neg, ii_le, ii_lt, ii_eq, ii_div, q_I, q_V, q_R, lt_q, rZ_q, md_M, md_16, md_4, md_8, md_10, if_true, if_false, if_pos, if_neg, wE]
      rw [s152, e1]
      simp (disch := first | assumption | omega) only [fX19_fills_418, ↓reduceIte, tr_lt, fa_lt, tr_le, fa_le, tr_eq, fa_eq, and_true, true_and, and_false, false_and, il0, il1, il2, il3, il4, il5, il6, il7, il8, il9, il10, il11, il12, il15, il16, il20, il24, il31, il32, il44, il45, il48, il50, il57, il58, il59, il63, il91, il93, il97, il99, il100, il109, il113, il119, il120, il122, il200, il255, il480, il500, il501, il512, il999, il4112, il41120, il1000000, il1000003, ii_add, ii_sub, ii_mul, ii_neg, ii_le, ii_lt, ii_eq, ii_div, q_I, q_V, q_R, lt_q, rZ_q, md_M, md_16, md_4, md_8, md_10, if_true, if_false, if_pos, if_neg]
      rfl
  · rintro m ⟨E, T, u⟩ ⟨hI, hE, hB, hu, hz⟩
    dsimp only at hE hB hu hz ⊢
    have hT := hB.fin (fun z => Gp_b n o len st 2 z) (fun z hz => Gp_neg n o len st hk 2 z (by omega) hz) l1.1 t1.1 (by omega) hS0.2.1
    have hgs := Gp_s n o len st hk 1 x (by omega)
    rw [show (1 : Int) + 1 = 2 by omega] at hgs
    rw [hgs] at hT
    refine ⟨E, u, ?_, ?_, ⟨hu.1, ?_⟩, hz⟩
    · simp (disch := first | assumption | omega) only [fX19_fills_152, ↓reduceIte, tr_lt, fa_lt, tr_le, fa_le, tr_eq, fa_eq, and_true, true_and, and_false, false_and, il0, il1, il2, il3, il4, il5, il6, il7, il8, il9, il10, il11, il12, il15, il16, il20, il24, il31, il32, il44, il45, il48, il50, il57, il58, il59, il63, il91, il93, il97, il99, il100, il109, il113, il119, il120, il122, il200, il255, il480, il500, il501, il512, il999, il4112, il41120, il1000000, il1000003, ii_add, ii_sub, ii_mul, ii_neg, ii_le, ii_lt, ii_eq, ii_div, q_I, q_V, q_R, lt_q, rZ_q, md_M, md_16, md_4, md_8, md_10, if_true, if_false, if_pos, if_neg]
    · rw [hT] at hE; exact hE
    · have : tri (-1) = 121 := rfl
      omega
theorem n_fA (hX : FX c A w f q n o len st) (hD : FS f A D S ways) (op sum : Int) (hs : -300 ≤ sum ∧ sum ≤ 120) (hw : ways < 1700000000) (x1 x3 : Int32) {r41 : _} :
    ∃ D' ways', fX19_fills_141 r41 FU w x1 f x3 (ii op) (ii sum) q (ii (Tp n o st 0)) (CW c D J) = fX19_fills_430 r41 w x1 f x3 (ii op) (CW c D' J) ∧
      FS f A D' (sup S (Gp n o len st 0 sum) (pA n o len st op sum)) ways' ∧ (ways ≤ ways' ∧ ways' ≤ ways + 1771561) := by
  obtain ⟨l0, t0⟩ := hX.LT 0 (by omega)
  have hX' := hX
  obtain ⟨⟨hW, hF, hq⟩, hwf, hqf, h4, ⟨hk, h5⟩, hn, ho, hT⟩ := hX'
  have hS0 := hD.2.2.1
  refine lpd (fun m i (s : AI × SS × Int) => fX19_fills_141 r41 m w x1 f x3 (ii op) (ii sum) q (ii i) (CW c s.1 J)) (fun y => ∃ D' ways', y = fX19_fills_430 r41 w x1 f x3 (ii op) (CW c D' J) ∧ FS f A D' (sup S (Gp n o len st 0 sum) (pA n o len st op sum)) ways' ∧ (ways ≤ ways' ∧ ways' ≤ ways + 1771561))
    (fun i s => (-1 ≤ i ∧ i ≤ Tp n o st 0) ∧ FS f A s.1 s.2.1 s.2.2 ∧ BS (Gp n o len st 1) 0 (Lp n o len 0) sum (Tp n o st 0) (fun i => pB n o len st op i (sum - i * Lp n o len 0)) S s.2.1 i ∧ (ways ≤ s.2.2 ∧ s.2.2 ≤ ways + 14641 * tri i)) (-1) ?_ ?_ FU (Tp n o st 0) (D, S, ways) (by omega) ⟨by omega, hD, BS.start _ _ _ _ _ _ _, by dsimp only; unfold tri; split <;> omega⟩ (by have := FU_e; omega)
  · rintro m i ⟨E, T, u⟩ hi ⟨hI, hE, hB, hu⟩
    dsimp only at hE hB hu ⊢
    have ht : tri i ≤ 121 := by unfold tri; split <;> omega
    obtain ⟨E', u', e1, e2, e3, e4⟩ := n_fB (J := J) (r41 := r41) (r141 := fX19_fills_141 r41 m) hX hE op sum i hs (by omega) (by omega) x1 x3
    have hB' := hB.step hI.2
    rw [Int.zero_add] at hB'
    have wE : E q 1 = Tp n o st 1 := by rw [hE.2.2.2 _ _ (by omega) (by omega)]; exact hT 1 (by omega) (by omega)
    refine Or.inr ⟨(E', sup T (i + Gp n o len st 1 (sum - i * Lp n o len 0)) (pB n o len st op i (sum - i * Lp n o len 0)), u'), ⟨by omega, e2, hB', ⟨by dsimp only; omega, ?_⟩⟩, ?_⟩
    · dsimp only
      by_cases y : sum - i * Lp n o len 0 < 0
      · rw [e4 y]
        have : tri i ≤ tri (i - 1) := by unfold tri; split <;> split <;> omega
        omega
      · have := cnt_le sum (Lp n o len 0) i (by omega) (by omega)
        have : tri (i - 1) = tri i + 1 := by unfold tri; rw [if_neg (by omega), if_neg (by omega)]; omega
        omega
    · have s141 : fX19_fills_141 r41 (m + 1) w x1 f x3 (ii op) (ii sum) q (ii i) (CW c E J) = fX19_fills_152 r41 (fX19_fills_141 r41 m) FU w x1 f x3 (ii op) (ii sum) q (ii i) (ii (Tp n o st 1)) (CW c E J) := by
        simp (disch := first | assumption | omega) only [fX19_fills_141, fiT, ↓reduceIte, tr_lt, fa_lt, tr_le, fa_le, tr_eq, fa_eq, and_true, true_and, and_false, false_and, il0, il1, il2, il3, il4, il5, il6, il7, il8, il9, il10, il11, il12, il15, il16, il20, il24, il31, il32, il44, il45, il48, il50, il57, il58, il59, il63, il91, il93, il97, il99, il100, il109, il113, il119, il120, il122, il200, il255, il480, il500, il501, il512, il999, il4112, il41120, il1000000, il1000003, ii_add, ii_sub, ii_mul, ii_neg, ii_le, ii_lt, ii_eq, ii_div, q_I, q_V, q_R, lt_q, rZ_q, md_M, md_16, md_4, md_8, md_10, if_true, if_false, if_pos, if_neg, wE]
      rw [s141, e1]
      simp (disch := first | assumption | omega) only [fX19_fills_424, ↓reduceIte, tr_lt, fa_lt, tr_le, fa_le, tr_eq, fa_eq, and_true, true_and, and_false, false_and, il0, il1, il2, il3, il4, il5, il6, il7, il8, il9, il10, il11, il12, il15, il16, il20, il24, il31, il32, il44, il45, il48, il50, il57, il58, il59, il63, il91, il93, il97, il99, il100, il109, il113, il119, il120, il122, il200, il255, il480, il500, il501, il512, il999, il4112, il41120, il1000000, il1000003, ii_add, ii_sub, ii_mul, ii_neg, ii_le, ii_lt, ii_eq, ii_div, q_I, q_V, q_R, lt_q, rZ_q, md_M, md_16, md_4, md_8, md_10, if_true, if_false, if_pos, if_neg]
      rfl
  · rintro m ⟨E, T, u⟩ ⟨hI, hE, hB, hu⟩
    dsimp only at hE hB hu ⊢
    have hT := hB.fin (fun z => Gp_b n o len st 1 z) (fun z hz => Gp_neg n o len st hk 1 z (by omega) hz) l0.1 t0.1 (by omega) hS0.2.1
    have hgs := Gp_s n o len st hk 0 sum (by omega)
    rw [show (0 : Int) + 1 = 1 by omega] at hgs
    rw [hgs, Int.zero_add] at hT
    refine ⟨E, u, ?_, ?_, ⟨hu.1, ?_⟩⟩
    · simp (disch := first | assumption | omega) only [fX19_fills_141, ↓reduceIte, tr_lt, fa_lt, tr_le, fa_le, tr_eq, fa_eq, and_true, true_and, and_false, false_and, il0, il1, il2, il3, il4, il5, il6, il7, il8, il9, il10, il11, il12, il15, il16, il20, il24, il31, il32, il44, il45, il48, il50, il57, il58, il59, il63, il91, il93, il97, il99, il100, il109, il113, il119, il120, il122, il200, il255, il480, il500, il501, il512, il999, il4112, il41120, il1000000, il1000003, ii_add, ii_sub, ii_mul, ii_neg, ii_le, ii_lt, ii_eq, ii_div, q_I, q_V, q_R, lt_q, rZ_q, md_M, md_16, md_4, md_8, md_10, if_true, if_false, if_pos, if_neg]
    · rw [hT] at hE; exact hE
    · have : tri (-1) = 121 := rfl
      omega
end FLO
