/-! THE CLASS'S SOLVER: the fewest -/
theorem tr_lt (a b : Int) (h : a < b) : (a < b) = True := eq_true h
theorem fa_lt (a b : Int) (h : ¬ a < b) : (a < b) = False := eq_false h
theorem tr_le (a b : Int) (h : a ≤ b) : (a ≤ b) = True := eq_true h
theorem fa_le (a b : Int) (h : ¬ a ≤ b) : (a ≤ b) = False := eq_false h
theorem tr_eq (a b : Int) (h : a = b) : (a = b) = True := eq_true h
theorem fa_eq (a b : Int) (h : ¬ a = b) : (a = b) = False := eq_false h
def inV (V b : Nat) : Prop := V ≤ b ∧ b < V + 17
def inF (V b : Nat) : Prop := V + 2 ≤ b ∧ b < V + 13
abbrev svT (A : AI) (V : Nat) (n : Int) (o len st : Int → Int) (size k0 : Int) : Prop := ∀ p s, k0 ≤ p → p ≤ n → 0 ≤ s → s ≤ 500 → A (fr V p) s = if s ≤ size then FW n o len st p s else 1000000
theorem fr_in {V : Nat} {p : Int} (h : 0 ≤ p ∧ p < 11) : inF V (fr V p) := by unfold inF fr; omega
theorem fr_ne {V : Nat} {p q : Int} (h : 0 ≤ p ∧ 0 ≤ q ∧ p ≠ q) : fr V p ≠ fr V q := by unfold fr; omega
theorem IsMn.cut {f : Int → Int} {L T st w v size : Int} (hL : 0 < L) (hT : T = if st < size / L then st else size / L) (hw : w ≤ size) (h : IsMn f L T w v) : IsMn f L st w v := by
  obtain ⟨h1, h2, h3⟩ := h
  refine ⟨h1, fun c a b d => h2 c a ?_ d, ?_⟩
  · have := Int.le_ediv_iff_mul_le (a := c) (b := size) hL
    rw [hT]
    split <;> omega
  · rcases h3 with q | ⟨c, c1, c2, c3⟩
    · exact Or.inl q
    · refine Or.inr ⟨c, ⟨c1.1, ?_⟩, c2, c3⟩
      have := c1.2
      rw [hT] at this
      split at this <;> omega
theorem FW_cong (n : Int) (o len st st' : Int → Int) : ∀ (j : Nat) (s : Int), (∀ q, n - j ≤ q → q < n → st' (o q) = st (o q)) → fwN n o len st' j s = fwN n o len st j s
  | 0, s, _ => rfl
  | j + 1, s, h => by
    show mnb (fwN n o len st' j) (len (o (n - 1 - j))) (st' (o (n - 1 - j))) s = mnb (fwN n o len st j) (len (o (n - 1 - j))) (st (o (n - 1 - j))) s
    rw [h (n - 1 - j) (by omega) (by omega), show fwN n o len st' j = fwN n o len st j from funext fun z => FW_cong n o len st st' j z (fun q a b => h q (by omega) b)]
section CSV
variable {c : CC} {A : AI} {J : JI} {S Q V : Nat} {M : AI} {len g : Int → Int} {f : Int}
theorem v_bundle (hV : isSolver c V) (p size Lu u : Int) (F : Int → Int) (hp : 0 ≤ p ∧ p < 11) (hsz : 0 ≤ size ∧ size ≤ 500) (hu : 0 < u ∧ u ≤ 500) (hLu : 0 < Lu ∧ Lu ≤ size) (hF : ∀ w, 0 ≤ w → w ≤ size → A (fr V p) w = F w) (hFb : ∀ w, 0 ≤ w → w ≤ size → 0 ≤ F w ∧ F w ≤ 1000000) :
    ∃ A', fX4_addBundle (fr V p) (ii size) (ii Lu) (ii u) (CW c A J) = some (Sum.inl none, CW c A' J) ∧ (∀ w, 0 ≤ w → w ≤ size → A' (fr V p) w = if Lu ≤ w ∧ F (w - Lu) + u < F w then F (w - Lu) + u else F w) ∧ ∀ (b : Nat) (z : Int), (b ≠ fr V p ∨ size < z) → A' b z = A b z := by
  have hok := (hV.2.2 p hp.1 hp.2).2
  have e0 : (if ii 501 - ii 1 < ii size then ii 501 - ii 1 else ii size) = ii size := by
    rw [ii_sub]
    by_cases q : size = 500
    · rw [q, if_neg (by rw [ii_lt _ _ (by omega)]; omega)]
    · rw [if_neg (by rw [ii_lt _ _ (by omega)]; omega)]
  have e1 : fX4_addBundle (fr V p) (ii size) (ii Lu) (ii u) (CW c A J) = fX4_addBundle_10 FU (fr V p) (ii Lu) (ii u) (ii size) (CW c A J) := by
    rw [fX4_addBundle, k_aL hok, lt_q, show ((501 : Nat) : Int) = 501 from rfl, il1, e0]
  rw [e1]
  refine lpd (fun n i (s : AI) => fX4_addBundle_10 n (fr V p) (ii Lu) (ii u) (ii i) (CW c s J)) (fun x => ∃ A', x = some (Sum.inl none, CW c A' J) ∧ (∀ w, 0 ≤ w → w ≤ size → A' (fr V p) w = if Lu ≤ w ∧ F (w - Lu) + u < F w then F (w - Lu) + u else F w) ∧ ∀ (b : Nat) (z : Int), (b ≠ fr V p ∨ size < z) → A' b z = A b z)
    (fun i s => (i ≤ size ∧ ∀ w, 0 ≤ w → w ≤ i → s (fr V p) w = F w) ∧ (∀ w, i < w → w ≤ size → s (fr V p) w = if Lu ≤ w ∧ F (w - Lu) + u < F w then F (w - Lu) + u else F w) ∧ ∀ (b : Nat) (z : Int), (b ≠ fr V p ∨ size < z) → s b z = A b z) (Lu - 1) ?_ ?_ FU size A (by omega) ⟨⟨by omega, hF⟩, fun w a b => by omega, fun _ _ _ => rfl⟩ (by have := FU_e; omega)
  · rintro n i s hi ⟨⟨hI, k1⟩, k2, k3⟩
    have f1 := k1 (i - Lu) (by omega) (by omega)
    have f2 := k1 i (by omega) (by omega)
    have b1 := hFb (i - Lu) (by omega) (by omega)
    have b2 := hFb i (by omega) (by omega)
    by_cases q : F (i - Lu) + u < F i
    · refine Or.inr ⟨up s (fr V p) i (F (i - Lu) + u), ⟨⟨by omega, fun w a b => by rw [up_n _ _ _ _ _ _ (by omega)]; exact k1 w a (by omega)⟩, fun w a b => ?_, fun b z d => by rw [up_n _ _ _ _ _ _ (by omega)]; exact k3 b z d⟩, ?_⟩
      · by_cases e : w = i
        · rw [e, up_s, if_pos ⟨by omega, q⟩]
        · rw [up_n _ _ _ _ _ _ (by omega)]; exact k2 w (by omega) b
      · simp (disch := first | assumption | omega) only [fX4_addBundle_10, fX4_addBundle_41, rwI1, rwS1, rwI2, rwS2, rwI4, rwS4, rwI5, rwS5, rwI7, rwS7, rwI8, rwS8, rwI9, rwS9, rwR0, rwR3, rwR6, rwA1, rwU1, rwA3, rwU3, rwV, rwJ, rwUJ, plI0, plS0, plI1, plS1, plI2, plS2, plI3, plS3, plI4, plS4, plI5, plS5, plI6, plS6, plI7, plS7, plR8, plR9, plR10, plA1, plU1, plA2, plU2, plA3, plU3, plV, stI2, stS2, stI3, stS3, stI4, stS4, stI5, stS5, stI6, stS6, stI7, stS7, stR0, stR1, stA2, stU2, stV, stRow, svI5, svS5, svI6, svS6, svI7, svS7, svR0, svR1, svR2, svR3, svR4, svA13, svU13, svA14, svU14, svA15, svU15, svA16, svU16, svV, svRow, svF, svUF, hiI1, hiS1, hiI2, hiS2, hiR0, hiV, hiRow, rdI2, rdS2, rdI3, rdS3, rdI4, rdS4, rdI5, rdS5, rdI6, rdS6, rdI7, rdS7, rdI8, rdS8, rdR0, rdR1, rdA1, rdU1, rdA2, rdU2, rdV, k_C, ↓reduceIte, tr_lt, fa_lt, tr_le, fa_le, tr_eq, fa_eq, and_true, true_and, and_false, false_and, il0, il1, il2, il3, il4, il5, il6, il7, il8, il9, il10, il11, il12, il15, il16, il20, il24, il31, il32, il44, il45, il48, il50, il57, il58, il59, il63, il91, il93, il97, il99, il100, il109, il113, il119, il120, il122, il200, il255, il480, il500, il501, il512, il999, il4112, il41120, il1000000, il1000003, ii_add, ii_sub, ii_mul, ii_neg, ii_le, ii_lt, ii_eq, ii_div, q_I, q_V, q_R, lt_q, rZ_q, md_M, md_16, md_4, md_8, md_10, if_true, if_false, if_pos, if_neg, f1, f2]
        rfl
    · refine Or.inr ⟨s, ⟨⟨by omega, fun w a b => k1 w a (by omega)⟩, fun w a b => ?_, k3⟩, ?_⟩
      · by_cases e : w = i
        · rw [e, f2, if_neg (fun z => q z.2)]
        · exact k2 w (by omega) b
      · simp (disch := first | assumption | omega) only [fX4_addBundle_10, fX4_addBundle_41, rwI1, rwS1, rwI2, rwS2, rwI4, rwS4, rwI5, rwS5, rwI7, rwS7, rwI8, rwS8, rwI9, rwS9, rwR0, rwR3, rwR6, rwA1, rwU1, rwA3, rwU3, rwV, rwJ, rwUJ, plI0, plS0, plI1, plS1, plI2, plS2, plI3, plS3, plI4, plS4, plI5, plS5, plI6, plS6, plI7, plS7, plR8, plR9, plR10, plA1, plU1, plA2, plU2, plA3, plU3, plV, stI2, stS2, stI3, stS3, stI4, stS4, stI5, stS5, stI6, stS6, stI7, stS7, stR0, stR1, stA2, stU2, stV, stRow, svI5, svS5, svI6, svS6, svI7, svS7, svR0, svR1, svR2, svR3, svR4, svA13, svU13, svA14, svU14, svA15, svU15, svA16, svU16, svV, svRow, svF, svUF, hiI1, hiS1, hiI2, hiS2, hiR0, hiV, hiRow, rdI2, rdS2, rdI3, rdS3, rdI4, rdS4, rdI5, rdS5, rdI6, rdS6, rdI7, rdS7, rdI8, rdS8, rdR0, rdR1, rdA1, rdU1, rdA2, rdU2, rdV, k_C, ↓reduceIte, tr_lt, fa_lt, tr_le, fa_le, tr_eq, fa_eq, and_true, true_and, and_false, false_and, il0, il1, il2, il3, il4, il5, il6, il7, il8, il9, il10, il11, il12, il15, il16, il20, il24, il31, il32, il44, il45, il48, il50, il57, il58, il59, il63, il91, il93, il97, il99, il100, il109, il113, il119, il120, il122, il200, il255, il480, il500, il501, il512, il999, il4112, il41120, il1000000, il1000003, ii_add, ii_sub, ii_mul, ii_neg, ii_le, ii_lt, ii_eq, ii_div, q_I, q_V, q_R, lt_q, rZ_q, md_M, md_16, md_4, md_8, md_10, if_true, if_false, if_pos, if_neg, f1, f2]
        rfl
  · rintro n s ⟨⟨hI, k1⟩, k2, k3⟩
    refine ⟨s, ?_, fun w a b => ?_, k3⟩
    · simp (disch := first | assumption | omega) only [fX4_addBundle_10, rwI1, rwS1, rwI2, rwS2, rwI4, rwS4, rwI5, rwS5, rwI7, rwS7, rwI8, rwS8, rwI9, rwS9, rwR0, rwR3, rwR6, rwA1, rwU1, rwA3, rwU3, rwV, rwJ, rwUJ, plI0, plS0, plI1, plS1, plI2, plS2, plI3, plS3, plI4, plS4, plI5, plS5, plI6, plS6, plI7, plS7, plR8, plR9, plR10, plA1, plU1, plA2, plU2, plA3, plU3, plV, stI2, stS2, stI3, stS3, stI4, stS4, stI5, stS5, stI6, stS6, stI7, stS7, stR0, stR1, stA2, stU2, stV, stRow, svI5, svS5, svI6, svS6, svI7, svS7, svR0, svR1, svR2, svR3, svR4, svA13, svU13, svA14, svU14, svA15, svU15, svA16, svU16, svV, svRow, svF, svUF, hiI1, hiS1, hiI2, hiS2, hiR0, hiV, hiRow, rdI2, rdS2, rdI3, rdS3, rdI4, rdS4, rdI5, rdS5, rdI6, rdS6, rdI7, rdS7, rdI8, rdS8, rdR0, rdR1, rdA1, rdU1, rdA2, rdU2, rdV, k_C, ↓reduceIte, tr_lt, fa_lt, tr_le, fa_le, tr_eq, fa_eq, and_true, true_and, and_false, false_and, il0, il1, il2, il3, il4, il5, il6, il7, il8, il9, il10, il11, il12, il15, il16, il20, il24, il31, il32, il44, il45, il48, il50, il57, il58, il59, il63, il91, il93, il97, il99, il100, il109, il113, il119, il120, il122, il200, il255, il480, il500, il501, il512, il999, il4112, il41120, il1000000, il1000003, ii_add, ii_sub, ii_mul, ii_neg, ii_le, ii_lt, ii_eq, ii_div, q_I, q_V, q_R, lt_q, rZ_q, md_M, md_16, md_4, md_8, md_10, if_true, if_false, if_pos, if_neg]
    · by_cases e : w ≤ Lu - 1
      · rw [k1 w a e, if_neg (by omega)]
      · exact k2 w (by omega) b
theorem v_kind (hV : isSolver c V) (p size L st : Int) (F : Int → Int) (hp : 0 ≤ p ∧ p < 11) (hsz : 0 ≤ size ∧ size ≤ 500) (hL : 0 < L ∧ L ≤ 99) (hst : 0 ≤ st ∧ st ≤ 100000) (hF : ∀ w, 0 ≤ w → w ≤ size → A (fr V p) w = F w) (hFb : ∀ w, 0 ≤ w → w ≤ size → 0 ≤ F w ∧ F w ≤ 1000000) :
    ∃ A', fX4_addKind (fr V p) (ii size) (ii L) (ii st) (CW c A J) = some (Sum.inl none, CW c A' J) ∧ (∀ w, 0 ≤ w → w ≤ size → A' (fr V p) w = mnb F L st w) ∧ ∀ (b : Nat) (z : Int), (b ≠ fr V p ∨ size < z) → A' b z = A b z := by
  have hdv : 0 ≤ size / L ∧ size / L ≤ 500 := ⟨Int.ediv_nonneg hsz.1 (by omega), by have := Int.ediv_le_self L hsz.1; omega⟩
  have hdm : size / L * L ≤ size := Int.ediv_mul_le size (by omega)
  have e1 : fX4_addKind (fr V p) (ii size) (ii L) (ii st) (CW c A J) = fX4_addKind_18 FU (fr V p) (ii size) (ii L) (ii (if size / L < st then size / L else st)) (ii 1) (CW c A J) := by
    rw [fX4_addKind, il1, il0, if_pos (by rw [ii_le _ _ (by omega)]; omega), if_neg (by rw [ii_eq _ _ (by omega)]; omega), lt_q, ii_div _ _ (by omega)]
    by_cases q : size / L < st
    · rw [if_pos (by rw [ii_lt _ _ (by omega)]; exact q), if_pos q]
    · rw [if_neg (by rw [ii_lt _ _ (by omega)]; exact q), if_neg q]
  rw [e1]
  have hR : (if size / L < st then size / L else st) = (if st < size / L then st else size / L) := by split <;> split <;> omega
  rw [hR]
  generalize hRR : (if st < size / L then st else size / L) = R
  have hRb : 0 ≤ R ∧ R ≤ size / L ∧ R ≤ st := by rw [← hRR]; split <;> omega
  refine lpm (fun n (t : (Int × Int) × AI) => fX4_addKind_18 n (fr V p) (ii size) (ii L) (ii t.1.1) (ii t.1.2) (CW c t.2 J)) (fun x => ∃ A', x = some (Sum.inl none, CW c A' J) ∧ (∀ w, 0 ≤ w → w ≤ size → A' (fr V p) w = mnb F L st w) ∧ ∀ (b : Nat) (z : Int), (b ≠ fr V p ∨ size < z) → A' b z = A b z)
    (fun t => ((0 ≤ t.1.1 ∧ t.1.1 ≤ R) ∧ (t.1.1 = 0 ∨ t.1.2 = R - t.1.1 + 1) ∧ 0 < t.1.2 ∧ t.1.2 ≤ 1002) ∧ (∀ w, 0 ≤ w → w ≤ size → IsMn F L (R - t.1.1) w (t.2 (fr V p) w) ∧ 0 ≤ t.2 (fr V p) w) ∧ ∀ (b : Nat) (z : Int), (b ≠ fr V p ∨ size < z) → t.2 b z = A b z) (fun t => t.1.1.toNat) ?_ FU ((R, 1), A) ⟨⟨⟨by dsimp only; omega, by dsimp only; omega⟩, by dsimp only; omega, by dsimp only; omega, by dsimp only; omega⟩, fun w a b => ?_, fun _ _ _ => rfl⟩ (by have := FU_e; dsimp only; omega)
  · rintro n ⟨⟨rest, bu⟩, s⟩ ⟨⟨h1, h2, h3⟩, h4, h5⟩
    dsimp only at h1 h2 h3 h4 h5 ⊢
    by_cases q : rest = 0
    · refine Or.inl ⟨s, ?_, fun w a b => ?_, h5⟩
      · rw [q]
        simp (disch := first | assumption | omega) only [fX4_addKind_18, rwI1, rwS1, rwI2, rwS2, rwI4, rwS4, rwI5, rwS5, rwI7, rwS7, rwI8, rwS8, rwI9, rwS9, rwR0, rwR3, rwR6, rwA1, rwU1, rwA3, rwU3, rwV, rwJ, rwUJ, plI0, plS0, plI1, plS1, plI2, plS2, plI3, plS3, plI4, plS4, plI5, plS5, plI6, plS6, plI7, plS7, plR8, plR9, plR10, plA1, plU1, plA2, plU2, plA3, plU3, plV, stI2, stS2, stI3, stS3, stI4, stS4, stI5, stS5, stI6, stS6, stI7, stS7, stR0, stR1, stA2, stU2, stV, stRow, svI5, svS5, svI6, svS6, svI7, svS7, svR0, svR1, svR2, svR3, svR4, svA13, svU13, svA14, svU14, svA15, svU15, svA16, svU16, svV, svRow, svF, svUF, hiI1, hiS1, hiI2, hiS2, hiR0, hiV, hiRow, rdI2, rdS2, rdI3, rdS3, rdI4, rdS4, rdI5, rdS5, rdI6, rdS6, rdI7, rdS7, rdI8, rdS8, rdR0, rdR1, rdA1, rdU1, rdA2, rdU2, rdV, k_C, ↓reduceIte, tr_lt, fa_lt, tr_le, fa_le, tr_eq, fa_eq, and_true, true_and, and_false, false_and, il0, il1, il2, il3, il4, il5, il6, il7, il8, il9, il10, il11, il12, il15, il16, il20, il24, il31, il32, il44, il45, il48, il50, il57, il58, il59, il63, il91, il93, il97, il99, il100, il109, il113, il119, il120, il122, il200, il255, il480, il500, il501, il512, il999, il4112, il41120, il1000000, il1000003, ii_add, ii_sub, ii_mul, ii_neg, ii_le, ii_lt, ii_eq, ii_div, q_I, q_V, q_R, lt_q, rZ_q, md_M, md_16, md_4, md_8, md_10, if_true, if_false, if_pos, if_neg]
      · have k := (h4 w a b).1
        rw [q, show R - 0 = R by omega] at k
        exact (k.cut hL.1 hRR.symm b).uniq (mnb_is F L st w hL.1 ⟨hst.1, a⟩)
    · have hbu : bu = R - rest + 1 := by omega
      generalize hu : (if rest < bu then rest else bu) = u
      have hub : (0 < u ∧ u ≤ rest) ∧ u ≤ bu ∧ (u = rest ∨ u = bu) := by rw [← hu]; split <;> omega
      have hLu : L * u ≤ size := by
        have h6 : u * L ≤ size / L * L := Int.mul_le_mul_of_nonneg_right (by omega) (by omega)
        rw [Int.mul_comm]; omega
      have hLu0 : 0 < L * u := Int.mul_pos hL.1 hub.1.1
      obtain ⟨A2, e2, t2, f2⟩ := v_bundle (c := c) (A := s) (J := J) hV p size (L * u) u (fun w => s (fr V p) w) hp hsz ⟨hub.1.1, by omega⟩ ⟨hLu0, hLu⟩ (fun w a b => rfl) (fun w a b => ⟨(h4 w a b).2, (h4 w a b).1.1⟩)
      refine Or.inr ⟨((rest - u, bu * 2), A2), ⟨⟨⟨by dsimp only; omega, by dsimp only; omega, by dsimp only; omega, by dsimp only; omega⟩, fun w a b => ?_, fun b z d => by dsimp only; rw [f2 b z d]; exact h5 b z d⟩, by dsimp only; omega⟩, ?_⟩
      · dsimp only
        rw [t2 w a b]
        constructor
        · have k := IsMn.step (u := u) (a := s (fr V p) w) (b := s (fr V p) (w - L * u)) ⟨hub.1.1, by omega⟩ (by omega) (h4 w a b).1 (fun z => (h4 (w - L * u) (by omega) (by omega)).1)
          rw [show R - (rest - u) = R - rest + u by omega]
          exact k
        · have k0 := (h4 w a b).2
          split
          case isTrue z =>
            have k1 := (h4 (w - L * u) (by omega) (by omega)).2
            omega
          case isFalse z => exact k0
      · have eu : (if ii rest < ii bu then ii rest else ii bu) = ii u := by
          rw [← hu]
          by_cases z : rest < bu
          · rw [if_pos (by rw [ii_lt _ _ (by omega)]; exact z), if_pos z]
          · rw [if_neg (by rw [ii_lt _ _ (by omega)]; exact z), if_neg z]
        rw [fX4_addKind_18, il0, il500, il2, if_neg (by rw [ii_le _ _ (by omega)]; omega), if_neg (by rw [ii_lt _ _ (by omega)]; omega), lt_q, eu, ii_mul, e2, k_C, q_V, lt_q, lt_q, ii_sub, ii_mul]
  · dsimp only
    rw [show R - R = 0 by omega, hF w a b]
    exact ⟨IsMn.zero a (hFb w a b).2, (hFb w a b).1⟩
theorem v_studyFrom (hV : isSolver c V) (hQ : isPlan c Q) (haQ : Q + 4 ≤ V ∨ V + 17 ≤ Q) (size n : Int) (o ln st : Int → Int) (hsz : 0 ≤ size ∧ size ≤ 500) (hn : 0 ≤ n ∧ n ≤ 10) (h0 : A Q 0 = size) (hlen : ∀ k, 0 ≤ k → k < n → A (Q + 2) k = ln k) (ho : ∀ p, 0 ≤ p → p < n → A (Q + 3) p = o p) (hst : ∀ k, 0 ≤ k → k < n → A (V + 15) k = st k)
    (hob : ∀ p, 0 ≤ p → p < n → 0 ≤ o p ∧ o p < n) (hL : ∀ k, 0 ≤ k → k < n → 0 < ln k ∧ ln k ≤ 99) (hsb : ∀ k, 0 ≤ k → k < n → 0 ≤ st k ∧ st k ≤ 100000) (p0 : Int) (hp0 : -1 ≤ p0 ∧ p0 < n) (ht : svT A V n o ln st size (p0 + 1)) :
    ∃ A', fX4_studyFrom V Q (ii p0) (CW c A J) = some (Sum.inl none, CW c A' J) ∧ svT A' V n o ln st size 0 ∧ (∀ (b : Nat) (z : Int), ¬ inF V b → A' b z = A b z) ∧ ∀ p z, p0 < p → p < 11 → A' (fr V p) z = A (fr V p) z := by
  simp only [fX4_studyFrom]
  refine lpd (fun m i (s : AI) => fX4_studyFrom_2 m V Q (ii i) (CW c s J)) (fun x => ∃ A', x = some (Sum.inl none, CW c A' J) ∧ svT A' V n o ln st size 0 ∧ (∀ (b : Nat) (z : Int), ¬ inF V b → A' b z = A b z) ∧ ∀ p z, p0 < p → p < 11 → A' (fr V p) z = A (fr V p) z)
    (fun i s => (i ≤ p0 ∧ svT s V n o ln st size (i + 1)) ∧ (∀ (b : Nat) (z : Int), ¬ inF V b → s b z = A b z) ∧ ∀ p z, p0 < p → p < 11 → s (fr V p) z = A (fr V p) z) (-1) ?_ ?_ FU p0 A (by omega) ⟨⟨by omega, ht⟩, fun _ _ _ => rfl, fun _ _ _ _ => rfl⟩ (by have := FU_e; omega)
  · rintro m i s hi ⟨⟨hI, k1⟩, k2, k3⟩
    have hoi := hob i (by omega) (by omega)
    have hLi := hL _ hoi.1 hoi.2
    have hsi := hsb _ hoi.1 hoi.2
    have nQ : ∀ b : Nat, Q ≤ b → b < Q + 4 → ¬ inF V b := fun b x y z => by unfold inF at z; omega
    have n15 : ¬ inF V (V + 15) := fun z => by unfold inF at z; omega
    have iF1 := fr_in (V := V) (p := i) ⟨by omega, by omega⟩
    have iF2 := fr_in (V := V) (p := i + 1) ⟨by omega, by omega⟩
    have q0 : s Q 0 = size := by rw [k2 _ _ (nQ Q (by omega) (by omega))]; exact h0
    have q2 : s (Q + 2) (o i) = ln (o i) := by rw [k2 _ _ (nQ _ (by omega) (by omega))]; exact hlen _ hoi.1 hoi.2
    have q3 : s (Q + 3) i = o i := by rw [k2 _ _ (nQ _ (by omega) (by omega))]; exact ho i (by omega) (by omega)
    have v15 : s (V + 15) (o i) = st (o i) := by rw [k2 _ _ n15]; exact hst _ hoi.1 hoi.2
    have hne : fr V (i + 1) ≠ fr V i := fr_ne ⟨by omega, by omega, by omega⟩
    have hcp := k_cp (c := c) (A := s) (J := J) (hV.2.2 (i + 1) (by omega) (by omega)).2 (hV.2.2 i (by omega) (by omega)).2 501 (by omega)
    have x0 : cpA s (fr V (i + 1)) (fr V i) 501 Q 0 = size := by rw [cpA_n _ _ _ _ _ _ (fun z => nQ Q (by omega) (by omega) (by rw [z.1]; exact iF1))]; exact q0
    have x2 : cpA s (fr V (i + 1)) (fr V i) 501 (Q + 2) (o i) = ln (o i) := by rw [cpA_n _ _ _ _ _ _ (fun z => nQ (Q + 2) (by omega) (by omega) (by rw [z.1]; exact iF1))]; exact q2
    have x15 : cpA s (fr V (i + 1)) (fr V i) 501 (V + 15) (o i) = st (o i) := by rw [cpA_n _ _ _ _ _ _ (fun z => n15 (by rw [z.1]; exact iF1))]; exact v15
    have hrow : ∀ w, 0 ≤ w → w ≤ size → cpA s (fr V (i + 1)) (fr V i) 501 (fr V i) w = FW n o ln st (i + 1) w := fun w a b => by rw [cpA_s _ _ _ _ _ (by omega), k1 (i + 1) w (by omega) (by omega) a (by omega), if_pos b]
    obtain ⟨A2, e2, t2, f2⟩ := v_kind (c := c) (A := cpA s (fr V (i + 1)) (fr V i) 501) (J := J) hV i size (ln (o i)) (st (o i)) (FW n o ln st (i + 1)) ⟨by omega, by omega⟩ hsz hLi hsi hrow (fun w a b => FW_b _ _ _ _ _ _)
    refine Or.inr ⟨A2, ⟨⟨by omega, fun p z a b d e => ?_⟩, fun b z q => ?_, fun p z a b => ?_⟩, ?_⟩
    · by_cases y : p = i
      · rw [y]
        by_cases y2 : z ≤ size
        · rw [if_pos y2, t2 z d y2, FW_p _ _ _ _ _ _ (by omega)]
        · rw [if_neg y2, f2 _ _ (Or.inr (by omega)), cpA_s _ _ _ _ _ (by omega), k1 (i + 1) z (by omega) (by omega) d e, if_neg y2]
      · have hpn : fr V p ≠ fr V i := fr_ne ⟨by omega, by omega, y⟩
        rw [f2 _ _ (Or.inl hpn), cpA_n _ _ _ _ _ _ (fun x => hpn x.1)]
        exact k1 p z (by omega) b d e
    · have hbn : b ≠ fr V i := fun x => q (x ▸ iF1)
      rw [f2 _ _ (Or.inl hbn), cpA_n _ _ _ _ _ _ (fun x => hbn x.1)]
      exact k2 b z q
    · have hpn : fr V p ≠ fr V i := fr_ne ⟨by omega, by omega, by omega⟩
      rw [f2 _ _ (Or.inl hpn), cpA_n _ _ _ _ _ _ (fun x => hpn x.1)]
      exact k3 p z a b
    · simp (disch := first | assumption | omega) only [fX4_studyFrom_2, rwI1, rwS1, rwI2, rwS2, rwI4, rwS4, rwI5, rwS5, rwI7, rwS7, rwI8, rwS8, rwI9, rwS9, rwR0, rwR3, rwR6, rwA1, rwU1, rwA3, rwU3, rwV, rwJ, rwUJ, plI0, plS0, plI1, plS1, plI2, plS2, plI3, plS3, plI4, plS4, plI5, plS5, plI6, plS6, plI7, plS7, plR8, plR9, plR10, plA1, plU1, plA2, plU2, plA3, plU3, plV, stI2, stS2, stI3, stS3, stI4, stS4, stI5, stS5, stI6, stS6, stI7, stS7, stR0, stR1, stA2, stU2, stV, stRow, svI5, svS5, svI6, svS6, svI7, svS7, svR0, svR1, svR2, svR3, svR4, svA13, svU13, svA14, svU14, svA15, svU15, svA16, svU16, svV, svRow, svF, svUF, hiI1, hiS1, hiI2, hiS2, hiR0, hiV, hiRow, rdI2, rdS2, rdI3, rdS3, rdI4, rdS4, rdI5, rdS5, rdI6, rdS6, rdI7, rdS7, rdI8, rdS8, rdR0, rdR1, rdA1, rdU1, rdA2, rdU2, rdV, k_C, ↓reduceIte, tr_lt, fa_lt, tr_le, fa_le, tr_eq, fa_eq, and_true, true_and, and_false, false_and, il0, il1, il2, il3, il4, il5, il6, il7, il8, il9, il10, il11, il12, il15, il16, il20, il24, il31, il32, il44, il45, il48, il50, il57, il58, il59, il63, il91, il93, il97, il99, il100, il109, il113, il119, il120, il122, il200, il255, il480, il500, il501, il512, il999, il4112, il41120, il1000000, il1000003, ii_add, ii_sub, ii_mul, ii_neg, ii_le, ii_lt, ii_eq, ii_div, q_I, q_V, q_R, lt_q, rZ_q, md_M, md_16, md_4, md_8, md_10, if_true, if_false, if_pos, if_neg, q3, hcp, x0, x2, x15, e2]
      rfl
  · rintro m s ⟨⟨hI, k1⟩, k2, k3⟩
    refine ⟨s, ?_, k1, k2, k3⟩
    simp (disch := first | assumption | omega) only [fX4_studyFrom_2, rwI1, rwS1, rwI2, rwS2, rwI4, rwS4, rwI5, rwS5, rwI7, rwS7, rwI8, rwS8, rwI9, rwS9, rwR0, rwR3, rwR6, rwA1, rwU1, rwA3, rwU3, rwV, rwJ, rwUJ, plI0, plS0, plI1, plS1, plI2, plS2, plI3, plS3, plI4, plS4, plI5, plS5, plI6, plS6, plI7, plS7, plR8, plR9, plR10, plA1, plU1, plA2, plU2, plA3, plU3, plV, stI2, stS2, stI3, stS3, stI4, stS4, stI5, stS5, stI6, stS6, stI7, stS7, stR0, stR1, stA2, stU2, stV, stRow, svI5, svS5, svI6, svS6, svI7, svS7, svR0, svR1, svR2, svR3, svR4, svA13, svU13, svA14, svU14, svA15, svU15, svA16, svU16, svV, svRow, svF, svUF, hiI1, hiS1, hiI2, hiS2, hiR0, hiV, hiRow, rdI2, rdS2, rdI3, rdS3, rdI4, rdS4, rdI5, rdS5, rdI6, rdS6, rdI7, rdS7, rdI8, rdS8, rdR0, rdR1, rdA1, rdU1, rdA2, rdU2, rdV, k_C, ↓reduceIte, tr_lt, fa_lt, tr_le, fa_le, tr_eq, fa_eq, and_true, true_and, and_false, false_and, il0, il1, il2, il3, il4, il5, il6, il7, il8, il9, il10, il11, il12, il15, il16, il20, il24, il31, il32, il44, il45, il48, il50, il57, il58, il59, il63, il91, il93, il97, il99, il100, il109, il113, il119, il120, il122, il200, il255, il480, il500, il501, il512, il999, il4112, il41120, il1000000, il1000003, ii_add, ii_sub, ii_mul, ii_neg, ii_le, ii_lt, ii_eq, ii_div, q_I, q_V, q_R, lt_q, rZ_q, md_M, md_16, md_4, md_8, md_10, if_true, if_false, if_pos, if_neg]
theorem v_study (hV : isSolver c V) (hQ : isPlan c Q) (haQ : Q + 4 ≤ V ∨ V + 17 ≤ Q) (size n : Int) (o ln st : Int → Int) (hsz : 0 ≤ size ∧ size ≤ 500) (hn : 0 ≤ n ∧ n ≤ 10) (h0 : A Q 0 = size) (h7 : A Q 7 = n) (hlen : ∀ k, 0 ≤ k → k < n → A (Q + 2) k = ln k) (ho : ∀ p, 0 ≤ p → p < n → A (Q + 3) p = o p) (hst : ∀ k, 0 ≤ k → k < n → A (V + 15) k = st k)
    (hob : ∀ p, 0 ≤ p → p < n → 0 ≤ o p ∧ o p < n) (hL : ∀ k, 0 ≤ k → k < n → 0 < ln k ∧ ln k ≤ 99) (hsb : ∀ k, 0 ≤ k → k < n → 0 ≤ st k ∧ st k ≤ 100000) :
    ∃ A', fX4_study V Q (CW c A J) = some (Sum.inl none, CW c A' J) ∧ svT A' V n o ln st size 0 ∧ ∀ (b : Nat) (z : Int), ¬ inF V b → A' b z = A b z := by
  have iFn := fr_in (V := V) (p := n) ⟨by omega, by omega⟩
  have nQ : ∀ b : Nat, Q ≤ b → b < Q + 4 → ¬ inF V b := fun b x y z => by unfold inF at z; omega
  have n15 : ¬ inF V (V + 15) := fun z => by unfold inF at z; omega
  simp (disch := first | assumption | omega) only [fX4_study, rwI1, rwS1, rwI2, rwS2, rwI4, rwS4, rwI5, rwS5, rwI7, rwS7, rwI8, rwS8, rwI9, rwS9, rwR0, rwR3, rwR6, rwA1, rwU1, rwA3, rwU3, rwV, rwJ, rwUJ, plI0, plS0, plI1, plS1, plI2, plS2, plI3, plS3, plI4, plS4, plI5, plS5, plI6, plS6, plI7, plS7, plR8, plR9, plR10, plA1, plU1, plA2, plU2, plA3, plU3, plV, stI2, stS2, stI3, stS3, stI4, stS4, stI5, stS5, stI6, stS6, stI7, stS7, stR0, stR1, stA2, stU2, stV, stRow, svI5, svS5, svI6, svS6, svI7, svS7, svR0, svR1, svR2, svR3, svR4, svA13, svU13, svA14, svU14, svA15, svU15, svA16, svU16, svV, svRow, svF, svUF, hiI1, hiS1, hiI2, hiS2, hiR0, hiV, hiRow, rdI2, rdS2, rdI3, rdS3, rdI4, rdS4, rdI5, rdS5, rdI6, rdS6, rdI7, rdS7, rdI8, rdS8, rdR0, rdR1, rdA1, rdU1, rdA2, rdU2, rdV, k_C, ↓reduceIte, tr_lt, fa_lt, tr_le, fa_le, tr_eq, fa_eq, and_true, true_and, and_false, false_and, il0, il1, il2, il3, il4, il5, il6, il7, il8, il9, il10, il11, il12, il15, il16, il20, il24, il31, il32, il44, il45, il48, il50, il57, il58, il59, il63, il91, il93, il97, il99, il100, il109, il113, il119, il120, il122, il200, il255, il480, il500, il501, il512, il999, il4112, il41120, il1000000, il1000003, ii_add, ii_sub, ii_mul, ii_neg, ii_le, ii_lt, ii_eq, ii_div, q_I, q_V, q_R, lt_q, rZ_q, md_M, md_16, md_4, md_8, md_10, if_true, if_false, if_pos, if_neg, h7]
  refine lp (fun m i (s : AI) => fX4_study_16 m V Q (fr V n) (ii i) (CW c s J)) (fun x => ∃ A', x = some (Sum.inl none, CW c A' J) ∧ svT A' V n o ln st size 0 ∧ ∀ (b : Nat) (z : Int), ¬ inF V b → A' b z = A b z)
    (fun i s => (1 ≤ i ∧ ∀ z, 0 ≤ z → z < i → s (fr V n) z = if z = 0 then 0 else 1000000) ∧ ∀ (b : Nat) (z : Int), ¬ inF V b → s b z = A b z) 501 ?_ ?_ FU 1 (up A (fr V n) 0 0) (by omega) ⟨⟨by omega, fun z a b => by rw [show z = 0 by omega, up_s, if_pos rfl]⟩, fun b z q => up_n _ _ _ _ _ _ (fun e => q (by rw [e.1]; exact iFn))⟩ (by have := FU_e; omega)
  · rintro m i s hi ⟨⟨hI, k1⟩, k2⟩
    refine Or.inr ⟨up s (fr V n) i 1000000, ⟨⟨by omega, fun z a b => ?_⟩, fun b z q => by rw [up_n _ _ _ _ _ _ (fun e => q (by rw [e.1]; exact iFn))]; exact k2 b z q⟩, ?_⟩
    · by_cases e : z = i
      · rw [e, up_s, if_neg (by omega)]
      · rw [up_n _ _ _ _ _ _ (by omega)]; exact k1 z a (by omega)
    · simp (disch := first | assumption | omega) only [fX4_study_16, rwI1, rwS1, rwI2, rwS2, rwI4, rwS4, rwI5, rwS5, rwI7, rwS7, rwI8, rwS8, rwI9, rwS9, rwR0, rwR3, rwR6, rwA1, rwU1, rwA3, rwU3, rwV, rwJ, rwUJ, plI0, plS0, plI1, plS1, plI2, plS2, plI3, plS3, plI4, plS4, plI5, plS5, plI6, plS6, plI7, plS7, plR8, plR9, plR10, plA1, plU1, plA2, plU2, plA3, plU3, plV, stI2, stS2, stI3, stS3, stI4, stS4, stI5, stS5, stI6, stS6, stI7, stS7, stR0, stR1, stA2, stU2, stV, stRow, svI5, svS5, svI6, svS6, svI7, svS7, svR0, svR1, svR2, svR3, svR4, svA13, svU13, svA14, svU14, svA15, svU15, svA16, svU16, svV, svRow, svF, svUF, hiI1, hiS1, hiI2, hiS2, hiR0, hiV, hiRow, rdI2, rdS2, rdI3, rdS3, rdI4, rdS4, rdI5, rdS5, rdI6, rdS6, rdI7, rdS7, rdI8, rdS8, rdR0, rdR1, rdA1, rdU1, rdA2, rdU2, rdV, k_C, ↓reduceIte, tr_lt, fa_lt, tr_le, fa_le, tr_eq, fa_eq, and_true, true_and, and_false, false_and, il0, il1, il2, il3, il4, il5, il6, il7, il8, il9, il10, il11, il12, il15, il16, il20, il24, il31, il32, il44, il45, il48, il50, il57, il58, il59, il63, il91, il93, il97, il99, il100, il109, il113, il119, il120, il122, il200, il255, il480, il500, il501, il512, il999, il4112, il41120, il1000000, il1000003, ii_add, ii_sub, ii_mul, ii_neg, ii_le, ii_lt, ii_eq, ii_div, q_I, q_V, q_R, lt_q, rZ_q, md_M, md_16, md_4, md_8, md_10, if_true, if_false, if_pos, if_neg]
  · rintro m s ⟨⟨hI, k1⟩, k2⟩
    have q7 : s Q 7 = n := by rw [k2 _ _ (nQ Q (by omega) (by omega))]; exact h7
    obtain ⟨A2, e2, t2, f2, -⟩ := v_studyFrom (c := c) (A := s) (J := J) hV hQ haQ size n o ln st hsz hn (by rw [k2 _ _ (nQ Q (by omega) (by omega))]; exact h0) (fun k a b => by rw [k2 _ _ (nQ _ (by omega) (by omega))]; exact hlen k a b) (fun k a b => by rw [k2 _ _ (nQ _ (by omega) (by omega))]; exact ho k a b) (fun k a b => by rw [k2 _ _ n15]; exact hst k a b) hob hL hsb (n - 1) (by omega) (fun p z a b d e => by
      rw [show p = n by omega, k1 z d (by omega), FW_n]
      by_cases y : z ≤ size
      · rw [if_pos y]
      · rw [if_neg y, if_neg (by omega)])
    refine ⟨A2, ?_, t2, fun b z q => by rw [f2 b z q]; exact k2 b z q⟩
    rw [fX4_study_16, il500, if_pos (by rw [ii_lt _ _ (by omega)]; omega)]
    simp (disch := first | assumption | omega) only [fX4_study_34, rwI1, rwS1, rwI2, rwS2, rwI4, rwS4, rwI5, rwS5, rwI7, rwS7, rwI8, rwS8, rwI9, rwS9, rwR0, rwR3, rwR6, rwA1, rwU1, rwA3, rwU3, rwV, rwJ, rwUJ, plI0, plS0, plI1, plS1, plI2, plS2, plI3, plS3, plI4, plS4, plI5, plS5, plI6, plS6, plI7, plS7, plR8, plR9, plR10, plA1, plU1, plA2, plU2, plA3, plU3, plV, stI2, stS2, stI3, stS3, stI4, stS4, stI5, stS5, stI6, stS6, stI7, stS7, stR0, stR1, stA2, stU2, stV, stRow, svI5, svS5, svI6, svS6, svI7, svS7, svR0, svR1, svR2, svR3, svR4, svA13, svU13, svA14, svU14, svA15, svU15, svA16, svU16, svV, svRow, svF, svUF, hiI1, hiS1, hiI2, hiS2, hiR0, hiV, hiRow, rdI2, rdS2, rdI3, rdS3, rdI4, rdS4, rdI5, rdS5, rdI6, rdS6, rdI7, rdS7, rdI8, rdS8, rdR0, rdR1, rdA1, rdU1, rdA2, rdU2, rdV, k_C, ↓reduceIte, tr_lt, fa_lt, tr_le, fa_le, tr_eq, fa_eq, and_true, true_and, and_false, false_and, il0, il1, il2, il3, il4, il5, il6, il7, il8, il9, il10, il11, il12, il15, il16, il20, il24, il31, il32, il44, il45, il48, il50, il57, il58, il59, il63, il91, il93, il97, il99, il100, il109, il113, il119, il120, il122, il200, il255, il480, il500, il501, il512, il999, il4112, il41120, il1000000, il1000003, ii_add, ii_sub, ii_mul, ii_neg, ii_le, ii_lt, ii_eq, ii_div, q_I, q_V, q_R, lt_q, rZ_q, md_M, md_16, md_4, md_8, md_10, if_true, if_false, if_pos, if_neg, q7, e2]
end CSV
