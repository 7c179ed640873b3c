/-! THE LAW'S WORLD: impressions, days, falling rows -/
section WPR
variable {c : CC} {A A' : AI} {J : JI} {w : Nat} {M : AI} {o g g' : Int → Int} {r B : Int}
theorem WR.s4 (hR : WR w A M o g) (hG : GR g) (h8 : M 0 3 ≤ 8) (hr : 0 ≤ r ∧ r < M 0 3) (h9 : M 0 9 ≤ 10) (v : Int) : WR w (up A (w + 31) r v) M o (gpu g r 4 v) := by
  obtain ⟨⟨⟨s0, s1, s2, s3, s4, s5, s6⟩, sK, sQ⟩, hKd, ⟨c0, c1, c2, c3, c4⟩, hRo, hOr⟩ := id hR
  obtain ⟨⟨w27, w28, w29, w30, w31⟩, wB, wP⟩ := hRo r hr.1 hr.2
  have hgr := hG r hr.1 (by omega)
  have b0 := hgr.1
  have b1 := hgr.2.1
  have el : ∀ z, z < 16 → gpu g r 4 v z = g z := fun z a => gpu_lo _ _ _ _ _ (by omega)
  have ec : ∀ (r2 z : Int), 0 ≤ z → z < 512 → ¬ (r2 = r ∧ z = 4) → cel (gpu g r 4 v) r2 z = cel g r2 z := fun r2 z a b q => cel_pu_n _ _ _ _ _ _ ⟨⟨by omega, a, b⟩, q⟩
  refine hR.upd hG h8 r (fun b z q => up_n _ _ _ _ _ _ (by omega)) ?_ (fun k a b => ?_) ⟨?_, ?_, ?_, ?_, ?_⟩ (fun r2 a b q => ⟨fun b p q2 => up_n _ _ _ _ _ _ (by omega), fun k => up_n _ _ _ _ _ _ (by omega), fun k => up_n _ _ _ _ _ _ (by omega)⟩) (fun r2 z a b q p x => ec _ _ p x (fun y => q y.1)) (fun _ _ => ⟨⟨?_, ?_, ?_, fun q => ?_, ?_⟩, fun k a b => ?_, fun k a b => ?_⟩)
  · rw [el _ (by omega), up_n _ _ _ _ _ _ (by omega)]; exact sQ
  · rw [el _ (by omega), up_n _ _ _ _ _ _ (by omega)]; exact (hKd k a b).2.2
  · rw [el _ (by omega), up_n _ _ _ _ _ _ (by omega)]; exact c0
  · rw [el _ (by omega), up_n _ _ _ _ _ _ (by omega)]; exact c1
  · rw [el _ (by omega), up_n _ _ _ _ _ _ (by omega)]; exact c2
  · rw [el _ (by omega), up_n _ _ _ _ _ _ (by omega)]; exact c3
  · rw [el _ (by omega), up_n _ _ _ _ _ _ (by omega)]; exact c4
  · rw [ec _ _ (by omega) (by omega) (by omega), up_n _ _ _ _ _ _ (by omega)]; exact w27
  · rw [ec _ _ (by omega) (by omega) (by omega), up_n _ _ _ _ _ _ (by omega)]; exact w28
  · rw [ec _ _ (by omega) (by omega) (by omega), up_n _ _ _ _ _ _ (by omega)]; exact w29
  · rw [ec _ _ (by omega) (by omega) (by omega)] at q
    rw [ec _ _ (by omega) (by omega) (by omega), up_n _ _ _ _ _ _ (by omega)]; exact w30 q
  · rw [cel_pu_s, up_s]
  · rw [ec _ _ (by omega) (by omega) (by omega)] at b
    rw [ec _ _ (by omega) (by omega) (by omega), up_n _ _ _ _ _ _ (by omega)]; exact wB k a b
  · rw [ec _ _ (by omega) (by omega) (by omega)] at b
    rw [ec _ _ (by omega) (by omega) (by omega), up_n _ _ _ _ _ _ (by omega)]; exact wP k a b
theorem WR.cnt (hR : WR w A M o g) (hG : GR g) (h8 : M 0 3 ≤ 8) (i v : Int) (hi : 0 ≤ i ∧ i < 5) : WR w (up A (w + 7) i v) M o (gu g (i + 1) v) := by
  obtain ⟨⟨⟨s0, s1, s2, s3, s4, s5, s6⟩, sK, sQ⟩, hKd, ⟨c0, c1, c2, c3, c4⟩, hRo, hOr⟩ := id hR
  have one : ∀ j : Int, 0 ≤ j → j < 5 → A (w + 7) j = g (j + 1) → up A (w + 7) i v (w + 7) j = gu g (i + 1) v (j + 1) := fun j a b q => by
    by_cases y : j = i
    · rw [y, up_s, gu_s]
    · rw [up_n _ _ _ _ _ _ (by omega), gu_n _ _ _ _ (by omega)]; exact q
  refine hR.upd hG h8 (-1) (fun b z q => up_n _ _ _ _ _ _ (by omega)) ?_ (fun k a b => ?_) ⟨one 0 (by omega) (by omega) c0, one 1 (by omega) (by omega) c1, one 2 (by omega) (by omega) c2, one 3 (by omega) (by omega) c3, one 4 (by omega) (by omega) c4⟩ (fun r2 a b q => ⟨fun b p q2 => up_n _ _ _ _ _ _ (by omega), fun k => up_n _ _ _ _ _ _ (by omega), fun k => up_n _ _ _ _ _ _ (by omega)⟩) (fun r2 z a b q p x => cel_gu _ _ _ _ _ (by omega)) (fun q _ => absurd q (by omega))
  · rw [gu_n _ _ _ _ (by omega), up_n _ _ _ _ _ _ (by omega)]; exact sQ
  · rw [gu_n _ _ _ _ (by omega), up_n _ _ _ _ _ _ (by omega)]; exact (hKd k a b).2.2
/-- the blocks of a row are gone -/
theorem WR.noB (hR : WR w A M o g) (hG : GR g) (h8 : M 0 3 ≤ 8) (hr : 0 ≤ r ∧ r < M 0 3) (h9 : M 0 9 ≤ 10) : WR w (up A (w + 27) r 0) M o (gpu g r 0 0) := by
  obtain ⟨⟨⟨s0, s1, s2, s3, s4, s5, s6⟩, sK, sQ⟩, hKd, ⟨c0, c1, c2, c3, c4⟩, hRo, hOr⟩ := id hR
  obtain ⟨⟨w27, w28, w29, w30, w31⟩, wB, wP⟩ := hRo r hr.1 hr.2
  have hgr := hG r hr.1 (by omega)
  have b0 := hgr.1
  have b1 := hgr.2.1
  have el : ∀ z, z < 16 → gpu g r 0 0 z = g z := fun z a => gpu_lo _ _ _ _ _ (by omega)
  have ec : ∀ (r2 z : Int), 0 ≤ z → z < 512 → ¬ (r2 = r ∧ z = 0) → cel (gpu g r 0 0) r2 z = cel g r2 z := fun r2 z a b q => cel_pu_n _ _ _ _ _ _ ⟨⟨by omega, a, b⟩, q⟩
  refine hR.upd hG h8 r (fun b z q => up_n _ _ _ _ _ _ (by omega)) ?_ (fun k a b => ?_) ⟨?_, ?_, ?_, ?_, ?_⟩ (fun r2 a b q => ⟨fun b p q2 => up_n _ _ _ _ _ _ (by omega), fun k => up_n _ _ _ _ _ _ (by omega), fun k => up_n _ _ _ _ _ _ (by omega)⟩) (fun r2 z a b q p x => ec _ _ p x (fun y => q y.1)) (fun _ _ => ⟨⟨?_, ?_, ?_, fun q => ?_, ?_⟩, fun k a b => ?_, fun k a b => ?_⟩)
  · rw [el _ (by omega), up_n _ _ _ _ _ _ (by omega)]; exact sQ
  · rw [el _ (by omega), up_n _ _ _ _ _ _ (by omega)]; exact (hKd k a b).2.2
  · rw [el _ (by omega), up_n _ _ _ _ _ _ (by omega)]; exact c0
  · rw [el _ (by omega), up_n _ _ _ _ _ _ (by omega)]; exact c1
  · rw [el _ (by omega), up_n _ _ _ _ _ _ (by omega)]; exact c2
  · rw [el _ (by omega), up_n _ _ _ _ _ _ (by omega)]; exact c3
  · rw [el _ (by omega), up_n _ _ _ _ _ _ (by omega)]; exact c4
  · rw [cel_pu_s, up_s]
  · rw [ec _ _ (by omega) (by omega) (by omega), up_n _ _ _ _ _ _ (by omega)]; exact w28
  · rw [ec _ _ (by omega) (by omega) (by omega), up_n _ _ _ _ _ _ (by omega)]; exact w29
  · rw [ec _ _ (by omega) (by omega) (by omega)] at q
    rw [ec _ _ (by omega) (by omega) (by omega), up_n _ _ _ _ _ _ (by omega)]; exact w30 q
  · rw [ec _ _ (by omega) (by omega) (by omega), up_n _ _ _ _ _ _ (by omega)]; exact w31
  · rw [cel_pu_s] at b
    omega
  · rw [ec _ _ (by omega) (by omega) (by omega)] at b
    rw [ec _ _ (by omega) (by omega) (by omega), up_n _ _ _ _ _ _ (by omega)]; exact wP k a b
theorem GC_sh (h : GC M g B) (hM : SA M) (hB : 0 ≤ B ∧ B ≤ 500000000) : ∀ n : Nat, (n : Int) ≤ M 0 3 → GC M (shN M g n) (B + 54) := by
  have h38 := hM.1.2.1
  intro n
  induction n with
  | zero => intro _; exact h.mono (by omega)
  | succ n ih =>
    intro hn
    have h1 := (h.1.1 n (by omega) (by omega)).1
    have h7 := (h.1.1 n (by omega) (by omega)).2.2.2.2.2.2
    have hm := mul_b (m := 9) (n := 6) ⟨hM.1.2.2.2.2.1, h1⟩
    have hs := h.1.2.2.2.2 n (by omega) (by omega)
    rw [shN_s]
    refine GC.s4 (ih (by omega)) hM ⟨by omega, by omega⟩ _ ?_ ⟨Int.le_refl _, by omega⟩
    rw [cel_shN M g n 4 (by omega) (by omega), if_neg (by omega), cel_shN M g n 0 (by omega) (by omega), if_neg (by omega)]
    omega
theorem GC_dan (h : GC M g B) (hM : SA M) (hB : 0 ≤ B ∧ B ≤ 500000000) : ∀ n : Nat, (n : Int) ≤ M 0 3 → GC M (daN M g n) (B + 4500) := by
  have h38 := hM.1.2.1
  intro n
  induction n with
  | zero => intro _; exact h.mono (by omega)
  | succ n ih =>
    intro hn
    have hg := h.1.1 n (by omega) (by omega)
    have h1 := hg.2.1
    have h7 := hg.2.2.2.2.2.2
    have hw := suW_b (met := M 1) hg
    have hm := mul_b (a := M 0 7) (b := suW (M 1) g n) (m := 9) (n := 500) ⟨hM.1.2.2.2.2.2.1, by omega⟩
    have hs := h.1.2.2.2.2 n (by omega) (by omega)
    have ew : suW (M 1) (daN M g n) n = suW (M 1) g n := by
      refine suW_cong ?_ (fun k a b => ?_)
      · rw [cel_daN M h.1.1 n 1 ⟨by omega, by omega⟩ (by omega), if_neg (by omega)]
      · rw [cel_daN M h.1.1 n _ ⟨by omega, by omega⟩ (by omega), if_neg (by omega)]
    rw [daN_s]
    refine GC.s4 (ih (by omega)) hM ⟨by omega, by omega⟩ _ ?_ ⟨Int.le_refl _, by omega⟩
    rw [cel_daN M h.1.1 n 4 ⟨by omega, by omega⟩ (by omega), if_neg (by omega), ew]
    omega
theorem n_falls (hW : isWorld c w) (hR : WR w A M o g) (hM : SA M) (hG : GC M g B) (hB : 0 ≤ B) (h4 : M 0 9 ≤ 4) : ∃ A', fX19_falls w (CW c A J) = some (Sum.inl (some (Value.int (ii ((lkN M g (M 0 3).toNat).1)))), CW c A' J) ∧ WR w A' M o (lkN M g (M 0 3).toNat).2 ∧ ∀ (b : Nat) (z : Int), ¬ inW w b → A' b z = A b z := by
  have h38 := hM.1.2.1
  simp only [fX19_falls, il0]
  refine lp (fun n i (s : Int × AI) => fX19_falls_4 n w (ii s.1) (ii i) (CW c s.2 J)) (fun x => ∃ A', x = some (Sum.inl (some (Value.int (ii ((lkN M g (M 0 3).toNat).1)))), CW c A' J) ∧ WR w A' M o (lkN M g (M 0 3).toNat).2 ∧ ∀ (b : Nat) (z : Int), ¬ inW w b → A' b z = A b z)
    (fun i s => 0 ≤ i ∧ s.1 = (lkN M g i.toNat).1 ∧ WR w s.2 M o (lkN M g i.toNat).2 ∧ ∀ (b : Nat) (z : Int), ¬ inW w b → s.2 b z = A b z) (M 0 3) ?_ ?_ FU 0 (0, A) (by omega) ⟨by omega, rfl, hR, fun _ _ _ => rfl⟩ (by have := FU_e; omega)
  · rintro n i ⟨s, D⟩ hi ⟨hI, hs, hD, hF⟩
    dsimp only at hs hD hF ⊢
    have hGi := GC.lk hG hM hB i.toNat (by omega)
    have hb := lkN_b M g i.toNat
    obtain ⟨G, hGe⟩ : ∃ G, G = (lkN M g i.toNat).2 := ⟨_, rfl⟩
    have hlk := lkN_s M g i.toNat
    rw [show ((i.toNat : Nat) : Int) = i by omega] at hlk
    rw [← hGe] at hD hGi hlk
    rw [← hs] at hb hlk
    have s1 := hD.1.1.2.1
    have s6 := hD.1.1.2.2.2.2.2.2
    have w27 := (hD.2.2.2.1 i hI hi).1.1
    have hgr := hGi.1.1 i hI (by omega)
    have b0 := hgr.1
    have b4 := hgr.2.2.2.2.2.2
    have hgb := gapM_b hM hgr
    have hlo := n_loose (J := J) hW hD hM hGi h4 ⟨hI, hi⟩
    have h08 := hM.1.2.2.2.2.2.2.1
    by_cases q : cel G i 0 = 0
    · refine Or.inr ⟨(s, D), ⟨by omega, ?_, ?_, hF⟩, ?_⟩
      · rw [show (i + 1).toNat = i.toNat + 1 by omega, hlk, if_neg (by omega)]; exact hs
      · rw [show (i + 1).toNat = i.toNat + 1 by omega, hlk, if_neg (by omega), ← hGe]; exact hD
      · simp (disch := first | assumption | omega) only [fX19_falls_4, fX19_falls_85, wdR1, wdR2, wdR3, wdR4, wdR5, wdR6, wdR7, wdR8, wdR9, wdR10, wdR11, wdR12, wdR13, wdI14, wdS14, wdI15, wdS15, wdA3, wdU3, wdA4, wdU4, wdA5, wdU5, wdA6, wdU6, wdA7, wdU7, wdA8, wdU8, wdA27, wdU27, wdA28, wdU28, wdA29, wdU29, wdA30, wdU30, wdA31, wdU31, wdB, wdP, wdAB, wdUB, wdAP, wdUP, wdV, drV, drR0, drI1, drS1, k_C, ↓reduceIte, tr_lt, fa_lt, tr_le, fa_le, tr_eq, fa_eq, and_true, true_and, and_false, false_and, il0, il1, il2, il3, il4, il5, il6, il7, il8, il9, il10, il11, il12, il15, il16, il20, il24, il31, il32, il44, il45, il48, il50, il57, il58, il59, il63, il91, il93, il97, il99, il100, il109, il113, il119, il120, il122, il200, il255, il480, il500, il501, il512, il999, il4112, il41120, il1000000, il1000003, ii_add, ii_sub, ii_mul, ii_neg, ii_le, ii_lt, ii_eq, ii_div, q_I, q_V, q_R, lt_q, rZ_q, md_M, md_16, md_4, md_8, md_10, if_true, if_false, if_pos, if_neg, s1, w27, q]
    · by_cases y : M 0 8 < cel G i 4 + 10 * gapM M G i
      · have hbo := bit_or s i ⟨hb, hI, by omega⟩
        obtain ⟨c0, c1, c2, c3, c4⟩ := hD.2.2.1
        have hU1 := hD.cnt hGi.1.1 (by omega) 3 (G 4 + cel G i 0) (by omega)
        have hU2 := hU1.cnt (fun r a b => (hGi.1.1 r a b).gu a (by omega)) (by omega) 4 (G 5 + 1) (by omega)
        have hU3 := hU2.noB (fun r a b => ((hGi.1.1 r a b).gu a (by omega)).gu a (by omega)) (by omega) ⟨hI, hi⟩ (by omega)
        have hG3 := (GC_lo (GC_lo hGi (g' := gu G (3 + 1) (G 4 + cel G i 0)) (fun z q => gu_n _ _ _ _ (by omega)) hM) (g' := gu (gu G (3 + 1) (G 4 + cel G i 0)) (4 + 1) (G 5 + 1)) (fun z q => gu_n _ _ _ _ (by omega)) hM).noB hM ⟨hI, hi⟩
        obtain ⟨E, e1, e2, e3⟩ := n_unlock (J := J) hW hU3 hM hG3 h4 ⟨hI, hi⟩
        refine Or.inr ⟨(s + 2 ^ i.toNat, E), ⟨by omega, ?_, ?_, fun b z q => ?_⟩, ?_⟩
        · rw [show (i + 1).toNat = i.toNat + 1 by omega, hlk, if_pos ⟨by omega, y⟩]
        · rw [show (i + 1).toNat = i.toNat + 1 by omega, hlk, if_pos ⟨by omega, y⟩]; exact e2
        · have q' := q
          unfold inW at q'
          show E b z = A b z
          rw [e3 b z q, up_n _ _ _ _ _ _ (by omega), up_n _ _ _ _ _ _ (by omega), up_n _ _ _ _ _ _ (by omega)]; exact hF b z q
        · simp (disch := first | assumption | omega) only [fX19_falls_4, fX19_falls_85, wdR1, wdR2, wdR3, wdR4, wdR5, wdR6, wdR7, wdR8, wdR9, wdR10, wdR11, wdR12, wdR13, wdI14, wdS14, wdI15, wdS15, wdA3, wdU3, wdA4, wdU4, wdA5, wdU5, wdA6, wdU6, wdA7, wdU7, wdA8, wdU8, wdA27, wdU27, wdA28, wdU28, wdA29, wdU29, wdA30, wdU30, wdA31, wdU31, wdB, wdP, wdAB, wdUB, wdAP, wdUP, wdV, drV, drR0, drI1, drS1, k_C, ↓reduceIte, tr_lt, fa_lt, tr_le, fa_le, tr_eq, fa_eq, and_true, true_and, and_false, false_and, il0, il1, il2, il3, il4, il5, il6, il7, il8, il9, il10, il11, il12, il15, il16, il20, il24, il31, il32, il44, il45, il48, il50, il57, il58, il59, il63, il91, il93, il97, il99, il100, il109, il113, il119, il120, il122, il200, il255, il480, il500, il501, il512, il999, il4112, il41120, il1000000, il1000003, ii_add, ii_sub, ii_mul, ii_neg, ii_le, ii_lt, ii_eq, ii_div, q_I, q_V, q_R, lt_q, rZ_q, md_M, md_16, md_4, md_8, md_10, if_true, if_false, if_pos, if_neg, s1, w27, s6, hlo, hbo, up_s, up_n, c3, c4, e1]
      · refine Or.inr ⟨(s, D), ⟨by omega, ?_, ?_, hF⟩, ?_⟩
        · rw [show (i + 1).toNat = i.toNat + 1 by omega, hlk, if_neg (by omega)]; exact hs
        · rw [show (i + 1).toNat = i.toNat + 1 by omega, hlk, if_neg (by omega), ← hGe]; exact hD
        · simp (disch := first | assumption | omega) only [fX19_falls_4, fX19_falls_85, wdR1, wdR2, wdR3, wdR4, wdR5, wdR6, wdR7, wdR8, wdR9, wdR10, wdR11, wdR12, wdR13, wdI14, wdS14, wdI15, wdS15, wdA3, wdU3, wdA4, wdU4, wdA5, wdU5, wdA6, wdU6, wdA7, wdU7, wdA8, wdU8, wdA27, wdU27, wdA28, wdU28, wdA29, wdU29, wdA30, wdU30, wdA31, wdU31, wdB, wdP, wdAB, wdUB, wdAP, wdUP, wdV, drV, drR0, drI1, drS1, k_C, ↓reduceIte, tr_lt, fa_lt, tr_le, fa_le, tr_eq, fa_eq, and_true, true_and, and_false, false_and, il0, il1, il2, il3, il4, il5, il6, il7, il8, il9, il10, il11, il12, il15, il16, il20, il24, il31, il32, il44, il45, il48, il50, il57, il58, il59, il63, il91, il93, il97, il99, il100, il109, il113, il119, il120, il122, il200, il255, il480, il500, il501, il512, il999, il4112, il41120, il1000000, il1000003, ii_add, ii_sub, ii_mul, ii_neg, ii_le, ii_lt, ii_eq, ii_div, q_I, q_V, q_R, lt_q, rZ_q, md_M, md_16, md_4, md_8, md_10, if_true, if_false, if_pos, if_neg, s1, w27, s6, hlo]
  · rintro n ⟨s, D⟩ ⟨hI, hs, hD, hF⟩
    dsimp only at hs hD hF ⊢
    have s1 := hD.1.1.2.1
    refine ⟨D, ?_, hD, hF⟩
    simp (disch := first | assumption | omega) only [fX19_falls_4, wdR1, wdR2, wdR3, wdR4, wdR5, wdR6, wdR7, wdR8, wdR9, wdR10, wdR11, wdR12, wdR13, wdI14, wdS14, wdI15, wdS15, wdA3, wdU3, wdA4, wdU4, wdA5, wdU5, wdA6, wdU6, wdA7, wdU7, wdA8, wdU8, wdA27, wdU27, wdA28, wdU28, wdA29, wdU29, wdA30, wdU30, wdA31, wdU31, wdB, wdP, wdAB, wdUB, wdAP, wdUP, wdV, drV, drR0, drI1, drS1, k_C, ↓reduceIte, tr_lt, fa_lt, tr_le, fa_le, tr_eq, fa_eq, and_true, true_and, and_false, false_and, il0, il1, il2, il3, il4, il5, il6, il7, il8, il9, il10, il11, il12, il15, il16, il20, il24, il31, il32, il44, il45, il48, il50, il57, il58, il59, il63, il91, il93, il97, il99, il100, il109, il113, il119, il120, il122, il200, il255, il480, il500, il501, il512, il999, il4112, il41120, il1000000, il1000003, ii_add, ii_sub, ii_mul, ii_neg, ii_le, ii_lt, ii_eq, ii_div, q_I, q_V, q_R, lt_q, rZ_q, md_M, md_16, md_4, md_8, md_10, if_true, if_false, if_pos, if_neg, s1]
    rw [hs]
theorem gdN_gu (M : AI) (g : Int → Int) (z v : Int) (hz : z < 16) : ∀ n : Nat, gdN M (gu g z v) n = gdN M g n
  | 0 => rfl
  | n + 1 => by
    have e : ∀ w, 0 ≤ w → cel (gu g z v) n w = cel g n w := fun w a => cel_gu _ _ _ _ _ (by omega)
    have eg : gapM M (gu g z v) n = gapM M g n := by
      unfold gapM uQ
      rw [suB_cong (g := g) (e 0 (by omega)) (fun k a b => e _ (by omega)), suP_cong (g := g) (e 1 (by omega)) (fun k a b => e _ (by omega)), e 2 (by omega), e 3 (by omega)]
    show (if gdN M (gu g z v) n = 1 ∧ _ then 1 else 0) = if gdN M g n = 1 ∧ _ then 1 else 0
    rw [gdN_gu M g z v hz n, e 0 (by omega), e 4 (by omega), eg]
theorem lkN_lo (M : AI) {g : Int → Int} (hg : GR g) (z : Int) (hz : 1 ≤ z ∧ z ≤ 3) : ∀ n : Nat, n ≤ 8 → (lkN M g n).2 z = g z := by
  intro n
  induction n with
  | zero => intro _; rfl
  | succ n ih =>
    intro hn
    rw [lkN_s]
    split
    · show gFall (lkN M g n).2 n z = _
      rw [lo_gFall _ _ _ ⟨by omega, by omega⟩ (lkN_GR hg n n (by omega) (by omega)).2.1.2, if_neg (by omega), if_neg (by omega), if_neg (by omega), if_neg (by omega)]
      exact ih (by omega)
    · exact ih (by omega)
theorem n_print (hW : isWorld c w) (hR : WR w A M o g) (hM : SA M) (hG : GC M g B) (hB : 0 ≤ B ∧ B ≤ 500000000) (h4 : M 0 9 ≤ 4) (hg2 : (0 ≤ g 1 ∧ g 1 < 2000000000) ∧ 0 ≤ g 2 ∧ g 2 < 2000000000) : ∃ A', fX19_print w (CW c A J) = some (Sum.inl (some (Value.int (ii ((gPr M g).1)))), CW c A' J) ∧ WR w A' M o (gPr M g).2 ∧ ∀ (b : Nat) (z : Int), ¬ inW w b → A' b z = A b z := by
  have h38 := hM.1.2.1
  have hlp : ∃ D : AI, fX19_print_2 FU w (ii 0) (CW c A J) = fX19_print_40 w (CW c D J) ∧ WR w D M o (shN M g (M 0 3).toNat) ∧ ∀ (b : Nat) (z : Int), ¬ inW w b → D b z = A b z := by
    refine lp (fun n i (s : AI) => fX19_print_2 n w (ii i) (CW c s J)) (fun x => ∃ D : AI, x = fX19_print_40 w (CW c D J) ∧ WR w D M o (shN M g (M 0 3).toNat) ∧ ∀ (b : Nat) (z : Int), ¬ inW w b → D b z = A b z)
      (fun i D => 0 ≤ i ∧ WR w D M o (shN M g i.toNat) ∧ ∀ (b : Nat) (z : Int), ¬ inW w b → D b z = A b z) (M 0 3) ?_ ?_ FU 0 A (by omega) ⟨by omega, hR, fun _ _ _ => rfl⟩ (by have := FU_e; omega)
    · rintro n i D hi ⟨hI, hD, hF⟩
      have hGi := GC_sh hG hM hB i.toNat (by omega)
      have s1 := hD.1.1.2.1
      have s4 := hD.1.1.2.2.2.2.1
      obtain ⟨w27, -, -, -, w31⟩ := (hD.2.2.2.1 i hI hi).1
      have hn := hD.s4 hGi.1.1 (by omega) ⟨hI, hi⟩ (by omega) (cel (shN M g i.toNat) i 4 + M 0 6 * cel (shN M g i.toNat) i 0)
      refine Or.inr ⟨up D (w + 31) i (cel (shN M g i.toNat) i 4 + M 0 6 * cel (shN M g i.toNat) i 0), ⟨by omega, ?_, fun b z q => ?_⟩, ?_⟩
      · rw [show (i + 1).toNat = i.toNat + 1 by omega, shN_s, show ((i.toNat : Nat) : Int) = i by omega]; exact hn
      · have q' := q
        unfold inW at q'
        rw [up_n _ _ _ _ _ _ (by omega)]; exact hF b z q
      · simp (disch := first | assumption | omega) only [fX19_print_2, wdR1, wdR2, wdR3, wdR4, wdR5, wdR6, wdR7, wdR8, wdR9, wdR10, wdR11, wdR12, wdR13, wdI14, wdS14, wdI15, wdS15, wdA3, wdU3, wdA4, wdU4, wdA5, wdU5, wdA6, wdU6, wdA7, wdU7, wdA8, wdU8, wdA27, wdU27, wdA28, wdU28, wdA29, wdU29, wdA30, wdU30, wdA31, wdU31, wdB, wdP, wdAB, wdUB, wdAP, wdUP, wdV, drV, drR0, drI1, drS1, k_C, ↓reduceIte, tr_lt, fa_lt, tr_le, fa_le, tr_eq, fa_eq, and_true, true_and, and_false, false_and, il0, il1, il2, il3, il4, il5, il6, il7, il8, il9, il10, il11, il12, il15, il16, il20, il24, il31, il32, il44, il45, il48, il50, il57, il58, il59, il63, il91, il93, il97, il99, il100, il109, il113, il119, il120, il122, il200, il255, il480, il500, il501, il512, il999, il4112, il41120, il1000000, il1000003, ii_add, ii_sub, ii_mul, ii_neg, ii_le, ii_lt, ii_eq, ii_div, q_I, q_V, q_R, lt_q, rZ_q, md_M, md_16, md_4, md_8, md_10, if_true, if_false, if_pos, if_neg, s1, s4, w27, w31]
    · rintro n D ⟨hI, hD, hF⟩
      have s1 := hD.1.1.2.1
      refine ⟨D, ?_, hD, hF⟩
      simp (disch := first | assumption | omega) only [fX19_print_2, wdR1, wdR2, wdR3, wdR4, wdR5, wdR6, wdR7, wdR8, wdR9, wdR10, wdR11, wdR12, wdR13, wdI14, wdS14, wdI15, wdS15, wdA3, wdU3, wdA4, wdU4, wdA5, wdU5, wdA6, wdU6, wdA7, wdU7, wdA8, wdU8, wdA27, wdU27, wdA28, wdU28, wdA29, wdU29, wdA30, wdU30, wdA31, wdU31, wdB, wdP, wdAB, wdUB, wdAP, wdUP, wdV, drV, drR0, drI1, drS1, k_C, ↓reduceIte, tr_lt, fa_lt, tr_le, fa_le, tr_eq, fa_eq, and_true, true_and, and_false, false_and, il0, il1, il2, il3, il4, il5, il6, il7, il8, il9, il10, il11, il12, il15, il16, il20, il24, il31, il32, il44, il45, il48, il50, il57, il58, il59, il63, il91, il93, il97, il99, il100, il109, il113, il119, il120, il122, il200, il255, il480, il500, il501, il512, il999, il4112, il41120, il1000000, il1000003, ii_add, ii_sub, ii_mul, ii_neg, ii_le, ii_lt, ii_eq, ii_div, q_I, q_V, q_R, lt_q, rZ_q, md_M, md_16, md_4, md_8, md_10, if_true, if_false, if_pos, if_neg, s1]
  obtain ⟨D, e1, hD, hF⟩ := hlp
  have hGs := GC_sh hG hM hB (M 0 3).toNat (by omega)
  obtain ⟨E, f1, hE, hFE⟩ := n_falls (J := J) hW hD hM hGs (by omega) h4
  have hGl := GC.lk hGs hM (by omega) (M 0 3).toNat (by omega)
  have hlb := lkN_b M (shN M g (M 0 3).toNat) (M 0 3).toNat
  obtain ⟨L, hL⟩ : ∃ L, L = lkN M (shN M g (M 0 3).toNat) (M 0 3).toNat := ⟨_, rfl⟩
  have hpr : gPr M g = (L.1, gu (gu L.2 1 (L.2 1 + 1)) 2 (L.2 2 + (if L.1 = 0 ∧ gdN M (gu L.2 1 (L.2 1 + 1)) (M 0 3).toNat = 1 then 1 else 0))) := by rw [hL]; rfl
  rw [← hL] at f1 hE hGl hlb
  have hp8 : ∀ n : Nat, n ≤ 8 → (2 : Int) ^ n ≤ 256 := by decide
  have h256 := hp8 (M 0 3).toNat (by omega)
  have hlo : L.1 = 0 → False ∨ True := fun _ => Or.inr trivial
  -- the good ones
  have hgd : ∀ x : Int, (x = 0 ∨ x = 1) → fX19_print_57 FU w (ii L.1) (ii x) (ii 0) (CW c E J) = fX19_print_111 w (ii L.1) (ii (if x = 1 ∧ gdN M L.2 (M 0 3).toNat = 1 then 1 else 0)) (CW c E J) := by
    intro x hx
    refine lp (fun n i (s : Int) => fX19_print_57 n w (ii L.1) (ii s) (ii i) (CW c E J)) (fun y => y = fX19_print_111 w (ii L.1) (ii (if x = 1 ∧ gdN M L.2 (M 0 3).toNat = 1 then 1 else 0)) (CW c E J)) (fun i s => 0 ≤ i ∧ s = if x = 1 ∧ gdN M L.2 i.toNat = 1 then 1 else 0) (M 0 3) ?_ ?_ FU 0 x (by omega) ⟨by omega, by show x = if x = 1 ∧ (1 : Int) = 1 then 1 else 0; rcases hx with rfl | rfl <;> rfl⟩ (by have := FU_e; omega)
    · rintro n i s hi ⟨hI, hs⟩
      have s1 := hE.1.1.2.1
      obtain ⟨w27, -, -, -, w31⟩ := (hE.2.2.2.1 i hI hi).1
      have hgr := hGl.1.1 i hI (by omega)
      have b0 := hgr.1
      have b4 := hgr.2.2.2.2.2.2
      have hgb := gapM_b hM hgr
      have hga := n_gap (J := J) hW hE hM hGl h4 ⟨hI, hi⟩
      refine Or.inr ⟨if x = 1 ∧ gdN M L.2 (i + 1).toNat = 1 then 1 else 0, ⟨by omega, rfl⟩, ?_⟩
      have eg : gdN M L.2 (i + 1).toNat = if gdN M L.2 i.toNat = 1 ∧ (cel L.2 i 0 = 0 ∨ gapM M L.2 i = 0 ∧ cel L.2 i 4 < 10) then 1 else 0 := by
        rw [show (i + 1).toNat = i.toNat + 1 by omega, gdN_s, show ((i.toNat : Nat) : Int) = i by omega]
      rw [eg]
      by_cases q : x = 1 ∧ gdN M L.2 i.toNat = 1
      · rw [if_pos q] at hs
        by_cases q1 : cel L.2 i 0 = 0
        · rw [if_pos ⟨q.1, by rw [if_pos ⟨q.2, Or.inl q1⟩]⟩]
          simp (disch := first | assumption | omega) only [fX19_print_57, fX19_print_99, fX19_print_103, fX19_print_104, wdR1, wdR2, wdR3, wdR4, wdR5, wdR6, wdR7, wdR8, wdR9, wdR10, wdR11, wdR12, wdR13, wdI14, wdS14, wdI15, wdS15, wdA3, wdU3, wdA4, wdU4, wdA5, wdU5, wdA6, wdU6, wdA7, wdU7, wdA8, wdU8, wdA27, wdU27, wdA28, wdU28, wdA29, wdU29, wdA30, wdU30, wdA31, wdU31, wdB, wdP, wdAB, wdUB, wdAP, wdUP, wdV, drV, drR0, drI1, drS1, k_C, ↓reduceIte, tr_lt, fa_lt, tr_le, fa_le, tr_eq, fa_eq, and_true, true_and, and_false, false_and, il0, il1, il2, il3, il4, il5, il6, il7, il8, il9, il10, il11, il12, il15, il16, il20, il24, il31, il32, il44, il45, il48, il50, il57, il58, il59, il63, il91, il93, il97, il99, il100, il109, il113, il119, il120, il122, il200, il255, il480, il500, il501, il512, il999, il4112, il41120, il1000000, il1000003, ii_add, ii_sub, ii_mul, ii_neg, ii_le, ii_lt, ii_eq, ii_div, q_I, q_V, q_R, lt_q, rZ_q, md_M, md_16, md_4, md_8, md_10, if_true, if_false, if_pos, if_neg, s1, w27, hs, q1]
        · by_cases q2 : gapM M L.2 i = 0
          · by_cases q3 : cel L.2 i 4 < 10
            · rw [if_pos ⟨q.1, by rw [if_pos ⟨q.2, Or.inr ⟨q2, q3⟩⟩]⟩]
              simp (disch := first | assumption | omega) only [fX19_print_57, fX19_print_99, fX19_print_103, fX19_print_104, wdR1, wdR2, wdR3, wdR4, wdR5, wdR6, wdR7, wdR8, wdR9, wdR10, wdR11, wdR12, wdR13, wdI14, wdS14, wdI15, wdS15, wdA3, wdU3, wdA4, wdU4, wdA5, wdU5, wdA6, wdU6, wdA7, wdU7, wdA8, wdU8, wdA27, wdU27, wdA28, wdU28, wdA29, wdU29, wdA30, wdU30, wdA31, wdU31, wdB, wdP, wdAB, wdUB, wdAP, wdUP, wdV, drV, drR0, drI1, drS1, k_C, ↓reduceIte, tr_lt, fa_lt, tr_le, fa_le, tr_eq, fa_eq, and_true, true_and, and_false, false_and, il0, il1, il2, il3, il4, il5, il6, il7, il8, il9, il10, il11, il12, il15, il16, il20, il24, il31, il32, il44, il45, il48, il50, il57, il58, il59, il63, il91, il93, il97, il99, il100, il109, il113, il119, il120, il122, il200, il255, il480, il500, il501, il512, il999, il4112, il41120, il1000000, il1000003, ii_add, ii_sub, ii_mul, ii_neg, ii_le, ii_lt, ii_eq, ii_div, q_I, q_V, q_R, lt_q, rZ_q, md_M, md_16, md_4, md_8, md_10, if_true, if_false, if_pos, if_neg, s1, w27, w31, hs, hga, q2]
            · rw [if_neg (fun z => by rw [if_neg (by omega)] at z; omega)]
              simp (disch := first | assumption | omega) only [fX19_print_57, fX19_print_99, fX19_print_103, fX19_print_104, wdR1, wdR2, wdR3, wdR4, wdR5, wdR6, wdR7, wdR8, wdR9, wdR10, wdR11, wdR12, wdR13, wdI14, wdS14, wdI15, wdS15, wdA3, wdU3, wdA4, wdU4, wdA5, wdU5, wdA6, wdU6, wdA7, wdU7, wdA8, wdU8, wdA27, wdU27, wdA28, wdU28, wdA29, wdU29, wdA30, wdU30, wdA31, wdU31, wdB, wdP, wdAB, wdUB, wdAP, wdUP, wdV, drV, drR0, drI1, drS1, k_C, ↓reduceIte, tr_lt, fa_lt, tr_le, fa_le, tr_eq, fa_eq, and_true, true_and, and_false, false_and, il0, il1, il2, il3, il4, il5, il6, il7, il8, il9, il10, il11, il12, il15, il16, il20, il24, il31, il32, il44, il45, il48, il50, il57, il58, il59, il63, il91, il93, il97, il99, il100, il109, il113, il119, il120, il122, il200, il255, il480, il500, il501, il512, il999, il4112, il41120, il1000000, il1000003, ii_add, ii_sub, ii_mul, ii_neg, ii_le, ii_lt, ii_eq, ii_div, q_I, q_V, q_R, lt_q, rZ_q, md_M, md_16, md_4, md_8, md_10, if_true, if_false, if_pos, if_neg, s1, w27, w31, hs, hga, q2]
          · rw [if_neg (fun z => by rw [if_neg (by omega)] at z; omega)]
            simp (disch := first | assumption | omega) only [fX19_print_57, fX19_print_99, fX19_print_103, fX19_print_104, wdR1, wdR2, wdR3, wdR4, wdR5, wdR6, wdR7, wdR8, wdR9, wdR10, wdR11, wdR12, wdR13, wdI14, wdS14, wdI15, wdS15, wdA3, wdU3, wdA4, wdU4, wdA5, wdU5, wdA6, wdU6, wdA7, wdU7, wdA8, wdU8, wdA27, wdU27, wdA28, wdU28, wdA29, wdU29, wdA30, wdU30, wdA31, wdU31, wdB, wdP, wdAB, wdUB, wdAP, wdUP, wdV, drV, drR0, drI1, drS1, k_C, ↓reduceIte, tr_lt, fa_lt, tr_le, fa_le, tr_eq, fa_eq, and_true, true_and, and_false, false_and, il0, il1, il2, il3, il4, il5, il6, il7, il8, il9, il10, il11, il12, il15, il16, il20, il24, il31, il32, il44, il45, il48, il50, il57, il58, il59, il63, il91, il93, il97, il99, il100, il109, il113, il119, il120, il122, il200, il255, il480, il500, il501, il512, il999, il4112, il41120, il1000000, il1000003, ii_add, ii_sub, ii_mul, ii_neg, ii_le, ii_lt, ii_eq, ii_div, q_I, q_V, q_R, lt_q, rZ_q, md_M, md_16, md_4, md_8, md_10, if_true, if_false, if_pos, if_neg, s1, w27, hs, hga]
      · rw [if_neg q] at hs
        rw [if_neg (fun z => q ⟨z.1, by have z2 := z.2; split at z2 <;> omega⟩)]
        simp (disch := first | assumption | omega) only [fX19_print_57, fX19_print_99, fX19_print_103, fX19_print_104, wdR1, wdR2, wdR3, wdR4, wdR5, wdR6, wdR7, wdR8, wdR9, wdR10, wdR11, wdR12, wdR13, wdI14, wdS14, wdI15, wdS15, wdA3, wdU3, wdA4, wdU4, wdA5, wdU5, wdA6, wdU6, wdA7, wdU7, wdA8, wdU8, wdA27, wdU27, wdA28, wdU28, wdA29, wdU29, wdA30, wdU30, wdA31, wdU31, wdB, wdP, wdAB, wdUB, wdAP, wdUP, wdV, drV, drR0, drI1, drS1, k_C, ↓reduceIte, tr_lt, fa_lt, tr_le, fa_le, tr_eq, fa_eq, and_true, true_and, and_false, false_and, il0, il1, il2, il3, il4, il5, il6, il7, il8, il9, il10, il11, il12, il15, il16, il20, il24, il31, il32, il44, il45, il48, il50, il57, il58, il59, il63, il91, il93, il97, il99, il100, il109, il113, il119, il120, il122, il200, il255, il480, il500, il501, il512, il999, il4112, il41120, il1000000, il1000003, ii_add, ii_sub, ii_mul, ii_neg, ii_le, ii_lt, ii_eq, ii_div, q_I, q_V, q_R, lt_q, rZ_q, md_M, md_16, md_4, md_8, md_10, if_true, if_false, if_pos, if_neg, s1, hs]
    · rintro n s ⟨hI, hs⟩
      have s1 := hE.1.1.2.1
      simp (disch := first | assumption | omega) only [fX19_print_57, wdR1, wdR2, wdR3, wdR4, wdR5, wdR6, wdR7, wdR8, wdR9, wdR10, wdR11, wdR12, wdR13, wdI14, wdS14, wdI15, wdS15, wdA3, wdU3, wdA4, wdU4, wdA5, wdU5, wdA6, wdU6, wdA7, wdU7, wdA8, wdU8, wdA27, wdU27, wdA28, wdU28, wdA29, wdU29, wdA30, wdU30, wdA31, wdU31, wdB, wdP, wdAB, wdUB, wdAP, wdUP, wdV, drV, drR0, drI1, drS1, k_C, ↓reduceIte, tr_lt, fa_lt, tr_le, fa_le, tr_eq, fa_eq, and_true, true_and, and_false, false_and, il0, il1, il2, il3, il4, il5, il6, il7, il8, il9, il10, il11, il12, il15, il16, il20, il24, il31, il32, il44, il45, il48, il50, il57, il58, il59, il63, il91, il93, il97, il99, il100, il109, il113, il119, il120, il122, il200, il255, il480, il500, il501, il512, il999, il4112, il41120, il1000000, il1000003, ii_add, ii_sub, ii_mul, ii_neg, ii_le, ii_lt, ii_eq, ii_div, q_I, q_V, q_R, lt_q, rZ_q, md_M, md_16, md_4, md_8, md_10, if_true, if_false, if_pos, if_neg, s1, hs]
  obtain ⟨c0, c1, c2, c3, c4⟩ := hE.2.2.1
  have lo1 : ∀ z, 1 ≤ z → z ≤ 2 → L.2 z = g z := fun z a b => by
    rw [hL, lkN_lo M hGs.1.1 z ⟨a, by omega⟩ _ (by omega), lo_shN _ _ _ (by omega)]
  have hU1 := hE.cnt hGl.1.1 (by omega) 0 (L.2 1 + 1) (by omega)
  have hU2 := hU1.cnt (fun r a b => (hGl.1.1 r a b).gu a (by omega)) (by omega) 1 (L.2 2 + (if L.1 = 0 ∧ gdN M L.2 (M 0 3).toNat = 1 then 1 else 0)) (by omega)
  have l1 := lo1 1 (by omega) (by omega)
  have l2 := lo1 2 (by omega) (by omega)
  refine ⟨_, ?_, by rw [hpr, gdN_gu M L.2 1 _ (by omega)]; exact hU2, fun b z q => ?_⟩
  · rw [hpr]
    dsimp only
    have n1 : ¬ ((0 : Int) = 1 ∧ gdN M L.2 (M 0 3).toNat = 1) := fun z => by omega
    by_cases q : L.1 = 0
    · have hg1 := hgd 1 (Or.inr rfl)
      rw [q] at f1 hg1 ⊢
      by_cases y : gdN M L.2 (M 0 3).toNat = 1
      · rw [if_pos ⟨rfl, y⟩] at hg1 ⊢
        simp (disch := first | assumption | omega) only [fX19_print, fX19_print_40, fX19_print_54, wdR1, wdR2, wdR3, wdR4, wdR5, wdR6, wdR7, wdR8, wdR9, wdR10, wdR11, wdR12, wdR13, wdI14, wdS14, wdI15, wdS15, wdA3, wdU3, wdA4, wdU4, wdA5, wdU5, wdA6, wdU6, wdA7, wdU7, wdA8, wdU8, wdA27, wdU27, wdA28, wdU28, wdA29, wdU29, wdA30, wdU30, wdA31, wdU31, wdB, wdP, wdAB, wdUB, wdAP, wdUP, wdV, drV, drR0, drI1, drS1, k_C, ↓reduceIte, tr_lt, fa_lt, tr_le, fa_le, tr_eq, fa_eq, and_true, true_and, and_false, false_and, il0, il1, il2, il3, il4, il5, il6, il7, il8, il9, il10, il11, il12, il15, il16, il20, il24, il31, il32, il44, il45, il48, il50, il57, il58, il59, il63, il91, il93, il97, il99, il100, il109, il113, il119, il120, il122, il200, il255, il480, il500, il501, il512, il999, il4112, il41120, il1000000, il1000003, ii_add, ii_sub, ii_mul, ii_neg, ii_le, ii_lt, ii_eq, ii_div, q_I, q_V, q_R, lt_q, rZ_q, md_M, md_16, md_4, md_8, md_10, if_true, if_false, if_pos, if_neg, e1, f1, hg1]
        simp (disch := first | assumption | omega) only [fX19_print_111, fX19_print_137, wdR1, wdR2, wdR3, wdR4, wdR5, wdR6, wdR7, wdR8, wdR9, wdR10, wdR11, wdR12, wdR13, wdI14, wdS14, wdI15, wdS15, wdA3, wdU3, wdA4, wdU4, wdA5, wdU5, wdA6, wdU6, wdA7, wdU7, wdA8, wdU8, wdA27, wdU27, wdA28, wdU28, wdA29, wdU29, wdA30, wdU30, wdA31, wdU31, wdB, wdP, wdAB, wdUB, wdAP, wdUP, wdV, drV, drR0, drI1, drS1, k_C, ↓reduceIte, tr_lt, fa_lt, tr_le, fa_le, tr_eq, fa_eq, and_true, true_and, and_false, false_and, il0, il1, il2, il3, il4, il5, il6, il7, il8, il9, il10, il11, il12, il15, il16, il20, il24, il31, il32, il44, il45, il48, il50, il57, il58, il59, il63, il91, il93, il97, il99, il100, il109, il113, il119, il120, il122, il200, il255, il480, il500, il501, il512, il999, il4112, il41120, il1000000, il1000003, ii_add, ii_sub, ii_mul, ii_neg, ii_le, ii_lt, ii_eq, ii_div, q_I, q_V, q_R, lt_q, rZ_q, md_M, md_16, md_4, md_8, md_10, if_true, if_false, if_pos, if_neg, up_s, up_n, c0, c1]
      · rw [if_neg (fun z => y z.2)] at hg1 ⊢
        simp (disch := first | assumption | omega) only [fX19_print, fX19_print_40, fX19_print_54, wdR1, wdR2, wdR3, wdR4, wdR5, wdR6, wdR7, wdR8, wdR9, wdR10, wdR11, wdR12, wdR13, wdI14, wdS14, wdI15, wdS15, wdA3, wdU3, wdA4, wdU4, wdA5, wdU5, wdA6, wdU6, wdA7, wdU7, wdA8, wdU8, wdA27, wdU27, wdA28, wdU28, wdA29, wdU29, wdA30, wdU30, wdA31, wdU31, wdB, wdP, wdAB, wdUB, wdAP, wdUP, wdV, drV, drR0, drI1, drS1, k_C, ↓reduceIte, tr_lt, fa_lt, tr_le, fa_le, tr_eq, fa_eq, and_true, true_and, and_false, false_and, il0, il1, il2, il3, il4, il5, il6, il7, il8, il9, il10, il11, il12, il15, il16, il20, il24, il31, il32, il44, il45, il48, il50, il57, il58, il59, il63, il91, il93, il97, il99, il100, il109, il113, il119, il120, il122, il200, il255, il480, il500, il501, il512, il999, il4112, il41120, il1000000, il1000003, ii_add, ii_sub, ii_mul, ii_neg, ii_le, ii_lt, ii_eq, ii_div, q_I, q_V, q_R, lt_q, rZ_q, md_M, md_16, md_4, md_8, md_10, if_true, if_false, if_pos, if_neg, e1, f1, hg1]
        simp (disch := first | assumption | omega) only [fX19_print_111, fX19_print_137, wdR1, wdR2, wdR3, wdR4, wdR5, wdR6, wdR7, wdR8, wdR9, wdR10, wdR11, wdR12, wdR13, wdI14, wdS14, wdI15, wdS15, wdA3, wdU3, wdA4, wdU4, wdA5, wdU5, wdA6, wdU6, wdA7, wdU7, wdA8, wdU8, wdA27, wdU27, wdA28, wdU28, wdA29, wdU29, wdA30, wdU30, wdA31, wdU31, wdB, wdP, wdAB, wdUB, wdAP, wdUP, wdV, drV, drR0, drI1, drS1, k_C, ↓reduceIte, tr_lt, fa_lt, tr_le, fa_le, tr_eq, fa_eq, and_true, true_and, and_false, false_and, il0, il1, il2, il3, il4, il5, il6, il7, il8, il9, il10, il11, il12, il15, il16, il20, il24, il31, il32, il44, il45, il48, il50, il57, il58, il59, il63, il91, il93, il97, il99, il100, il109, il113, il119, il120, il122, il200, il255, il480, il500, il501, il512, il999, il4112, il41120, il1000000, il1000003, ii_add, ii_sub, ii_mul, ii_neg, ii_le, ii_lt, ii_eq, ii_div, q_I, q_V, q_R, lt_q, rZ_q, md_M, md_16, md_4, md_8, md_10, if_true, if_false, if_pos, if_neg, up_s, up_n, c0, c1]
    · have hg1 := hgd 0 (Or.inl rfl)
      rw [if_neg n1] at hg1
      rw [if_neg (fun z => q z.1)]
      simp (disch := first | assumption | omega) only [fX19_print, fX19_print_40, fX19_print_54, wdR1, wdR2, wdR3, wdR4, wdR5, wdR6, wdR7, wdR8, wdR9, wdR10, wdR11, wdR12, wdR13, wdI14, wdS14, wdI15, wdS15, wdA3, wdU3, wdA4, wdU4, wdA5, wdU5, wdA6, wdU6, wdA7, wdU7, wdA8, wdU8, wdA27, wdU27, wdA28, wdU28, wdA29, wdU29, wdA30, wdU30, wdA31, wdU31, wdB, wdP, wdAB, wdUB, wdAP, wdUP, wdV, drV, drR0, drI1, drS1, k_C, ↓reduceIte, tr_lt, fa_lt, tr_le, fa_le, tr_eq, fa_eq, and_true, true_and, and_false, false_and, il0, il1, il2, il3, il4, il5, il6, il7, il8, il9, il10, il11, il12, il15, il16, il20, il24, il31, il32, il44, il45, il48, il50, il57, il58, il59, il63, il91, il93, il97, il99, il100, il109, il113, il119, il120, il122, il200, il255, il480, il500, il501, il512, il999, il4112, il41120, il1000000, il1000003, ii_add, ii_sub, ii_mul, ii_neg, ii_le, ii_lt, ii_eq, ii_div, q_I, q_V, q_R, lt_q, rZ_q, md_M, md_16, md_4, md_8, md_10, if_true, if_false, if_pos, if_neg, e1, f1, hg1]
      simp (disch := first | assumption | omega) only [fX19_print_111, fX19_print_137, wdR1, wdR2, wdR3, wdR4, wdR5, wdR6, wdR7, wdR8, wdR9, wdR10, wdR11, wdR12, wdR13, wdI14, wdS14, wdI15, wdS15, wdA3, wdU3, wdA4, wdU4, wdA5, wdU5, wdA6, wdU6, wdA7, wdU7, wdA8, wdU8, wdA27, wdU27, wdA28, wdU28, wdA29, wdU29, wdA30, wdU30, wdA31, wdU31, wdB, wdP, wdAB, wdUB, wdAP, wdUP, wdV, drV, drR0, drI1, drS1, k_C, ↓reduceIte, tr_lt, fa_lt, tr_le, fa_le, tr_eq, fa_eq, and_true, true_and, and_false, false_and, il0, il1, il2, il3, il4, il5, il6, il7, il8, il9, il10, il11, il12, il15, il16, il20, il24, il31, il32, il44, il45, il48, il50, il57, il58, il59, il63, il91, il93, il97, il99, il100, il109, il113, il119, il120, il122, il200, il255, il480, il500, il501, il512, il999, il4112, il41120, il1000000, il1000003, ii_add, ii_sub, ii_mul, ii_neg, ii_le, ii_lt, ii_eq, ii_div, q_I, q_V, q_R, lt_q, rZ_q, md_M, md_16, md_4, md_8, md_10, if_true, if_false, if_pos, if_neg, up_s, up_n, c0, c1]
  · have q' := q
    unfold inW at q'
    rw [up_n _ _ _ _ _ _ (by omega), up_n _ _ _ _ _ _ (by omega), hFE b z q]; exact hF b z q
theorem n_day (hW : isWorld c w) (hR : WR w A M o g) (hM : SA M) (hG : GC M g B) (hB : 0 ≤ B ∧ B ≤ 500000000) (h4 : M 0 9 ≤ 4) : ∃ A', fX19_day w (CW c A J) = some (Sum.inl (some (Value.int (ii ((gDa M g).1)))), CW c A' J) ∧ WR w A' M o (gDa M g).2 ∧ ∀ (b : Nat) (z : Int), ¬ inW w b → A' b z = A b z := by
  have h38 := hM.1.2.1
  have hlp : ∃ D : AI, fX19_day_2 FU w (ii 0) (CW c A J) = fX19_day_39 w (CW c D J) ∧ WR w D M o (daN M g (M 0 3).toNat) ∧ ∀ (b : Nat) (z : Int), ¬ inW w b → D b z = A b z := by
    refine lp (fun n i (s : AI) => fX19_day_2 n w (ii i) (CW c s J)) (fun x => ∃ D : AI, x = fX19_day_39 w (CW c D J) ∧ WR w D M o (daN M g (M 0 3).toNat) ∧ ∀ (b : Nat) (z : Int), ¬ inW w b → D b z = A b z)
      (fun i D => 0 ≤ i ∧ WR w D M o (daN M g i.toNat) ∧ ∀ (b : Nat) (z : Int), ¬ inW w b → D b z = A b z) (M 0 3) ?_ ?_ FU 0 A (by omega) ⟨by omega, hR, fun _ _ _ => rfl⟩ (by have := FU_e; omega)
    · rintro n i D hi ⟨hI, hD, hF⟩
      have hGi := GC_dan hG hM hB i.toNat (by omega)
      have s1 := hD.1.1.2.1
      have s5 := hD.1.1.2.2.2.2.2.1
      obtain ⟨-, -, -, -, w31⟩ := (hD.2.2.2.1 i hI hi).1
      have hwo := n_wood (J := J) hW hD hM hGi h4 ⟨hI, hi⟩
      have hn := hD.s4 hGi.1.1 (by omega) ⟨hI, hi⟩ (by omega) (cel (daN M g i.toNat) i 4 + M 0 7 * suW (M 1) (daN M g i.toNat) i)
      refine Or.inr ⟨up D (w + 31) i (cel (daN M g i.toNat) i 4 + M 0 7 * suW (M 1) (daN M g i.toNat) i), ⟨by omega, ?_, fun b z q => ?_⟩, ?_⟩
      · rw [show (i + 1).toNat = i.toNat + 1 by omega, daN_s, show ((i.toNat : Nat) : Int) = i by omega]; exact hn
      · have q' := q
        unfold inW at q'
        rw [up_n _ _ _ _ _ _ (by omega)]; exact hF b z q
      · simp (disch := first | assumption | omega) only [fX19_day_2, wdR1, wdR2, wdR3, wdR4, wdR5, wdR6, wdR7, wdR8, wdR9, wdR10, wdR11, wdR12, wdR13, wdI14, wdS14, wdI15, wdS15, wdA3, wdU3, wdA4, wdU4, wdA5, wdU5, wdA6, wdU6, wdA7, wdU7, wdA8, wdU8, wdA27, wdU27, wdA28, wdU28, wdA29, wdU29, wdA30, wdU30, wdA31, wdU31, wdB, wdP, wdAB, wdUB, wdAP, wdUP, wdV, drV, drR0, drI1, drS1, k_C, ↓reduceIte, tr_lt, fa_lt, tr_le, fa_le, tr_eq, fa_eq, and_true, true_and, and_false, false_and, il0, il1, il2, il3, il4, il5, il6, il7, il8, il9, il10, il11, il12, il15, il16, il20, il24, il31, il32, il44, il45, il48, il50, il57, il58, il59, il63, il91, il93, il97, il99, il100, il109, il113, il119, il120, il122, il200, il255, il480, il500, il501, il512, il999, il4112, il41120, il1000000, il1000003, ii_add, ii_sub, ii_mul, ii_neg, ii_le, ii_lt, ii_eq, ii_div, q_I, q_V, q_R, lt_q, rZ_q, md_M, md_16, md_4, md_8, md_10, if_true, if_false, if_pos, if_neg, s1, s5, w31, hwo]
    · rintro n D ⟨hI, hD, hF⟩
      have s1 := hD.1.1.2.1
      refine ⟨D, ?_, hD, hF⟩
      simp (disch := first | assumption | omega) only [fX19_day_2, wdR1, wdR2, wdR3, wdR4, wdR5, wdR6, wdR7, wdR8, wdR9, wdR10, wdR11, wdR12, wdR13, wdI14, wdS14, wdI15, wdS15, wdA3, wdU3, wdA4, wdU4, wdA5, wdU5, wdA6, wdU6, wdA7, wdU7, wdA8, wdU8, wdA27, wdU27, wdA28, wdU28, wdA29, wdU29, wdA30, wdU30, wdA31, wdU31, wdB, wdP, wdAB, wdUB, wdAP, wdUP, wdV, drV, drR0, drI1, drS1, k_C, ↓reduceIte, tr_lt, fa_lt, tr_le, fa_le, tr_eq, fa_eq, and_true, true_and, and_false, false_and, il0, il1, il2, il3, il4, il5, il6, il7, il8, il9, il10, il11, il12, il15, il16, il20, il24, il31, il32, il44, il45, il48, il50, il57, il58, il59, il63, il91, il93, il97, il99, il100, il109, il113, il119, il120, il122, il200, il255, il480, il500, il501, il512, il999, il4112, il41120, il1000000, il1000003, ii_add, ii_sub, ii_mul, ii_neg, ii_le, ii_lt, ii_eq, ii_div, q_I, q_V, q_R, lt_q, rZ_q, md_M, md_16, md_4, md_8, md_10, if_true, if_false, if_pos, if_neg, s1]
  obtain ⟨D, e1, hD, hF⟩ := hlp
  have hGs := GC_dan hG hM hB (M 0 3).toNat (by omega)
  have c2 := hD.2.2.1.2.2.1
  rw [lo_daN _ _ _ (by omega)] at c2
  have hU1 := hD.cnt hGs.1.1 (by omega) 2 (g 3 + 1) (by omega)
  have hG1 := GC_lo hGs (g' := gu (daN M g (M 0 3).toNat) (2 + 1) (g 3 + 1)) (fun z q => gu_n _ _ _ _ (by omega)) hM
  obtain ⟨E, f1, hE, hFE⟩ := n_falls (J := J) hW hU1 hM hG1 (by omega) h4
  refine ⟨E, ?_, hE, fun b z q => ?_⟩
  · simp (disch := first | assumption | omega) only [fX19_day, wdR1, wdR2, wdR3, wdR4, wdR5, wdR6, wdR7, wdR8, wdR9, wdR10, wdR11, wdR12, wdR13, wdI14, wdS14, wdI15, wdS15, wdA3, wdU3, wdA4, wdU4, wdA5, wdU5, wdA6, wdU6, wdA7, wdU7, wdA8, wdU8, wdA27, wdU27, wdA28, wdU28, wdA29, wdU29, wdA30, wdU30, wdA31, wdU31, wdB, wdP, wdAB, wdUB, wdAP, wdUP, wdV, drV, drR0, drI1, drS1, k_C, ↓reduceIte, tr_lt, fa_lt, tr_le, fa_le, tr_eq, fa_eq, and_true, true_and, and_false, false_and, il0, il1, il2, il3, il4, il5, il6, il7, il8, il9, il10, il11, il12, il15, il16, il20, il24, il31, il32, il44, il45, il48, il50, il57, il58, il59, il63, il91, il93, il97, il99, il100, il109, il113, il119, il120, il122, il200, il255, il480, il500, il501, il512, il999, il4112, il41120, il1000000, il1000003, ii_add, ii_sub, ii_mul, ii_neg, ii_le, ii_lt, ii_eq, ii_div, q_I, q_V, q_R, lt_q, rZ_q, md_M, md_16, md_4, md_8, md_10, if_true, if_false, if_pos, if_neg, e1]
    simp (disch := first | assumption | omega) only [fX19_day_39, wdR1, wdR2, wdR3, wdR4, wdR5, wdR6, wdR7, wdR8, wdR9, wdR10, wdR11, wdR12, wdR13, wdI14, wdS14, wdI15, wdS15, wdA3, wdU3, wdA4, wdU4, wdA5, wdU5, wdA6, wdU6, wdA7, wdU7, wdA8, wdU8, wdA27, wdU27, wdA28, wdU28, wdA29, wdU29, wdA30, wdU30, wdA31, wdU31, wdB, wdP, wdAB, wdUB, wdAP, wdUP, wdV, drV, drR0, drI1, drS1, k_C, ↓reduceIte, tr_lt, fa_lt, tr_le, fa_le, tr_eq, fa_eq, and_true, true_and, and_false, false_and, il0, il1, il2, il3, il4, il5, il6, il7, il8, il9, il10, il11, il12, il15, il16, il20, il24, il31, il32, il44, il45, il48, il50, il57, il58, il59, il63, il91, il93, il97, il99, il100, il109, il113, il119, il120, il122, il200, il255, il480, il500, il501, il512, il999, il4112, il41120, il1000000, il1000003, ii_add, ii_sub, ii_mul, ii_neg, ii_le, ii_lt, ii_eq, ii_div, q_I, q_V, q_R, lt_q, rZ_q, md_M, md_16, md_4, md_8, md_10, if_true, if_false, if_pos, if_neg, c2, f1]
    rfl
  · have q' := q
    unfold inW at q'
    rw [hFE b z q, up_n _ _ _ _ _ _ (by omega)]; exact hF b z q
end WPR
