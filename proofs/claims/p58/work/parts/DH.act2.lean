/-! THE LAW: changes II: lift, take, put -/
section AC2
variable {C0 N0 n : Nat} {c : CC} {A : AI} {J : JI} {M : AI} {g : Int → Int} {pl sp tv cap w d : Nat} {q r : Int}
theorem a_421 (h : LwD C0 N0 n pl sp tv cap c A J M g w d q) (hn : n ≤ 590) (hro : RO C0 N0 n cap c 100 6500) (sc : Nat × (Nat → Int32)) (hs : sc.1 < 2147483648) (hr : 0 ≤ r ∧ r < M 0 3) (hq : q ≤ 99992) (i x : Int) (hi : 0 ≤ i ∧ i < cel g r 0) : ∃ D : AI, fL_act_421 sc FU 0 w (ii r) (ii i) (ii x) (ii i) (CW c A J) = fL_act_463 sc 0 w (ii r) (ii i) (ii x) (CW c D J) ∧ (∀ j, 0 ≤ j → j < cel g r 0 - 1 → D (w + 10 + r.toNat) j = if j < i then cel g r (5 + j) else cel g r (5 + j + 1)) ∧ ∀ (b : Nat) (z : Int), b ≠ w + 10 + r.toNat → D b z = A b z := by
  have hM := h.1.li.1
  have hG := h.1.li.2.2.2
  have h38 := hM.1.2.1
  have h39 := hM.1.2.2.2.2.2.2.2
  have h4 := h.1.2.2.2.2.1
  have hl := h.1.2.1.1
  have h0 := h.1.2.1.2
  have hB : 0 ≤ Bn n ∧ Bn n ≤ 300000000 := by unfold Bn; omega
  have q1 := h.2.2.2.1
  have q2 := h.2.2.2.2.1
  have q3 := h.2.2.2.2.2.1
  have q4 := h.2.2.2.2.2.2
  have hgr := hG.1.1 r hr.1 (by omega)
  have b0 := hgr.1
  have b1 := hgr.2.1
  have b2 := hgr.2.2.2.2.1
  have b3 := hgr.2.2.2.2.2.1
  have b4 := hgr.2.2.2.2.2.2
  have hgb := gapM_b hM hgr
  have hW := h.1.2.2.1.1
  have hR := h.1.2.2.1.2
  obtain ⟨⟨w27, w28, w29, w30, w31⟩, wB, wP⟩ := hR.2.2.2.1 r hr.1 hr.2
  refine lp (fun f m (s : AI) => fL_act_421 sc f 0 w (ii r) (ii i) (ii x) (ii m) (CW c s J)) (fun y => ∃ D : AI, y = fL_act_463 sc 0 w (ii r) (ii i) (ii x) (CW c D J) ∧ (∀ j, 0 ≤ j → j < cel g r 0 - 1 → D (w + 10 + r.toNat) j = if j < i then cel g r (5 + j) else cel g r (5 + j + 1)) ∧ ∀ (b : Nat) (z : Int), b ≠ w + 10 + r.toNat → D b z = A b z)
    (fun m D => i ≤ m ∧ (∀ j, 0 ≤ j → j < cel g r 0 → D (w + 10 + r.toNat) j = if i ≤ j ∧ j < m then cel g r (5 + j + 1) else cel g r (5 + j)) ∧ ∀ (b : Nat) (z : Int), b ≠ w + 10 + r.toNat → D b z = A b z) (cel g r 0 - 1) ?_ ?_ FU i A (by omega) ⟨by omega, fun j a b => by rw [if_neg (by omega)]; exact wB j a b, fun _ _ _ => rfl⟩ (by have := FU_e; omega)
  · rintro f m D hm ⟨h1, hD, hF⟩
    have d27 : D (w + 27) r = cel g r 0 := (hF _ _ (by omega)).trans w27
    have d1 := hD (m + 1) (by omega) (by omega)
    rw [if_neg (by omega), show 5 + (m + 1) = 5 + m + 1 by omega] at d1
    refine Or.inr ⟨up D (w + 10 + r.toNat) m (cel g r (5 + m + 1)), ⟨by omega, fun j a b => ?_, fun b z q => ?_⟩, ?_⟩
    · by_cases y : j = m
      · rw [y, up_s, if_pos (by omega)]
      · rw [up_n _ _ _ _ _ _ (by omega), hD j a b]
        by_cases z : i ≤ j ∧ j < m
        · rw [if_pos z, if_pos (by omega)]
        · rw [if_neg z, if_neg (by omega)]
    · rw [up_n _ _ _ _ _ _ (by omega)]; exact hF b z q
    · show fL_act_421 sc (f + 1) 0 w (ii r) (ii i) (ii x) (ii m) (CW c D J) = _
      rw [fL_act_421, wdR9 hW, wdA27 hW r _ (by omega), d27, ii_s, if_neg (by rw [ii_le _ _ (by omega)]; omega), wdR7 hW, wdB hW r _ (by omega), wdR7 hW, wdB hW r _ (by omega), wdAB hW r _ _ (by omega), d1, wdUB hW r _ _ _ (by omega), lt_q]
  · rintro f D ⟨h1, hD, hF⟩
    have d27 : D (w + 27) r = cel g r 0 := (hF _ _ (by omega)).trans w27
    refine ⟨D, ?_, fun j a b => ?_, hF⟩
    · rw [fL_act_421, wdR9 hW, wdA27 hW r _ (by omega), d27, ii_s, if_pos (by rw [ii_le _ _ (by omega)]; omega)]
    · rw [hD j a (by omega)]
      by_cases z : j < i
      · rw [if_pos z, if_neg (by omega)]
      · rw [if_neg z, if_pos (by omega)]
theorem a_lift (h : LwD C0 N0 n pl sp tv cap c A J M g w d q) (hn : n ≤ 590) (hro : RO C0 N0 n cap c 100 6500) (sc : Nat × (Nat → Int32)) (hs : sc.1 < 2147483648) (hr : 0 ≤ r ∧ r < M 0 3) (hq : q ≤ 99990) : ActR C0 N0 n pl sp tv cap w d c (q + 6) (fB5 sc 0 w d (ii r) (CW c A J)) := by
  have hM := h.1.li.1
  have hG := h.1.li.2.2.2
  have h38 := hM.1.2.1
  have h39 := hM.1.2.2.2.2.2.2.2
  have h4 := h.1.2.2.2.2.1
  have hl := h.1.2.1.1
  have h0 := h.1.2.1.2
  have hB : 0 ≤ Bn n ∧ Bn n ≤ 300000000 := by unfold Bn; omega
  have q1 := h.2.2.2.1
  have q2 := h.2.2.2.2.1
  have q3 := h.2.2.2.2.2.1
  have q4 := h.2.2.2.2.2.2
  have hgr := hG.1.1 r hr.1 (by omega)
  have b0 := hgr.1
  have b1 := hgr.2.1
  have b2 := hgr.2.2.2.2.1
  have b3 := hgr.2.2.2.2.2.1
  have b4 := hgr.2.2.2.2.2.2
  have hgb := gapM_b hM hgr
  have hW := h.1.2.2.1.1
  have hR := h.1.2.2.1.2
  obtain ⟨⟨w27, w28, w29, w30, w31⟩, wB, wP⟩ := hR.2.2.2.1 r hr.1 hr.2
  by_cases y : cel g r 0 = 0
  · obtain ⟨c3, A3, J3, e3, x3⟩ := n_th_lift h.1 (by omega) r 0 (i0 := 0) (i1 := 1) (y := 0) rfl rfl rfl rfl nCode2 (fun c4 A4 J4 h4 _ => ⟨A4, J4, d_liftN h4.1 h4.2.1.1 h4.2.1.2 r hr y, frm.refl _ _ _⟩)
    refine ⟨c3, A3, J3, M, g, ?_, ((h.lx x3 (by omega)).n1).mono (by omega), by have := x3.gro; omega⟩
    rw [fB5, wdR9 hW, wdA27 hW r _ (by omega), w27, if_pos (by rw [y]; rfl), e3, if_pos ii_2, rZ_1]
  · obtain ⟨i, A1, hi, e1, h1⟩ := h.draw sc hs 0 (cel g r 0 - 1) (by omega) (by omega) (x := 0) rfl rfl
    have hi2 : 0 ≤ i ∧ i < cel g r 0 := by omega
    have hR1 := h1.1.2.2.1.2
    have wBi := (hR1.2.2.2.1 r hr.1 hr.2).2.1 i hi2.1 hi2.2
    have w27' := (hR1.2.2.2.1 r hr.1 hr.2).1.1
    obtain ⟨D, e2, hD, hF⟩ := a_421 h1 hn hro sc hs hr (by omega) i (cel g r (5 + i)) hi2
    have d27 : D (w + 27) r = cel g r 0 := (hF _ _ (by omega)).trans w27'
    have hR2 : WR w (up D (w + 27) r (cel g r 0 - 1)) M (A1 (pl + 3)) (gLift g r i) := hR1.lift hG.1.1 h38.2 (by omega) hr i hi2 (fun b z p1 p2 => by rw [up_n _ _ _ _ _ _ (by omega)]; exact hF b z p1) (up_s _ _ _ _) (fun j a b => by rw [up_n _ _ _ _ _ _ (by omega)]; exact hD j a b)
    have hF2 : ∀ (b : Nat) (z : Int), ¬ inW w b → up D (w + 27) r (cel g r 0 - 1) b z = A1 b z := fun b z hb => by
      unfold inW at hb
      rw [up_n _ _ _ _ _ _ (by omega)]
      exact hF b z (by omega)
    have el : ∀ z, z < 16 → gLift g r i z = g z := fun z a => lo_gLift g r i z ⟨⟨hr.1, a⟩, hi2.1⟩
    obtain ⟨A2, J2, M2, e3, h2, kp⟩ := h1.both (q' := q + 6) (WX.same hF2) (by omega) hR2 (fun hI _ => d_lift hI hl h0 r i hr hi2) (by rw [el 1 (by omega), el 2 (by omega)]; omega) (by omega)
    refine ⟨c, A2, J2, M2, _, ?_, h2, by omega⟩
    rw [fB5, wdR9 hW, wdA27 hW r _ (by omega), w27, if_neg (by rw [il0, ii_eq _ _ (by omega)]; exact y), wdR9 hW, wdA27 hW r _ (by omega), w27, ii_p, e1, wdR7 hW, wdB hW r _ (by omega), wdAB hW r _ _ (by omega), wBi, e2, fL_act_463, wdR9 hW, wdA27 hW r _ (by omega), d27, ii_p, wdU27 hW r _ _ (by omega), e3, if_pos rfl, rZ_1]
theorem a_709 (h : LwD C0 N0 n pl sp tv cap c A J M g w d q) (hn : n ≤ 590) (hro : RO C0 N0 n cap c 100 6500) (sc : Nat × (Nat → Int32)) (hs : sc.1 < 2147483648) (hr : 0 ≤ r ∧ r < M 0 3) (hq : q ≤ 99992) (i x : Int) (hi : 0 ≤ i ∧ i < cel g r 1) : ∃ D : AI, fL_act_709 sc FU 0 w (ii r) (ii i) (ii x) (ii i) (CW c A J) = fL_act_751 sc 0 w (ii r) (ii i) (ii x) (CW c D J) ∧ (∀ j, 0 ≤ j → j < cel g r 1 - 1 → D (w + 19 + r.toNat) j = if j < i then cel g r (11 + j) else cel g r (11 + j + 1)) ∧ ∀ (b : Nat) (z : Int), b ≠ w + 19 + r.toNat → D b z = A b z := by
  have hM := h.1.li.1
  have hG := h.1.li.2.2.2
  have h38 := hM.1.2.1
  have h39 := hM.1.2.2.2.2.2.2.2
  have h4 := h.1.2.2.2.2.1
  have hl := h.1.2.1.1
  have h0 := h.1.2.1.2
  have hB : 0 ≤ Bn n ∧ Bn n ≤ 300000000 := by unfold Bn; omega
  have q1 := h.2.2.2.1
  have q2 := h.2.2.2.2.1
  have q3 := h.2.2.2.2.2.1
  have q4 := h.2.2.2.2.2.2
  have hgr := hG.1.1 r hr.1 (by omega)
  have b0 := hgr.1
  have b1 := hgr.2.1
  have b2 := hgr.2.2.2.2.1
  have b3 := hgr.2.2.2.2.2.1
  have b4 := hgr.2.2.2.2.2.2
  have hgb := gapM_b hM hgr
  have hW := h.1.2.2.1.1
  have hR := h.1.2.2.1.2
  obtain ⟨⟨w27, w28, w29, w30, w31⟩, wB, wP⟩ := hR.2.2.2.1 r hr.1 hr.2
  refine lp (fun f m (s : AI) => fL_act_709 sc f 0 w (ii r) (ii i) (ii x) (ii m) (CW c s J)) (fun y => ∃ D : AI, y = fL_act_751 sc 0 w (ii r) (ii i) (ii x) (CW c D J) ∧ (∀ j, 0 ≤ j → j < cel g r 1 - 1 → D (w + 19 + r.toNat) j = if j < i then cel g r (11 + j) else cel g r (11 + j + 1)) ∧ ∀ (b : Nat) (z : Int), b ≠ w + 19 + r.toNat → D b z = A b z)
    (fun m D => i ≤ m ∧ (∀ j, 0 ≤ j → j < cel g r 1 → D (w + 19 + r.toNat) j = if i ≤ j ∧ j < m then cel g r (11 + j + 1) else cel g r (11 + j)) ∧ ∀ (b : Nat) (z : Int), b ≠ w + 19 + r.toNat → D b z = A b z) (cel g r 1 - 1) ?_ ?_ FU i A (by omega) ⟨by omega, fun j a b => by rw [if_neg (by omega)]; exact wP j a b, fun _ _ _ => rfl⟩ (by have := FU_e; omega)
  · rintro f m D hm ⟨h1, hD, hF⟩
    have d28 : D (w + 28) r = cel g r 1 := (hF _ _ (by omega)).trans w28
    have d1 := hD (m + 1) (by omega) (by omega)
    rw [if_neg (by omega), show 11 + (m + 1) = 11 + m + 1 by omega] at d1
    refine Or.inr ⟨up D (w + 19 + r.toNat) m (cel g r (11 + m + 1)), ⟨by omega, fun j a b => ?_, fun b z q => ?_⟩, ?_⟩
    · by_cases y : j = m
      · rw [y, up_s, if_pos (by omega)]
      · rw [up_n _ _ _ _ _ _ (by omega), hD j a b]
        by_cases z : i ≤ j ∧ j < m
        · rw [if_pos z, if_pos (by omega)]
        · rw [if_neg z, if_neg (by omega)]
    · rw [up_n _ _ _ _ _ _ (by omega)]; exact hF b z q
    · show fL_act_709 sc (f + 1) 0 w (ii r) (ii i) (ii x) (ii m) (CW c D J) = _
      rw [fL_act_709, wdR10 hW, wdA28 hW r _ (by omega), d28, ii_s, if_neg (by rw [ii_le _ _ (by omega)]; omega), wdR8 hW, wdP hW r _ (by omega), wdR8 hW, wdP hW r _ (by omega), wdAP hW r _ _ (by omega), d1, wdUP hW r _ _ _ (by omega), lt_q]
  · rintro f D ⟨h1, hD, hF⟩
    have d28 : D (w + 28) r = cel g r 1 := (hF _ _ (by omega)).trans w28
    refine ⟨D, ?_, fun j a b => ?_, hF⟩
    · rw [fL_act_709, wdR10 hW, wdA28 hW r _ (by omega), d28, ii_s, if_pos (by rw [ii_le _ _ (by omega)]; omega)]
    · rw [hD j a (by omega)]
      by_cases z : j < i
      · rw [if_pos z, if_neg (by omega)]
      · rw [if_neg z, if_pos (by omega)]
theorem a_take (h : LwD C0 N0 n pl sp tv cap c A J M g w d q) (hn : n ≤ 590) (hro : RO C0 N0 n cap c 100 6500) (sc : Nat × (Nat → Int32)) (hs : sc.1 < 2147483648) (hr : 0 ≤ r ∧ r < M 0 3) (hq : q ≤ 99990) : ActR C0 N0 n pl sp tv cap w d c (q + 6) (fB8 sc 0 w d (ii r) (CW c A J)) := by
  have hM := h.1.li.1
  have hG := h.1.li.2.2.2
  have h38 := hM.1.2.1
  have h39 := hM.1.2.2.2.2.2.2.2
  have h4 := h.1.2.2.2.2.1
  have hl := h.1.2.1.1
  have h0 := h.1.2.1.2
  have hB : 0 ≤ Bn n ∧ Bn n ≤ 300000000 := by unfold Bn; omega
  have q1 := h.2.2.2.1
  have q2 := h.2.2.2.2.1
  have q3 := h.2.2.2.2.2.1
  have q4 := h.2.2.2.2.2.2
  have hgr := hG.1.1 r hr.1 (by omega)
  have b0 := hgr.1
  have b1 := hgr.2.1
  have b2 := hgr.2.2.2.2.1
  have b3 := hgr.2.2.2.2.2.1
  have b4 := hgr.2.2.2.2.2.2
  have hgb := gapM_b hM hgr
  have hW := h.1.2.2.1.1
  have hR := h.1.2.2.1.2
  obtain ⟨⟨w27, w28, w29, w30, w31⟩, wB, wP⟩ := hR.2.2.2.1 r hr.1 hr.2
  by_cases y : cel g r 1 = 0
  · obtain ⟨c3, A3, J3, e3, x3⟩ := n_th_take h.1 (by omega) r 0 (i0 := 0) (i1 := 1) (y := 0) rfl rfl rfl rfl nCode2 (fun c4 A4 J4 h4 _ => ⟨A4, J4, d_takeN h4.1 h4.2.1.1 h4.2.1.2 r hr y, frm.refl _ _ _⟩)
    refine ⟨c3, A3, J3, M, g, ?_, ((h.lx x3 (by omega)).n1).mono (by omega), by have := x3.gro; omega⟩
    rw [fB8, wdR10 hW, wdA28 hW r _ (by omega), w28, if_pos (by rw [y]; rfl), e3, if_pos ii_2, rZ_1]
  · obtain ⟨i, A1, hi, e1, h1⟩ := h.draw sc hs 0 (cel g r 1 - 1) (by omega) (by omega) (x := 0) rfl rfl
    have hi2 : 0 ≤ i ∧ i < cel g r 1 := by omega
    have hR1 := h1.1.2.2.1.2
    have wPi := (hR1.2.2.2.1 r hr.1 hr.2).2.2 i hi2.1 hi2.2
    have w28' := (hR1.2.2.2.1 r hr.1 hr.2).1.2.1
    have hkd := hgr.2.2.2.1 i hi2.1 hi2.2
    have hk2 := hG.1.2.2.2.1 r hr.1 (by omega) i hi2.1 hi2.2
    obtain ⟨D, e2, hD, hF⟩ := a_709 h1 hn hro sc hs hr (by omega) i (cel g r (11 + i)) hi2
    obtain ⟨x, hx⟩ : ∃ x, x = cel g r (11 + i) := ⟨_, rfl⟩
    have d28 : D (w + 28) r = cel g r 1 := (hF _ _ (by omega)).trans w28'
    have d5 : D (w + 5) x = g (6 + x) := (hF _ _ (by omega)).trans (hR1.2.1 x (by omega) (by omega)).2.2
    have d5' : up D (w + 28) r (cel g r 1 - 1) (w + 5) x = g (6 + x) := by rw [up_n _ _ _ _ _ _ (by omega)]; exact d5
    have hR2 : WR w (up (up D (w + 28) r (cel g r 1 - 1)) (w + 5) x (g (6 + x) + 1)) M (A1 (pl + 3)) (gTake g r i) := hR1.take hG.1.1 h38.2 (by omega) hr i hi2 (fun b z p1 p2 p3 => by rw [up_n _ _ _ _ _ _ (by omega), up_n _ _ _ _ _ _ (by omega)]; exact hF b z p1) (by rw [up_n _ _ _ _ _ _ (by omega), up_s]) (by rw [← hx, up_s]) (fun j a b => by rw [up_n _ _ _ _ _ _ (by omega), up_n _ _ _ _ _ _ (by omega)]; exact hD j a b)
    have hF2 : ∀ (b : Nat) (z : Int), ¬ inW w b → up (up D (w + 28) r (cel g r 1 - 1)) (w + 5) x (g (6 + x) + 1) b z = A1 b z := fun b z hb => by
      unfold inW at hb
      rw [up_n _ _ _ _ _ _ (by omega), up_n _ _ _ _ _ _ (by omega)]
      exact hF b z (by omega)
    have el : ∀ z, z < 6 → gTake g r i z = g z := fun z a => by rw [lo_gTake g r i z ⟨⟨hr.1, by omega⟩, hi2.1⟩, if_neg (by omega)]
    obtain ⟨A2, J2, M2, e3, h2, kp⟩ := h1.both (q' := q + 6) (WX.same hF2) (by omega) hR2 (fun hI _ => d_take hI hl h0 r i hr hi2) (by rw [el 1 (by omega), el 2 (by omega)]; omega) (by omega)
    refine ⟨c, A2, J2, M2, _, ?_, h2, by omega⟩
    rw [fB8, wdR10 hW, wdA28 hW r _ (by omega), w28, if_neg (by rw [il0, ii_eq _ _ (by omega)]; exact y), wdR10 hW, wdA28 hW r _ (by omega), w28, ii_p, e1, wdR8 hW, wdP hW r _ (by omega), wdAP hW r _ _ (by omega), wPi, e2, ← hx, fL_act_751, wdR10 hW, wdA28 hW r _ (by omega), d28, ii_p, wdU28 hW r _ _ (by omega), wdR3 hW, wdA5 hW x _ (by omega), d5', ii_s, wdU5 hW x _ _ (by omega), e3, if_pos (by rw [hx]), rZ_1]
theorem a_put (h : LwD C0 N0 n pl sp tv cap c A J M g w d q) (hn : n ≤ 590) (hro : RO C0 N0 n cap c 100 6500) (sc : Nat × (Nat → Int32)) (hs : sc.1 < 2147483648) (hr : 0 ≤ r ∧ r < M 0 3) (hq : q ≤ 99990) : ActR C0 N0 n pl sp tv cap w d c (q + 6) (fB6 sc 0 w d (ii r) (CW c A J)) := by
  have hM := h.1.li.1
  have hG := h.1.li.2.2.2
  have h38 := hM.1.2.1
  have h39 := hM.1.2.2.2.2.2.2.2
  have h4 := h.1.2.2.2.2.1
  have hl := h.1.2.1.1
  have h0 := h.1.2.1.2
  have hB : 0 ≤ Bn n ∧ Bn n ≤ 300000000 := by unfold Bn; omega
  have q1 := h.2.2.2.1
  have q2 := h.2.2.2.2.1
  have q3 := h.2.2.2.2.2.1
  have q4 := h.2.2.2.2.2.2
  have hgr := hG.1.1 r hr.1 (by omega)
  have b0 := hgr.1
  have b1 := hgr.2.1
  have b2 := hgr.2.2.2.2.1
  have b3 := hgr.2.2.2.2.2.1
  have b4 := hgr.2.2.2.2.2.2
  have hgb := gapM_b hM hgr
  have hW := h.1.2.2.1.1
  have hR := h.1.2.2.1.2
  obtain ⟨⟨w27, w28, w29, w30, w31⟩, wB, wP⟩ := hR.2.2.2.1 r hr.1 hr.2
  have wK := hR.1.2.1
  by_cases y : M 0 9 = 0
  · obtain ⟨c3, A3, J3, e3, x3⟩ := n_th_put h.1 (by omega) r 0 (i0 := 0) (i1 := 1) (y := 0) rfl rfl rfl rfl nCode2 (fun c4 A4 J4 h4 _ => ⟨A4, J4, d_putK h4.1 h4.2.1.1 h4.2.1.2 r 0 hr (by omega) (by omega), frm.refl _ _ _⟩)
    refine ⟨c3, A3, J3, M, g, ?_, ((h.lx x3 (by omega)).n1).mono (by omega), by have := x3.gro; omega⟩
    rw [fB6, wdI14 hW, wK, if_pos (by rw [y]; rfl), e3, if_pos ii_2, rZ_1]
  · obtain ⟨k, A1, hk, e1, h1⟩ := h.draw sc hs 0 (M 0 9 - 1) (by omega) (by omega) (x := 0) rfl rfl
    have hk2 : 0 ≤ k ∧ k < M 0 9 := by omega
    have hR1 := h1.1.2.2.1.2
    obtain ⟨k1, k2, k3⟩ := hR1.2.1 k hk2.1 hk2.2
    have hL := hG.GL k hk2.1 (by omega)
    have hl2 := hM.2.2.1 k hk2.1 (by omega)
    have thr : (¬ (0 < g (6 + k) ∧ M 2 k ≤ gapM M g r)) → ActR C0 N0 n pl sp tv cap w d c (q + 6) (fL_act_573 sc 0 (ii r) (ii k) (CW c A1 J)) := fun z => by
      obtain ⟨c3, A3, J3, e3, x3⟩ := n_th_put h1.1 (by omega) r k (i0 := 0) (i1 := 1) rfl rfl rfl rfl nCode3 (fun c4 A4 J4 h4 _ => ⟨A4, J4, d_putN h4.1 h4.2.1.1 h4.2.1.2 r k hr hk2 z, frm.refl _ _ _⟩)
      refine ⟨c3, A3, J3, M, g, ?_, ((h1.lx x3 (by omega)).n1).mono (by omega), by have := x3.gro; omega⟩
      rw [fL_act_573, e3, if_pos ii_3, rZ_1]
    have st : fB6 sc 0 w d (ii r) (CW c A J) = if ii (g (6 + k)) = 0 then fL_act_573 sc 0 (ii r) (ii k) (CW c A1 J) else if ii (M 2 k) ≤ ii (gapM M g r) then cV (CW c A1 J) w 13 (fX19_puts w (ii r) (ii k) (CW c A1 J)) (qV (fun s139 => cV s139 0 10 (fX6_put 0 (ii r) (ii k) s139) (qI (fun v140 s141 => cV s141 w 13 (fX19_gap w (ii r) s141) (qI (fun v142 s143 => if v140 = v142 then (rZ 1 s143) else (rZ 0 s143))))))) else fL_act_573 sc 0 (ii r) (ii k) (CW c A1 J) := by
      rw [fB6, wdI14 hW, wK, if_neg (by rw [il0, ii_eq _ _ (by omega)]; exact y), wdI14 hW, wK, ii_p, e1, wdR3 hW, wdA5 hW k _ (by omega), k3, wdR2 hW, wdA4 hW k _ (by omega), k1, h1.gap hr]
    rw [st]
    by_cases u : g (6 + k) = 0
    · rw [if_pos (by rw [u]; rfl)]
      exact thr (by omega)
    · rw [if_neg (by rw [il0, ii_eq _ _ (by omega)]; exact u)]
      by_cases v : M 2 k ≤ gapM M g r
      · rw [if_pos (by rw [ii_le _ _ (by omega)]; exact v)]
        obtain ⟨-, h5⟩ := hG.put hM hr k hk2 (by omega) v
        obtain ⟨A2, e2, hR2, hF⟩ := n_puts (J := J) hW hR1 hM hG h4 hr k hk2 h5
        have el : ∀ z, z < 6 → gPut g r k z = g z := fun z a => by rw [lo_gPut g r k z ⟨⟨hr.1, by omega⟩, b1.1⟩, if_neg (by omega)]
        obtain ⟨A3, J3, M3, e3, h3, kp⟩ := h1.both (q' := q + 6) (WX.same hF) (by omega) hR2 (fun hI _ => d_put hI hl h0 r k hr hk2 (by omega) v) (by rw [el 1 (by omega), el 2 (by omega)]; omega) (by omega)
        have eg := h3.gap (r := r) (by rw [kp.1 3 (by omega) (by omega)]; exact hr)
        rw [gapM_kp kp] at eg
        refine ⟨c, A3, J3, M3, _, ?_, h3, by omega⟩
        rw [wdV hW, e2, k_C, q_V, e3, eg, if_pos rfl, rZ_1]
      · rw [if_neg (by rw [ii_le _ _ (by omega)]; exact v)]
        exact thr (fun z => v z.2)
end AC2
