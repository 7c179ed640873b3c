/-! THE LAW: changes I: print, rest, place -/
section AC1
variable {C0 N0 n : Nat} {c : CC} {A : AI} {J : JI} {M : AI} {g : Int → Int} {pl sp tv cap w d : Nat} {q r : Int}
theorem a_47 (h : LwD C0 N0 n pl sp tv cap c A J M g w d q) (hn : n ≤ 590) (hro : RO C0 N0 n cap c 100 6500) (sc : Nat × (Nat → Int32)) (hs : sc.1 < 2147483648) (hr : 0 ≤ r ∧ r < M 0 3) (hq : q ≤ 99992) (L : Int) (hL : 1 ≤ L ∧ L ≤ 5) : ∃ D : AI, fL_act_47 sc FU 0 w (ii L) (ii (g 2)) 0 (CW c A J) = fL_act_66 sc 0 w (ii L) (ii (g 2)) (CW c D J) ∧ WR w D M (A (pl + 3)) (prN M g L.toNat) ∧ ∀ (b : Nat) (z : Int), ¬ inW w b → D b z = A b z := by
  have hM := h.1.li.1
  have hG := h.1.li.2.2.2
  have h38 := hM.1.2.1
  have h39 := hM.1.2.2.2.2.2.2.2
  have h4 := h.1.2.2.2.2.1
  have hl := h.1.2.1.1
  have h0 := h.1.2.1.2
  have hB : 0 ≤ Bn n ∧ Bn n ≤ 300000000 := by unfold Bn; omega
  have q1 := h.2.2.2.1
  have q2 := h.2.2.2.2.1
  have q3 := h.2.2.2.2.2.1
  have q4 := h.2.2.2.2.2.2
  have hW := h.1.2.2.1.1
  have hR := h.1.2.2.1.2
  obtain ⟨⟨w27, w28, w29, w30, w31⟩, wB, wP⟩ := hR.2.2.2.1 r hr.1 hr.2
  rw [show (0 : Int32) = ii 0 from rfl]
  refine lp (fun f i (s : AI) => fL_act_47 sc f 0 w (ii L) (ii (g 2)) (ii i) (CW c s J)) (fun x => ∃ D : AI, x = fL_act_66 sc 0 w (ii L) (ii (g 2)) (CW c D J) ∧ WR w D M (A (pl + 3)) (prN M g L.toNat) ∧ ∀ (b : Nat) (z : Int), ¬ inW w b → D b z = A b z) (fun i D => 0 ≤ i ∧ WR w D M (A (pl + 3)) (prN M g i.toNat) ∧ ∀ (b : Nat) (z : Int), ¬ inW w b → D b z = A b z) L ?_ ?_ FU 0 A (by omega) ⟨by omega, hR, fun _ _ _ => rfl⟩ (by have := FU_e; omega)
  · rintro f i D hi ⟨hi0, hRi, hF⟩
    have hGi := GC_prN hM hG hB.1 i.toNat (by omega)
    obtain ⟨l1, l2⟩ := prN_lo hM hG hB.1 i.toNat (by omega)
    obtain ⟨D2, e, hR2, hF2⟩ := n_print (J := J) hW hRi hM hGi (by omega) h4 (by omega)
    refine Or.inr ⟨D2, ⟨by omega, by rw [show (i + 1).toNat = i.toNat + 1 by omega]; exact hR2, fun b z q => (hF2 b z q).trans (hF b z q)⟩, ?_⟩
    show fL_act_47 sc (f + 1) 0 w (ii L) (ii (g 2)) (ii i) (CW c D J) = _
    rw [fL_act_47, if_neg (by rw [ii_le _ _ (by omega)]; omega), wdV hW, e, k_C, q_I, lt_q, ii_s]
  · rintro f D ⟨hi0, hRi, hF⟩
    refine ⟨D, ?_, hRi, hF⟩
    rw [fL_act_47, if_pos (Int32.le_refl _)]
theorem a_print (h : LwD C0 N0 n pl sp tv cap c A J M g w d q) (hn : n ≤ 590) (hro : RO C0 N0 n cap c 100 6500) (sc : Nat × (Nat → Int32)) (hs : sc.1 < 2147483648) (hr : 0 ≤ r ∧ r < M 0 3) (hq : q ≤ 99990) : ActR C0 N0 n pl sp tv cap w d c (q + 6) (fB1 sc 0 w d (ii r) (CW c A J)) := by
  obtain ⟨L, A1, hL, e1, h1⟩ := h.draw sc hs 1 5 (by omega) (by omega) (x := 1) (y := 5) rfl rfl
  have hM := h.1.li.1
  have hG := h.1.li.2.2.2
  have h38 := hM.1.2.1
  have h39 := hM.1.2.2.2.2.2.2.2
  have h4 := h.1.2.2.2.2.1
  have hl := h.1.2.1.1
  have h0 := h.1.2.1.2
  have hB : 0 ≤ Bn n ∧ Bn n ≤ 300000000 := by unfold Bn; omega
  have q1 := h.2.2.2.1
  have q2 := h.2.2.2.2.1
  have q3 := h.2.2.2.2.2.1
  have q4 := h.2.2.2.2.2.2
  have hW := h1.1.2.2.1.1
  have hR := h1.1.2.2.1.2
  obtain ⟨⟨w27, w28, w29, w30, w31⟩, wB, wP⟩ := hR.2.2.2.1 r hr.1 hr.2
  obtain ⟨D, e2, hR2, hF⟩ := a_47 h1 hn hro sc hs hr (by omega) L hL
  have hlo := prN_lo hM hG hB.1 L.toNat (by omega)
  obtain ⟨A2, J2, M2, e3, h2, kp⟩ := h1.both (q' := q + 6) (WX.same hF) (by omega) hR2 (fun hI _ => d_print hI hl h0 (by omega) L (by omega)) (by omega) (by omega)
  obtain ⟨c3, A3, J3, e4, x3⟩ := n_th_print h2.1 (by omega) 101 (i0 := 0) (x := 101) rfl rfl nCode3 (fun c4 A4 J4 h4 _ => ⟨A4, J4, d_printN h4.1 h4.2.1.1 h4.2.1.2 101 (by omega) (by omega), frm.refl _ _ _⟩)
  have v0 := hR.2.2.1.2.1
  have v1 := h2.1.2.2.1.2.2.2.1.2.1
  have hW2 := h2.1.2.2.1.1
  refine ⟨c3, A3, J3, M2, _, ?_, h2.lx x3 (by omega), by have := x3.gro; omega⟩
  rw [fB1, e1, wdR5 hW, wd7 hW 1 1 rfl (by omega), v0, e2, fL_act_66, e3, wdR5 hW2, wd7 hW2 1 1 rfl (by omega), v1, ii_sub, if_pos rfl, e4, if_pos ii_3, rZ_1]
theorem a_132 (h : LwD C0 N0 n pl sp tv cap c A J M g w d q) (hn : n ≤ 590) (hro : RO C0 N0 n cap c 100 6500) (sc : Nat × (Nat → Int32)) (hs : sc.1 < 2147483648) (hr : 0 ≤ r ∧ r < M 0 3) (hq : q ≤ 99992) (L x : Int) (hL : 1 ≤ L ∧ L ≤ 5) : ∃ D : AI, fL_act_132 sc FU 0 w (ii L) (ii x) 0 (CW c A J) = fL_act_151 sc 0 w (ii L) (ii x) (CW c D J) ∧ WR w D M (A (pl + 3)) (dyN M g L.toNat) ∧ ∀ (b : Nat) (z : Int), ¬ inW w b → D b z = A b z := by
  have hM := h.1.li.1
  have hG := h.1.li.2.2.2
  have h38 := hM.1.2.1
  have h39 := hM.1.2.2.2.2.2.2.2
  have h4 := h.1.2.2.2.2.1
  have hl := h.1.2.1.1
  have h0 := h.1.2.1.2
  have hB : 0 ≤ Bn n ∧ Bn n ≤ 300000000 := by unfold Bn; omega
  have q1 := h.2.2.2.1
  have q2 := h.2.2.2.2.1
  have q3 := h.2.2.2.2.2.1
  have q4 := h.2.2.2.2.2.2
  have hW := h.1.2.2.1.1
  have hR := h.1.2.2.1.2
  obtain ⟨⟨w27, w28, w29, w30, w31⟩, wB, wP⟩ := hR.2.2.2.1 r hr.1 hr.2
  rw [show (0 : Int32) = ii 0 from rfl]
  refine lp (fun f i (s : AI) => fL_act_132 sc f 0 w (ii L) (ii x) (ii i) (CW c s J)) (fun y => ∃ D : AI, y = fL_act_151 sc 0 w (ii L) (ii x) (CW c D J) ∧ WR w D M (A (pl + 3)) (dyN M g L.toNat) ∧ ∀ (b : Nat) (z : Int), ¬ inW w b → D b z = A b z) (fun i D => 0 ≤ i ∧ WR w D M (A (pl + 3)) (dyN M g i.toNat) ∧ ∀ (b : Nat) (z : Int), ¬ inW w b → D b z = A b z) L ?_ ?_ FU 0 A (by omega) ⟨by omega, hR, fun _ _ _ => rfl⟩ (by have := FU_e; omega)
  · rintro f i D hi ⟨hi0, hRi, hF⟩
    have hGi := GC_dyN hM hG hB.1 i.toNat (by omega)
    obtain ⟨D2, e, hR2, hF2⟩ := n_day (J := J) hW hRi hM hGi (by omega) h4
    refine Or.inr ⟨D2, ⟨by omega, by rw [show (i + 1).toNat = i.toNat + 1 by omega]; exact hR2, fun b z q => (hF2 b z q).trans (hF b z q)⟩, ?_⟩
    show fL_act_132 sc (f + 1) 0 w (ii L) (ii x) (ii i) (CW c D J) = _
    rw [fL_act_132, if_neg (by rw [ii_le _ _ (by omega)]; omega), wdV hW, e, k_C, q_I, lt_q, ii_s]
  · rintro f D ⟨hi0, hRi, hF⟩
    refine ⟨D, ?_, hRi, hF⟩
    rw [fL_act_132, if_pos (Int32.le_refl _)]
theorem a_rest (h : LwD C0 N0 n pl sp tv cap c A J M g w d q) (hn : n ≤ 590) (hro : RO C0 N0 n cap c 100 6500) (sc : Nat × (Nat → Int32)) (hs : sc.1 < 2147483648) (hr : 0 ≤ r ∧ r < M 0 3) (hq : q ≤ 99990) : ActR C0 N0 n pl sp tv cap w d c (q + 6) (fB2 sc 0 w d (ii r) (CW c A J)) := by
  obtain ⟨L, A1, hL, e1, h1⟩ := h.draw sc hs 1 5 (by omega) (by omega) (x := 1) (y := 5) rfl rfl
  have hM := h.1.li.1
  have hG := h.1.li.2.2.2
  have h38 := hM.1.2.1
  have h39 := hM.1.2.2.2.2.2.2.2
  have h4 := h.1.2.2.2.2.1
  have hl := h.1.2.1.1
  have h0 := h.1.2.1.2
  have hB : 0 ≤ Bn n ∧ Bn n ≤ 300000000 := by unfold Bn; omega
  have q1 := h.2.2.2.1
  have q2 := h.2.2.2.2.1
  have q3 := h.2.2.2.2.2.1
  have q4 := h.2.2.2.2.2.2
  have hW := h1.1.2.2.1.1
  have hR := h1.1.2.2.1.2
  obtain ⟨⟨w27, w28, w29, w30, w31⟩, wB, wP⟩ := hR.2.2.2.1 r hr.1 hr.2
  obtain ⟨D, e2, hR2, hF⟩ := a_132 h1 hn hro sc hs hr (by omega) L (g 5) hL
  have l1 := dyN_lo hM hG hB.1 1 (by omega) L.toNat (by omega)
  have l2 := dyN_lo hM hG hB.1 2 (by omega) L.toNat (by omega)
  obtain ⟨A2, J2, M2, e3, h2, kp⟩ := h1.both (q' := q + 6) (WX.same hF) (by omega) hR2 (fun hI _ => d_rest hI hl h0 (by omega) L (by omega)) (by omega) (by omega)
  obtain ⟨c3, A3, J3, e4, x3⟩ := n_th_rest h2.1 (by omega) 0 (i0 := 0) (x := 0) rfl rfl nCode3 (fun c4 A4 J4 h4 _ => ⟨A4, J4, d_restN h4.1 h4.2.1.1 h4.2.1.2 0 (by omega) (by omega), frm.refl _ _ _⟩)
  have v0 := hR.2.2.1.2.2.2.2
  have v1 := h2.1.2.2.1.2.2.2.1.2.2.2.2
  have hW2 := h2.1.2.2.1.1
  refine ⟨c3, A3, J3, M2, _, ?_, h2.lx x3 (by omega), by have := x3.gro; omega⟩
  rw [fB2, e1, wdR5 hW, wd7 hW 4 4 rfl (by omega), v0, e2, fL_act_151, e3, wdR5 hW2, wd7 hW2 4 4 rfl (by omega), v1, ii_sub, if_pos rfl, e4, if_pos ii_3, rZ_1]
theorem a_216 (h : LwD C0 N0 n pl sp tv cap c A J M g w d q) (hn : n ≤ 590) (hro : RO C0 N0 n cap c 100 6500) (sc : Nat × (Nat → Int32)) (hs : sc.1 < 2147483648) (hr : 0 ≤ r ∧ r < M 0 3) (hq : q ≤ 99992) (hi : Int) (hhi : 1 ≤ hi ∧ hi ≤ 200) (y : Int32) (hy : y = ii hi) : ActR C0 N0 n pl sp tv cap w d c (q + 2) (fL_act_216 sc 0 w (ii r) d 1 y (CW c A J)) := by
  obtain ⟨L, A1, hL, e1, h1⟩ := h.draw sc hs 1 hi (by omega) (by omega) (x := 1) rfl hy
  have hM := h.1.li.1
  have hG := h.1.li.2.2.2
  have h38 := hM.1.2.1
  have h39 := hM.1.2.2.2.2.2.2.2
  have h4 := h.1.2.2.2.2.1
  have hl := h.1.2.1.1
  have h0 := h.1.2.1.2
  have hB : 0 ≤ Bn n ∧ Bn n ≤ 300000000 := by unfold Bn; omega
  have q1 := h.2.2.2.1
  have q2 := h.2.2.2.2.1
  have q3 := h.2.2.2.2.2.1
  have q4 := h.2.2.2.2.2.2
  have hgr := hG.1.1 r hr.1 (by omega)
  have b0 := hgr.1
  have b1 := hgr.2.1
  have b2 := hgr.2.2.2.2.1
  have b3 := hgr.2.2.2.2.2.1
  have b4 := hgr.2.2.2.2.2.2
  have hgb := gapM_b hM hgr
  have hW := h1.1.2.2.1.1
  have hR := h1.1.2.2.1.2
  obtain ⟨⟨w27, w28, w29, w30, w31⟩, wB, wP⟩ := hR.2.2.2.1 r hr.1 hr.2
  by_cases y6 : cel g r 0 = 6
  · obtain ⟨c3, A3, J3, e3, x3⟩ := n_th_place h1.1 (by omega) r L (i0 := 0) (i1 := 1) rfl rfl rfl rfl nCode3 (fun c4 A4 J4 h4 _ => ⟨A4, J4, d_placeN h4.1 h4.2.1.1 h4.2.1.2 r L hr (fun z => by omega) (by omega), frm.refl _ _ _⟩)
    refine ⟨c3, A3, J3, M, g, ?_, ((h1.lx x3 (by omega)).n1).mono (by omega), by have := x3.gro; omega⟩
    rw [fL_act_216, e1, wdR9 hW, wdA27 hW r _ (by omega), w27, if_pos (by rw [y6]; rfl), fL_act_244, e3, if_pos ii_3, rZ_1]
  · have n6 : ¬ ii (cel g r 0) = (6 : Int32) := by
      rw [show (6 : Int32) = ii 6 from rfl, ii_eq _ _ (by omega)]
      exact y6
    by_cases yg : L ≤ gapM M g r
    · have hR2 := hR.adds hG.1.1 h38.2 (by omega) hr L (by omega)
      have hF : ∀ (b : Nat) (z : Int), ¬ inW w b → up (up A1 (w + 10 + r.toNat) (cel g r 0) L) (w + 27) r (cel g r 0 + 1) b z = A1 b z := fun b z hb => by
        unfold inW at hb
        rw [up_n _ _ _ _ _ _ (by omega), up_n _ _ _ _ _ _ (by omega)]
      have el : ∀ z, z < 16 → gAdds g r L z = g z := fun z a => lo_gAdds g r L z ⟨⟨hr.1, a⟩, b0.1⟩
      obtain ⟨A2, J2, M2, e3, h2, kp⟩ := h1.both (q' := q + 2) (WX.same hF) (by omega) hR2 (fun hI _ => d_place hI hl h0 r L hr (by omega) (by omega) yg) (by rw [el 1 (by omega), el 2 (by omega)]; omega) (by omega)
      have hr2 : 0 ≤ r ∧ r < M2 0 3 := by rw [kp.1 3 (by omega) (by omega)]; exact hr
      have eg := h2.gap hr2
      rw [gapM_kp kp] at eg
      obtain ⟨c3, A3, J3, e4, x3⟩ := n_th_place h2.1 (by omega) r 0 (i0 := 0) (i1 := 1) (y := 0) rfl rfl rfl rfl nCode3 (fun c4 A4 J4 h4 _ => ⟨A4, J4, d_placeN h4.1 h4.2.1.1 h4.2.1.2 r 0 hr2 (fun z => by omega) (by omega), frm.refl _ _ _⟩)
      have w27' : up A1 (w + 10 + r.toNat) (cel g r 0) L (w + 27) r = cel g r 0 := by rw [up_n _ _ _ _ _ _ (by omega)]; exact w27
      refine ⟨c3, A3, J3, M2, _, ?_, h2.lx x3 (by omega), by have := x3.gro; omega⟩
      rw [fL_act_216, e1, wdR9 hW, wdA27 hW r _ (by omega), w27, if_neg n6, h1.gap hr, if_pos (by rw [ii_le _ _ (by omega)]; exact yg), wdR7 hW, wdB hW r _ (by omega), wdR9 hW, wdA27 hW r _ (by omega), w27, wdUB hW r _ _ _ (by omega), wdR9 hW, wdA27 hW r _ (by omega), w27', ii_s, wdU27 hW r _ _ (by omega), e3, eg, if_pos rfl, e4, if_pos ii_3, rZ_1]
    · obtain ⟨c3, A3, J3, e3, x3⟩ := n_th_place h1.1 (by omega) r L (i0 := 0) (i1 := 1) rfl rfl rfl rfl nCode3 (fun c4 A4 J4 h4 _ => ⟨A4, J4, d_placeN h4.1 h4.2.1.1 h4.2.1.2 r L hr (fun z => by omega) (by omega), frm.refl _ _ _⟩)
      refine ⟨c3, A3, J3, M, g, ?_, ((h1.lx x3 (by omega)).n1).mono (by omega), by have := x3.gro; omega⟩
      rw [fL_act_216, e1, wdR9 hW, wdA27 hW r _ (by omega), w27, if_neg n6, h1.gap hr, if_neg (by rw [ii_le _ _ (by omega)]; exact yg), fL_act_244, e3, if_pos ii_3, rZ_1]
theorem a_place (h : LwD C0 N0 n pl sp tv cap c A J M g w d q) (hn : n ≤ 590) (hro : RO C0 N0 n cap c 100 6500) (sc : Nat × (Nat → Int32)) (hs : sc.1 < 2147483648) (hr : 0 ≤ r ∧ r < M 0 3) (hq : q ≤ 99990) : ActR C0 N0 n pl sp tv cap w d c (q + 6) (fB3 sc 0 w d (ii r) (CW c A J)) := by
  obtain ⟨b, A1, hb, e1, h1⟩ := h.draw sc hs 0 1 (by omega) (by omega) (x := 0) (y := 1) rfl rfl
  by_cases y : b = 0
  · obtain ⟨c3, A3, J3, M3, g3, e3, h3, r3⟩ := a_216 h1 hn hro sc hs hr (by omega) 200 (by omega) 200 rfl
    refine ⟨c3, A3, J3, M3, g3, ?_, h3.mono (by omega), r3⟩
    rw [fB3, e1, if_pos (by rw [y]; rfl), e3]
  · obtain ⟨c3, A3, J3, M3, g3, e3, h3, r3⟩ := a_216 h1 hn hro sc hs hr (by omega) 9 (by omega) 9 rfl
    refine ⟨c3, A3, J3, M3, g3, ?_, h3.mono (by omega), r3⟩
    rw [fB3, e1, if_neg (by rw [show (0 : Int32) = ii 0 from rfl, ii_eq _ _ (by omega)]; exact y), e3]
end AC1
