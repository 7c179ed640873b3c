/-! THE LAW'S WORLD: its rows -/
section WI4
variable {c c' c2 : CC} {A A' A2 : AI} {J J' J2 : JI} {M : AI} {g g0 o : Int → Int} {w d tvb capb NC NS tvb' capb' : Nat} {p p' : TP} {q qf nr : Int} {sc : Nat × (Nat → Int32)} {s : Int → Int} {qn : Int}
theorem w_568 (h : WI NC NS w d c A J tvb capb p q) (hW : WKd w A M g) (hrw : rwZ g) (hM : SA M) : ∃ A', fX19_init_568 sc w d (CW c A J) = fX19_init_591 sc FU w d 0 (CW c A' J) ∧ WI NC NS w d c A' J tvb capb p q ∧ WR w A' M (A' (w + 6)) g ∧ ∀ (b : Nat) (z : Int), b ≠ w + 29 → A' b z = A b z := by
  have h38 := hM.1.2.1
  have hd := h.2.2.1.2
  have hlp : ∃ D : AI, fX19_init_570 sc FU w d 0 (CW c A J) = fX19_init_591 sc FU w d 0 (CW c D J) ∧ WI NC NS w d c D J tvb capb p q ∧ (∀ r, 0 ≤ r → r < 8 → D (w + 29) r = -1) ∧ ∀ (b : Nat) (z : Int), b ≠ w + 29 → D b z = A b z := by
    rw [show fX19_init_570 sc FU w d 0 (CW c A J) = fX19_init_570 sc FU w d (ii 0) (CW c A J) from rfl]
    refine lp (fun f r (D : AI) => fX19_init_570 sc f w d (ii r) (CW c D J)) (fun x => ∃ D : AI, x = fX19_init_591 sc FU w d 0 (CW c D J) ∧ WI NC NS w d c D J tvb capb p q ∧ (∀ r, 0 ≤ r → r < 8 → D (w + 29) r = -1) ∧ ∀ (b : Nat) (z : Int), b ≠ w + 29 → D b z = A b z)
      (fun i D => 0 ≤ i ∧ WI NC NS w d c D J tvb capb p q ∧ (∀ r, 0 ≤ r → r < i → D (w + 29) r = -1) ∧ ∀ (b : Nat) (z : Int), b ≠ w + 29 → D b z = A b z) 8 ?_ ?_ FU 0 A (by omega) ⟨by omega, h, fun r a b => by omega, fun _ _ _ => rfl⟩ (by have := FU_e; omega)
    · rintro f i D hi ⟨hi0, hD, hr, hF⟩
      refine Or.inr ⟨up D (w + 29) i (-1), ⟨by omega, hD.cell (w + 29) i (-1) (by omega), fun r a b => ?_, fun b z x => by rw [up_n _ _ _ _ _ _ (by omega)]; exact hF b z x⟩, ?_⟩
      · by_cases y : r = i
        · rw [y, up_s]
        · rw [up_n _ _ _ _ _ _ (by omega)]
          exact hr r a (by omega)
      · show fX19_init_570 sc (f + 1) w d (ii i) (CW c D J) = _
        rw [fX19_init_570, show (8 : Int32) = ii 8 from rfl, if_neg (by rw [ii_le _ _ (by omega)]; omega), wdR11 hD.1.1, show ((-1) : Int32) = ii (-1) from rfl, wdU29 hD.1.1 i (-1) _ (by omega), ii_s, lt_q]
    · rintro f D ⟨hi0, hD, hr, hF⟩
      refine ⟨D, ?_, hD, hr, hF⟩
      rw [fX19_init_570, show (8 : Int32) = ii 8 from rfl, if_pos (Int32.le_refl _), fX19_init_589]
  obtain ⟨D, e, hD, hr, hF⟩ := hlp
  obtain ⟨⟨⟨a0, a1, a2, a3, a4, a5, a6⟩, b1, b2⟩, hk, ⟨c0, c1, c2, c3, c4⟩, hb, hz⟩ := hW
  have e3 : ∀ z, D (w + 3) z = A (w + 3) z := fun z => hF _ z (by omega)
  have e7 : ∀ z, D (w + 7) z = A (w + 7) z := fun z => hF _ z (by omega)
  refine ⟨D, by rw [fX19_init_568, e], hD, ⟨⟨by rw [e3, e3, e3, e3, e3, e3, e3]; exact ⟨a0, a1, a2, a3, a4, a5, a6⟩, by rw [hF _ _ (by omega)]; exact b1, by rw [hF _ _ (by omega)]; exact b2⟩, fun k x y => by rw [hF _ _ (by omega), hF _ _ (by omega), hF _ _ (by omega)]; exact hk k x y, by rw [e7, e7, e7, e7, e7]; exact ⟨c0, c1, c2, c3, c4⟩, fun r x y => ?_, fun _ _ _ => rfl, fun k x y => by rw [hF _ _ (by omega)]; exact hb k x y⟩, hF⟩
  obtain ⟨z0, z1, z2, z3, z4⟩ := hrw r x (by omega)
  refine ⟨⟨?_, ?_, ?_, fun u => absurd z2 u, ?_⟩, fun k u v => by omega, fun k u v => by omega⟩
  · rw [hF _ _ (by omega), hz _ _ (by omega)]; exact z0.symm
  · rw [hF _ _ (by omega), hz _ _ (by omega)]; exact z1.symm
  · rw [hr r x (by omega)]; exact z2.symm
  · rw [hF _ _ (by omega), hz _ _ (by omega)]; exact z4.symm
theorem LdG.adds (h : LdG M g) {r : Int} (hr : 0 ≤ r ∧ r < M 0 3) (its : Int) (hi : (1 ≤ its ∧ its ≤ 200) ∧ its ≤ gapM M g r) (hb : cel g r 0 < 6) : LdG M (gAdds g r its) := by
  have h38 := h.1.1.2.1
  refine ⟨h.1, h.2.1.adds h.1 hr its hi hb, fun r2 a b => ?_⟩
  have b0 := (h.2.1.1.1 r hr.1 (by omega)).1
  rw [cel_gAdds _ _ _ _ _ ⟨⟨⟨hr.1, a⟩, by omega⟩, b0⟩, if_neg (by omega), if_neg (by omega)]
  exact h.2.2 r2 a b
/-- inside a row -/
abbrev RIn (s : Int → Int) (qn : Int) (w : Nat) (A M : AI) (o g0 : Int → Int) (r : Int) (p : TP) (p0 : Int) (ls : List Ln) (x : Int) : Prop := ∃ (g : Int → Int) (vs : List Int), blOK M r g0 vs g ∧ LdG M g ∧ WR w A M o g ∧ PreO p (hdT s qn ++ lnTs (ls ++ [(2, r, vs)])) ∧ ((vs.length : Int) + x ≤ 3 ∧ cel g r 0 = vs.length ∧ p.1 ≤ p0 + 5 * vs.length) ∧ ∀ r2, 0 ≤ r2 → r2 < 8 → r2 ≠ r → cel g r2 0 = cel g0 r2 0
theorem w_634 (hs : sc.1 < 2147483648) (r : Int) (hr : 0 ≤ r ∧ r < M 0 3) (h4 : M 0 9 ≤ 4) (h120 : M 0 2 ≤ 120) {r591 : _} {ls : List Ln} (x : Int) (hx : 0 ≤ x ∧ x ≤ 3) (h : WI NC NS w d c A J tvb capb p q) (hq : q + x ≤ qf ∧ qf ≤ 1000) (p0 : Int) (hp0 : p0 ≤ 700) (hR : RIn s qn w A M o g0 r p p0 ls x) : ∃ (c' : CC) (A' : AI) (J' : JI) (tvb' capb' : Nat) (p' : TP), fX19_init_634 sc r591 FU w d (ii r) (ii x) (CW c A J) = r591 w d (ii (r + 1)) (CW c' A' J') ∧ WI NC NS w d c' A' J' tvb' capb' p' qf ∧ RIn s qn w A' M o g0 r p' p0 ls 0 := by
  refine lpd (fun f x (S : CC × AI × JI) => fX19_init_634 sc r591 f w d (ii r) (ii x) (CW S.1 S.2.1 S.2.2)) (fun y => ∃ (c' : CC) (A' : AI) (J' : JI) (tvb' capb' : Nat) (p' : TP), y = r591 w d (ii (r + 1)) (CW c' A' J') ∧ WI NC NS w d c' A' J' tvb' capb' p' qf ∧ RIn s qn w A' M o g0 r p' p0 ls 0)
    (fun x S => (0 ≤ x ∧ x ≤ 3) ∧ ∃ (tvb capb : Nat) (p : TP) (q : Int), WI NC NS w d S.1 S.2.1 S.2.2 tvb capb p q ∧ q + x ≤ qf ∧ RIn s qn w S.2.1 M o g0 r p p0 ls x) 0 ?_ ?_ FU x (c, A, J) (by omega) ⟨hx, tvb, capb, p, q, h, by omega, hR⟩ (by have := FU_e; omega)
  · rintro f x ⟨c1, A1, J1⟩ hi ⟨hx, tvb, capb, p, q, h, hq1, g, vs, hb, hG, hR, hP, ⟨v1, v2, v3⟩, hoth⟩
    dsimp only at h hR ⊢
    have hd := h.2.2.1.2
    have h38 := hG.1.1.2.1
    have hgr := hG.2.1.1.1 r hr.1 (by omega)
    have b0 := hgr.1
    have hgb := gapM_b hG.1 hgr
    obtain ⟨L, A2, hL, e2, h2, f2⟩ := h.draw (J := J1) sc hs 1 20 (by omega) (by omega) (x := 1) (y := 20) rfl rfl
    have hR2 : WR w A2 M o g := hR.fr2 (fun b z hb => f2 b z (by omega)) h38.2
    have eg := n_gap (J := J1) h2.1.1 hR2 hG.1 hG.2.1 h4 hr
    have st : ∀ Y : Option AR, (∀ S : Int, S = x - 1 → Y = fX19_init_634 sc r591 f w d (ii r) (ii S) (CW c1 A2 J1)) → True := fun _ _ => trivial
    by_cases y : L ≤ gapM M g r
    · obtain ⟨c3, A3, J3, t3, k3, e3, h3, f3⟩ := h2.chr (J := J1) 32 (by omega) (by omega) (x := 32) rfl
      have nd1 := nd_2 L (by omega)
      obtain ⟨c4, A4, J4, t4, k4, e4, h4', f4⟩ := h3.num (J := J3) L (by omega) (by rw [tC_1]; omega)
      have hR4 : WR w A4 M o g := (hR2.fr2 f3 h38.2).fr2 f4 h38.2
      have w27 := (hR4.2.2.2.1 r hr.1 hr.2).1.1
      have hR5 := hR4.adds hG.2.1.1.1 h38.2 (by omega) hr L (by omega)
      have h5 := (h4'.cell (w + 10 + r.toNat) (cel g r 0) L (by omega)).cell (w + 27) r (cel g r 0 + 1) (by omega)
      have w27' : up A4 (w + 10 + r.toNat) (cel g r 0) L (w + 27) r = cel g r 0 := by rw [up_n _ _ _ _ _ _ (by omega)]; exact w27
      have PP := (hP.sp).num L (by omega)
      have eT : hdT s qn ++ lnTs (ls ++ [(2, r, vs)]) ++ [(2, L)] = hdT s qn ++ lnTs (ls ++ [(2, r, vs ++ [L])]) := by
        rw [lnTs_snoc, lnTs_snoc, List.append_assoc, List.append_assoc]
        have : lnT (2, r, vs ++ [L]) = lnT (2, r, vs) ++ [(2, L)] := by
          unfold lnT
          dsimp only
          rw [List.map_append]
          rfl
        rw [this]
      rw [eT] at PP
      refine Or.inr ⟨(c4, up (up A4 (w + 10 + r.toNat) (cel g r 0) L) (w + 27) r (cel g r 0 + 1), J4), ⟨by omega, t4, k4, tN L (tC 32 p), q + 1, h5, by omega, gAdds g r L, vs ++ [L], hb.snoc ⟨by omega, y, by omega⟩, hG.adds hr L ⟨by omega, y⟩ (by omega), hR5, PP, ⟨?_, ?_, ?_⟩, fun r2 a b x1 => ?_⟩, ?_⟩
      · rw [List.length_append]
        show ((vs.length + 1 : Nat) : Int) + _ ≤ 3
        omega
      · rw [List.length_append, cel_gAdds _ _ _ _ _ ⟨⟨⟨hr.1, hr.1⟩, by omega⟩, b0⟩, if_pos ⟨rfl, rfl⟩]
        show _ = ((vs.length + 1 : Nat) : Int)
        omega
      · rw [List.length_append, tN_1, tC_1]
        show _ ≤ p0 + 5 * ((vs.length + 1 : Nat) : Int)
        omega
      · rw [cel_gAdds _ _ _ _ _ ⟨⟨⟨hr.1, a⟩, by omega⟩, b0⟩, if_neg (by omega), if_neg (by omega)]
        exact hoth r2 a b x1
      · show fX19_init_634 sc r591 (f + 1) w d (ii r) (ii x) (CW c1 A1 J1) = _
        rw [fX19_init_634, if_neg (by rw [il0, ii_le _ _ (by omega)]; omega), e2, wdV h2.1.1, eg, k_C, q_I, if_pos (by rw [ii_le _ _ (by omega)]; exact y), h2.B, e3, e4, wdR7 h4'.1.1, wdB h4'.1.1 r _ (by omega), wdR9 h4'.1.1, wdA27 h4'.1.1 r _ (by omega), w27, wdUB h4'.1.1 r _ _ _ (by omega), wdR9 h4'.1.1, wdA27 h4'.1.1 r _ (by omega), w27', ii_s, wdU27 h4'.1.1 r _ _ (by omega), fX19_init_700, show ((-1) : Int32) = ii (-1) from rfl, ii_add, lt_q]
        rfl
    · refine Or.inr ⟨(c1, A2, J1), ⟨by omega, tvb, capb, p, q + 1, h2, by omega, g, vs, hb, hG, hR2, hP, ⟨by omega, v2, v3⟩, hoth⟩, ?_⟩
      show fX19_init_634 sc r591 (f + 1) w d (ii r) (ii x) (CW c1 A1 J1) = _
      rw [fX19_init_634, if_neg (by rw [il0, ii_le _ _ (by omega)]; omega), e2, wdV h2.1.1, eg, k_C, q_I, if_neg (by rw [ii_le _ _ (by omega)]; exact y), fX19_init_700, show ((-1) : Int32) = ii (-1) from rfl, ii_add, lt_q]
      rfl
  · rintro f ⟨c1, A1, J1⟩ ⟨hx, tvb, capb, p, q, h, hq1, hR⟩
    dsimp only at h hR ⊢
    refine ⟨c1, A1, J1, tvb, capb, p, ?_, h.mono (by omega), hR⟩
    rw [fX19_init_634, if_pos (show ii 0 ≤ (0 : Int32) from by decide), fX19_init_706, ii_s, lt_q]
/-- between two rows -/
abbrev RIv (s : Int → Int) (qn : Int) (w : Nat) (A M : AI) (o : Int → Int) (r : Int) (p : TP) : Prop := ∃ (g : Int → Int) (ls : List Ln) (nr : Int), Pth (hdS s qn) ls (M, g, nr) ∧ nr ≤ r ∧ LdG M g ∧ WR w A M o g ∧ PreO p (hdT s qn ++ lnTs ls) ∧ ((ls.length : Int) ≤ 4 + r ∧ p.1 ≤ 124 + 30 * r) ∧ (∀ l, l ∈ ls → l.2.2.length < 100) ∧ ∀ r2, r ≤ r2 → 0 ≤ r2 → r2 < 8 → cel g r2 0 = 0
theorem w_591 (hs : sc.1 < 2147483648) (hM : SA M) (h4 : M 0 9 ≤ 4) (h120 : M 0 2 ≤ 120) (h : WI NC NS w d c A J tvb capb p q) (hq : q + 60 ≤ qf ∧ qf ≤ 1000) (hR : RIv s qn w A M o 0 p) : ∃ (c' : CC) (A' : AI) (J' : JI) (tvb' capb' : Nat) (p' : TP), fX19_init_591 sc FU w d 0 (CW c A J) = fX19_init_712 sc w (CW c' A' J') ∧ WI NC NS w d c' A' J' tvb' capb' p' qf ∧ RIv s qn w A' M o 8 p' := by
  have h38 := hM.1.2.1
  obtain ⟨-, -, -, -, w40⟩ := w_lens2
  rw [show fX19_init_591 sc FU w d 0 (CW c A J) = fX19_init_591 sc FU w d (ii 0) (CW c A J) from rfl]
  refine lp (fun f r (S : CC × AI × JI) => fX19_init_591 sc f w d (ii r) (CW S.1 S.2.1 S.2.2)) (fun y => ∃ (c' : CC) (A' : AI) (J' : JI) (tvb' capb' : Nat) (p' : TP), y = fX19_init_712 sc w (CW c' A' J') ∧ WI NC NS w d c' A' J' tvb' capb' p' qf ∧ RIv s qn w A' M o 8 p')
    (fun r S => 0 ≤ r ∧ ∃ (tvb capb : Nat) (p : TP) (q : Int), WI NC NS w d S.1 S.2.1 S.2.2 tvb capb p q ∧ q + 6 * (M 0 3 - r) ≤ qf ∧ RIv s qn w S.2.1 M o r p) (M 0 3) ?_ ?_ FU 0 (c, A, J) (by omega) ⟨by omega, tvb, capb, p, q, h, by omega, hR⟩ (by have := FU_e; omega)
  · rintro f r ⟨c1, A1, J1⟩ hi ⟨hr0, tvb, capb, p, q, h, hq1, g, ls, nr, hp, hnr, hG, hR, hP, ⟨l1, l2⟩, hll, hz⟩
    dsimp only at h hR ⊢
    have hd := h.2.2.1.2
    have s1 := hR.1.1.2.1
    obtain ⟨u, A2, hu, e2, h2, f2⟩ := h.draw (J := J1) sc hs 0 2 (by omega) (by omega) (x := 0) (y := 2) rfl rfl
    have hR2 : WR w A2 M o g := hR.fr2 (fun b z hb => f2 b z (by omega)) h38.2
    by_cases y : u = 0
    · refine Or.inr ⟨(c1, A2, J1), ⟨by omega, tvb, capb, p, q + 1, h2, by omega, g, ls, nr, hp, by omega, hG, hR2, hP, by omega, hll, fun r2 a b x => hz r2 (by omega) b x⟩, ?_⟩
      show fX19_init_591 sc (f + 1) w d (ii r) (CW c1 A1 J1) = _
      rw [fX19_init_591, wdR1 h.1.1, wd3 h.1.1 1 1 rfl (by omega), s1, if_neg (by rw [ii_le _ _ (by omega)]; omega), e2, if_pos (by rw [y]; rfl), fX19_init_706, ii_s, lt_q]
    · obtain ⟨c3, A3, J3, t3, k3, e3, h3, f3⟩ := h2.str (J := J1) 1000040 (by omega) (by omega)
      obtain ⟨c4, A4, J4, t4, k4, e4, h4', f4⟩ := h3.num (J := J3) r (by omega) (by rw [tS_1]; omega)
      have nd1 := nd_2 r (by omega)
      obtain ⟨n, A5, hn, e5, h5, f5⟩ := h4'.draw (J := J4) sc hs 0 3 (by omega) (by omega) (x := 0) (y := 3) rfl rfl
      have hR5 : WR w A5 M o g := (((hR2.fr2 f3 h38.2).fr2 f4 h38.2)).fr2 (fun b z hb => f5 b z (by omega)) h38.2
      have PP := (hP.word 1000040 1000030 lw_40).num r (by omega)
      have eT : hdT s qn ++ lnTs ls ++ [(3, 0), (1, ((1000030 : Nat) : Int))] ++ [(2, r)] = hdT s qn ++ lnTs (ls ++ [(2, r, [])]) := by
        rw [lnTs_snoc, List.append_assoc, List.append_assoc]
        rfl
      rw [eT] at PP
      obtain ⟨c6, A6, J6, t6, k6, p6, e6, h6, g6, vs, hb6, hG6, hR6, hP6, ⟨v1, v2, v3⟩, ho6⟩ := w_634 (o := o) (g0 := g) (s := s) (qn := qn) (ls := ls) (qf := q + 6) (r591 := fX19_init_591 sc f) hs r ⟨hr0, hi⟩ h4 h120 n (by omega) h5 (by omega) (tN r (tS 1000040 p)).1 (by rw [tN_1, tS_1]; omega) ⟨g, [], rfl, hG, hR5, PP, ⟨by show ((0 : Nat) : Int) + n ≤ 3; omega, (hz r (by omega) hr0 (by omega)), by show _ ≤ _ + 5 * ((0 : Nat) : Int); omega⟩, fun _ _ _ _ => rfl⟩
      rw [tN_1, tS_1, w40] at v3
      refine Or.inr ⟨(c6, A6, J6), ⟨by omega, t6, k6, p6, q + 6, h6, by omega, g6, ls ++ [(2, r, vs)], r + 1, hp.snoc (Or.inl ⟨rfl, ⟨hnr, hr0, hi⟩, hz r (by omega) hr0 (by omega), rfl, rfl, hb6⟩), by omega, hG6, hR6, hP6, ⟨?_, ?_⟩, fun l hl => ?_, fun r2 a b x => ?_⟩, ?_⟩
      · rw [List.length_append]
        show ((ls.length + 1 : Nat) : Int) ≤ _
        omega
      · omega
      · rw [List.mem_append] at hl
        rcases hl with hl | hl
        · exact hll l hl
        · rw [List.mem_singleton] at hl
          rw [hl]
          show vs.length < 100
          omega
      · rw [ho6 r2 b x (by omega)]
        exact hz r2 (by omega) b x
      · show fX19_init_591 sc (f + 1) w d (ii r) (CW c1 A1 J1) = _
        rw [fX19_init_591, wdR1 h.1.1, wd3 h.1.1 1 1 rfl (by omega), s1, if_neg (by rw [ii_le _ _ (by omega)]; omega), e2, if_neg (by rw [il0, ii_eq _ _ (by omega)]; exact y), h2.B, e3, e4, e5, e6]
  · rintro f ⟨c1, A1, J1⟩ ⟨hr0, tvb, capb, p, q, h, hq1, g, ls, nr, hp, hnr, hG, hR, hP, ⟨l1, l2⟩, hll, hz⟩
    dsimp only at h hR ⊢
    have s1 := hR.1.1.2.1
    refine ⟨c1, A1, J1, tvb, capb, p, ?_, h.mono (by omega), g, ls, nr, hp, by omega, hG, hR, hP, by omega, hll, fun r2 a b x => by omega⟩
    rw [fX19_init_591, wdR1 h.1.1, wd3 h.1.1 1 1 rfl (by omega), s1, if_pos (Int32.le_refl _)]
end WI4
