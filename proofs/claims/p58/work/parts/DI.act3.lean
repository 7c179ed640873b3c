/-! THE LAW: changes III: quoin, open, tighten, buy, unlock -/
section AC3
theorem ii_m (a : Int) : ii a + (-1) = ii (a - 1) := by
  rw [show ((-1) : Int32) = ii (-1) from rfl, ii_add, Int.sub_eq_add_neg]
variable {C0 N0 n : Nat} {c : CC} {A : AI} {J : JI} {M : AI} {g : Int → Int} {pl sp tv cap w d : Nat} {q r : Int}
theorem a_861 (h : LwD C0 N0 n pl sp tv cap c A J M g w d q) (hn : n ≤ 590) (hro : RO C0 N0 n cap c 100 6500) (sc : Nat × (Nat → Int32)) (hs : sc.1 < 2147483648) (hr : 0 ≤ r ∧ r < M 0 3) (hq : q ≤ 99992) (m : Int) (hm : m = 0 ∨ m = 1) (z : m = 0 ∧ cel g r 2 = -1 ∨ m = 1 ∧ (cel g r 2 ≠ -1 ∨ g 0 = 0 ∨ ¬ M 0 4 ≤ gapM M g r)) : ActR C0 N0 n pl sp tv cap w d c (q + 5) (fL_act_861 sc 0 (ii r) (ii m) (CW c A J)) := by
  have hS := h.1
  have hw := hS.2.2.2.1
  have o1 : okc (nwC c 100 2) c.2.2.1 100 2 := ⟨Nat.lt_succ_self _, if_pos rfl⟩
  have x1 : LX 1 2 c (nwC c 100 2) A (up (up (nwA c A) c.2.2.1 0 r) c.2.2.1 1 m) J (nwJ c J) := ((LX.new c A J 100 2).upN _ _ _ (Nat.le_refl _)).upN _ _ _ (Nat.le_refl _)
  have h1 := hS.lx x1 (by omega)
  have z1 : (nwC c 100 2).2.2.1 = c.2.2.1 + 1 := rfl
  have z2 : (nwC c 100 2).2.2.2.1 = c.2.2.2.1 + 1 := rfl
  have z3 : (nwC c 100 2).2.2.2.2 = c.2.2.2.2 + 2 := rfl
  obtain ⟨c3, A3, J3, e3, x3⟩ := n_tq_quoin h1 (by omega) o1 (a := r) (b := m) (by rw [up_n _ _ _ _ _ _ (by omega), up_s]) (up_s _ _ _ _) hm nCode3 (fun c4 A4 J4 h4 _ => ⟨A4, J4, d_quoinN h4.1 h4.2.1.1 h4.2.1.2 r m hr z, frm.refl _ _ _⟩)
  have x4 := x1.trans x3
  refine ⟨c3, A3, J3, M, g, ?_, ((h.lx x4 (by omega)).n1).mono (by omega), by have := x4.gro; omega⟩
  have l1 : ∀ (E : AI) (v : Int) (k : AS → Option AR), uI (CW (nwC c 100 2) E (nwJ c J)) c.2.2.1 1 (ii v) k = k (CW (nwC c 100 2) (up E c.2.2.1 1 v) (nwJ c J)) := fun E v k => k_uI o1 1 v (by omega) k
  rw [fL_act_861, k_nA (n := 2) _ (by omega) ⟨rfl, by decide, by omega⟩, show (0 : Int32) = ii 0 from rfl, k_uI o1 0 r (by omega)]
  rcases hm with y | y
  · rw [y] at e3 ⊢
    rw [if_pos rfl, fL_act_884, l1, e3, if_pos ii_3, rZ_1]
  · rw [y] at e3 ⊢
    have l2 : ∀ (E : AI) (k : AS → Option AR), uI (CW (nwC c 100 2) E (nwJ c J)) c.2.2.1 1 1 k = k (CW (nwC c 100 2) (up E c.2.2.1 1 1) (nwJ c J)) := fun E k => k_uI o1 1 1 (by omega) k
    rw [if_neg (by decide), fL_act_884, l2, e3, if_pos ii_3, rZ_1]
theorem a_898 (h : LwD C0 N0 n pl sp tv cap c A J M g w d q) (hn : n ≤ 590) (hro : RO C0 N0 n cap c 100 6500) (sc : Nat × (Nat → Int32)) (hs : sc.1 < 2147483648) (hr : 0 ≤ r ∧ r < M 0 3) (hq : q ≤ 99992) (m : Int) (z : m = 0 ∧ cel g r 2 ≠ -1 ∨ m = 1 ∧ cel g r 2 = -1 ∧ g 0 ≠ 0 ∧ M 0 4 ≤ gapM M g r) : ActR C0 N0 n pl sp tv cap w d c (q + 5) (fL_act_898 sc 0 w (ii r) (ii m) (CW c A J)) := by
  have hM := h.1.li.1
  have hG := h.1.li.2.2.2
  have h38 := hM.1.2.1
  have h39 := hM.1.2.2.2.2.2.2.2
  have h4 := h.1.2.2.2.2.1
  have hl := h.1.2.1.1
  have h0 := h.1.2.1.2
  have hB : 0 ≤ Bn n ∧ Bn n ≤ 300000000 := by unfold Bn; omega
  have q1 := h.2.2.2.1
  have q2 := h.2.2.2.2.1
  have q3 := h.2.2.2.2.2.1
  have q4 := h.2.2.2.2.2.2
  have hgr := hG.1.1 r hr.1 (by omega)
  have b0 := hgr.1
  have b1 := hgr.2.1
  have b2 := hgr.2.2.2.2.1
  have b3 := hgr.2.2.2.2.2.1
  have b4 := hgr.2.2.2.2.2.2
  have hgb := gapM_b hM hgr
  have hW := h.1.2.2.1.1
  have hR := h.1.2.2.1.2
  obtain ⟨⟨w27, w28, w29, w30, w31⟩, wB, wP⟩ := hR.2.2.2.1 r hr.1 hr.2
  have sQ := hR.1.2.2
  rcases z with ⟨rfl, y⟩ | ⟨rfl, y, y0, yg⟩
  · have hR2 : WR w (up (up (up A w 15 (g 0 + 1)) (w + 29) r (-1)) (w + 30) r 0) M (A (pl + 3)) (gNoQ g r) := hR.noq hG.1.1 h38.2 (by omega) hr y (fun b z p1 p2 p3 => by rw [up_n _ _ _ _ _ _ (by omega), up_n _ _ _ _ _ _ (by omega), up_n _ _ _ _ _ _ (by omega)]) (by rw [up_n _ _ _ _ _ _ (by omega), up_n _ _ _ _ _ _ (by omega), up_s]) (by rw [up_n _ _ _ _ _ _ (by omega), up_s])
    have hF : ∀ (b : Nat) (z : Int), ¬ inW w b → up (up (up A w 15 (g 0 + 1)) (w + 29) r (-1)) (w + 30) r 0 b z = A b z := fun b z hb => by
      unfold inW at hb
      rw [up_n _ _ _ _ _ _ (by omega), up_n _ _ _ _ _ _ (by omega), up_n _ _ _ _ _ _ (by omega)]
    have el : ∀ z, 0 < z → z < 6 → gNoQ g r z = g z := fun z a b => by rw [lo_gNoQ g r z ⟨hr.1, by omega⟩, if_neg (by omega)]
    obtain ⟨A2, J2, M2, e2, h2, kp⟩ := h.both (q' := q + 5) (WX.same hF) (by omega) hR2 (fun hI _ => d_quoin0 hI hl h0 r hr y) (by rw [el 1 (by omega) (by omega), el 2 (by omega) (by omega)]; omega) (by omega)
    have eg := h2.gap (r := r) (by rw [kp.1 3 (by omega) (by omega)]; exact hr)
    rw [gapM_kp kp] at eg
    refine ⟨c, A2, J2, M2, _, ?_, h2, by omega⟩
    have u29 : ∀ (E : AI) (k : AS → Option AR), uI (CW c E J) (w + 29) (ii r) (-1) k = k (CW c (up E (w + 29) r (-1)) J) := fun E k => wdU29 hW r (-1) k (by omega)
    have u30 : ∀ (E : AI) (k : AS → Option AR), uI (CW c E J) (w + 30) (ii r) 0 k = k (CW c (up E (w + 30) r 0) J) := fun E k => wdU30 hW r 0 k (by omega)
    rw [fL_act_898, wdI15 hW, sQ, if_pos ii_0, fL_act_913, ii_s, wdS15 hW, wdR11 hW, if_pos ii_0, fL_act_933, u29, wdR12 hW, u30, e2, eg, if_pos rfl, rZ_1]
  · have hR2 : WR w (up (up (up A w 15 (g 0 - 1)) (w + 29) r 0) (w + 30) r 0) M (A (pl + 3)) (gQ g r 0) := hR.q hG.1.1 h38.2 (by omega) hr 0 (by omega) (by rw [if_pos y, up_n _ _ _ _ _ _ (by omega), up_n _ _ _ _ _ _ (by omega), up_s]) (by rw [up_n _ _ _ _ _ _ (by omega), up_s]) (up_s _ _ _ _) (fun b z p1 p2 p3 => by rw [up_n _ _ _ _ _ _ (by omega), up_n _ _ _ _ _ _ (by omega), up_n _ _ _ _ _ _ (by omega)])
    have hF : ∀ (b : Nat) (z : Int), ¬ inW w b → up (up (up A w 15 (g 0 - 1)) (w + 29) r 0) (w + 30) r 0 b z = A b z := fun b z hb => by
      unfold inW at hb
      rw [up_n _ _ _ _ _ _ (by omega), up_n _ _ _ _ _ _ (by omega), up_n _ _ _ _ _ _ (by omega)]
    have el : ∀ z, 0 < z → z < 6 → gQ g r 0 z = g z := fun z a b => by rw [lo_gQ g r 0 z ⟨hr.1, by omega⟩, if_neg (by omega)]
    obtain ⟨A2, J2, M2, e2, h2, kp⟩ := h.both (q' := q + 5) (WX.same hF) (by omega) hR2 (fun hI _ => d_quoin1 hI hl h0 r hr y y0 yg) (by rw [el 1 (by omega) (by omega), el 2 (by omega) (by omega)]; omega) (by omega)
    have eg := h2.gap (r := r) (by rw [kp.1 3 (by omega) (by omega)]; exact hr)
    rw [gapM_kp kp] at eg
    refine ⟨c, A2, J2, M2, _, ?_, h2, by omega⟩
    have u29 : ∀ (E : AI) (k : AS → Option AR), uI (CW c E J) (w + 29) (ii r) 0 k = k (CW c (up E (w + 29) r 0) J) := fun E k => wdU29 hW r 0 k (by omega)
    have u30 : ∀ (E : AI) (k : AS → Option AR), uI (CW c E J) (w + 30) (ii r) 0 k = k (CW c (up E (w + 30) r 0) J) := fun E k => wdU30 hW r 0 k (by omega)
    have n1 : ¬ ii 1 = (0 : Int32) := by decide
    rw [fL_act_898, wdI15 hW, sQ, if_neg n1, fL_act_913, ii_m, wdS15 hW, wdR11 hW, if_neg n1, fL_act_933, u29, wdR12 hW, u30, e2, eg, if_pos rfl, rZ_1]
theorem a_812 (h : LwD C0 N0 n pl sp tv cap c A J M g w d q) (hn : n ≤ 590) (hro : RO C0 N0 n cap c 100 6500) (sc : Nat × (Nat → Int32)) (hs : sc.1 < 2147483648) (hr : 0 ≤ r ∧ r < M 0 3) (hq : q ≤ 99992) (m : Int) (hm : m = 0 ∨ m = 1) : ActR C0 N0 n pl sp tv cap w d c (q + 5) (fL_act_812 sc 0 w (ii r) (ii m) (CW c A J)) := by
  have hM := h.1.li.1
  have hG := h.1.li.2.2.2
  have h38 := hM.1.2.1
  have h39 := hM.1.2.2.2.2.2.2.2
  have h4 := h.1.2.2.2.2.1
  have hl := h.1.2.1.1
  have h0 := h.1.2.1.2
  have hB : 0 ≤ Bn n ∧ Bn n ≤ 300000000 := by unfold Bn; omega
  have q1 := h.2.2.2.1
  have q2 := h.2.2.2.2.1
  have q3 := h.2.2.2.2.2.1
  have q4 := h.2.2.2.2.2.2
  have hgr := hG.1.1 r hr.1 (by omega)
  have b0 := hgr.1
  have b1 := hgr.2.1
  have b2 := hgr.2.2.2.2.1
  have b3 := hgr.2.2.2.2.2.1
  have b4 := hgr.2.2.2.2.2.2
  have hgb := gapM_b hM hgr
  have hW := h.1.2.2.1.1
  have hR := h.1.2.2.1.2
  obtain ⟨⟨w27, w28, w29, w30, w31⟩, wB, wP⟩ := hR.2.2.2.1 r hr.1 hr.2
  have sQ := hR.1.2.2
  have h44 := hM.1.2.2.1
  have n1 : ¬ ii 1 = (0 : Int32) := by decide
  rw [fL_act_812, wdR11 hW, wdA29 hW r _ (by omega), w29]
  by_cases y : cel g r 2 = -1
  · rw [if_pos (by rw [il0, ii_lt _ _ (by omega)]; omega), fL_act_831]
    rcases hm with rfl | rfl
    · rw [if_pos ii_0]
      exact a_861 h hn hro sc hs hr hq 0 (Or.inl rfl) (Or.inl ⟨rfl, y⟩)
    · rw [if_neg n1, if_neg n1, wdI15 hW, sQ]
      by_cases y0 : g 0 = 0
      · rw [if_pos (by rw [y0]; rfl)]
        exact a_861 h hn hro sc hs hr hq 1 (Or.inr rfl) (Or.inr ⟨rfl, Or.inr (Or.inl y0)⟩)
      · have hg0 := hG.h0
        have s2 := hR.1.1.2.2.1
        rw [if_neg (by rw [il0, ii_eq _ _ (by omega)]; exact y0), h.gap hr, wdR1 hW, wd3 hW 2 2 rfl (by omega), s2]
        by_cases v : M 0 4 ≤ gapM M g r
        · rw [if_pos (by rw [ii_le _ _ (by omega)]; exact v)]
          exact a_898 h hn hro sc hs hr hq 1 (Or.inr ⟨rfl, y, y0, v⟩)
        · rw [if_neg (by rw [ii_le _ _ (by omega)]; exact v)]
          exact a_861 h hn hro sc hs hr hq 1 (Or.inr rfl) (Or.inr ⟨rfl, Or.inr (Or.inr v)⟩)
  · rw [if_neg (by rw [il0, ii_lt _ _ (by omega)]; omega), fL_act_831]
    rcases hm with rfl | rfl
    · rw [if_neg (by decide), if_pos ii_0]
      exact a_898 h hn hro sc hs hr hq 0 (Or.inl ⟨rfl, y⟩)
    · rw [if_pos (show ii 1 = (1 : Int32) from rfl)]
      exact a_861 h hn hro sc hs hr hq 1 (Or.inr rfl) (Or.inr ⟨rfl, Or.inl y⟩)
theorem a_quoin (h : LwD C0 N0 n pl sp tv cap c A J M g w d q) (hn : n ≤ 590) (hro : RO C0 N0 n cap c 100 6500) (sc : Nat × (Nat → Int32)) (hs : sc.1 < 2147483648) (hr : 0 ≤ r ∧ r < M 0 3) (hq : q ≤ 99990) : ActR C0 N0 n pl sp tv cap w d c (q + 6) (fB9 sc 0 w d (ii r) (CW c A J)) := by
  obtain ⟨b, A1, hb, e1, h1⟩ := h.draw sc hs 0 1 (by omega) (by omega) (x := 0) (y := 1) rfl rfl
  by_cases y : b = 0
  · obtain ⟨c3, A3, J3, M3, g3, e3, h3, r3⟩ := a_812 h1 hn hro sc hs hr (by omega) 1 (Or.inr rfl)
    refine ⟨c3, A3, J3, M3, g3, ?_, h3.mono (by have := h3.2.2.2.2.2.2; omega), r3⟩
    rw [fB9, e1, if_pos (by rw [y]; rfl)]
    exact e3
  · obtain ⟨c3, A3, J3, M3, g3, e3, h3, r3⟩ := a_812 h1 hn hro sc hs hr (by omega) 0 (Or.inl rfl)
    refine ⟨c3, A3, J3, M3, g3, ?_, h3.mono (by have := h3.2.2.2.2.2.2; omega), r3⟩
    rw [fB9, e1, if_neg (by rw [il0, ii_eq _ _ (by omega)]; exact y)]
    exact e3
theorem a_open (h : LwD C0 N0 n pl sp tv cap c A J M g w d q) (hn : n ≤ 590) (hro : RO C0 N0 n cap c 100 6500) (sc : Nat × (Nat → Int32)) (hs : sc.1 < 2147483648) (hr : 0 ≤ r ∧ r < M 0 3) (hq : q ≤ 99990) : ActR C0 N0 n pl sp tv cap w d c (q + 6) (fB10 sc 0 w d (ii r) (CW c A J)) := by
  have hM := h.1.li.1
  have hG := h.1.li.2.2.2
  have h38 := hM.1.2.1
  have h39 := hM.1.2.2.2.2.2.2.2
  have h4 := h.1.2.2.2.2.1
  have hl := h.1.2.1.1
  have h0 := h.1.2.1.2
  have hB : 0 ≤ Bn n ∧ Bn n ≤ 300000000 := by unfold Bn; omega
  have q1 := h.2.2.2.1
  have q2 := h.2.2.2.2.1
  have q3 := h.2.2.2.2.2.1
  have q4 := h.2.2.2.2.2.2
  have hgr := hG.1.1 r hr.1 (by omega)
  have b0 := hgr.1
  have b1 := hgr.2.1
  have b2 := hgr.2.2.2.2.1
  have b3 := hgr.2.2.2.2.2.1
  have b4 := hgr.2.2.2.2.2.2
  have hgb := gapM_b hM hgr
  have h20 := hM.1.2.2.2.1
  have h44 := hM.1.2.2.1
  obtain ⟨o, A1, ho, e1, h1⟩ := h.draw sc hs 0 (M 0 5) (by omega) (by omega) (x := 0) rfl rfl
  have hW := h.1.2.2.1.1
  have hR := h1.1.2.2.1.2
  have s3' := h.1.2.2.1.2.1.1.2.2.2.1
  obtain ⟨⟨w27, w28, w29, w30, w31⟩, wB, wP⟩ := hR.2.2.2.1 r hr.1 hr.2
  have s2 := hR.1.1.2.2.1
  have sQ := hR.1.2.2
  have hN := hG.need hM hr
  have ne := n_need (J := J) hW hR hM hG h4 hr
  rw [needM_e] at ne
  have thr : (cel g r 2 = -1 ∨ M 0 5 < o ∨ ¬ M 0 4 + o ≤ needM M g r) → ActR C0 N0 n pl sp tv cap w d c (q + 6) (fL_act_1012 sc 0 (ii r) (ii o) (CW c A1 J)) := fun z => by
    obtain ⟨c3, A3, J3, e3, x3⟩ := n_th_open h1.1 (by omega) r o (i0 := 0) (i1 := 1) rfl rfl rfl rfl nCode3 (fun c4 A4 J4 h4 _ => ⟨A4, J4, d_openN h4.1 h4.2.1.1 h4.2.1.2 r o hr (by omega) z, frm.refl _ _ _⟩)
    refine ⟨c3, A3, J3, M, g, ?_, ((h1.lx x3 (by omega)).n1).mono (by omega), by have := x3.gro; omega⟩
    rw [fL_act_1012, e3, if_pos ii_3, rZ_1]
  have st : ∀ X : Option AR, (if ii (cel g r 2) < (0 : Int32) then fL_act_1012 sc 0 (ii r) (ii o) (CW c A1 J) else if ii (M 0 4 + o) ≤ ii (needM M g r) then X else fL_act_1012 sc 0 (ii r) (ii o) (CW c A1 J)) = (if cel g r 2 = -1 then fL_act_1012 sc 0 (ii r) (ii o) (CW c A1 J) else if M 0 4 + o ≤ needM M g r then X else fL_act_1012 sc 0 (ii r) (ii o) (CW c A1 J)) := fun X => by
    by_cases y : cel g r 2 = -1
    · rw [if_pos y, if_pos (by rw [il0, ii_lt _ _ (by omega)]; omega)]
    · rw [if_neg y, if_neg (by rw [il0, ii_lt _ _ (by omega)]; omega)]
      by_cases z : M 0 4 + o ≤ needM M g r
      · rw [if_pos z, if_pos (by rw [ii_le _ _ (by omega)]; exact z)]
      · rw [if_neg z, if_neg (by rw [ii_le _ _ (by omega)]; exact z)]
  rw [fB10, wdR1 hW, wd3 hW 3 3 rfl (by omega), s3', e1, wdR11 hW, wdA29 hW r _ (by omega), w29, wdV hW, ne, k_C, q_I, wdR1 hW, wd3 hW 2 2 rfl (by omega), s2, ii_add, st]
  by_cases y : cel g r 2 = -1
  · rw [if_pos y]
    exact thr (Or.inl y)
  · rw [if_neg y]
    by_cases z : M 0 4 + o ≤ needM M g r
    · rw [if_pos z]
      have hR2 : WR w (up (up A1 (w + 29) r o) (w + 30) r 0) M (A1 (pl + 3)) (gQ g r o) := hR.q hG.1.1 h38.2 (by omega) hr o (by omega) (by rw [if_neg y, up_n _ _ _ _ _ _ (by omega), up_n _ _ _ _ _ _ (by omega), sQ]; omega) (by rw [up_n _ _ _ _ _ _ (by omega), up_s]) (up_s _ _ _ _) (fun b z p1 p2 p3 => by rw [up_n _ _ _ _ _ _ (by omega), up_n _ _ _ _ _ _ (by omega)])
      have hF : ∀ (b : Nat) (z : Int), ¬ inW w b → up (up A1 (w + 29) r o) (w + 30) r 0 b z = A1 b z := fun b z hb => by
        unfold inW at hb
        rw [up_n _ _ _ _ _ _ (by omega), up_n _ _ _ _ _ _ (by omega)]
      have el : ∀ z, 0 < z → z < 6 → gQ g r o z = g z := fun z a b => by rw [lo_gQ g r o z ⟨hr.1, by omega⟩, if_neg (by omega)]
      obtain ⟨A2, J2, M2, e2, h2, kp⟩ := h1.both (q' := q + 6) (WX.same hF) (by omega) hR2 (fun hI _ => d_open hI hl h0 r o hr y ho z) (by rw [el 1 (by omega) (by omega), el 2 (by omega) (by omega)]; omega) (by omega)
      have hr2 : 0 ≤ r ∧ r < M2 0 3 := by rw [kp.1 3 (by omega) (by omega)]; exact hr
      have eg := h2.gap hr2
      rw [gapM_kp kp] at eg
      have hS := h2.1
      have hw := hS.2.2.2.1
      have e5 : M2 0 5 = M 0 5 := kp.1 5 (by omega) (by omega)
      have o1 : okc (nwC c 100 2) c.2.2.1 100 2 := ⟨Nat.lt_succ_self _, if_pos rfl⟩
      have x0 : LX 1 2 c (nwC c 100 2) A2 (up (nwA c A2) c.2.2.1 0 r) J2 (nwJ c J2) := (LX.new c A2 J2 100 2).upN _ _ _ (Nat.le_refl _)
      have x1 := x0.upN c.2.2.1 1 (M 0 5 + 1) (Nat.le_refl _)
      have hx0 := hS.lx x0 (by omega)
      have hx1 := hS.lx x1 (by omega)
      have z1 : (nwC c 100 2).2.2.1 = c.2.2.1 + 1 := rfl
      have z2 : (nwC c 100 2).2.2.2.1 = c.2.2.2.1 + 1 := rfl
      have z3 : (nwC c 100 2).2.2.2.2 = c.2.2.2.2 + 2 := rfl
      have v3 := hx0.2.2.1.2.1.1.2.2.2.1
      have W0 := hx0.2.2.1.1
      rw [e5] at v3
      obtain ⟨c3, A3, J3, e3, x3⟩ := n_tq_open hx1 (by omega) o1 (a := r) (b := M 0 5 + 1) (by rw [up_n _ _ _ _ _ _ (by omega), up_s]) (up_s _ _ _ _) nCode3 (fun c4 A4 J4 h4 _ => ⟨A4, J4, d_openN h4.1 h4.2.1.1 h4.2.1.2 r (M 0 5 + 1) hr2 (by omega) (Or.inr (Or.inl (by omega))), frm.refl _ _ _⟩)
      have x4 := x1.trans x3
      refine ⟨c3, A3, J3, M2, _, ?_, h2.lx x4 (by omega), by have := x4.gro; omega⟩
      have u29 : ∀ (E : AI) (k : AS → Option AR), uI (CW c E J) (w + 29) (ii r) (ii o) k = k (CW c (up E (w + 29) r o) J) := fun E k => wdU29 hW r o k (by omega)
      have u30 : ∀ (E : AI) (k : AS → Option AR), uI (CW c E J) (w + 30) (ii r) 0 k = k (CW c (up E (w + 30) r 0) J) := fun E k => wdU30 hW r 0 k (by omega)
      have l0 : ∀ (E : AI) (v : Int) (k : AS → Option AR), uI (CW (nwC c 100 2) E (nwJ c J2)) c.2.2.1 0 (ii v) k = k (CW (nwC c 100 2) (up E c.2.2.1 0 v) (nwJ c J2)) := fun E v k => k_uI o1 0 v (by omega) k
      have l1 : ∀ (E : AI) (v : Int) (k : AS → Option AR), uI (CW (nwC c 100 2) E (nwJ c J2)) c.2.2.1 1 (ii v) k = k (CW (nwC c 100 2) (up E c.2.2.1 1 v) (nwJ c J2)) := fun E v k => k_uI o1 1 v (by omega) k
      rw [wdR11 hW, u29, wdR12 hW, u30, e2, eg, if_pos rfl, k_nA (n := 2) _ (by omega) ⟨rfl, by decide, by omega⟩, l0, wdR1 W0, wd3 W0 3 3 rfl (by omega), v3, ii_s, l1, e3, if_pos ii_3, rZ_1]
    · rw [if_neg z]
      exact thr (Or.inr (Or.inr z))
theorem a_1350 {o : Int → Int} (sc : Nat × (Nat → Int32)) (hW : isWorld c w) (hM : SA M) (h4 : M 0 9 ≤ 4) (hr : 0 ≤ r ∧ r < M 0 3) {B : Int} (hB : 0 ≤ B) : ∀ (j f : Nat) (g : Int → Int) (A : AI), WR w A M o g → GC M g B → cel g r 2 ≠ -1 → M 0 5 - cel g r 2 < j → j < f → ∃ D : AI, fL_act_1350 sc f 0 w (ii r) (CW c A J) = fL_act_1422 sc 0 w (ii r) (CW c D J) ∧ WR w D M o (tiF (M 0 5) r j g) ∧ ∀ (b : Nat) (z : Int), ¬ inW w b → D b z = A b z
  | 0, f, g, A, hR, hG, hq, hj, hf => by
    have h38 := hM.1.2.1
    have h20 := hM.1.2.2.2.1
    have hgr := hG.1.1 r hr.1 (by omega)
    have := hG.2.2.2.1 r hr.1 (by omega) hq
    omega
  | j + 1, 0, g, A, hR, hG, hq, hj, hf => by omega
  | j + 1, f + 1, g, A, hR, hG, hq, hj, hf => by
    have h38 := hM.1.2.1
    have h20 := hM.1.2.2.2.1
    have hgr := hG.1.1 r hr.1 (by omega)
    have b0 := hgr.1
    have b1 := hgr.2.1
    have b2 := hgr.2.2.2.2.1
    have b3 := hgr.2.2.2.2.2.1
    have b4 := hgr.2.2.2.2.2.2
    have hgb := gapM_b hM hgr
    obtain ⟨⟨w27, w28, w29, w30, w31⟩, wB, wP⟩ := hR.2.2.2.1 r hr.1 hr.2
    have s3 := hR.1.1.2.2.2.1
    have w30' := w30 hq
    by_cases y : cel g r 2 < M 0 5
    · by_cases z : 0 < cel g r 4
      · have hR2 := hR.ti hG.1.1 h38.2 (by omega) hr hq _ rfl
        have hG2 := hG.ti hM hr hB hq y
        have e2 : cel (gTi g r) r 2 = cel g r 2 + 1 := by rw [cel_gTi _ _ _ _ (by omega), if_neg (by omega), if_neg (by omega), if_pos ⟨rfl, rfl⟩]
        obtain ⟨D, e3, hR3, hF3⟩ := a_1350 sc hW hM h4 hr hB j f (gTi g r) _ hR2 hG2 (by omega) (by omega) (by omega)
        refine ⟨D, ?_, by rw [tiF_y _ _ _ _ ⟨y, z⟩]; exact hR3, fun b x hb => ?_⟩
        · rw [← e3, fL_act_1350, wdR11 hW, wdA29 hW r _ (by omega), w29, wdR1 hW, wd3 hW 3 3 rfl (by omega), s3, if_neg (by rw [ii_le _ _ (by omega)]; omega), wdR13 hW, wdA31 hW r _ (by omega), w31, if_neg (by rw [il0, ii_le _ _ (by omega)]; omega), wdR11 hW, wdA29 hW r _ (by omega), w29, ii_s, wdU29 hW r _ _ (by omega), wdR12 hW, wdA30 hW r _ (by omega), up_n _ _ _ _ _ _ (by omega), w30', ii_s, wdU30 hW r _ _ (by omega), wdR13 hW, wdR13 hW, wdA31 hW r _ (by omega), up_n _ _ _ _ _ _ (by omega), up_n _ _ _ _ _ _ (by omega), w31, show ii (cel g r 4) - (10 : Int32) = ii (cel g r 4 - 10) from ii_sub _ 10]
          have hif : (if (0 : Int32) < ii (cel g r 4 - 10) then ii (cel g r 4 - 10) else (0 : Int32)) = ii (if cel g r 4 - 10 < 0 then 0 else cel g r 4 - 10) := by
            by_cases u : cel g r 4 - 10 ≤ 0
            · rw [if_neg (by rw [il0, ii_lt _ _ (by omega)]; omega)]
              by_cases v : cel g r 4 - 10 < 0
              · rw [if_pos v]; rfl
              · rw [if_neg v, show cel g r 4 - 10 = 0 by omega]; rfl
            · rw [if_pos (by rw [il0, ii_lt _ _ (by omega)]; omega), if_neg (by omega)]
          rw [hif, lt_q, wdU31 hW r _ _ (by omega)]
        · rw [hF3 b x hb]
          unfold inW at hb
          rw [up_n _ _ _ _ _ _ (by omega), up_n _ _ _ _ _ _ (by omega), up_n _ _ _ _ _ _ (by omega)]
      · refine ⟨A, ?_, by rw [tiF_n _ _ _ _ (fun x => z x.2)]; exact hR, fun _ _ _ => rfl⟩
        rw [fL_act_1350, wdR11 hW, wdA29 hW r _ (by omega), w29, wdR1 hW, wd3 hW 3 3 rfl (by omega), s3, if_neg (by rw [ii_le _ _ (by omega)]; omega), wdR13 hW, wdA31 hW r _ (by omega), w31, if_pos (by rw [il0, ii_le _ _ (by omega)]; omega)]
    · refine ⟨A, ?_, by rw [tiF_n _ _ _ _ (fun x => y x.1)]; exact hR, fun _ _ _ => rfl⟩
      rw [fL_act_1350, wdR11 hW, wdA29 hW r _ (by omega), w29, wdR1 hW, wd3 hW 3 3 rfl (by omega), s3, if_pos (by rw [ii_le _ _ (by omega)]; omega)]
theorem a_tighten (h : LwD C0 N0 n pl sp tv cap c A J M g w d q) (hn : n ≤ 590) (hro : RO C0 N0 n cap c 100 6500) (sc : Nat × (Nat → Int32)) (hs : sc.1 < 2147483648) (hr : 0 ≤ r ∧ r < M 0 3) (hq : q ≤ 99990) : ActR C0 N0 n pl sp tv cap w d c (q + 6) (fB15 sc 0 w d (ii r) (CW c A J)) := by
  have hM := h.1.li.1
  have hG := h.1.li.2.2.2
  have h38 := hM.1.2.1
  have h39 := hM.1.2.2.2.2.2.2.2
  have h4 := h.1.2.2.2.2.1
  have hl := h.1.2.1.1
  have h0 := h.1.2.1.2
  have hB : 0 ≤ Bn n ∧ Bn n ≤ 300000000 := by unfold Bn; omega
  have q1 := h.2.2.2.1
  have q2 := h.2.2.2.2.1
  have q3 := h.2.2.2.2.2.1
  have q4 := h.2.2.2.2.2.2
  have hgr := hG.1.1 r hr.1 (by omega)
  have b0 := hgr.1
  have b1 := hgr.2.1
  have b2 := hgr.2.2.2.2.1
  have b3 := hgr.2.2.2.2.2.1
  have b4 := hgr.2.2.2.2.2.2
  have hgb := gapM_b hM hgr
  have hW := h.1.2.2.1.1
  have hR := h.1.2.2.1.2
  obtain ⟨⟨w27, w28, w29, w30, w31⟩, wB, wP⟩ := hR.2.2.2.1 r hr.1 hr.2
  have h20 := hM.1.2.2.2.1
  by_cases y : cel g r 2 = -1
  · obtain ⟨c3, A3, J3, e3, x3⟩ := n_th_tighten h.1 (by omega) r (i0 := 0) rfl rfl nCode3 (fun c4 A4 J4 h4 _ => ⟨A4, J4, d_tightenN h4.1 h4.2.1.1 h4.2.1.2 r hr y, frm.refl _ _ _⟩)
    refine ⟨c3, A3, J3, M, g, ?_, ((h.lx x3 (by omega)).n1).mono (by omega), by have := x3.gro; omega⟩
    rw [fB15, wdR11 hW, wdA29 hW r _ (by omega), w29, if_neg (by rw [il0, ii_le _ _ (by omega)]; omega), e3, if_pos ii_3, rZ_1]
  · obtain ⟨D, e1, hR2, hF⟩ := a_1350 (J := J) sc hW hM h4 hr hB.1 21 FU g A hR hG y (by omega) (by have := FU_e; omega)
    have el := fun (z : Int) (a : z < 16) => tiF_lo (M 0 5) r hr.1 z a 21 g
    obtain ⟨A2, J2, M2, e2, h2, kp⟩ := h.both (q' := q + 6) (WX.same hF) (by omega) hR2 (fun hI _ => d_tighten hI hl h0 r hr y) (by rw [el 1 (by omega), el 2 (by omega)]; omega) (by omega)
    have v1 := (h2.1.2.2.1.2.2.2.2.1 r hr.1 (by rw [kp.1 3 (by omega) (by omega)]; exact hr.2)).1.2.2.2.2
    have hW2 := h2.1.2.2.1.1
    refine ⟨c, A2, J2, M2, _, ?_, h2, by omega⟩
    rw [fB15, wdR11 hW, wdA29 hW r _ (by omega), w29, if_pos (by rw [il0, ii_le _ _ (by omega)]; omega), e1, fL_act_1422, e2, wdR13 hW2, wdA31 hW2 r _ (by omega), v1, if_pos rfl, rZ_1]
theorem a_unlock (h : LwD C0 N0 n pl sp tv cap c A J M g w d q) (hn : n ≤ 590) (hro : RO C0 N0 n cap c 100 6500) (sc : Nat × (Nat → Int32)) (hs : sc.1 < 2147483648) (hr : 0 ≤ r ∧ r < M 0 3) (hq : q ≤ 99990) : ActR C0 N0 n pl sp tv cap w d c (q + 6) (fB13 sc 0 w d (ii r) (CW c A J)) := by
  have hM := h.1.li.1
  have hG := h.1.li.2.2.2
  have h38 := hM.1.2.1
  have h39 := hM.1.2.2.2.2.2.2.2
  have h4 := h.1.2.2.2.2.1
  have hl := h.1.2.1.1
  have h0 := h.1.2.1.2
  have hB : 0 ≤ Bn n ∧ Bn n ≤ 300000000 := by unfold Bn; omega
  have q1 := h.2.2.2.1
  have q2 := h.2.2.2.2.1
  have q3 := h.2.2.2.2.2.1
  have q4 := h.2.2.2.2.2.2
  have hgr := hG.1.1 r hr.1 (by omega)
  have b0 := hgr.1
  have b1 := hgr.2.1
  have b2 := hgr.2.2.2.2.1
  have b3 := hgr.2.2.2.2.2.1
  have b4 := hgr.2.2.2.2.2.2
  have hgb := gapM_b hM hgr
  have hW := h.1.2.2.1.1
  have hR := h.1.2.2.1.2
  obtain ⟨⟨w27, w28, w29, w30, w31⟩, wB, wP⟩ := hR.2.2.2.1 r hr.1 hr.2
  have hpl := h.plE
  obtain ⟨hS, ⟨hd, hd2, hd3⟩, ht, -⟩ := id h
  have hw := hS.2.2.2.1
  obtain ⟨A1, J1, M1, e1, hI1, h01, kp, f1, f2⟩ := d_unlock hS.1 hl h0 r hr
  have hl1 : M1 0 1 = 1 := (kp.1 1 (by omega) (by omega)).trans hl
  have hR1 : WR w A1 M1 (A (pl + 3)) g := (hR.fr (fun b z hb => f1 b z (by unfold inW at hb; omega)) h38.2).kp kp
  obtain ⟨hM1, hP1, hS1, hG1⟩ := hI1.li hl1
  have hGo : GC M1 g (Bn n) := hG.at (fun z a b => kp.1 z (by omega) b) kp.2.2
  obtain ⟨A2, e2, hR2, hF⟩ := n_unlock (J := J1) hW hR1 hM1 hGo (by rw [kp.1 9 (by omega) (by omega)]; exact h4) (by rw [kp.1 3 (by omega) (by omega)]; exact hr)
  have htv := hS.1.1.2.2.2.2.1.2.2.1.1
  have hI2 : Inv C0 N0 (n + 1) pl sp tv cap c A2 J1 M1 (gEmp g r) := hI1.law (exc.refl c) hI1.2.1.1 hI1.2.1.2 (fun b z hb _ => hF b z (by unfold inW; omega)) (fun _ _ _ _ => rfl) (fun z => hF tv z (by unfold inW; omega))
  have eo : A2 (pl + 3) = A (pl + 3) := funext fun z => (hF _ z (by unfold inW; omega)).trans (f1 _ z (by omega))
  have ed : A2 d 1 = A d 1 := (hF _ _ (by unfold inW; omega)).trans (f1 _ _ (by omega))
  have el : ∀ z, 0 < z → z < 6 → gEmp g r z = g z := fun z a b => by rw [lo_gEmp g r z ⟨hr.1, by omega⟩, if_neg (by omega), if_neg (by omega)]
  have h120 := hS.2.2.2.2.2
  refine ⟨c, A2, J1, M1, gEmp g r, ?_, ⟨⟨hI2, ⟨hl1, h01⟩, ⟨hW, by rw [eo]; exact hR2⟩, hw, by rw [kp.1 9 (by omega) (by omega)]; exact h4, by rw [kp.1 2 (by omega) (by omega)]; exact h120⟩, ⟨hd, hd2, hd3⟩, ht, by rw [ed]; omega, by rw [el 1 (by omega) (by omega)]; omega, by rw [el 2 (by omega) (by omega)]; omega, by omega⟩, by omega⟩
  rw [fB13, lkV hS.1.1, e1, k_C, q_I, wdV hW, e2, k_C, q_I, if_pos rfl, rZ_1]
theorem a_buy (h : LwD C0 N0 n pl sp tv cap c A J M g w d q) (hn : n ≤ 590) (hro : RO C0 N0 n cap c 100 6500) (sc : Nat × (Nat → Int32)) (hs : sc.1 < 2147483648) (hr : 0 ≤ r ∧ r < M 0 3) (hq : q ≤ 99990) : ActR C0 N0 n pl sp tv cap w d c (q + 6) (fB16 sc 0 w d (ii r) (CW c A J)) := by
  have hM := h.1.li.1
  have hG := h.1.li.2.2.2
  have h38 := hM.1.2.1
  have h39 := hM.1.2.2.2.2.2.2.2
  have h4 := h.1.2.2.2.2.1
  have hl := h.1.2.1.1
  have h0 := h.1.2.1.2
  have hB : 0 ≤ Bn n ∧ Bn n ≤ 300000000 := by unfold Bn; omega
  have q1 := h.2.2.2.1
  have q2 := h.2.2.2.2.1
  have q3 := h.2.2.2.2.2.1
  have q4 := h.2.2.2.2.2.2
  have hW := h.1.2.2.1.1
  have hR := h.1.2.2.1.2
  obtain ⟨⟨w27, w28, w29, w30, w31⟩, wB, wP⟩ := hR.2.2.2.1 r hr.1 hr.2
  have wK := hR.1.2.1
  by_cases y : M 0 9 = 0
  · obtain ⟨c3, A3, J3, e3, x3⟩ := n_th_buy h.1 (by omega) 0 1 (i0 := 0) (i1 := 1) (x := 0) (y := 1) rfl rfl rfl rfl nCode2 (fun c4 A4 J4 h4 _ => ⟨A4, J4, d_buyK h4.1 h4.2.1.1 h4.2.1.2 0 1 (by omega) (by omega), frm.refl _ _ _⟩)
    refine ⟨c3, A3, J3, M, g, ?_, ((h.lx x3 (by omega)).n1).mono (by omega), by have := x3.gro; omega⟩
    rw [fB16, wdI14 hW, wK, if_pos (by rw [y]; rfl), e3, if_pos ii_2, rZ_1]
  · obtain ⟨k, A1, hk, e1, h1⟩ := h.draw sc hs 0 (M 0 9 - 1) (by omega) (by omega) (x := 0) rfl rfl
    obtain ⟨m, A2, hm, e2, h2⟩ := h1.draw sc hs 1 3 (by omega) (by omega) (x := 1) (y := 3) rfl rfl
    have hk2 : 0 ≤ k ∧ k < M 0 9 := by omega
    have hR2 := h2.1.2.2.1.2
    obtain ⟨k1, k2, k3⟩ := hR2.2.1 k hk2.1 hk2.2
    have hL := hG.GL k hk2.1 (by omega)
    have n0 : ¬ ii (M 0 9) = (0 : Int32) := by rw [il0, ii_eq _ _ (by omega)]; exact y
    by_cases z : g (6 + k) + m ≤ 14
    · have hRb := hR2.buy hG.1.1 h38 (by omega) k m hk2
      have hF : ∀ (b : Nat) (z : Int), ¬ inW w b → up A2 (w + 5) k (g (6 + k) + m) b z = A2 b z := fun b z hb => by
        unfold inW at hb
        rw [up_n _ _ _ _ _ _ (by omega)]
      obtain ⟨A3, J3, M3, e3, h3, kp⟩ := h2.both (q' := q + 6) (WX.same hF) (by omega) hRb (fun hI _ => d_buy hI hl h0 k m hk2 (by omega) (by omega)) (by rw [gu_n _ _ _ _ (by omega), gu_n _ _ _ _ (by omega)]; omega) (by omega)
      have hk3 : 0 ≤ k ∧ k < M3 0 9 := by rw [kp.1 9 (by omega) (by omega)]; exact hk2
      have v3 := (h3.1.2.2.1.2.2.1 k hk3.1 hk3.2).2.2
      rw [gu_s] at v3
      have hW3 := h3.1.2.2.1.1
      have hS := h3.1
      have hw := hS.2.2.2.1
      have o1 : okc (nwC c 100 2) c.2.2.1 100 2 := ⟨Nat.lt_succ_self _, if_pos rfl⟩
      have x0 : LX 1 2 c (nwC c 100 2) A3 (up (nwA c A3) c.2.2.1 0 k) J3 (nwJ c J3) := (LX.new c A3 J3 100 2).upN _ _ _ (Nat.le_refl _)
      have x1 := x0.upN c.2.2.1 1 (100 - (g (6 + k) + m)) (Nat.le_refl _)
      have hx0 := hS.lx x0 (by omega)
      have hx1 := hS.lx x1 (by omega)
      have z1 : (nwC c 100 2).2.2.1 = c.2.2.1 + 1 := rfl
      have z2 : (nwC c 100 2).2.2.2.1 = c.2.2.2.1 + 1 := rfl
      have z3 : (nwC c 100 2).2.2.2.2 = c.2.2.2.2 + 2 := rfl
      have v4 := (hx0.2.2.1.2.2.1 k hk3.1 hk3.2).2.2
      rw [gu_s] at v4
      have W0 := hx0.2.2.1.1
      obtain ⟨c4, A4, J4, e4, x4⟩ := n_tq_buy hx1 (by omega) o1 (a := k) (b := 100 - (g (6 + k) + m)) (by rw [up_n _ _ _ _ _ _ (by omega), up_s]) (up_s _ _ _ _) nCode3 (fun c4 A4 J4 h4 _ => ⟨A4, J4, d_buyN h4.1 h4.2.1.1 h4.2.1.2 k (100 - (g (6 + k) + m)) hk3 (by rw [gu_s]; omega) (by omega), frm.refl _ _ _⟩)
      have x5 := x1.trans x4
      refine ⟨c4, A4, J4, M3, _, ?_, h3.lx x5 (by omega), by have := x5.gro; omega⟩
      have l0 : ∀ (E : AI) (v : Int) (k : AS → Option AR), uI (CW (nwC c 100 2) E (nwJ c J3)) c.2.2.1 0 (ii v) k = k (CW (nwC c 100 2) (up E c.2.2.1 0 v) (nwJ c J3)) := fun E v k => k_uI o1 0 v (by omega) k
      have l1 : ∀ (E : AI) (v : Int) (k : AS → Option AR), uI (CW (nwC c 100 2) E (nwJ c J3)) c.2.2.1 1 (ii v) k = k (CW (nwC c 100 2) (up E c.2.2.1 1 v) (nwJ c J3)) := fun E v k => k_uI o1 1 v (by omega) k
      rw [fB16, wdI14 hW, wK, if_neg n0, wdI14 hW, wK, ii_p, e1, e2, wdR3 hW, wdA5 hW k _ (by omega), k3, ii_add, if_pos (by rw [show (14 : Int32) = ii 14 from rfl, ii_le _ _ (by omega)]; exact z), wdR3 hW, wdA5 hW k _ (by omega), k3, ii_add, wdU5 hW k _ _ (by omega), e3, wdR3 hW3, wdA5 hW3 k _ (by omega), v3, if_pos rfl, k_nA (n := 2) _ (by omega) ⟨rfl, by decide, by omega⟩, l0, wdR3 W0, wdA5 W0 k _ (by omega), v4, show (100 : Int32) - ii (g (6 + k) + m) = ii (100 - (g (6 + k) + m)) from ii_sub 100 _, l1, e4, if_pos ii_3, rZ_1]
    · obtain ⟨c4, A4, J4, e4, x4⟩ := n_th_buy h2.1 (by omega) k 100 (i0 := 0) (i1 := 1) (y := 100) rfl rfl rfl rfl nCode3 (fun c4 A4 J4 h4 _ => ⟨A4, J4, d_buyN h4.1 h4.2.1.1 h4.2.1.2 k 100 hk2 (by omega) (by omega), frm.refl _ _ _⟩)
      refine ⟨c4, A4, J4, M, g, ?_, ((h2.lx x4 (by omega)).n1).mono (by omega), by have := x4.gro; omega⟩
      rw [fB16, wdI14 hW, wK, if_neg n0, wdI14 hW, wK, ii_p, e1, e2, wdR3 hW, wdA5 hW k _ (by omega), k3, ii_add, if_neg (by rw [show (14 : Int32) = ii 14 from rfl, ii_le _ _ (by omega)]; exact z), e4, if_pos ii_3, rZ_1]
end AC3
