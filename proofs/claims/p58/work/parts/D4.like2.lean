/-! THE LAW: is the chase like the World? a row, to its end -/
section LK2
variable {C0 N0 n : Nat} {c c' c2 : CC} {A A' A2 : AI} {J J' J2 : JI} {M : AI} {g o : Int → Int} {pl sp tv cap k m w q : Nat} {r : Int}
theorem LwS.li (h : LwS C0 N0 n pl sp tv cap c A J M g o w) : LI A J M g pl (Bn n) := h.1.li h.2.1.1
theorem n_like152 (h : LwS C0 N0 n pl sp tv cap c A J M g o w) (hr : 0 ≤ r ∧ r < M 0 3) (ho : okc c q 100 9) (hq : ∀ k : Int, 0 ≤ k → k < 9 → A q k = rwv M g r k) (x2 x3 x4 : Int32) (r10 : _) : fL_isLike_152 r10 FU 0 w x2 x3 x4 (ii r) q 0 (CW c A J) = fL_isLike_183 r10 0 w x2 x3 x4 (ii r) (CW c A J) := by
  obtain ⟨hI, hl, ⟨hW, hR⟩, hw, h4, h120⟩ := h
  rw [show (0 : Int32) = ii 0 from rfl]
  refine lp (fun f i (_ : Unit) => fL_isLike_152 r10 f 0 w x2 x3 x4 (ii r) q (ii i) (CW c A J)) (fun x => x = fL_isLike_183 r10 0 w x2 x3 x4 (ii r) (CW c A J)) (fun i _ => 0 ≤ i) 9 ?_ ?_ FU 0 () (by omega) (by omega) (by have := FU_e; omega)
  · rintro f i ⟨⟩ hi h0
    have e1 := d_row hI hl.1 hl.2 r i hr ⟨h0, hi⟩
    refine Or.inr ⟨(), by omega, ?_⟩
    show fL_isLike_152 r10 (f + 1) 0 w x2 x3 x4 (ii r) q (ii i) (CW c A J) = _
    rw [fL_isLike_152, show (9 : Int32) = ii 9 from rfl, if_neg (by rw [ii_le _ _ (by omega)]; omega), lkV hI.1, e1, k_C, q_I, k_aI ho i (by omega), hq i h0 hi, if_pos rfl, lt_q, show (1 : Int32) = ii 1 from rfl, ii_add]
  · rintro f ⟨⟩ h0
    rw [fL_isLike_152, show (9 : Int32) = ii 9 from rfl, if_pos (Int32.le_refl _)]
theorem n_like183 (h : LwS C0 N0 n pl sp tv cap c A J M g o w) (hr : 0 ≤ r ∧ r < M 0 3) (x2 x3 x4 : Int32) (r10 : _) : fL_isLike_183 r10 0 w x2 x3 x4 (ii r) (CW c A J) = fL_isLike_227 r10 0 w x2 x3 x4 (ii r) (CW c A J) := by
  obtain ⟨hM, hP, hS, hG⟩ := h.li
  obtain ⟨hI, hl, ⟨hW, hR⟩, hw, h4, h120⟩ := h
  have h38 := hM.1.2.1
  have hgr := hG.1.1 r hr.1 (by omega)
  have b0 := hgr.1
  obtain ⟨⟨w27, -⟩, wB, wP⟩ := hR.2.2.2.1 r hr.1 hr.2
  rw [fL_isLike_183, show (0 : Int32) = ii 0 from rfl]
  refine lp (fun f i (_ : Unit) => fL_isLike_186 r10 f 0 w x2 x3 x4 (ii r) (ii i) (CW c A J)) (fun x => x = fL_isLike_227 r10 0 w x2 x3 x4 (ii r) (CW c A J)) (fun i _ => 0 ≤ i) (cel g r 0) ?_ ?_ FU 0 () (by omega) (by omega) (by have := FU_e; omega)
  · rintro f i ⟨⟩ hi h0
    have e1 := d_block hI hl.1 hl.2 r i hr ⟨h0, hi⟩
    have e2 := wB i h0 hi
    refine Or.inr ⟨(), by omega, ?_⟩
    show fL_isLike_186 r10 (f + 1) 0 w x2 x3 x4 (ii r) (ii i) (CW c A J) = _
    rw [fL_isLike_186, wdR9 hW, wdA27 hW r _ (by omega), w27, if_neg (by rw [ii_le _ _ (by omega)]; omega), lkV hI.1, e1, k_C, q_I, wdR7 hW, wdB hW r _ (by omega), wdAB hW r i _ (by omega), e2, if_pos rfl, lt_q, show (1 : Int32) = ii 1 from rfl, ii_add]
  · rintro f ⟨⟩ h0
    rw [fL_isLike_186, wdR9 hW, wdA27 hW r _ (by omega), w27, if_pos (Int32.le_refl _)]
theorem n_like227 (h : LwS C0 N0 n pl sp tv cap c A J M g o w) (hr : 0 ≤ r ∧ r < M 0 3) (x2 x3 x4 : Int32) (r10 : _) : fL_isLike_227 r10 0 w x2 x3 x4 (ii r) (CW c A J) = fL_isLike_271 r10 0 w x2 x3 x4 (ii r) (CW c A J) := by
  obtain ⟨hM, hP, hS, hG⟩ := h.li
  obtain ⟨hI, hl, ⟨hW, hR⟩, hw, h4, h120⟩ := h
  have h38 := hM.1.2.1
  have hgr := hG.1.1 r hr.1 (by omega)
  have b1 := hgr.2.1
  obtain ⟨⟨-, w28, -⟩, wB, wP⟩ := hR.2.2.2.1 r hr.1 hr.2
  rw [fL_isLike_227, show (0 : Int32) = ii 0 from rfl]
  refine lp (fun f i (_ : Unit) => fL_isLike_230 r10 f 0 w x2 x3 x4 (ii r) (ii i) (CW c A J)) (fun x => x = fL_isLike_271 r10 0 w x2 x3 x4 (ii r) (CW c A J)) (fun i _ => 0 ≤ i) (cel g r 1) ?_ ?_ FU 0 () (by omega) (by omega) (by have := FU_e; omega)
  · rintro f i ⟨⟩ hi h0
    have e1 := d_piece hI hl.1 hl.2 r i hr ⟨h0, hi⟩
    have e2 := wP i h0 hi
    refine Or.inr ⟨(), by omega, ?_⟩
    show fL_isLike_230 r10 (f + 1) 0 w x2 x3 x4 (ii r) (ii i) (CW c A J) = _
    rw [fL_isLike_230, wdR10 hW, wdA28 hW r _ (by omega), w28, if_neg (by rw [ii_le _ _ (by omega)]; omega), lkV hI.1, e1, k_C, q_I, wdR8 hW, wdP hW r _ (by omega), wdAP hW r i _ (by omega), e2, if_pos rfl, lt_q, show (1 : Int32) = ii 1 from rfl, ii_add]
  · rintro f ⟨⟩ h0
    rw [fL_isLike_230, wdR10 hW, wdA28 hW r _ (by omega), w28, if_pos (Int32.le_refl _)]
theorem n_like271 (h : LwS C0 N0 n pl sp tv cap c A J M g o w) (hr : 0 ≤ r ∧ r < M 0 3) (x2 x3 x4 : Int32) (r10 : _) : fL_isLike_271 r10 0 w x2 x3 x4 (ii r) (CW c A J) = fL_isLike_333 r10 0 w x2 x3 x4 (ii r) (CW c A J) := by
  obtain ⟨hM, hP, hS, hG⟩ := h.li
  obtain ⟨hI, hl, ⟨hW, hR⟩, hw, h4, h120⟩ := h
  have h38 := hM.1.2.1
  have h9 := hM.1.2.2.2.2.2.2.2
  have hgr := hG.1.1 r hr.1 (by omega)
  have hgb := gapM_b hM hgr
  have wK := hR.1.2.1
  have hga := n_gap (J := J) hW hR hM hG h4 hr
  rw [fL_isLike_271, show (0 : Int32) = ii 0 from rfl]
  refine lp (fun f i (_ : Unit) => fL_isLike_274 r10 f 0 w x2 x3 x4 (ii r) (ii i) (CW c A J)) (fun x => x = fL_isLike_333 r10 0 w x2 x3 x4 (ii r) (CW c A J)) (fun i _ => 0 ≤ i) (M 0 9) ?_ ?_ FU 0 () (by omega) (by omega) (by have := FU_e; omega)
  · rintro f i ⟨⟩ hi h0
    have e1 := d_canPut hI hl.1 hl.2 r i hr ⟨h0, hi⟩
    obtain ⟨k1, k2, k3⟩ := hR.2.1 i h0 hi
    have hL := hG.GL i h0 (by omega)
    have hl2 := hM.2.2.1 i h0 (by omega)
    refine Or.inr ⟨(), by omega, ?_⟩
    show fL_isLike_274 r10 (f + 1) 0 w x2 x3 x4 (ii r) (ii i) (CW c A J) = _
    by_cases y : g (6 + i) ≤ 0
    · rw [if_neg (fun z => by omega)] at e1
      rw [fL_isLike_274, wdI14 hW, wK, if_neg (by rw [ii_le _ _ (by omega)]; omega), lkV hI.1, e1, k_C, q_I, wdR3 hW, wdA5 hW i _ (by omega), k3, if_pos (by rw [il0, ii_le _ _ (by omega)]; exact y), fL_isLike_321, fL_isLike_322, if_pos (show ii 0 = (0 : Int32) from rfl), lt_q, show (1 : Int32) = ii 1 from rfl, ii_add]
    · by_cases z : gapM M g r < M 2 i
      · rw [if_neg (fun z => by omega)] at e1
        rw [fL_isLike_274, wdI14 hW, wK, if_neg (by rw [ii_le _ _ (by omega)]; omega), lkV hI.1, e1, k_C, q_I, wdR3 hW, wdA5 hW i _ (by omega), k3, if_neg (by rw [il0, ii_le _ _ (by omega)]; exact y), wdR2 hW, wdA4 hW i _ (by omega), k1, wdV hW, hga, k_C, q_I, if_pos (by rw [ii_lt _ _ (by omega)]; exact z), fL_isLike_321, fL_isLike_322, if_pos (show ii 0 = (0 : Int32) from rfl), lt_q, show (1 : Int32) = ii 1 from rfl, ii_add]
      · rw [if_pos (show 0 < g (6 + i) ∧ M 2 i ≤ gapM M g r from ⟨by omega, by omega⟩)] at e1
        rw [fL_isLike_274, wdI14 hW, wK, if_neg (by rw [ii_le _ _ (by omega)]; omega), lkV hI.1, e1, k_C, q_I, wdR3 hW, wdA5 hW i _ (by omega), k3, if_neg (by rw [il0, ii_le _ _ (by omega)]; exact y), wdR2 hW, wdA4 hW i _ (by omega), k1, wdV hW, hga, k_C, q_I, if_neg (by rw [ii_lt _ _ (by omega)]; exact z), fL_isLike_322, if_pos (show ii 1 = (1 : Int32) from rfl), lt_q, show (1 : Int32) = ii 1 from rfl, ii_add]
  · rintro f ⟨⟩ h0
    rw [fL_isLike_274, wdI14 hW, wK, if_pos (Int32.le_refl _)]
/-- two ints in an array of their own -/
theorem n_two (hz : c.2.2.1 < 1000000) (a b : Int) : ∃ A1 : AI, (∀ k : Nat → AS → Option AR, nA (CW c A J) 100 2 (fun q s => uI s q 0 (ii a) (fun s1 => uI s1 q 1 (ii b) (fun s2 => k q s2))) = k c.2.2.1 (CW (nwC c 100 2) A1 (nwJ c J))) ∧ LX 1 2 c (nwC c 100 2) A A1 J (nwJ c J) ∧ okc (nwC c 100 2) c.2.2.1 100 2 ∧ A1 c.2.2.1 0 = a ∧ A1 c.2.2.1 1 = b := by
  have o1 : okc (nwC c 100 2) c.2.2.1 100 2 := ⟨Nat.lt_succ_self _, if_pos rfl⟩
  refine ⟨up (up (nwA c A) c.2.2.1 0 a) c.2.2.1 1 b, fun k => ?_, ((LX.new c A J 100 2).upN _ _ _ (Nat.le_refl _)).upN _ _ _ (Nat.le_refl _), o1, by rw [up_n _ _ _ _ _ _ (by omega), up_s], up_s _ _ _ _⟩
  rw [k_nA (n := 2) _ hz ⟨rfl, by decide, by omega⟩, show (0 : Int32) = ii 0 from rfl, k_uI o1 0 a (by omega), show (1 : Int32) = ii 1 from rfl, k_uI o1 1 b (by omega)]
end LK2
