/-! THE LAW: is the chase like the World? from row to row -/
section LK4
variable {C0 N0 n : Nat} {c c' c2 : CC} {A A' A2 : AI} {J J' J2 : JI} {M : AI} {g o : Int → Int} {pl sp tv cap k m w q : Nat} {r : Int}
theorem n_likeRow (h : LwS C0 N0 n pl sp tv cap c A J M g o w) (hr : 0 ≤ r ∧ r < M 0 3) (hro : RO C0 N0 n cap c 7 35) (b p : Int) (x4 : Int32) (f : Nat) : ∃ (c' : CC) (A' : AI) (J' : JI), fL_isLike_10 (f + 1) 0 w (ii b) (ii p) x4 (ii r) (CW c A J) = fL_isLike_10 f 0 w (ii (b + cel g r 0)) (ii (p + cel g r 1)) x4 (ii (r + 1)) (CW c' A' J') ∧ LX 7 35 c c' A A' J J' := by
  obtain ⟨hM, hP, hS, hG⟩ := h.li
  have h38 := hM.1.2.1
  obtain ⟨hW, hR⟩ := h.2.2.1
  have s1 := hR.1.1.2.1
  have w29 := (hR.2.2.2.1 r hr.1 hr.2).1.2.2.1
  have hgr := hG.1.1 r hr.1 (by omega)
  have b2 := hgr.2.2.2.2.1
  obtain ⟨A1, e1, x1, q1⟩ := n_its h r hr (by omega) (ii b) (ii p) x4 (fL_isLike_10 f)
  have h1 := h.lx x1 (by omega)
  have z1 : (nwC c 100 9).2.2.1 = c.2.2.1 + 1 := rfl
  have z2 : (nwC c 100 9).2.2.2.1 = c.2.2.2.1 + 1 := rfl
  have z3 : (nwC c 100 9).2.2.2.2 = c.2.2.2.2 + 9 := rfl
  have o1 : okc (nwC c 100 9) c.2.2.1 100 9 := ⟨Nat.lt_succ_self _, if_pos rfl⟩
  have e2 := n_like152 h1 hr o1 q1 (ii b) (ii p) x4 (fL_isLike_10 f)
  have e3 := n_like183 h1 hr (ii b) (ii p) x4 (fL_isLike_10 f)
  have e4 := n_like227 h1 hr (ii b) (ii p) x4 (fL_isLike_10 f)
  have e5 := n_like271 h1 hr (ii b) (ii p) x4 (fL_isLike_10 f)
  obtain ⟨c2, A2, J2, e6, x2⟩ := n_like333 h1 hr (by omega) b p x4 (fL_isLike_10 f)
  refine ⟨c2, A2, J2, ?_, x1.trans x2⟩
  rw [← e6, ← e5, ← e4, ← e3, ← e2, ← e1]
  rw [fL_isLike_10, wdR1 hW, show (1 : Int32) = ii 1 from rfl, wdA3 hW 1 _ (by omega), s1, if_neg (by rw [ii_le _ _ (by omega)]; omega), wdR11 hW, wdA29 hW r _ (by omega), w29]
  by_cases y : cel g r 2 = -1
  · rw [if_pos y, if_pos (by rw [il0, ii_lt _ _ (by omega)]; omega)]
    rfl
  · rw [if_neg y, if_neg (by rw [il0, ii_lt _ _ (by omega)]; omega)]
theorem n_likeRows (h : LwS C0 N0 n pl sp tv cap c A J M g o w) (hro : RO C0 N0 n cap c 56 280) (x4 : Int32) : ∃ (c' : CC) (A' : AI) (J' : JI), fL_isLike_10 FU 0 w (ii 0) (ii 0) x4 (ii 0) (CW c A J) = fL_isLike_430 0 w (ii (sm (fun r => cel g r 0) (M 0 3))) (ii (sm (fun r => cel g r 1) (M 0 3))) x4 (CW c' A' J') ∧ LX 56 280 c c' A A' J J' := by
  obtain ⟨hM, hP, hS, hG⟩ := h.li
  have h38 := hM.1.2.1
  refine lp (fun f r (s : (CC × AI × JI) × Int × Int) => fL_isLike_10 f 0 w (ii s.2.1) (ii s.2.2) x4 (ii r) (CW s.1.1 s.1.2.1 s.1.2.2)) (fun x => ∃ (c' : CC) (A' : AI) (J' : JI), x = fL_isLike_430 0 w (ii (sm (fun r => cel g r 0) (M 0 3))) (ii (sm (fun r => cel g r 1) (M 0 3))) x4 (CW c' A' J') ∧ LX 56 280 c c' A A' J J')
    (fun r s => (0 ≤ r ∧ s.2.1 = sm (fun r => cel g r 0) r ∧ s.2.2 = sm (fun r => cel g r 1) r) ∧ LX (7 * r.toNat) (35 * r.toNat) c s.1.1 A s.1.2.1 J s.1.2.2) (M 0 3) ?_ ?_ FU 0 ((c, A, J), 0, 0) (by omega) ⟨⟨by omega, by rw [sm_0], by rw [sm_0]⟩, LX.refl c A J⟩ (by have := FU_e; omega)
  · rintro f r ⟨⟨c1, A1, J1⟩, b, p⟩ hr ⟨⟨hI, hb, hp⟩, hx⟩
    dsimp only at hb hp hx ⊢
    have h1 := h.lx hx (by omega)
    have b1 := hx.2.1
    obtain ⟨c2, A2, J2, e1, x2⟩ := n_likeRow h1 ⟨hI, hr⟩ (by omega) b p x4 f
    refine Or.inr ⟨((c2, A2, J2), b + cel g r 0, p + cel g r 1), ⟨⟨by omega, by dsimp only; rw [sm_s _ _ hI, hb], by dsimp only; rw [sm_s _ _ hI, hp]⟩, ?_⟩, e1⟩
    have := hx.trans x2
    rw [show (r + 1).toNat = r.toNat + 1 by omega]
    exact this.mono (by omega) (by omega)
  · rintro f ⟨⟨c1, A1, J1⟩, b, p⟩ ⟨⟨hI, hb, hp⟩, hx⟩
    dsimp only at hb hp hx ⊢
    have h1 := h.lx hx (by omega)
    obtain ⟨hW, hR⟩ := h1.2.2.1
    have s1 := hR.1.1.2.1
    refine ⟨c1, A1, J1, ?_, hx.mono (by omega) (by omega)⟩
    rw [fL_isLike_10, wdR1 hW, show (1 : Int32) = ii 1 from rfl, wdA3 hW 1 _ (by omega), s1, if_pos (Int32.le_refl _), hb, hp]
end LK4
