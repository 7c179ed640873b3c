/-! THE LAW: is the chase like the World? kinds -/
section LK7
variable {C0 N0 n : Nat} {c c' c2 : CC} {A A' A2 : AI} {J J' J2 : JI} {M : AI} {g o : Int → Int} {pl sp tv cap k m w q : Nat} {r : Int}
theorem n_like462 (h : LwS C0 N0 n pl sp tv cap c A J M g o w) (hr : 0 ≤ r ∧ r < M 0 3) (x2 x3 x4 : Int32) (kd s0 : Int) (hk : 0 ≤ kd ∧ kd < M 0 9) (hs : 0 ≤ s0 ∧ s0 ≤ 100000) (r433 r448 : _) : fL_isLike_462 r433 r448 FU 0 w x2 x3 x4 (ii kd) (ii s0) (ii r) (ii 0) (CW c A J) = fL_isLike_505 r433 r448 0 w x2 x3 x4 (ii kd) (ii (s0 + cnt g r kd)) (ii r) (CW c A J) := by
  obtain ⟨hM, hP, hS, hG⟩ := h.li
  obtain ⟨hI, hl, ⟨hW, hR⟩, hw, h4, h120⟩ := h
  have h38 := hM.1.2.1
  have hgr := hG.1.1 r hr.1 (by omega)
  have b1 := hgr.2.1
  obtain ⟨⟨-, w28, -⟩, wB, wP⟩ := hR.2.2.2.1 r hr.1 hr.2
  refine lp (fun f i (s : Int) => fL_isLike_462 r433 r448 f 0 w x2 x3 x4 (ii kd) (ii s) (ii r) (ii i) (CW c A J)) (fun x => x = fL_isLike_505 r433 r448 0 w x2 x3 x4 (ii kd) (ii (s0 + cnt g r kd)) (ii r) (CW c A J)) (fun i s => 0 ≤ i ∧ s = s0 + sm (fun j => if cel g r (11 + j) = kd then 1 else 0) i) (cel g r 1) ?_ ?_ FU 0 s0 (by omega) ⟨by omega, by rw [sm_0]; omega⟩ (by have := FU_e; omega)
  · rintro f i s hi ⟨h0, hs⟩
    have e2 := wP i h0 hi
    have e3 := hgr.2.2.2.1 i h0 hi
    refine Or.inr ⟨s + (if cel g r (11 + i) = kd then 1 else 0), ⟨by omega, by rw [sm_s _ _ h0, hs]; omega⟩, ?_⟩
    show fL_isLike_462 r433 r448 (f + 1) 0 w x2 x3 x4 (ii kd) (ii s) (ii r) (ii i) (CW c A J) = _
    rw [fL_isLike_462, wdR10 hW, wdA28 hW r _ (by omega), w28, if_neg (by rw [ii_le _ _ (by omega)]; omega), wdR8 hW, wdP hW r _ (by omega), wdAP hW r i _ (by omega), e2]
    by_cases y : cel g r (11 + i) = kd
    · rw [if_pos y, if_pos (by rw [y]), fL_isLike_496, lt_q, lt_q, show (1 : Int32) = ii 1 from rfl, ii_add, ii_add]
    · rw [if_neg y, if_neg (by rw [ii_eq _ _ (by omega)]; exact y), fL_isLike_496, lt_q, lt_q, show (1 : Int32) = ii 1 from rfl, show (0 : Int32) = ii 0 from rfl, ii_add, ii_add]
  · rintro f s ⟨h0, hs⟩
    rw [fL_isLike_462, wdR10 hW, wdA28 hW r _ (by omega), w28, if_pos (Int32.le_refl _), hs]
    rfl
theorem n_like448 (h : LwS C0 N0 n pl sp tv cap c A J M g o w) (x2 x3 x4 : Int32) (kd : Int) (hk : 0 ≤ kd ∧ kd < M 0 9) (r433 : _) : fL_isLike_448 r433 FU 0 w x2 x3 x4 (ii kd) (ii 0) (ii 0) (CW c A J) = fL_isLike_511 r433 0 w x2 x3 x4 (ii kd) (ii (sm (fun r => cnt g r kd) (M 0 3))) (CW c A J) := by
  obtain ⟨hM, hP, hS, hG⟩ := h.li
  have h38 := hM.1.2.1
  have s1 := h.2.2.1.2.1.1.2.1
  have hW := h.2.2.1.1
  refine lp (fun f i (s : Int) => fL_isLike_448 r433 f 0 w x2 x3 x4 (ii kd) (ii s) (ii i) (CW c A J)) (fun x => x = fL_isLike_511 r433 0 w x2 x3 x4 (ii kd) (ii (sm (fun r => cnt g r kd) (M 0 3))) (CW c A J)) (fun i s => (0 ≤ i ∧ 0 ≤ s ∧ s ≤ 1000 * i) ∧ s = sm (fun r => cnt g r kd) i) (M 0 3) ?_ ?_ FU 0 0 (by omega) ⟨by omega, by rw [sm_0]⟩ (by have := FU_e; omega)
  · rintro f i s hi ⟨h0, hs⟩
    have cb := cnt_b (hG.1.1 i h0.1 (by omega)) kd
    have cb1 := (hG.1.1 i h0.1 (by omega)).2.1
    refine Or.inr ⟨s + cnt g i kd, ⟨by omega, by rw [sm_s _ _ h0.1, hs]⟩, ?_⟩
    show fL_isLike_448 r433 (f + 1) 0 w x2 x3 x4 (ii kd) (ii s) (ii i) (CW c A J) = _
    have e1 := n_like462 h ⟨h0.1, hi⟩ x2 x3 x4 kd s hk (by omega) r433 (fL_isLike_448 r433 f)
    rw [fL_isLike_448, wdR1 hW, show (1 : Int32) = ii 1 from rfl, wdA3 hW 1 _ (by omega), s1, if_neg (by rw [ii_le _ _ (by omega)]; omega), show (0 : Int32) = ii 0 from rfl, e1, fL_isLike_505, lt_q, show (1 : Int32) = ii 1 from rfl, ii_add]
  · rintro f s ⟨h0, hs⟩
    rw [fL_isLike_448, wdR1 hW, show (1 : Int32) = ii 1 from rfl, wdA3 hW 1 _ (by omega), s1, if_pos (Int32.le_refl _), hs]
end LK7
