/-! THE LAW: looks, to the end -/
section LO2
variable {C0 N0 n : Nat} {c c0 c' c2 : CC} {A A0 A' A2 : AI} {J J0 J' J2 : JI} {M : AI} {g o : Int → Int} {pl sp tv cap tv' cap' B tvb capb k m w d : Nat} {p p' : TP} {q r : Int}
theorem n_looks398 (hh : LwD C0 N0 n pl sp tv cap c A J M g w d q) (B : Nat) : fL_looks_398 FU 0 w B 1 (CW c A J) = fL_looks_447 0 B (CW c A J) := by
  have hM := hh.1.li.1
  have hG := hh.1.li.2.2.2
  have h38 := hM.1.2.1
  have h39 := hM.1.2.2.2.2.2.2.2
  have h4 := hh.1.2.2.2.2.1
  have hW := hh.1.2.2.1.1
  have hR := hh.1.2.2.1.2
  have hl := hh.1.2.1.1
  have h0 := hh.1.2.1.2
  have hk : ∀ k, 0 ≤ k → k < M 0 9 → (A (w + 8) k = M 1 k ∧ A (w + 4) k = M 2 k) ∧ (0 ≤ M 1 k ∧ M 1 k ≤ 1) ∧ 0 ≤ M 2 k ∧ M 2 k ≤ 99 := fun k a b => ⟨⟨(hR.2.1 k a b).2.1, (hR.2.1 k a b).1⟩, hM.2.1 k a (by omega), hM.2.2.1 k a (by omega)⟩
  rw [show fL_looks_398 FU 0 w B 1 (CW c A J) = fL_looks_398 FU 0 w B (ii 1) (CW c A J) from rfl]
  refine lp (fun f i (_ : Unit) => fL_looks_398 f 0 w B (ii i) (CW c A J)) (fun x => x = fL_looks_447 0 B (CW c A J)) (fun i _ => 1 ≤ i) 100 ?_ ?_ FU 1 () (by omega) (by omega) (by have := FU_e; omega)
  · rintro f i ⟨⟩ hi hi0
    have e1 := d_kindOf hh.1.1 hl h0 1 i (by omega) (by omega)
    have e2 := n_kind (J := J) hW 1 i ⟨h39.1, h4⟩ hR.1.2.1 hk (by omega) (by omega)
    have e3 := d_kindOf hh.1.1 hl h0 0 i (by omega) (by omega)
    have e4 := n_kind (J := J) hW 0 i ⟨h39.1, h4⟩ hR.1.2.1 hk (by omega) (by omega)
    have f1 : ∀ K : Int32 → AS → Option AR, cV (CW c A J) 0 10 (fX6_kindOf 0 1 (ii i) (CW c A J)) (qI K) = K (ii (fdN (M 1) (M 2) 1 i 0 (M 0 9).toNat)) (CW c A J) := fun K => by
      rw [show fX6_kindOf 0 1 (ii i) (CW c A J) = fX6_kindOf 0 (ii 1) (ii i) (CW c A J) from rfl, lkV hh.1.1.1, e1, k_C, q_I]
    have f2 : ∀ K : Int32 → AS → Option AR, cV (CW c A J) w 13 (fX19_kind w 1 (ii i) (CW c A J)) (qI K) = K (ii (fdN (M 1) (M 2) 1 i 0 (M 0 9).toNat)) (CW c A J) := fun K => by
      rw [show fX19_kind w 1 (ii i) (CW c A J) = fX19_kind w (ii 1) (ii i) (CW c A J) from rfl, wdV hW, e2, k_C, q_I]
    have f3 : ∀ K : Int32 → AS → Option AR, cV (CW c A J) 0 10 (fX6_kindOf 0 0 (ii i) (CW c A J)) (qI K) = K (ii (fdN (M 1) (M 2) 0 i 0 (M 0 9).toNat)) (CW c A J) := fun K => by
      rw [show fX6_kindOf 0 0 (ii i) (CW c A J) = fX6_kindOf 0 (ii 0) (ii i) (CW c A J) from rfl, lkV hh.1.1.1, e3, k_C, q_I]
    have f4 : ∀ K : Int32 → AS → Option AR, cV (CW c A J) w 13 (fX19_kind w 0 (ii i) (CW c A J)) (qI K) = K (ii (fdN (M 1) (M 2) 0 i 0 (M 0 9).toNat)) (CW c A J) := fun K => by
      rw [show fX19_kind w 0 (ii i) (CW c A J) = fX19_kind w (ii 0) (ii i) (CW c A J) from rfl, wdV hW, e4, k_C, q_I]
    refine Or.inr ⟨(), by omega, ?_⟩
    show fL_looks_398 (f + 1) 0 w B (ii i) (CW c A J) = _
    rw [fL_looks_398, show (100 : Int32) = ii 100 from rfl, if_neg (by rw [ii_le _ _ (by omega)]; omega), f1, f2, if_pos rfl, f3, f4, if_pos rfl, lt_q, ii_s]
  · rintro f ⟨⟩ hi0
    rw [fL_looks_398, show (100 : Int32) = ii 100 from rfl, if_pos (Int32.le_refl _)]
theorem TG.by (h : TG c A B tvb capb p) (i : Int) (h0 : 0 ≤ i) (h1 : i < p.1) : 0 ≤ p.2 i ∧ p.2 i ≤ 127 := by
  have := h.2.2.2.2 i h0 (by have := h.2.2.1.2.1; omega)
  rw [h.2.2.2.1 i h0 h1] at this
  exact this
theorem k_tT (h : TG c A B tvb capb p) (hz : c.2.2.1 + 2 < 1000000) : ∃ (c' : CC) (A' : AI) (J' : JI), (∀ K : Nat → AS → Option AR, cV (CW c A J) B 1 (fJ4_toString_0e30d B (CW c A J)) (qR K) = K c.2.2.1 (CW c' A' J')) ∧ isStr c' A' c.2.2.1 p.1.toNat p.2 ∧ LX 2 (4 + p.1.toNat) c c' A A' J J' ∧ c'.2.2.1 = c.2.2.1 + 2 := by
  obtain ⟨c', A', J', e1, e2, e3, e4⟩ := u_str (J := J) h hz (fun i a b => TG.by h i a b)
  have x := NC.lx (m := 4 + p.1.toNat) e3 (by omega)
  refine ⟨c', A', J', fun K => ?_, e2, x, e4.1⟩
  rw [k_V h.1.1, e1, k_Cl x.le, q_R]
theorem n_looks447 (hh : LwD C0 N0 n pl sp tv cap c0 A0 J0 M g w d q) (hro : RQ C0 N0 n cap c0 200 600) (hb : BX 2 27 c0 c A0 A J0 J B tvb capb (stP (M 1) (M 2) g (M 0 9).toNat)) : LokR C0 N0 n pl sp w d c0 cap M g q 200 600 (fL_looks_447 0 B (CW c A J)) := by
  have hM := hh.1.li.1
  have hG := hh.1.li.2.2.2
  have h38 := hM.1.2.1
  have h39 := hM.1.2.2.2.2.2.2.2
  have h4 := hh.1.2.2.2.2.1
  have hz : zB = 900000 := zB_e
  have hcap := hh.capB
  have hl9 : ∀ k, 0 ≤ k → k < 10 → M 2 k ≤ 99 := fun k a b => (hM.2.2.1 k a b).2
  have hs1 := stP_b (met := M 1) (len := M 2) (g := g) (M 0 9) h39.2 hl9 (M 0 9).toNat (by omega)
  have hc1 := hb.2.2.2
  have hle := hb.1.1.1
  have hbz := hb.1.2.1
  have htv := hh.tvlt
  have hw := hh.1.2.2.2.1
  have h1 := hh.lx hb.1 (by omega)
  have g1 := hb.1.grc (cap := cap)
  obtain ⟨c2, A2, J2, tv2, cap2, e2, hI2, hL2⟩ := d_writeStock h1.1.1 h1.1.2.1.1 h1.1.2.1.2
  have h2 := h1.txt hI2 hL2
  have g2 := hL2.grc
  have hcap2 := h2.capB
  obtain ⟨hB1, hB2⟩ := hb.2.2.1
  have t2 := hb.2.1.tl hL2 h1.1.1.1.2.2.2.2.1.2.1 ⟨by omega, by omega, by omega, by omega⟩ (by omega)
  have t1 := txM_T M (stP (M 1) (M 2) g (M 0 9).toNat)
  obtain ⟨c3, A3, J3, e3, s3, x3, z3⟩ := k_tT (J := J2) t2 (by omega)
  have h3 := h2.lx x3 (by omega)
  have g3 := x3.grc (cap := cap2)
  obtain ⟨c4, A4, J4, e4, x4⟩ := n_isT (J := J3) h3 s3 (t1.1.trans (by omega)) (fun i u v => t1.2 i u (by omega)) (by omega) (x := ii (stP (M 1) (M 2) g (M 0 9).toNat).1) (by rw [t1.1])
  have h4 := h3.lx x4 (by omega)
  have g4 := x4.grc (cap := cap2)
  refine ⟨c4, A4, J4, _, tv2, cap2, ?_, h4, txM_K _ _, by omega⟩
  rw [fL_looks_447, lkV h1.1.1.1, e2, k_Cl hL2.1, q_I, e3, e4]
  exact rZ_1 _
theorem n_looks (hh : LwD C0 N0 n pl sp tv cap c A J M g w d q) (hro : RQ C0 N0 n cap c 200 600) : LokR C0 N0 n pl sp w d c cap M g q 200 600 (fL_looks 0 w (CW c A J)) := by
  have hM := hh.1.li.1
  have hG := hh.1.li.2.2.2
  have h38 := hM.1.2.1
  have h39 := hM.1.2.2.2.2.2.2.2
  have h4 := hh.1.2.2.2.2.1
  have hz : zB = 900000 := zB_e
  have hcap := hh.capB
  have hpl := hh.plE
  have hw := hh.1.2.2.2.1
  obtain ⟨c1, A1, J1, t1, k1, e1, b1⟩ := k_bI (c := c) (A := A) (J := J) (by omega)
  obtain ⟨c2, A2, J2, t2, k2, v, e2, b2, hv⟩ := n_looks137 hh (by omega) b1 (ii (wgN (gapM M g) (M 0 3 - 1).toNat)) (ii (lsN (fun r => cel g r 0) (fun r => cel g r 4 + 10 * gapM M g r) (M 0 3).toNat)) (ii (sm (gapM M g) (M 0 3))) (ii (sm (suW (M 1) g) (M 0 3))) (ii (sm (fun r => cel g r 1) (M 0 3)))
  have hl9 : ∀ k, 0 ≤ k → k < 10 → M 2 k ≤ 99 := fun k a b => (hM.2.2.1 k a b).2
  have hs1 := stP_b (met := M 1) (len := M 2) (g := g) (M 0 9) h39.2 hl9 (M 0 9).toNat (by omega)
  have hc1 := b2.2.2.2
  have h2 := hh.lx b2.1 (by omega)
  have hI := h2.1.1
  have hl := h2.1.2.1.1
  have h0 := h2.1.2.1.2
  have hW := h2.1.2.2.1.1
  have hR := h2.1.2.2.1.2
  have s1 := hR.1.1.2.1
  obtain ⟨v1, v2⟩ : A2 (w + 7) 0 = g 1 ∧ A2 (w + 7) 1 = g 2 := ⟨hR.2.2.1.1, hR.2.2.1.2.1⟩
  have eo : A2 (pl + 3) = A (pl + 3) := funext fun z => b2.1.2.2.1 _ z (by omega) (fun y => by have := scC_lt y; omega)
  obtain ⟨u, f3, hu⟩ := d_longestLeft hI hl h0
  rw [eo] at hu
  have huv := isFst_u hu hv
  have f1 := d_widestGap hI hl h0
  have f2 := d_loosest hI hl h0
  have f4 := d_lengthLeft hI hl h0
  rw [show sm (fun k => g (6 + k) * M 2 k) (M 0 9) = sm (fun k => M 2 k * g (6 + k)) (M 0 9) from sm_c _ _ _ (fun k _ _ => Int.mul_comm _ _)] at f4
  have f5 := d_meanGap hI hl h0
  have f6 := d_woodShare hI hl h0
  have f7 := d_goodShare hI hl h0
  have f8 := n_looks398 h2 c.2.2.1
  have n3 : ii (M 0 3) ≠ 0 := by
    rw [il0]
    intro e
    rw [ii_eq _ _ (by omega)] at e
    omega
  obtain ⟨c9, A9, J9, M9, tv9, cap9, e9, h9, kp9, g9⟩ := n_looks447 hh hro b2
  refine ⟨c9, A9, J9, M9, tv9, cap9, ?_, h9, kp9, g9⟩
  rw [n_looks22 hh, fL_looks_125, e1, e2]
  have h327 : fL_looks_327 0 w (ii (wgN (gapM M g) (M 0 3 - 1).toNat)) (ii (lsN (fun r => cel g r 0) (fun r => cel g r 4 + 10 * gapM M g r) (M 0 3).toNat)) (ii v) (ii (sm (fun k => M 2 k * g (6 + k)) (M 0 9))) c.2.2.1 (FP.ddiv (FP.i2d (ii (sm (gapM M g) (M 0 3)))) (FP.i2d (ii (M 0 3)))) (shF (ii (sm (suW (M 1) g) (M 0 3))) (ii (sm (fun r => cel g r 1) (M 0 3)))) (shF (ii (g 2)) (ii (g 1))) (CW c2 A2 J2) = some (Sum.inl (some (Value.int (ii (1)))), CW c9 A9 J9) := by
    rw [fL_looks_327, lkV hI.1, f1, k_C, q_I, if_pos rfl, lkV hI.1, f2, k_C, q_I, if_pos rfl, lkV hI.1, f3, k_C, q_I, if_pos (by rw [huv]), lkV hI.1, f4, k_C, q_I, if_pos rfl, lkV hI.1, f5, k_C, q_D, if_pos (cm_d _ (nn_d _ _ n3)), lkV hI.1, f6, k_C, q_F, if_pos (cm_f _ (shF_n _ _)), lkV hI.1, f7, k_C, q_F, if_pos (cm_f _ (shF_n _ _)), f8]
    exact e9
  have h297 : fL_looks_297 0 w (ii (wgN (gapM M g) (M 0 3 - 1).toNat)) (ii (lsN (fun r => cel g r 0) (fun r => cel g r 4 + 10 * gapM M g r) (M 0 3).toNat)) (ii v) (ii (sm (fun k => M 2 k * g (6 + k)) (M 0 9))) c.2.2.1 (FP.ddiv (FP.i2d (ii (sm (gapM M g) (M 0 3)))) (FP.i2d (ii (M 0 3)))) (shF (ii (sm (suW (M 1) g) (M 0 3))) (ii (sm (fun r => cel g r 1) (M 0 3)))) (CW c2 A2 J2) = some (Sum.inl (some (Value.int (ii (1)))), CW c9 A9 J9) := by
    rw [fL_looks_297, wdR5 hW, wd7 hW 0 0 rfl (by omega), v1]
    by_cases y : ii (g 1) = 0
    · have z : shF (ii (g 2)) (ii (g 1)) = 0 := if_pos y
      rw [z] at h327
      rw [if_pos y]
      exact h327
    · have z : shF (ii (g 2)) (ii (g 1)) = FP.fdiv (FP.i2f (ii (g 2))) (FP.i2f (ii (g 1))) := if_neg y
      rw [if_neg y, wdR5 hW, wd7 hW 1 1 rfl (by omega), v2, wdR5 hW, wd7 hW 0 0 rfl (by omega), v1, if_pos (nn32 (nn_f _ _ y)), ← z]
      exact h327
  rw [fL_looks_268, wdR1 hW, wd3 hW 1 1 rfl (by omega), s1, if_pos (nn64 (nn_d _ _ n3))]
  by_cases y : ii (sm (fun r => cel g r 1) (M 0 3)) = 0
  · have z : shF (ii (sm (suW (M 1) g) (M 0 3))) (ii (sm (fun r => cel g r 1) (M 0 3))) = 0 := if_pos y
    rw [z] at h297
    rw [if_pos y]
    exact h297
  · have z : shF (ii (sm (suW (M 1) g) (M 0 3))) (ii (sm (fun r => cel g r 1) (M 0 3))) = FP.fdiv (FP.i2f (ii (sm (suW (M 1) g) (M 0 3)))) (FP.i2f (ii (sm (fun r => cel g r 1) (M 0 3)))) := if_neg y
    rw [if_neg y, if_pos (nn32 (nn_f _ _ y)), ← z]
    exact h297
end LO2
