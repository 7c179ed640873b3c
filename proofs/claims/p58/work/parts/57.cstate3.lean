/-! THE CLASS'S STATES: what falls, impressions, days, counts -/
theorem SR_lo {A A' : AI} {J : JI} {S : Nat} {len g g' : Int → Int} {f f' : Int} (h : SR A J S len g f) (hg : GR g) (hA : ∀ (b : Nat) (z : Int), b ≠ S → A' b z = A b z) (e : ∀ r w, 0 ≤ r → r < 8 → 0 ≤ w → w < 512 → cel g' r w = cel g r w) (e6 : ∀ k, 0 ≤ k → k < 10 → g' (6 + k) = g (6 + k))
    (hlo : A' S 2 = g' 0 ∧ A' S 3 = g' 1 ∧ A' S 4 = g' 2 ∧ A' S 5 = g' 3 ∧ A' S 6 = g' 4 ∧ A' S 7 = f') : SR A' J S len g' f' := by
  refine ⟨⟨hlo, fun k a b => by rw [hA _ _ (by omega), e6 k a b]; exact h.1.2 k a b⟩, fun r a b => RR.frame (h.2 r a b) (hg r a b) (fun x z hx => hA x z (rc_in ⟨a, b⟩ hx).1.2.1) (fun _ _ _ => rfl) (fun w p q => e r w a b p q)⟩
theorem sm_tail (f : Int → Int) (n m : Int) (h : 0 ≤ n ∧ n ≤ m) (hz : ∀ k, n ≤ k → k < m → f k = 0) : sm f m = sm f n := by
  have key : ∀ j : Nat, n + j ≤ m → sm f (n + j) = sm f n := by
    intro j
    induction j with
    | zero => intro _; rw [show n + ((0 : Nat) : Int) = n by omega]
    | succ j ih =>
      intro hj
      rw [show n + ((j + 1 : Nat) : Int) = n + (j : Int) + 1 by omega, sm_s _ _ (by omega), ih (by omega), hz _ (by omega) (by omega)]
      omega
  have := key (m - n).toNat (by omega)
  rw [show n + (((m - n).toNat : Nat) : Int) = m by omega] at this
  exact this
theorem SR_noB {A : AI} {J : JI} {S : Nat} {len g : Int → Int} {f : Int} (h : SR A J S len g f) (hg : GR g) (r : Int) (hr : 0 ≤ r ∧ r < 8) : SR (up (up A (rc S r) 1 0) (rc S r) 2 0) J S len (gpu g r 0 0) f := by
  have hrr := h.2 r hr.1 hr.2
  have hgr := hg r hr.1 hr.2
  have iR : inR (rc S r) (rc S r) := by unfold inR; omega
  have hne := (rc_in hr iR).1.2
  have ec := fun (r2 w : Int) (a : 0 ≤ r2) (b : 0 ≤ w ∧ w < 512) => cel_pu g r 0 0 r2 w ⟨by omega, b⟩
  refine SR_upd h hg r hr ?_ ⟨?_, fun k a b => ?_⟩ (fun b z p q s _ => by rw [up_n _ _ _ _ _ _ (fun e => s (by rw [e.1]; exact iR)), up_n _ _ _ _ _ _ (fun e => s (by rw [e.1]; exact iR))]) (fun _ _ _ _ => rfl) (fun r2 w a b p d e => by rw [ec r2 w a ⟨d, e⟩, if_neg (by omega)])
  · obtain ⟨⟨e1, e2, e4, e5, e7, e8, e9⟩, hB, hp, hc⟩ := hrr
    have h2 := hgr.2.1
    have n1 : cel (gpu g r 0 0) r 1 = cel g r 1 := by rw [ec r 1 hr.1 (by omega), if_neg (by omega)]
    have np : ∀ k, 0 ≤ k → k < cel g r 1 → cel (gpu g r 0 0) r (11 + k) = cel g r (11 + k) := fun k a b => by rw [ec r _ hr.1 (by omega), if_neg (by omega)]
    unfold RR
    rw [suP_cong n1 np, n1, ec r 0 hr.1 (by omega), if_pos (by omega), ec r 2 hr.1 (by omega), if_neg (by omega), ec r 3 hr.1 (by omega), if_neg (by omega), ec r 4 hr.1 (by omega), if_neg (by omega)]
    refine ⟨?_, fun k a b => by omega, fun k a b => by rw [np k a b]; exact hp k a b, fun k a b => ?_⟩
    · unfold suB
      rw [ec r 0 hr.1 (by omega), if_pos (by omega), sm_0]
      simp (disch := first | assumption | omega) only [up_s, up_n]
      exact ⟨trivial, trivial, e4, e5, e7, e8, e9⟩
    · rw [cnt_cong n1 np, up_n _ _ _ _ _ _ (by omega), up_n _ _ _ _ _ _ (by omega)]; exact hc k a b
  · rw [gpu_lo _ _ _ _ _ (by omega), gpu_lo _ _ _ _ _ (by omega), gpu_lo _ _ _ _ _ (by omega), gpu_lo _ _ _ _ _ (by omega), gpu_lo _ _ _ _ _ (by omega)]
    simp (disch := first | assumption | omega) only [up_n]
    exact h.1.1
  · rw [gpu_lo _ _ _ _ _ (by omega), up_n _ _ _ _ _ _ (by omega), up_n _ _ _ _ _ _ (by omega)]; exact h.1.2 k a b
section CST3
variable {c : CC} {A : AI} {J : JI} {S Q : Nat} {M : AI} {len g : Int → Int} {f : Int}
theorem s_dropLoose (hS : isState c S) (hQ : isPlan c Q) (ha : apQ Q S) (h : SR A J S (M 2) g (g 5)) (hg : GR g) (hz : QZ g) (hM : SA M) (hP : A Q 0 = M 0 2 ∧ A Q 2 = M 0 4 ∧ A Q 6 = M 0 8) (hzr : ∀ r, M 0 3 ≤ r → r < 8 → cel g r 0 = 0) :
    ∃ A', fX5_dropLooseRows S Q (CW c A J) = some (Sum.inl (some (Value.int (ii ((lkN M g (M 0 3).toNat).2 5 - g 5)))), CW c A' J) ∧ SR A' J S (M 2) (lkN M g (M 0 3).toNat).2 ((lkN M g (M 0 3).toNat).2 5) ∧ frm (inS S) A A' J J := by
  have h3 := hM.1.2.1
  have h8 := hM.1.2.2.2.2.2.2.1
  have i0 : inS S S := by unfold inS; omega
  have hQS : ∀ b : Nat, Q ≤ b → b < Q + 4 → ¬ inS S b := fun b p q z => by unfold inS at z; omega
  have htail : lkN M g 8 = lkN M g (M 0 3).toNat := by
    have := lkN_tail (M := M) (g := g) (M 0 3).toNat (fun r a b => hzr r (by omega) b) (8 - (M 0 3).toNat) (by omega)
    rw [show (M 0 3).toNat + (8 - (M 0 3).toNat) = 8 by omega] at this
    exact this
  rw [← htail]
  simp only [fX5_dropLooseRows, il0]
  refine lp (fun n i (t : Int × AI) => fX5_dropLooseRows_4 n S Q (ii t.1) (ii i) (CW c t.2 J)) (fun x => ∃ A', x = some (Sum.inl (some (Value.int (ii ((lkN M g 8).2 5 - g 5)))), CW c A' J) ∧ SR A' J S (M 2) (lkN M g 8).2 ((lkN M g 8).2 5) ∧ frm (inS S) A A' J J)
    (fun i t => (0 ≤ i ∧ t.1 = (lkN M g i.toNat).2 5 - g 5) ∧ SR t.2 J S (M 2) (lkN M g i.toNat).2 (g 5) ∧ frm (inS S) A t.2 J J) 8 ?_ ?_ FU 0 (0, A) (by omega) ⟨⟨by omega, by show (0 : Int) = g 5 - g 5; omega⟩, h, frm.refl _ _ _⟩ (by have := FU_e; omega)
  · rintro n i ⟨t, A1⟩ hi ⟨⟨hI, ht⟩, hs, hf⟩
    dsimp only at ht hs hf ⊢
    have hgl : GR (lkN M g i.toNat).2 := lkN_GR hg _
    have hzl : QZ (lkN M g i.toNat).2 := lkN_QZ hz _
    have e' : (i + 1).toNat = i.toNat + 1 := by omega
    have ei : ((i.toNat : Nat) : Int) = i := by omega
    have hsx := lkN_s M g i.toNat
    rw [ei] at hsx
    rw [e', hsx]
    generalize hG : (lkN M g i.toNat).2 = G at *
    have hR := hS.row i ⟨hI, hi⟩
    have hrr := hs.2 i hI hi
    have hgi := hgl i hI hi
    have e1 := hrr.1.1
    have hb := hgi.1
    have hgb := gapM_b hM hgi
    have hsl := hgi.2.2.2.2.2.2
    have q0 : A1 Q 0 = M 0 2 := by rw [hf.1 _ _ (hQS Q (by omega) (by omega))]; exact hP.1
    have q2 : A1 Q 2 = M 0 4 := by rw [hf.1 _ _ (hQS Q (by omega) (by omega))]; exact hP.2.1
    have q6 : A1 Q 6 = M 0 8 := by rw [hf.1 _ _ (hQS Q (by omega) (by omega))]; exact hP.2.2
    have hlo := c_loosenessIn (c := c) hR hQ hrr hgi q0 q2
    by_cases p1 : 0 < cel G i 0
    · by_cases p2 : M 0 8 < cel G i 4 + 10 * gapM M G i
      · have e6 := hs.1.1.2.2.2.2.1
        -- the blocks are counted
        have s1 : SR (up A1 S 6 (G 4 + cel G i 0)) J S (M 2) (gu (gu G 4 (G 4 + cel G i 0)) 5 (G 5 + 1)) (g 5) := by
          refine SR_lo hs hgl (fun b z q => up_n _ _ _ _ _ _ (by omega)) (fun r w a b x y => by rw [cel_gu _ _ _ _ _ (by omega), cel_gu _ _ _ _ _ (by omega)]) (fun k a b => by rw [gu_n _ _ _ _ (by omega), gu_n _ _ _ _ (by omega)]) ?_
          obtain ⟨a0, a1, a2, a3, a4, a5⟩ := hs.1.1
          rw [gu_n _ _ _ 0 (by omega), gu_n _ _ _ 0 (by omega), gu_n _ _ _ 1 (by omega), gu_n _ _ _ 1 (by omega), gu_n _ _ _ 2 (by omega), gu_n _ _ _ 2 (by omega), gu_n _ _ _ 3 (by omega), gu_n _ _ _ 3 (by omega), gu_n _ _ _ 4 (by omega), gu_s]
          simp (disch := first | assumption | omega) only [up_s, up_n]
          exact ⟨a0, a1, a2, a3, trivial, a5⟩
        have g1 : GR (gu (gu G 4 (G 4 + cel G i 0)) 5 (G 5 + 1)) := fun r a b => ((hgl r a b).gu a (by omega)).gu a (by omega)
        have s2 := SR_noB s1 g1 i ⟨hI, hi⟩
        have g2 : GR (gpu (gu (gu G 4 (G 4 + cel G i 0)) 5 (G 5 + 1)) i 0 0) := fun r a b => RG.noB (g1 r a b)
        have z2 : QZ (gpu (gu (gu G 4 (G 4 + cel G i 0)) 5 (G 5 + 1)) i 0 0) := QZ.cong (fun r w a b x => by rw [cel_pu_n _ _ _ _ _ _ (by omega), cel_gu _ _ _ _ _ (by omega), cel_gu _ _ _ _ _ (by omega)]) hzl
        obtain ⟨A2, e2, s3, f3⟩ := s_empty (c := c) hS s2 g2 z2 i ⟨hI, hi⟩
        have iR : inR (rc S i) (rc S i) := by unfold inR; omega
        have iS := (rc_in ⟨hI, hi⟩ iR).1
        have e5 : gFall G i 5 = G 5 + 1 := by
          unfold gFall
          rw [lo_gEmp _ _ _ (by omega), if_neg (by omega), if_neg (by omega), gpu_lo _ _ _ _ _ (by omega), gu_s]
        have hne : rc S i ≠ S := iS.2.1
        rw [if_pos ⟨p1, p2⟩]
        refine Or.inr ⟨(t + 1, A2), ⟨⟨by omega, by dsimp only; rw [e5]; omega⟩, s3, (frm_up (frm_up (frm_up hf _ _ _ i0) _ _ _ iS.1) _ _ _ iS.1).trans f3⟩, ?_⟩
        simp (disch := first | assumption | omega) only [fX5_dropLooseRows_4, fX5_dropLooseRows_74, fX3_dropBlocks, rwI1, rwS1, rwI2, rwS2, rwI4, rwS4, rwI5, rwS5, rwI7, rwS7, rwI8, rwS8, rwI9, rwS9, rwR0, rwR3, rwR6, rwA1, rwU1, rwA3, rwU3, rwV, rwJ, rwUJ, plI0, plS0, plI1, plS1, plI2, plS2, plI3, plS3, plI4, plS4, plI5, plS5, plI6, plS6, plI7, plS7, plR8, plR9, plR10, plA1, plU1, plA2, plU2, plA3, plU3, plV, stI2, stS2, stI3, stS3, stI4, stS4, stI5, stS5, stI6, stS6, stI7, stS7, stR0, stR1, stA2, stU2, stV, stRow, svI5, svS5, svI6, svS6, svI7, svS7, svR0, svR1, svR2, svR3, svR4, svA13, svU13, svA14, svU14, svA15, svU15, svA16, svU16, svV, svRow, svF, svUF, hiI1, hiS1, hiI2, hiS2, hiR0, hiV, hiRow, rdI2, rdS2, rdI3, rdS3, rdI4, rdS4, rdI5, rdS5, rdI6, rdS6, rdI7, rdS7, rdI8, rdS8, rdR0, rdR1, rdA1, rdU1, rdA2, rdU2, rdV, k_C, il0, il1, il2, il3, il4, il5, il6, il7, il8, il9, il10, il11, il12, il15, il16, il20, il24, il31, il32, il44, il45, il48, il50, il57, il58, il59, il63, il91, il93, il97, il99, il100, il109, il113, il119, il120, il122, il200, il255, il480, il500, il501, il512, il999, il4112, il41120, il1000000, il1000003, ii_add, ii_sub, ii_mul, ii_neg, ii_le, ii_lt, ii_eq, ii_div, q_I, q_V, q_R, lt_q, rZ_q, md_M, md_16, md_4, md_8, md_10, if_true, if_false, if_pos, if_neg, e1, e6, q6, hlo, up_n, e2]
      · rw [if_neg (fun z => p2 z.2)]
        refine Or.inr ⟨(t, A1), ⟨⟨by omega, by dsimp only; rw [hG]; exact ht⟩, by dsimp only; rw [hG]; exact hs, hf⟩, ?_⟩
        simp (disch := first | assumption | omega) only [fX5_dropLooseRows_4, fX5_dropLooseRows_74, rwI1, rwS1, rwI2, rwS2, rwI4, rwS4, rwI5, rwS5, rwI7, rwS7, rwI8, rwS8, rwI9, rwS9, rwR0, rwR3, rwR6, rwA1, rwU1, rwA3, rwU3, rwV, rwJ, rwUJ, plI0, plS0, plI1, plS1, plI2, plS2, plI3, plS3, plI4, plS4, plI5, plS5, plI6, plS6, plI7, plS7, plR8, plR9, plR10, plA1, plU1, plA2, plU2, plA3, plU3, plV, stI2, stS2, stI3, stS3, stI4, stS4, stI5, stS5, stI6, stS6, stI7, stS7, stR0, stR1, stA2, stU2, stV, stRow, svI5, svS5, svI6, svS6, svI7, svS7, svR0, svR1, svR2, svR3, svR4, svA13, svU13, svA14, svU14, svA15, svU15, svA16, svU16, svV, svRow, svF, svUF, hiI1, hiS1, hiI2, hiS2, hiR0, hiV, hiRow, rdI2, rdS2, rdI3, rdS3, rdI4, rdS4, rdI5, rdS5, rdI6, rdS6, rdI7, rdS7, rdI8, rdS8, rdR0, rdR1, rdA1, rdU1, rdA2, rdU2, rdV, k_C, il0, il1, il2, il3, il4, il5, il6, il7, il8, il9, il10, il11, il12, il15, il16, il20, il24, il31, il32, il44, il45, il48, il50, il57, il58, il59, il63, il91, il93, il97, il99, il100, il109, il113, il119, il120, il122, il200, il255, il480, il500, il501, il512, il999, il4112, il41120, il1000000, il1000003, ii_add, ii_sub, ii_mul, ii_neg, ii_le, ii_lt, ii_eq, ii_div, q_I, q_V, q_R, lt_q, rZ_q, md_M, md_16, md_4, md_8, md_10, if_true, if_false, if_pos, if_neg, e1, q6, hlo]
    · rw [if_neg (fun z => p1 z.1)]
      refine Or.inr ⟨(t, A1), ⟨⟨by omega, by dsimp only; rw [hG]; exact ht⟩, by dsimp only; rw [hG]; exact hs, hf⟩, ?_⟩
      simp (disch := first | assumption | omega) only [fX5_dropLooseRows_4, fX5_dropLooseRows_74, rwI1, rwS1, rwI2, rwS2, rwI4, rwS4, rwI5, rwS5, rwI7, rwS7, rwI8, rwS8, rwI9, rwS9, rwR0, rwR3, rwR6, rwA1, rwU1, rwA3, rwU3, rwV, rwJ, rwUJ, plI0, plS0, plI1, plS1, plI2, plS2, plI3, plS3, plI4, plS4, plI5, plS5, plI6, plS6, plI7, plS7, plR8, plR9, plR10, plA1, plU1, plA2, plU2, plA3, plU3, plV, stI2, stS2, stI3, stS3, stI4, stS4, stI5, stS5, stI6, stS6, stI7, stS7, stR0, stR1, stA2, stU2, stV, stRow, svI5, svS5, svI6, svS6, svI7, svS7, svR0, svR1, svR2, svR3, svR4, svA13, svU13, svA14, svU14, svA15, svU15, svA16, svU16, svV, svRow, svF, svUF, hiI1, hiS1, hiI2, hiS2, hiR0, hiV, hiRow, rdI2, rdS2, rdI3, rdS3, rdI4, rdS4, rdI5, rdS5, rdI6, rdS6, rdI7, rdS7, rdI8, rdS8, rdR0, rdR1, rdA1, rdU1, rdA2, rdU2, rdV, k_C, il0, il1, il2, il3, il4, il5, il6, il7, il8, il9, il10, il11, il12, il15, il16, il20, il24, il31, il32, il44, il45, il48, il50, il57, il58, il59, il63, il91, il93, il97, il99, il100, il109, il113, il119, il120, il122, il200, il255, il480, il500, il501, il512, il999, il4112, il41120, il1000000, il1000003, ii_add, ii_sub, ii_mul, ii_neg, ii_le, ii_lt, ii_eq, ii_div, q_I, q_V, q_R, lt_q, rZ_q, md_M, md_16, md_4, md_8, md_10, if_true, if_false, if_pos, if_neg, e1]
  · rintro n ⟨t, A1⟩ ⟨⟨hI, ht⟩, hs, hf⟩
    dsimp only at ht hs hf ⊢
    have e8 : (8 : Int).toNat = 8 := rfl
    rw [e8] at ht hs
    have hgl : GR (lkN M g 8).2 := lkN_GR hg _
    have e7 := hs.1.1.2.2.2.2.2
    have s1 : SR (up A1 S 7 (g 5 + t)) J S (M 2) (lkN M g 8).2 ((lkN M g 8).2 5) := by
      refine SR_lo hs hgl (fun b z q => up_n _ _ _ _ _ _ (by omega)) (fun _ _ _ _ _ _ => rfl) (fun _ _ _ => rfl) ?_
      obtain ⟨a0, a1, a2, a3, a4, a5⟩ := hs.1.1
      simp (disch := first | assumption | omega) only [up_s, up_n]
      exact ⟨a0, a1, a2, a3, a4, by omega⟩
    refine ⟨_, ?_, s1, frm_up hf _ _ _ i0⟩
    rw [ht]
    simp (disch := first | assumption | omega) only [fX5_dropLooseRows_4, fX5_dropLooseRows_80, rwI1, rwS1, rwI2, rwS2, rwI4, rwS4, rwI5, rwS5, rwI7, rwS7, rwI8, rwS8, rwI9, rwS9, rwR0, rwR3, rwR6, rwA1, rwU1, rwA3, rwU3, rwV, rwJ, rwUJ, plI0, plS0, plI1, plS1, plI2, plS2, plI3, plS3, plI4, plS4, plI5, plS5, plI6, plS6, plI7, plS7, plR8, plR9, plR10, plA1, plU1, plA2, plU2, plA3, plU3, plV, stI2, stS2, stI3, stS3, stI4, stS4, stI5, stS5, stI6, stS6, stI7, stS7, stR0, stR1, stA2, stU2, stV, stRow, svI5, svS5, svI6, svS6, svI7, svS7, svR0, svR1, svR2, svR3, svR4, svA13, svU13, svA14, svU14, svA15, svU15, svA16, svU16, svV, svRow, svF, svUF, hiI1, hiS1, hiI2, hiS2, hiR0, hiV, hiRow, rdI2, rdS2, rdI3, rdS3, rdI4, rdS4, rdI5, rdS5, rdI6, rdS6, rdI7, rdS7, rdI8, rdS8, rdR0, rdR1, rdA1, rdU1, rdA2, rdU2, rdV, k_C, il0, il1, il2, il3, il4, il5, il6, il7, il8, il9, il10, il11, il12, il15, il16, il20, il24, il31, il32, il44, il45, il48, il50, il57, il58, il59, il63, il91, il93, il97, il99, il100, il109, il113, il119, il120, il122, il200, il255, il480, il500, il501, il512, il999, il4112, il41120, il1000000, il1000003, ii_add, ii_sub, ii_mul, ii_neg, ii_le, ii_lt, ii_eq, ii_div, q_I, q_V, q_R, lt_q, rZ_q, md_M, md_16, md_4, md_8, md_10, if_true, if_false, if_pos, if_neg, e7]
theorem s_isFirm (hS : isState c S) (hQ : isPlan c Q) (h : SR A J S (M 2) g f) (hg : GR g) (hM : SA M) (hP : A Q 0 = M 0 2 ∧ A Q 2 = M 0 4) (hzr : ∀ r, M 0 3 ≤ r → r < 8 → cel g r 0 = 0) : fX5_isFirm S Q (CW c A J) = some (Sum.inl (some (Value.int (ii (gdN M g (M 0 3).toNat)))), CW c A J) := by
  have h3 := hM.1.2.1
  have htail : gdN M g 8 = gdN M g (M 0 3).toNat := by
    have := gdN_tail (M := M) (g := g) (M 0 3).toNat (fun r a b => hzr r (by omega) b) (8 - (M 0 3).toNat) (by omega)
    rw [show (M 0 3).toNat + (8 - (M 0 3).toNat) = 8 by omega] at this
    exact this
  rw [← htail]
  simp only [fX5_isFirm, il0]
  refine lp (fun n i (_ : Unit) => fX5_isFirm_2 n S Q (ii i) (CW c A J)) (fun x => x = _) (fun i _ => 0 ≤ i ∧ gdN M g i.toNat = 1) 8 ?_ ?_ FU 0 () (by omega) ⟨by omega, rfl⟩ (by have := FU_e; omega)
  · rintro n i _ hi ⟨hI, h1⟩
    have hR := hS.row i ⟨hI, hi⟩
    have hrr := h.2 i hI hi
    have hgi := hg i hI hi
    have e1 := hrr.1.1
    have hb := hgi.1
    have hfi := c_isFirmIn (c := c) hR hQ hrr hgi hM hP.1 hP.2
    have hsx := gdN_s M g i.toNat
    rw [show ((i.toNat : Nat) : Int) = i by omega] at hsx
    have e' : (i + 1).toNat = i.toNat + 1 := by omega
    by_cases p1 : 0 < cel g i 0
    · by_cases p2 : gapM M g i = 0 ∧ cel g i 4 < 10
      · rw [if_pos p2] at hfi
        rw [if_pos ⟨h1, Or.inr p2⟩] at hsx
        refine Or.inr ⟨(), ⟨by omega, by rw [e']; exact hsx⟩, ?_⟩
        simp (disch := first | assumption | omega) only [fX5_isFirm_2, fX5_isFirm_35, rwI1, rwS1, rwI2, rwS2, rwI4, rwS4, rwI5, rwS5, rwI7, rwS7, rwI8, rwS8, rwI9, rwS9, rwR0, rwR3, rwR6, rwA1, rwU1, rwA3, rwU3, rwV, rwJ, rwUJ, plI0, plS0, plI1, plS1, plI2, plS2, plI3, plS3, plI4, plS4, plI5, plS5, plI6, plS6, plI7, plS7, plR8, plR9, plR10, plA1, plU1, plA2, plU2, plA3, plU3, plV, stI2, stS2, stI3, stS3, stI4, stS4, stI5, stS5, stI6, stS6, stI7, stS7, stR0, stR1, stA2, stU2, stV, stRow, svI5, svS5, svI6, svS6, svI7, svS7, svR0, svR1, svR2, svR3, svR4, svA13, svU13, svA14, svU14, svA15, svU15, svA16, svU16, svV, svRow, svF, svUF, hiI1, hiS1, hiI2, hiS2, hiR0, hiV, hiRow, rdI2, rdS2, rdI3, rdS3, rdI4, rdS4, rdI5, rdS5, rdI6, rdS6, rdI7, rdS7, rdI8, rdS8, rdR0, rdR1, rdA1, rdU1, rdA2, rdU2, rdV, k_C, il0, il1, il2, il3, il4, il5, il6, il7, il8, il9, il10, il11, il12, il15, il16, il20, il24, il31, il32, il44, il45, il48, il50, il57, il58, il59, il63, il91, il93, il97, il99, il100, il109, il113, il119, il120, il122, il200, il255, il480, il500, il501, il512, il999, il4112, il41120, il1000000, il1000003, ii_add, ii_sub, ii_mul, ii_neg, ii_le, ii_lt, ii_eq, ii_div, q_I, q_V, q_R, lt_q, rZ_q, md_M, md_16, md_4, md_8, md_10, if_true, if_false, if_pos, if_neg, e1, hfi]
      · rw [if_neg p2] at hfi
        rw [if_neg (fun z => z.2.elim (fun y => by omega) p2)] at hsx
        have h0 := gdN_0 M g (i.toNat + 1) hsx (8 - (i.toNat + 1))
        rw [show i.toNat + 1 + (8 - (i.toNat + 1)) = 8 by omega] at h0
        refine Or.inl ?_
        rw [h0]
        simp (disch := first | assumption | omega) only [fX5_isFirm_2, fX5_isFirm_35, rwI1, rwS1, rwI2, rwS2, rwI4, rwS4, rwI5, rwS5, rwI7, rwS7, rwI8, rwS8, rwI9, rwS9, rwR0, rwR3, rwR6, rwA1, rwU1, rwA3, rwU3, rwV, rwJ, rwUJ, plI0, plS0, plI1, plS1, plI2, plS2, plI3, plS3, plI4, plS4, plI5, plS5, plI6, plS6, plI7, plS7, plR8, plR9, plR10, plA1, plU1, plA2, plU2, plA3, plU3, plV, stI2, stS2, stI3, stS3, stI4, stS4, stI5, stS5, stI6, stS6, stI7, stS7, stR0, stR1, stA2, stU2, stV, stRow, svI5, svS5, svI6, svS6, svI7, svS7, svR0, svR1, svR2, svR3, svR4, svA13, svU13, svA14, svU14, svA15, svU15, svA16, svU16, svV, svRow, svF, svUF, hiI1, hiS1, hiI2, hiS2, hiR0, hiV, hiRow, rdI2, rdS2, rdI3, rdS3, rdI4, rdS4, rdI5, rdS5, rdI6, rdS6, rdI7, rdS7, rdI8, rdS8, rdR0, rdR1, rdA1, rdU1, rdA2, rdU2, rdV, k_C, il0, il1, il2, il3, il4, il5, il6, il7, il8, il9, il10, il11, il12, il15, il16, il20, il24, il31, il32, il44, il45, il48, il50, il57, il58, il59, il63, il91, il93, il97, il99, il100, il109, il113, il119, il120, il122, il200, il255, il480, il500, il501, il512, il999, il4112, il41120, il1000000, il1000003, ii_add, ii_sub, ii_mul, ii_neg, ii_le, ii_lt, ii_eq, ii_div, q_I, q_V, q_R, lt_q, rZ_q, md_M, md_16, md_4, md_8, md_10, if_true, if_false, if_pos, if_neg, e1, hfi]
    · rw [if_pos ⟨h1, Or.inl (by omega)⟩] at hsx
      refine Or.inr ⟨(), ⟨by omega, by rw [e']; exact hsx⟩, ?_⟩
      simp (disch := first | assumption | omega) only [fX5_isFirm_2, fX5_isFirm_35, rwI1, rwS1, rwI2, rwS2, rwI4, rwS4, rwI5, rwS5, rwI7, rwS7, rwI8, rwS8, rwI9, rwS9, rwR0, rwR3, rwR6, rwA1, rwU1, rwA3, rwU3, rwV, rwJ, rwUJ, plI0, plS0, plI1, plS1, plI2, plS2, plI3, plS3, plI4, plS4, plI5, plS5, plI6, plS6, plI7, plS7, plR8, plR9, plR10, plA1, plU1, plA2, plU2, plA3, plU3, plV, stI2, stS2, stI3, stS3, stI4, stS4, stI5, stS5, stI6, stS6, stI7, stS7, stR0, stR1, stA2, stU2, stV, stRow, svI5, svS5, svI6, svS6, svI7, svS7, svR0, svR1, svR2, svR3, svR4, svA13, svU13, svA14, svU14, svA15, svU15, svA16, svU16, svV, svRow, svF, svUF, hiI1, hiS1, hiI2, hiS2, hiR0, hiV, hiRow, rdI2, rdS2, rdI3, rdS3, rdI4, rdS4, rdI5, rdS5, rdI6, rdS6, rdI7, rdS7, rdI8, rdS8, rdR0, rdR1, rdA1, rdU1, rdA2, rdU2, rdV, k_C, il0, il1, il2, il3, il4, il5, il6, il7, il8, il9, il10, il11, il12, il15, il16, il20, il24, il31, il32, il44, il45, il48, il50, il57, il58, il59, il63, il91, il93, il97, il99, il100, il109, il113, il119, il120, il122, il200, il255, il480, il500, il501, il512, il999, il4112, il41120, il1000000, il1000003, ii_add, ii_sub, ii_mul, ii_neg, ii_le, ii_lt, ii_eq, ii_div, q_I, q_V, q_R, lt_q, rZ_q, md_M, md_16, md_4, md_8, md_10, if_true, if_false, if_pos, if_neg, e1]
  · rintro n _ ⟨hI, h1⟩
    have e8 : (8 : Int).toNat = 8 := rfl
    rw [e8] at h1
    rw [h1]
    simp (disch := first | assumption | omega) only [fX5_isFirm_2, rwI1, rwS1, rwI2, rwS2, rwI4, rwS4, rwI5, rwS5, rwI7, rwS7, rwI8, rwS8, rwI9, rwS9, rwR0, rwR3, rwR6, rwA1, rwU1, rwA3, rwU3, rwV, rwJ, rwUJ, plI0, plS0, plI1, plS1, plI2, plS2, plI3, plS3, plI4, plS4, plI5, plS5, plI6, plS6, plI7, plS7, plR8, plR9, plR10, plA1, plU1, plA2, plU2, plA3, plU3, plV, stI2, stS2, stI3, stS3, stI4, stS4, stI5, stS5, stI6, stS6, stI7, stS7, stR0, stR1, stA2, stU2, stV, stRow, svI5, svS5, svI6, svS6, svI7, svS7, svR0, svR1, svR2, svR3, svR4, svA13, svU13, svA14, svU14, svA15, svU15, svA16, svU16, svV, svRow, svF, svUF, hiI1, hiS1, hiI2, hiS2, hiR0, hiV, hiRow, rdI2, rdS2, rdI3, rdS3, rdI4, rdS4, rdI5, rdS5, rdI6, rdS6, rdI7, rdS7, rdI8, rdS8, rdR0, rdR1, rdA1, rdU1, rdA2, rdU2, rdV, k_C, il0, il1, il2, il3, il4, il5, il6, il7, il8, il9, il10, il11, il12, il15, il16, il20, il24, il31, il32, il44, il45, il48, il50, il57, il58, il59, il63, il91, il93, il97, il99, il100, il109, il113, il119, il120, il122, il200, il255, il480, il500, il501, il512, il999, il4112, il41120, il1000000, il1000003, ii_add, ii_sub, ii_mul, ii_neg, ii_le, ii_lt, ii_eq, ii_div, q_I, q_V, q_R, lt_q, rZ_q, md_M, md_16, md_4, md_8, md_10, if_true, if_false, if_pos, if_neg]
theorem s_sum1 (hS : isState c S) (h : SR A J S len g f) : fX5_blocksInRows S (CW c A J) = some (Sum.inl (some (Value.int (ii (sm (fun r => cel g r 0) 8)))), CW c A J) := by
  simp only [fX5_blocksInRows, il0]
  refine lp (fun n i (s : Int) => fX5_blocksInRows_4 n S (ii s) (ii i) (CW c A J)) (fun x => x = _) (fun i s => 0 ≤ i ∧ s = sm (fun r => cel g r 0) i) 8 ?_ ?_ FU 0 0 (by omega) ⟨by omega, rfl⟩ (by have := FU_e; omega)
  · rintro n i s hi ⟨hI, hs⟩
    have hR := hS.row i ⟨hI, hi⟩
    have e1 := (h.2 i hI hi).1.1
    refine Or.inr ⟨s + cel g i 0, ⟨by omega, by rw [sm_s _ _ hI, ← hs]⟩, ?_⟩
    simp (disch := first | assumption | omega) only [fX5_blocksInRows_4, rwI1, rwS1, rwI2, rwS2, rwI4, rwS4, rwI5, rwS5, rwI7, rwS7, rwI8, rwS8, rwI9, rwS9, rwR0, rwR3, rwR6, rwA1, rwU1, rwA3, rwU3, rwV, rwJ, rwUJ, plI0, plS0, plI1, plS1, plI2, plS2, plI3, plS3, plI4, plS4, plI5, plS5, plI6, plS6, plI7, plS7, plR8, plR9, plR10, plA1, plU1, plA2, plU2, plA3, plU3, plV, stI2, stS2, stI3, stS3, stI4, stS4, stI5, stS5, stI6, stS6, stI7, stS7, stR0, stR1, stA2, stU2, stV, stRow, svI5, svS5, svI6, svS6, svI7, svS7, svR0, svR1, svR2, svR3, svR4, svA13, svU13, svA14, svU14, svA15, svU15, svA16, svU16, svV, svRow, svF, svUF, hiI1, hiS1, hiI2, hiS2, hiR0, hiV, hiRow, rdI2, rdS2, rdI3, rdS3, rdI4, rdS4, rdI5, rdS5, rdI6, rdS6, rdI7, rdS7, rdI8, rdS8, rdR0, rdR1, rdA1, rdU1, rdA2, rdU2, rdV, k_C, il0, il1, il2, il3, il4, il5, il6, il7, il8, il9, il10, il11, il12, il15, il16, il20, il24, il31, il32, il44, il45, il48, il50, il57, il58, il59, il63, il91, il93, il97, il99, il100, il109, il113, il119, il120, il122, il200, il255, il480, il500, il501, il512, il999, il4112, il41120, il1000000, il1000003, ii_add, ii_sub, ii_mul, ii_neg, ii_le, ii_lt, ii_eq, ii_div, q_I, q_V, q_R, lt_q, rZ_q, md_M, md_16, md_4, md_8, md_10, if_true, if_false, if_pos, if_neg, e1]
  · rintro n s ⟨hI, hs⟩
    simp (disch := first | assumption | omega) only [fX5_blocksInRows_4, rwI1, rwS1, rwI2, rwS2, rwI4, rwS4, rwI5, rwS5, rwI7, rwS7, rwI8, rwS8, rwI9, rwS9, rwR0, rwR3, rwR6, rwA1, rwU1, rwA3, rwU3, rwV, rwJ, rwUJ, plI0, plS0, plI1, plS1, plI2, plS2, plI3, plS3, plI4, plS4, plI5, plS5, plI6, plS6, plI7, plS7, plR8, plR9, plR10, plA1, plU1, plA2, plU2, plA3, plU3, plV, stI2, stS2, stI3, stS3, stI4, stS4, stI5, stS5, stI6, stS6, stI7, stS7, stR0, stR1, stA2, stU2, stV, stRow, svI5, svS5, svI6, svS6, svI7, svS7, svR0, svR1, svR2, svR3, svR4, svA13, svU13, svA14, svU14, svA15, svU15, svA16, svU16, svV, svRow, svF, svUF, hiI1, hiS1, hiI2, hiS2, hiR0, hiV, hiRow, rdI2, rdS2, rdI3, rdS3, rdI4, rdS4, rdI5, rdS5, rdI6, rdS6, rdI7, rdS7, rdI8, rdS8, rdR0, rdR1, rdA1, rdU1, rdA2, rdU2, rdV, k_C, il0, il1, il2, il3, il4, il5, il6, il7, il8, il9, il10, il11, il12, il15, il16, il20, il24, il31, il32, il44, il45, il48, il50, il57, il58, il59, il63, il91, il93, il97, il99, il100, il109, il113, il119, il120, il122, il200, il255, il480, il500, il501, il512, il999, il4112, il41120, il1000000, il1000003, ii_add, ii_sub, ii_mul, ii_neg, ii_le, ii_lt, ii_eq, ii_div, q_I, q_V, q_R, lt_q, rZ_q, md_M, md_16, md_4, md_8, md_10, if_true, if_false, if_pos, if_neg]
    rw [hs]
theorem s_sum4 (hS : isState c S) (h : SR A J S len g f) : fX5_piecesInRows S (CW c A J) = some (Sum.inl (some (Value.int (ii (sm (fun r => cel g r 1) 8)))), CW c A J) := by
  simp only [fX5_piecesInRows, il0]
  refine lp (fun n i (s : Int) => fX5_piecesInRows_4 n S (ii s) (ii i) (CW c A J)) (fun x => x = _) (fun i s => 0 ≤ i ∧ s = sm (fun r => cel g r 1) i) 8 ?_ ?_ FU 0 0 (by omega) ⟨by omega, rfl⟩ (by have := FU_e; omega)
  · rintro n i s hi ⟨hI, hs⟩
    have hR := hS.row i ⟨hI, hi⟩
    have e1 := (h.2 i hI hi).1.2.2.1
    refine Or.inr ⟨s + cel g i 1, ⟨by omega, by rw [sm_s _ _ hI, ← hs]⟩, ?_⟩
    simp (disch := first | assumption | omega) only [fX5_piecesInRows_4, rwI1, rwS1, rwI2, rwS2, rwI4, rwS4, rwI5, rwS5, rwI7, rwS7, rwI8, rwS8, rwI9, rwS9, rwR0, rwR3, rwR6, rwA1, rwU1, rwA3, rwU3, rwV, rwJ, rwUJ, plI0, plS0, plI1, plS1, plI2, plS2, plI3, plS3, plI4, plS4, plI5, plS5, plI6, plS6, plI7, plS7, plR8, plR9, plR10, plA1, plU1, plA2, plU2, plA3, plU3, plV, stI2, stS2, stI3, stS3, stI4, stS4, stI5, stS5, stI6, stS6, stI7, stS7, stR0, stR1, stA2, stU2, stV, stRow, svI5, svS5, svI6, svS6, svI7, svS7, svR0, svR1, svR2, svR3, svR4, svA13, svU13, svA14, svU14, svA15, svU15, svA16, svU16, svV, svRow, svF, svUF, hiI1, hiS1, hiI2, hiS2, hiR0, hiV, hiRow, rdI2, rdS2, rdI3, rdS3, rdI4, rdS4, rdI5, rdS5, rdI6, rdS6, rdI7, rdS7, rdI8, rdS8, rdR0, rdR1, rdA1, rdU1, rdA2, rdU2, rdV, k_C, il0, il1, il2, il3, il4, il5, il6, il7, il8, il9, il10, il11, il12, il15, il16, il20, il24, il31, il32, il44, il45, il48, il50, il57, il58, il59, il63, il91, il93, il97, il99, il100, il109, il113, il119, il120, il122, il200, il255, il480, il500, il501, il512, il999, il4112, il41120, il1000000, il1000003, ii_add, ii_sub, ii_mul, ii_neg, ii_le, ii_lt, ii_eq, ii_div, q_I, q_V, q_R, lt_q, rZ_q, md_M, md_16, md_4, md_8, md_10, if_true, if_false, if_pos, if_neg, e1]
  · rintro n s ⟨hI, hs⟩
    simp (disch := first | assumption | omega) only [fX5_piecesInRows_4, rwI1, rwS1, rwI2, rwS2, rwI4, rwS4, rwI5, rwS5, rwI7, rwS7, rwI8, rwS8, rwI9, rwS9, rwR0, rwR3, rwR6, rwA1, rwU1, rwA3, rwU3, rwV, rwJ, rwUJ, plI0, plS0, plI1, plS1, plI2, plS2, plI3, plS3, plI4, plS4, plI5, plS5, plI6, plS6, plI7, plS7, plR8, plR9, plR10, plA1, plU1, plA2, plU2, plA3, plU3, plV, stI2, stS2, stI3, stS3, stI4, stS4, stI5, stS5, stI6, stS6, stI7, stS7, stR0, stR1, stA2, stU2, stV, stRow, svI5, svS5, svI6, svS6, svI7, svS7, svR0, svR1, svR2, svR3, svR4, svA13, svU13, svA14, svU14, svA15, svU15, svA16, svU16, svV, svRow, svF, svUF, hiI1, hiS1, hiI2, hiS2, hiR0, hiV, hiRow, rdI2, rdS2, rdI3, rdS3, rdI4, rdS4, rdI5, rdS5, rdI6, rdS6, rdI7, rdS7, rdI8, rdS8, rdR0, rdR1, rdA1, rdU1, rdA2, rdU2, rdV, k_C, il0, il1, il2, il3, il4, il5, il6, il7, il8, il9, il10, il11, il12, il15, il16, il20, il24, il31, il32, il44, il45, il48, il50, il57, il58, il59, il63, il91, il93, il97, il99, il100, il109, il113, il119, il120, il122, il200, il255, il480, il500, il501, il512, il999, il4112, il41120, il1000000, il1000003, ii_add, ii_sub, ii_mul, ii_neg, ii_le, ii_lt, ii_eq, ii_div, q_I, q_V, q_R, lt_q, rZ_q, md_M, md_16, md_4, md_8, md_10, if_true, if_false, if_pos, if_neg]
    rw [hs]
theorem s_inRows (hS : isState c S) (h : SR A J S len g f) (k : Int) (hk : 0 ≤ k ∧ k < 10) : fX5_inRows S (ii k) (CW c A J) = some (Sum.inl (some (Value.int (ii (sm (fun r => cnt g r k) 8)))), CW c A J) := by
  simp only [fX5_inRows, il0]
  refine lp (fun n i (s : Int) => fX5_inRows_4 n S (ii k) (ii s) (ii i) (CW c A J)) (fun x => x = _) (fun i s => 0 ≤ i ∧ s = sm (fun r => cnt g r k) i) 8 ?_ ?_ FU 0 0 (by omega) ⟨by omega, rfl⟩ (by have := FU_e; omega)
  · rintro n i s hi ⟨hI, hs⟩
    have hR := hS.row i ⟨hI, hi⟩
    have e1 := (h.2 i hI hi).2.2.2 k hk.1 hk.2
    refine Or.inr ⟨s + cnt g i k, ⟨by omega, by rw [sm_s _ _ hI, ← hs]⟩, ?_⟩
    simp (disch := first | assumption | omega) only [fX5_inRows_4, rwI1, rwS1, rwI2, rwS2, rwI4, rwS4, rwI5, rwS5, rwI7, rwS7, rwI8, rwS8, rwI9, rwS9, rwR0, rwR3, rwR6, rwA1, rwU1, rwA3, rwU3, rwV, rwJ, rwUJ, plI0, plS0, plI1, plS1, plI2, plS2, plI3, plS3, plI4, plS4, plI5, plS5, plI6, plS6, plI7, plS7, plR8, plR9, plR10, plA1, plU1, plA2, plU2, plA3, plU3, plV, stI2, stS2, stI3, stS3, stI4, stS4, stI5, stS5, stI6, stS6, stI7, stS7, stR0, stR1, stA2, stU2, stV, stRow, svI5, svS5, svI6, svS6, svI7, svS7, svR0, svR1, svR2, svR3, svR4, svA13, svU13, svA14, svU14, svA15, svU15, svA16, svU16, svV, svRow, svF, svUF, hiI1, hiS1, hiI2, hiS2, hiR0, hiV, hiRow, rdI2, rdS2, rdI3, rdS3, rdI4, rdS4, rdI5, rdS5, rdI6, rdS6, rdI7, rdS7, rdI8, rdS8, rdR0, rdR1, rdA1, rdU1, rdA2, rdU2, rdV, k_C, il0, il1, il2, il3, il4, il5, il6, il7, il8, il9, il10, il11, il12, il15, il16, il20, il24, il31, il32, il44, il45, il48, il50, il57, il58, il59, il63, il91, il93, il97, il99, il100, il109, il113, il119, il120, il122, il200, il255, il480, il500, il501, il512, il999, il4112, il41120, il1000000, il1000003, ii_add, ii_sub, ii_mul, ii_neg, ii_le, ii_lt, ii_eq, ii_div, q_I, q_V, q_R, lt_q, rZ_q, md_M, md_16, md_4, md_8, md_10, if_true, if_false, if_pos, if_neg, e1]
  · rintro n s ⟨hI, hs⟩
    simp (disch := first | assumption | omega) only [fX5_inRows_4, rwI1, rwS1, rwI2, rwS2, rwI4, rwS4, rwI5, rwS5, rwI7, rwS7, rwI8, rwS8, rwI9, rwS9, rwR0, rwR3, rwR6, rwA1, rwU1, rwA3, rwU3, rwV, rwJ, rwUJ, plI0, plS0, plI1, plS1, plI2, plS2, plI3, plS3, plI4, plS4, plI5, plS5, plI6, plS6, plI7, plS7, plR8, plR9, plR10, plA1, plU1, plA2, plU2, plA3, plU3, plV, stI2, stS2, stI3, stS3, stI4, stS4, stI5, stS5, stI6, stS6, stI7, stS7, stR0, stR1, stA2, stU2, stV, stRow, svI5, svS5, svI6, svS6, svI7, svS7, svR0, svR1, svR2, svR3, svR4, svA13, svU13, svA14, svU14, svA15, svU15, svA16, svU16, svV, svRow, svF, svUF, hiI1, hiS1, hiI2, hiS2, hiR0, hiV, hiRow, rdI2, rdS2, rdI3, rdS3, rdI4, rdS4, rdI5, rdS5, rdI6, rdS6, rdI7, rdS7, rdI8, rdS8, rdR0, rdR1, rdA1, rdU1, rdA2, rdU2, rdV, k_C, il0, il1, il2, il3, il4, il5, il6, il7, il8, il9, il10, il11, il12, il15, il16, il20, il24, il31, il32, il44, il45, il48, il50, il57, il58, il59, il63, il91, il93, il97, il99, il100, il109, il113, il119, il120, il122, il200, il255, il480, il500, il501, il512, il999, il4112, il41120, il1000000, il1000003, ii_add, ii_sub, ii_mul, ii_neg, ii_le, ii_lt, ii_eq, ii_div, q_I, q_V, q_R, lt_q, rZ_q, md_M, md_16, md_4, md_8, md_10, if_true, if_false, if_pos, if_neg]
    rw [hs]
theorem s_left (hS : isState c S) (h : SR A J S len g f) : fX5_piecesLeft S (CW c A J) = some (Sum.inl (some (Value.int (ii (sm (fun k => g (6 + k)) 10)))), CW c A J) := by
  simp only [fX5_piecesLeft, il0]
  refine lp (fun n i (s : Int) => fX5_piecesLeft_4 n S (ii s) (ii i) (CW c A J)) (fun x => x = _) (fun i s => 0 ≤ i ∧ s = sm (fun k => g (6 + k)) i) 10 ?_ ?_ FU 0 0 (by omega) ⟨by omega, rfl⟩ (by have := FU_e; omega)
  · rintro n i s hi ⟨hI, hs⟩
    have e1 := h.1.2 i hI hi
    refine Or.inr ⟨s + g (6 + i), ⟨by omega, by rw [sm_s _ _ hI, ← hs]⟩, ?_⟩
    simp (disch := first | assumption | omega) only [fX5_piecesLeft_4, rwI1, rwS1, rwI2, rwS2, rwI4, rwS4, rwI5, rwS5, rwI7, rwS7, rwI8, rwS8, rwI9, rwS9, rwR0, rwR3, rwR6, rwA1, rwU1, rwA3, rwU3, rwV, rwJ, rwUJ, plI0, plS0, plI1, plS1, plI2, plS2, plI3, plS3, plI4, plS4, plI5, plS5, plI6, plS6, plI7, plS7, plR8, plR9, plR10, plA1, plU1, plA2, plU2, plA3, plU3, plV, stI2, stS2, stI3, stS3, stI4, stS4, stI5, stS5, stI6, stS6, stI7, stS7, stR0, stR1, stA2, stU2, stV, stRow, svI5, svS5, svI6, svS6, svI7, svS7, svR0, svR1, svR2, svR3, svR4, svA13, svU13, svA14, svU14, svA15, svU15, svA16, svU16, svV, svRow, svF, svUF, hiI1, hiS1, hiI2, hiS2, hiR0, hiV, hiRow, rdI2, rdS2, rdI3, rdS3, rdI4, rdS4, rdI5, rdS5, rdI6, rdS6, rdI7, rdS7, rdI8, rdS8, rdR0, rdR1, rdA1, rdU1, rdA2, rdU2, rdV, k_C, il0, il1, il2, il3, il4, il5, il6, il7, il8, il9, il10, il11, il12, il15, il16, il20, il24, il31, il32, il44, il45, il48, il50, il57, il58, il59, il63, il91, il93, il97, il99, il100, il109, il113, il119, il120, il122, il200, il255, il480, il500, il501, il512, il999, il4112, il41120, il1000000, il1000003, ii_add, ii_sub, ii_mul, ii_neg, ii_le, ii_lt, ii_eq, ii_div, q_I, q_V, q_R, lt_q, rZ_q, md_M, md_16, md_4, md_8, md_10, if_true, if_false, if_pos, if_neg, e1]
  · rintro n s ⟨hI, hs⟩
    simp (disch := first | assumption | omega) only [fX5_piecesLeft_4, rwI1, rwS1, rwI2, rwS2, rwI4, rwS4, rwI5, rwS5, rwI7, rwS7, rwI8, rwS8, rwI9, rwS9, rwR0, rwR3, rwR6, rwA1, rwU1, rwA3, rwU3, rwV, rwJ, rwUJ, plI0, plS0, plI1, plS1, plI2, plS2, plI3, plS3, plI4, plS4, plI5, plS5, plI6, plS6, plI7, plS7, plR8, plR9, plR10, plA1, plU1, plA2, plU2, plA3, plU3, plV, stI2, stS2, stI3, stS3, stI4, stS4, stI5, stS5, stI6, stS6, stI7, stS7, stR0, stR1, stA2, stU2, stV, stRow, svI5, svS5, svI6, svS6, svI7, svS7, svR0, svR1, svR2, svR3, svR4, svA13, svU13, svA14, svU14, svA15, svU15, svA16, svU16, svV, svRow, svF, svUF, hiI1, hiS1, hiI2, hiS2, hiR0, hiV, hiRow, rdI2, rdS2, rdI3, rdS3, rdI4, rdS4, rdI5, rdS5, rdI6, rdS6, rdI7, rdS7, rdI8, rdS8, rdR0, rdR1, rdA1, rdU1, rdA2, rdU2, rdV, k_C, il0, il1, il2, il3, il4, il5, il6, il7, il8, il9, il10, il11, il12, il15, il16, il20, il24, il31, il32, il44, il45, il48, il50, il57, il58, il59, il63, il91, il93, il97, il99, il100, il109, il113, il119, il120, il122, il200, il255, il480, il500, il501, il512, il999, il4112, il41120, il1000000, il1000003, ii_add, ii_sub, ii_mul, ii_neg, ii_le, ii_lt, ii_eq, ii_div, q_I, q_V, q_R, lt_q, rZ_q, md_M, md_16, md_4, md_8, md_10, if_true, if_false, if_pos, if_neg]
    rw [hs]
theorem s_tight (hS : isState c S) (hQ : isPlan c Q) (h : SR A J S (M 2) g f) (hg : GR g) (hM : SA M) (hP : A Q 0 = M 0 2 ∧ A Q 2 = M 0 4) : fX5_tightRows S Q (CW c A J) = some (Sum.inl (some (Value.int (ii (sm (fun r => if gapM M g r = 0 ∧ cel g r 4 = 0 then 1 else 0) 8)))), CW c A J) := by
  simp only [fX5_tightRows, il0]
  refine lp (fun n i (s : Int) => fX5_tightRows_4 n S Q (ii s) (ii i) (CW c A J)) (fun x => x = _) (fun i s => 0 ≤ i ∧ s = sm (fun r => if gapM M g r = 0 ∧ cel g r 4 = 0 then 1 else 0) i) 8 ?_ ?_ FU 0 0 (by omega) ⟨by omega, rfl⟩ (by have := FU_e; omega)
  · rintro n i s hi ⟨hI, hs⟩
    have hR := hS.row i ⟨hI, hi⟩
    have hti := c_isTightIn (c := c) hR hQ (h.2 i hI hi) (hg i hI hi) hM hP.1 hP.2
    refine Or.inr ⟨s + (if gapM M g i = 0 ∧ cel g i 4 = 0 then 1 else 0), ⟨by omega, by rw [sm_s _ _ hI, ← hs]⟩, ?_⟩
    by_cases p : gapM M g i = 0 ∧ cel g i 4 = 0
    · rw [if_pos p] at hti ⊢
      simp (disch := first | assumption | omega) only [fX5_tightRows_4, fX5_tightRows_26, rwI1, rwS1, rwI2, rwS2, rwI4, rwS4, rwI5, rwS5, rwI7, rwS7, rwI8, rwS8, rwI9, rwS9, rwR0, rwR3, rwR6, rwA1, rwU1, rwA3, rwU3, rwV, rwJ, rwUJ, plI0, plS0, plI1, plS1, plI2, plS2, plI3, plS3, plI4, plS4, plI5, plS5, plI6, plS6, plI7, plS7, plR8, plR9, plR10, plA1, plU1, plA2, plU2, plA3, plU3, plV, stI2, stS2, stI3, stS3, stI4, stS4, stI5, stS5, stI6, stS6, stI7, stS7, stR0, stR1, stA2, stU2, stV, stRow, svI5, svS5, svI6, svS6, svI7, svS7, svR0, svR1, svR2, svR3, svR4, svA13, svU13, svA14, svU14, svA15, svU15, svA16, svU16, svV, svRow, svF, svUF, hiI1, hiS1, hiI2, hiS2, hiR0, hiV, hiRow, rdI2, rdS2, rdI3, rdS3, rdI4, rdS4, rdI5, rdS5, rdI6, rdS6, rdI7, rdS7, rdI8, rdS8, rdR0, rdR1, rdA1, rdU1, rdA2, rdU2, rdV, k_C, il0, il1, il2, il3, il4, il5, il6, il7, il8, il9, il10, il11, il12, il15, il16, il20, il24, il31, il32, il44, il45, il48, il50, il57, il58, il59, il63, il91, il93, il97, il99, il100, il109, il113, il119, il120, il122, il200, il255, il480, il500, il501, il512, il999, il4112, il41120, il1000000, il1000003, ii_add, ii_sub, ii_mul, ii_neg, ii_le, ii_lt, ii_eq, ii_div, q_I, q_V, q_R, lt_q, rZ_q, md_M, md_16, md_4, md_8, md_10, if_true, if_false, if_pos, if_neg, hti]
    · rw [if_neg p] at hti ⊢
      simp (disch := first | assumption | omega) only [fX5_tightRows_4, fX5_tightRows_26, rwI1, rwS1, rwI2, rwS2, rwI4, rwS4, rwI5, rwS5, rwI7, rwS7, rwI8, rwS8, rwI9, rwS9, rwR0, rwR3, rwR6, rwA1, rwU1, rwA3, rwU3, rwV, rwJ, rwUJ, plI0, plS0, plI1, plS1, plI2, plS2, plI3, plS3, plI4, plS4, plI5, plS5, plI6, plS6, plI7, plS7, plR8, plR9, plR10, plA1, plU1, plA2, plU2, plA3, plU3, plV, stI2, stS2, stI3, stS3, stI4, stS4, stI5, stS5, stI6, stS6, stI7, stS7, stR0, stR1, stA2, stU2, stV, stRow, svI5, svS5, svI6, svS6, svI7, svS7, svR0, svR1, svR2, svR3, svR4, svA13, svU13, svA14, svU14, svA15, svU15, svA16, svU16, svV, svRow, svF, svUF, hiI1, hiS1, hiI2, hiS2, hiR0, hiV, hiRow, rdI2, rdS2, rdI3, rdS3, rdI4, rdS4, rdI5, rdS5, rdI6, rdS6, rdI7, rdS7, rdI8, rdS8, rdR0, rdR1, rdA1, rdU1, rdA2, rdU2, rdV, k_C, il0, il1, il2, il3, il4, il5, il6, il7, il8, il9, il10, il11, il12, il15, il16, il20, il24, il31, il32, il44, il45, il48, il50, il57, il58, il59, il63, il91, il93, il97, il99, il100, il109, il113, il119, il120, il122, il200, il255, il480, il500, il501, il512, il999, il4112, il41120, il1000000, il1000003, ii_add, ii_sub, ii_mul, ii_neg, ii_le, ii_lt, ii_eq, ii_div, q_I, q_V, q_R, lt_q, rZ_q, md_M, md_16, md_4, md_8, md_10, if_true, if_false, if_pos, if_neg, hti]
      rw [show s + 0 = s by omega]
  · rintro n s ⟨hI, hs⟩
    simp (disch := first | assumption | omega) only [fX5_tightRows_4, rwI1, rwS1, rwI2, rwS2, rwI4, rwS4, rwI5, rwS5, rwI7, rwS7, rwI8, rwS8, rwI9, rwS9, rwR0, rwR3, rwR6, rwA1, rwU1, rwA3, rwU3, rwV, rwJ, rwUJ, plI0, plS0, plI1, plS1, plI2, plS2, plI3, plS3, plI4, plS4, plI5, plS5, plI6, plS6, plI7, plS7, plR8, plR9, plR10, plA1, plU1, plA2, plU2, plA3, plU3, plV, stI2, stS2, stI3, stS3, stI4, stS4, stI5, stS5, stI6, stS6, stI7, stS7, stR0, stR1, stA2, stU2, stV, stRow, svI5, svS5, svI6, svS6, svI7, svS7, svR0, svR1, svR2, svR3, svR4, svA13, svU13, svA14, svU14, svA15, svU15, svA16, svU16, svV, svRow, svF, svUF, hiI1, hiS1, hiI2, hiS2, hiR0, hiV, hiRow, rdI2, rdS2, rdI3, rdS3, rdI4, rdS4, rdI5, rdS5, rdI6, rdS6, rdI7, rdS7, rdI8, rdS8, rdR0, rdR1, rdA1, rdU1, rdA2, rdU2, rdV, k_C, il0, il1, il2, il3, il4, il5, il6, il7, il8, il9, il10, il11, il12, il15, il16, il20, il24, il31, il32, il44, il45, il48, il50, il57, il58, il59, il63, il91, il93, il97, il99, il100, il109, il113, il119, il120, il122, il200, il255, il480, il500, il501, il512, il999, il4112, il41120, il1000000, il1000003, ii_add, ii_sub, ii_mul, ii_neg, ii_le, ii_lt, ii_eq, ii_div, q_I, q_V, q_R, lt_q, rZ_q, md_M, md_16, md_4, md_8, md_10, if_true, if_false, if_pos, if_neg]
    rw [hs]
end CST3
