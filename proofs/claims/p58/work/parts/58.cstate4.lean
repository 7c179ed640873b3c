/-! THE CLASS'S STATES: impressions and days, fillings, copies -/
theorem shN_s (M : AI) (g : Int → Int) (n : Nat) : shN M g (n + 1) = gpu (shN M g n) n 4 (cel (shN M g n) n 4 + M 0 6 * cel (shN M g n) n 0) := rfl
theorem daN_s (M : AI) (g : Int → Int) (n : Nat) : daN M g (n + 1) = gpu (daN M g n) n 4 (cel (daN M g n) n 4 + M 0 7 * suW (M 1) (daN M g n) n) := rfl
theorem gpu_self (g : Int → Int) (r w : Int) : gpu g r w (cel g r w) = g := by
  funext y
  unfold gpu gu cel
  split
  case isTrue h => rw [h]
  case isFalse h => rfl
theorem shN_tail {M : AI} {g : Int → Int} (n : Nat) (hz : ∀ r, (n : Int) ≤ r → r < 8 → cel g r 0 = 0) : ∀ j : Nat, n + j ≤ 8 → shN M g (n + j) = shN M g n
  | 0, _ => rfl
  | j + 1, h => by
    have ih := shN_tail (M := M) n hz j (by omega)
    rw [show n + (j + 1) = (n + j) + 1 by omega, shN_s, ih, cel_shN M g ((n + j : Nat) : Int) 0 (by omega) (by omega), if_neg (by omega), hz _ (by omega) (by omega), Int.mul_zero, Int.add_zero, gpu_self]
theorem daN_tail {M : AI} {g : Int → Int} (hg : GR g) (n : Nat) (hz : ∀ r, (n : Int) ≤ r → r < 8 → cel g r 1 = 0) : ∀ j : Nat, n + j ≤ 8 → daN M g (n + j) = daN M g n
  | 0, _ => rfl
  | j + 1, h => by
    have ih := daN_tail (M := M) hg n hz j (by omega)
    have e : suW (M 1) (daN M g n) ((n + j : Nat) : Int) = 0 := by
      unfold suW
      rw [cel_daN M hg ((n + j : Nat) : Int) 1 (by omega) (by omega), if_neg (by omega), hz _ (by omega) (by omega), sm_0]
    rw [show n + (j + 1) = (n + j) + 1 by omega, daN_s, ih, e, Int.mul_zero, Int.add_zero, gpu_self]
section INVP
variable {M : AI} {g : Int → Int}
theorem gPr_hi (r w : Int) (hr : M 0 3 ≤ r ∧ 0 ≤ r) (hw : 0 ≤ w ∧ w < 512) (h3 : 0 ≤ M 0 3) : cel (gPr M g).2 r w = cel g r w := by
  unfold gPr
  dsimp only
  rw [cel_gu _ _ _ _ _ (by omega), cel_gu _ _ _ _ _ (by omega), cel_lkN r w hw _ (by omega), cel_shN M g r w hr.2 hw, if_neg (by omega)]
theorem gDa_hi (hg : GR g) (r w : Int) (hr : M 0 3 ≤ r ∧ 0 ≤ r) (h8 : r < 8) (hw : 0 ≤ w ∧ w < 512) (h3 : 0 ≤ M 0 3) : cel (gDa M g).2 r w = cel g r w := by
  unfold gDa
  rw [cel_lkN r w hw _ (by omega), cel_gu _ _ _ _ _ (by omega), cel_daN M hg r w ⟨hr.2, h8⟩ hw, if_neg (by omega)]
theorem gPr_GR (hM : SA M) (hg : GR g) (hs : GS g 500000000) : GR (gPr M g).2 := fun r a b => ((lkN_GR (GR.sh hM hg hs _) _ r a b).gu a (by omega)).gu a (by omega)
theorem gDa_GR (hM : SA M) (hg : GR g) (hs : GS g 500000000) : GR (gDa M g).2 := lkN_GR (fun r a b => (GR.da hM hg hs _ r a b).gu a (by omega)) _
theorem gPr_QZ (hz : QZ g) : QZ (gPr M g).2 := QZ.cong (fun r w a b c => by
  show cel (gu (gu _ 1 _) 2 _) r w = cel (lkN M (shN M g (M 0 3).toNat) (M 0 3).toNat).2 r w
  rw [cel_gu _ _ _ _ _ (by omega), cel_gu _ _ _ _ _ (by omega)]) (lkN_QZ (QZ.cong (fun r w a b c => by rw [cel_shN M g r w a (by omega), if_neg (by omega)]) hz) _)
theorem gDa_QZ (hg : GR g) (hz : QZ g) : QZ (gDa M g).2 := lkN_QZ (QZ.cong (fun r w a b c => by rw [cel_gu _ _ _ _ _ (by omega), cel_daN M hg r w ⟨a, b⟩ (by omega), if_neg (by omega)]) hz) _
theorem gPr_ZR (hM : SA M) (hZ : ZR M g) : ZR M (gPr M g).2 := by
  have h3 := hM.1.2.1
  intro r a b
  rw [gPr_hi r 0 (by omega) (by omega) (by omega), gPr_hi r 1 (by omega) (by omega) (by omega), gPr_hi r 2 (by omega) (by omega) (by omega), gPr_hi r 3 (by omega) (by omega) (by omega), gPr_hi r 4 (by omega) (by omega) (by omega)]
  exact hZ r a b
theorem gDa_ZR (hM : SA M) (hg : GR g) (hZ : ZR M g) : ZR M (gDa M g).2 := by
  have h3 := hM.1.2.1
  intro r a b
  rw [gDa_hi hg r 0 (by omega) b (by omega) (by omega), gDa_hi hg r 1 (by omega) b (by omega) (by omega), gDa_hi hg r 2 (by omega) b (by omega) (by omega), gDa_hi hg r 3 (by omega) b (by omega) (by omega), gDa_hi hg r 4 (by omega) b (by omega) (by omega)]
  exact hZ r a b
theorem gPr_GS (hM : SA M) (hg : GR g) {B : Int} (hB : 0 ≤ B) (hs : GS g B) : GS (gPr M g).2 (B + 54) := by
  have key : GS (lkN M (shN M g (M 0 3).toNat) (M 0 3).toNat).2 (B + 54) := by
    refine lkN_GS (by omega) (fun r a b => ?_) _
    have h1 := (hg r a b).1
    have hm := mul_b (m := 9) (n := 6) ⟨hM.1.2.2.2.2.1, h1⟩
    have := hs r a b
    rw [cel_shN M g r 4 a (by omega)]
    split <;> omega
  intro r a b
  show cel (gu (gu _ 1 _) 2 _) r 4 ≤ _
  rw [cel_gu _ _ _ _ _ (by omega), cel_gu _ _ _ _ _ (by omega)]
  exact key r a b
theorem gDa_GS (hM : SA M) (hg : GR g) {B : Int} (hB : 0 ≤ B) (hs : GS g B) : GS (gDa M g).2 (B + 4500) := by
  refine lkN_GS (by omega) (fun r a b => ?_) _
  have h1 := (hg r a b).2.1
  have hw := suW_b (met := M 1) (hg r a b)
  have hm := mul_b (a := M 0 7) (b := suW (M 1) g r) (m := 9) (n := 500) ⟨hM.1.2.2.2.2.2.1, by omega⟩
  have := hs r a b
  rw [cel_gu _ _ _ _ _ (by omega), cel_daN M hg r 4 ⟨a, b⟩ (by omega)]
  split <;> omega
theorem cel_gEmp_p (g : Int → Int) (r r2 k : Int) (h : (0 ≤ r ∧ 0 ≤ r2) ∧ 0 ≤ k ∧ k < 500) : cel (gEmp g r) r2 (11 + k) = cel g r2 (11 + k) := by
  rw [cel_gEmp _ _ _ _ ⟨h.1, by omega⟩, if_neg (by omega), if_neg (by omega), if_neg (by omega)]
theorem KB.fall (hg : GR g) (hk : KB M g) (r : Int) (hr : 0 ≤ r) : KB M (gFall g r) := by
  intro r2 a b k p q
  have h2 := (hg r2 a b).2.1
  rw [cel_gFall _ _ _ _ ⟨⟨hr, a⟩, by omega⟩] at q
  by_cases e : r2 = r
  · rw [if_pos (by omega)] at q; omega
  · rw [if_neg (by omega), if_neg (by omega), if_neg (by omega)] at q
    rw [cel_gFall _ _ _ _ ⟨⟨hr, a⟩, by omega⟩, if_neg (by omega), if_neg (by omega), if_neg (by omega)]
    exact hk r2 a b k p q
theorem lkN_KB (hg : GR g) (hk : KB M g) : ∀ n : Nat, KB M (lkN M g n).2
  | 0 => hk
  | n + 1 => by
    unfold lkN
    split
    · exact KB.fall (lkN_GR hg n) (lkN_KB hg hk n) _ (by omega)
    · exact lkN_KB hg hk n
theorem KB.cong {g h : Int → Int} (hg : GR g) (e : ∀ r w, 0 ≤ r → r < 8 → 0 ≤ w → w < 512 → w ≠ 4 → cel h r w = cel g r w) (hk : KB M g) : KB M h := by
  intro r a b k p q
  have h2 := (hg r a b).2.1
  rw [e r 1 a b (by omega) (by omega) (by omega)] at q
  rw [e r _ a b (by omega) (by omega) (by omega)]
  exact hk r a b k p q
theorem gPr_KB (hM : SA M) (hg : GR g) (hs : GS g 500000000) (hk : KB M g) : KB M (gPr M g).2 := by
  have g1 := GR.sh hM hg hs (M 0 3).toNat
  have k1 : KB M (shN M g (M 0 3).toNat) := KB.cong hg (fun r w a b c d e => by rw [cel_shN M g r w a ⟨c, d⟩, if_neg (by omega)]) hk
  refine KB.cong (lkN_GR (A := M) g1 (M 0 3).toNat) (fun r w a b c d _ => ?_) (lkN_KB g1 k1 (M 0 3).toNat)
  show cel (gu (gu _ 1 _) 2 _) r w = _
  rw [cel_gu _ _ _ _ _ (by omega), cel_gu _ _ _ _ _ (by omega)]
theorem gDa_KB (hM : SA M) (hg : GR g) (hs : GS g 500000000) (hk : KB M g) : KB M (gDa M g).2 :=
  lkN_KB (fun r a b => (GR.da hM hg hs _ r a b).gu a (by omega)) (KB.cong hg (fun r w a b c d e => by rw [cel_gu _ _ _ _ _ (by omega), cel_daN M hg r w ⟨a, b⟩ ⟨c, d⟩, if_neg (by omega)]) hk) _
end INVP
noncomputable def prN (M : AI) (g : Int → Int) : Nat → Int → Int
  | 0 => g
  | n + 1 => (gPr M (prN M g n)).2
noncomputable def dyN (M : AI) (g : Int → Int) : Nat → Int → Int
  | 0 => g
  | n + 1 => (gDa M (dyN M g n)).2
/-- a content that stays in bounds as it goes on -/
abbrev GI (M : AI) (g : Int → Int) (B : Int) : Prop := GR g ∧ QZ g ∧ ZR M g ∧ KB M g ∧ GS g B
theorem GI.pr {M : AI} {g : Int → Int} {B : Int} (hM : SA M) (hB : 0 ≤ B ∧ B ≤ 500000000) (h : GI M g B) : GI M (gPr M g).2 (B + 54) := by
  obtain ⟨h1, h2, h3, h4, h5⟩ := h
  have h6 : GS g 500000000 := fun r a b => by have := h5 r a b; omega
  exact ⟨gPr_GR hM h1 h6, gPr_QZ h2, gPr_ZR hM h3, gPr_KB hM h1 h6 h4, gPr_GS hM h1 hB.1 h5⟩
theorem GI.da {M : AI} {g : Int → Int} {B : Int} (hM : SA M) (hB : 0 ≤ B ∧ B ≤ 500000000) (h : GI M g B) : GI M (gDa M g).2 (B + 4500) := by
  obtain ⟨h1, h2, h3, h4, h5⟩ := h
  have h6 : GS g 500000000 := fun r a b => by have := h5 r a b; omega
  exact ⟨gDa_GR hM h1 h6, gDa_QZ h1 h2, gDa_ZR hM h1 h3, gDa_KB hM h1 h6 h4, gDa_GS hM h1 hB.1 h5⟩
section CST4
variable {c : CC} {A : AI} {J : JI} {S Q : Nat} {M : AI} {len g : Int → Int} {f : Int}
theorem s_impress (hS : isState c S) (hQ : isPlan c Q) (ha : apQ Q S) (h : SR A J S (M 2) g (g 5)) (hg : GR g) (hz : QZ g) (hs : GS g 500000000) (hM : SA M) (hP : PR A Q M) (hZ : ZR M g) :
    ∃ A', fX5_impress S Q (CW c A J) = some (Sum.inl none, CW c A' J) ∧ SR A' J S (M 2) (gPr M g).2 ((gPr M g).2 5) ∧ frm (inS S) A A' J J := by
  have h3 := hM.1.2.1
  have i0 : inS S S := by unfold inS; omega
  have htail : shN M g 8 = shN M g (M 0 3).toNat := by
    have := shN_tail (M := M) (g := g) (M 0 3).toNat (fun r a b => (hZ r (by omega) b).1) (8 - (M 0 3).toNat) (by omega)
    rw [show (M 0 3).toNat + (8 - (M 0 3).toNat) = 8 by omega] at this
    exact this
  simp only [fX5_impress, il0]
  refine lp (fun n i (s : AI) => fX5_impress_2 n S Q (ii i) (CW c s J)) (fun x => ∃ A', x = some (Sum.inl none, CW c A' J) ∧ SR A' J S (M 2) (gPr M g).2 ((gPr M g).2 5) ∧ frm (inS S) A A' J J)
    (fun i s => (0 ≤ i ∧ SR s J S (M 2) (shN M g i.toNat) (g 5)) ∧ frm (inS S) A s J J) 8 ?_ ?_ FU 0 A (by omega) ⟨⟨by omega, h⟩, frm.refl _ _ _⟩ (by have := FU_e; omega)
  · rintro n i s hi ⟨⟨hI, hss⟩, hf⟩
    have hgs : GR (shN M g i.toNat) := GR.sh hM hg hs _
    have hR := hS.row i ⟨hI, hi⟩
    have hrr := hss.2 i hI hi
    have hP' := PR_S hP ha hf
    have hgi := c_growthImp (c := c) hR hQ hrr hP'.1.2.2.2.2.1
    have e9 := hrr.1.2.2.2.2.2.2
    have iR : inR (rc S i) (rc S i) := by unfold inR; omega
    have sl := s_slack hss hgs i (cel (shN M g i.toNat) i 4 + M 0 6 * cel (shN M g i.toNat) i 0) ⟨hI, hi⟩
    have hsx := shN_s M g i.toNat
    rw [show ((i.toNat : Nat) : Int) = i by omega] at hsx
    rw [← hsx] at sl
    refine Or.inr ⟨_, ⟨⟨by omega, by rw [show (i + 1).toNat = i.toNat + 1 by omega]; exact sl⟩, frm_up hf _ _ _ (rc_in ⟨hI, hi⟩ iR).1.1⟩, ?_⟩
    simp (disch := first | assumption | omega) only [fX5_impress_2, rwI1, rwS1, rwI2, rwS2, rwI4, rwS4, rwI5, rwS5, rwI7, rwS7, rwI8, rwS8, rwI9, rwS9, rwR0, rwR3, rwR6, rwA1, rwU1, rwA3, rwU3, rwV, rwJ, rwUJ, plI0, plS0, plI1, plS1, plI2, plS2, plI3, plS3, plI4, plS4, plI5, plS5, plI6, plS6, plI7, plS7, plR8, plR9, plR10, plA1, plU1, plA2, plU2, plA3, plU3, plV, stI2, stS2, stI3, stS3, stI4, stS4, stI5, stS5, stI6, stS6, stI7, stS7, stR0, stR1, stA2, stU2, stV, stRow, svI5, svS5, svI6, svS6, svI7, svS7, svR0, svR1, svR2, svR3, svR4, svA13, svU13, svA14, svU14, svA15, svU15, svA16, svU16, svV, svRow, svF, svUF, hiI1, hiS1, hiI2, hiS2, hiR0, hiV, hiRow, rdI2, rdS2, rdI3, rdS3, rdI4, rdS4, rdI5, rdS5, rdI6, rdS6, rdI7, rdS7, rdI8, rdS8, rdR0, rdR1, rdA1, rdU1, rdA2, rdU2, rdV, k_C, il0, il1, il2, il3, il4, il5, il6, il7, il8, il9, il10, il11, il12, il15, il16, il20, il24, il31, il32, il44, il45, il48, il50, il57, il58, il59, il63, il91, il93, il97, il99, il100, il109, il113, il119, il120, il122, il200, il255, il480, il500, il501, il512, il999, il4112, il41120, il1000000, il1000003, ii_add, ii_sub, ii_mul, ii_neg, ii_le, ii_lt, ii_eq, ii_div, q_I, q_V, q_R, lt_q, rZ_q, md_M, md_16, md_4, md_8, md_10, if_true, if_false, if_pos, if_neg, e9, hgi]
  · rintro n s ⟨⟨hI, hss⟩, hf⟩
    have e8 : (8 : Int).toNat = 8 := rfl
    rw [e8, htail] at hss
    have hgs : GR (shN M g (M 0 3).toNat) := GR.sh hM hg hs _
    have hzs : QZ (shN M g (M 0 3).toNat) := QZ.cong (fun r w a b c => by rw [cel_shN M g r w a (by omega), if_neg (by omega)]) hz
    have hP' := PR_S hP ha hf
    have e5 : shN M g (M 0 3).toNat 5 = g 5 := lo_shN M g 5 (by omega) _
    rw [← e5] at hss
    obtain ⟨A2, e2, s2, f2⟩ := s_dropLoose (c := c) hS hQ ha hss hgs hzs hM ⟨hP'.1.1, hP'.1.2.2.1, hP'.1.2.2.2.2.2.2.1⟩ (fun r a b => by rw [cel_shN M g r 0 (by omega) (by omega), if_neg (by omega)]; exact (hZ r a b).1)
    have hP2 := PR_S hP' ha f2
    have hl5 := lkN_5 M (shN M g (M 0 3).toNat) (M 0 3).toNat
    have hgl : GR (lkN M (shN M g (M 0 3).toNat) (M 0 3).toNat).2 := lkN_GR hgs _
    have hl0 := fun r (a : M 0 3 ≤ r) (b : r < 8) => show cel (lkN M (shN M g (M 0 3).toNat) (M 0 3).toNat).2 r 0 = 0 by rw [cel_lkN r 0 (by omega) _ (by omega), cel_shN M g r 0 (by omega) (by omega), if_neg (by omega)]; exact (hZ r a b).1
    unfold gPr
    generalize hL : lkN M (shN M g (M 0 3).toNat) (M 0 3).toNat = L at *
    obtain ⟨ls, lg⟩ := L
    dsimp only at *
    obtain ⟨a0, a1, a2, a3, a4, a5⟩ := s2.1.1
    have s3 : SR (up A2 S 3 (lg 1 + 1)) J S (M 2) (gu lg 1 (lg 1 + 1)) (lg 5) := by
      refine SR_lo s2 hgl (fun b z q => up_n _ _ _ _ _ _ (by omega)) (fun r w a b x y => cel_gu _ _ _ _ _ (by omega)) (fun k a b => gu_n _ _ _ _ (by omega)) ?_
      rw [gu_n _ _ _ 0 (by omega), gu_s, gu_n _ _ _ 2 (by omega), gu_n _ _ _ 3 (by omega), gu_n _ _ _ 4 (by omega)]
      simp (disch := first | assumption | omega) only [up_s, up_n]
      exact ⟨a0, trivial, a2, a3, a4, a5⟩
    have g3 : GR (gu lg 1 (lg 1 + 1)) := fun r a b => (hgl r a b).gu a (by omega)
    have f3 : frm (inS S) A (up A2 S 3 (lg 1 + 1)) J J := frm_up (hf.trans f2) _ _ _ i0
    have hP3 := PR_S hP ha f3
    have hfi := s_isFirm (c := c) hS hQ s3 g3 hM ⟨hP3.1.1, hP3.1.2.2.1⟩ (fun r a b => by rw [cel_gu _ _ _ _ _ (by omega)]; exact hl0 r a b)
    have hb := gdN_b M (gu lg 1 (lg 1 + 1)) (M 0 3).toNat
    have e4 : gu lg 1 (lg 1 + 1) 2 = lg 2 := gu_n _ _ _ _ (by omega)
    have hlb : lg 5 - shN M g (M 0 3).toNat 5 < 1000 ∨ True := Or.inr trivial
    have hl9 : ∀ n : Nat, (lkN M (shN M g (M 0 3).toNat) n).2 5 ≤ shN M g (M 0 3).toNat 5 + n := by
      intro n
      induction n with
      | zero => show shN M g (M 0 3).toNat 5 ≤ _; omega
      | succ n ih =>
        rw [lkN_s]
        split
        · dsimp only
          have e : gFall (lkN M (shN M g (M 0 3).toNat) n).2 n 5 = (lkN M (shN M g (M 0 3).toNat) n).2 5 + 1 := by
            unfold gFall
            rw [lo_gEmp _ _ _ (by omega), if_neg (by omega), if_neg (by omega), gpu_lo _ _ _ _ _ (by omega), gu_s]
          omega
        · omega
    have hl8 := hl9 (M 0 3).toNat
    rw [hL] at hl8
    dsimp only at hl8
    have fin : ∀ v, v = gu (gu lg 1 (lg 1 + 1)) 2 (lg 2) ∨ True → True := fun _ _ => trivial
    by_cases q : ls = 0
    · have q' := hl5.2.2.mp q
      by_cases q2 : gdN M (gu lg 1 (lg 1 + 1)) (M 0 3).toNat = 1
      · rw [if_pos ⟨q, q2⟩]
        refine ⟨up (up A2 S 3 (lg 1 + 1)) S 4 (lg 2 + 1), ?_, ?_, frm_up f3 _ _ _ i0⟩
        · simp (disch := first | assumption | omega) only [fX5_impress_2, fX5_impress_38, rwI1, rwS1, rwI2, rwS2, rwI4, rwS4, rwI5, rwS5, rwI7, rwS7, rwI8, rwS8, rwI9, rwS9, rwR0, rwR3, rwR6, rwA1, rwU1, rwA3, rwU3, rwV, rwJ, rwUJ, plI0, plS0, plI1, plS1, plI2, plS2, plI3, plS3, plI4, plS4, plI5, plS5, plI6, plS6, plI7, plS7, plR8, plR9, plR10, plA1, plU1, plA2, plU2, plA3, plU3, plV, stI2, stS2, stI3, stS3, stI4, stS4, stI5, stS5, stI6, stS6, stI7, stS7, stR0, stR1, stA2, stU2, stV, stRow, svI5, svS5, svI6, svS6, svI7, svS7, svR0, svR1, svR2, svR3, svR4, svA13, svU13, svA14, svU14, svA15, svU15, svA16, svU16, svV, svRow, svF, svUF, hiI1, hiS1, hiI2, hiS2, hiR0, hiV, hiRow, rdI2, rdS2, rdI3, rdS3, rdI4, rdS4, rdI5, rdS5, rdI6, rdS6, rdI7, rdS7, rdI8, rdS8, rdR0, rdR1, rdA1, rdU1, rdA2, rdU2, rdV, k_C, il0, il1, il2, il3, il4, il5, il6, il7, il8, il9, il10, il11, il12, il15, il16, il20, il24, il31, il32, il44, il45, il48, il50, il57, il58, il59, il63, il91, il93, il97, il99, il100, il109, il113, il119, il120, il122, il200, il255, il480, il500, il501, il512, il999, il4112, il41120, il1000000, il1000003, ii_add, ii_sub, ii_mul, ii_neg, ii_le, ii_lt, ii_eq, ii_div, q_I, q_V, q_R, lt_q, rZ_q, md_M, md_16, md_4, md_8, md_10, if_true, if_false, if_pos, if_neg, e2, a1, a2, hfi, up_n]
        · refine SR_lo s3 g3 (fun b z q => up_n _ _ _ _ _ _ (by omega)) (fun r w a b x y => cel_gu _ _ _ _ _ (by omega)) (fun k a b => gu_n _ _ _ _ (by omega)) ?_
          rw [gu_n _ _ _ 0 (by omega), gu_n _ _ _ 1 (by omega), gu_s, gu_n _ _ _ 3 (by omega), gu_n _ _ _ 4 (by omega), gu_n _ _ _ 5 (by omega), gu_n _ _ _ 0 (by omega), gu_s, gu_n _ _ _ 3 (by omega), gu_n _ _ _ 4 (by omega), gu_n _ _ _ 5 (by omega)]
          simp (disch := first | assumption | omega) only [up_s, up_n]
          exact ⟨a0, trivial, trivial, a3, a4, a5⟩
      · rw [if_neg (fun z => q2 z.2)]
        refine ⟨up A2 S 3 (lg 1 + 1), ?_, ?_, f3⟩
        · simp (disch := first | assumption | omega) only [fX5_impress_2, fX5_impress_38, rwI1, rwS1, rwI2, rwS2, rwI4, rwS4, rwI5, rwS5, rwI7, rwS7, rwI8, rwS8, rwI9, rwS9, rwR0, rwR3, rwR6, rwA1, rwU1, rwA3, rwU3, rwV, rwJ, rwUJ, plI0, plS0, plI1, plS1, plI2, plS2, plI3, plS3, plI4, plS4, plI5, plS5, plI6, plS6, plI7, plS7, plR8, plR9, plR10, plA1, plU1, plA2, plU2, plA3, plU3, plV, stI2, stS2, stI3, stS3, stI4, stS4, stI5, stS5, stI6, stS6, stI7, stS7, stR0, stR1, stA2, stU2, stV, stRow, svI5, svS5, svI6, svS6, svI7, svS7, svR0, svR1, svR2, svR3, svR4, svA13, svU13, svA14, svU14, svA15, svU15, svA16, svU16, svV, svRow, svF, svUF, hiI1, hiS1, hiI2, hiS2, hiR0, hiV, hiRow, rdI2, rdS2, rdI3, rdS3, rdI4, rdS4, rdI5, rdS5, rdI6, rdS6, rdI7, rdS7, rdI8, rdS8, rdR0, rdR1, rdA1, rdU1, rdA2, rdU2, rdV, k_C, il0, il1, il2, il3, il4, il5, il6, il7, il8, il9, il10, il11, il12, il15, il16, il20, il24, il31, il32, il44, il45, il48, il50, il57, il58, il59, il63, il91, il93, il97, il99, il100, il109, il113, il119, il120, il122, il200, il255, il480, il500, il501, il512, il999, il4112, il41120, il1000000, il1000003, ii_add, ii_sub, ii_mul, ii_neg, ii_le, ii_lt, ii_eq, ii_div, q_I, q_V, q_R, lt_q, rZ_q, md_M, md_16, md_4, md_8, md_10, if_true, if_false, if_pos, if_neg, e2, a1, a2, hfi, up_n]
        · rw [show lg 2 + 0 = gu lg 1 (lg 1 + 1) 2 by omega]
          have : gu (gu lg 1 (lg 1 + 1)) 2 (gu lg 1 (lg 1 + 1) 2) = gu lg 1 (lg 1 + 1) := by
            funext y
            unfold gu
            split
            case isTrue z => rw [z]
            case isFalse z => rfl
          rw [this, gu_n _ _ _ 5 (by omega)]
          exact s3
    · rw [if_neg (fun z => q z.1)]
      have q' : ¬ lg 5 = shN M g (M 0 3).toNat 5 := fun z => q (hl5.2.2.mpr z)
      refine ⟨up A2 S 3 (lg 1 + 1), ?_, ?_, f3⟩
      · simp (disch := first | assumption | omega) only [fX5_impress_2, fX5_impress_38, rwI1, rwS1, rwI2, rwS2, rwI4, rwS4, rwI5, rwS5, rwI7, rwS7, rwI8, rwS8, rwI9, rwS9, rwR0, rwR3, rwR6, rwA1, rwU1, rwA3, rwU3, rwV, rwJ, rwUJ, plI0, plS0, plI1, plS1, plI2, plS2, plI3, plS3, plI4, plS4, plI5, plS5, plI6, plS6, plI7, plS7, plR8, plR9, plR10, plA1, plU1, plA2, plU2, plA3, plU3, plV, stI2, stS2, stI3, stS3, stI4, stS4, stI5, stS5, stI6, stS6, stI7, stS7, stR0, stR1, stA2, stU2, stV, stRow, svI5, svS5, svI6, svS6, svI7, svS7, svR0, svR1, svR2, svR3, svR4, svA13, svU13, svA14, svU14, svA15, svU15, svA16, svU16, svV, svRow, svF, svUF, hiI1, hiS1, hiI2, hiS2, hiR0, hiV, hiRow, rdI2, rdS2, rdI3, rdS3, rdI4, rdS4, rdI5, rdS5, rdI6, rdS6, rdI7, rdS7, rdI8, rdS8, rdR0, rdR1, rdA1, rdU1, rdA2, rdU2, rdV, k_C, il0, il1, il2, il3, il4, il5, il6, il7, il8, il9, il10, il11, il12, il15, il16, il20, il24, il31, il32, il44, il45, il48, il50, il57, il58, il59, il63, il91, il93, il97, il99, il100, il109, il113, il119, il120, il122, il200, il255, il480, il500, il501, il512, il999, il4112, il41120, il1000000, il1000003, ii_add, ii_sub, ii_mul, ii_neg, ii_le, ii_lt, ii_eq, ii_div, q_I, q_V, q_R, lt_q, rZ_q, md_M, md_16, md_4, md_8, md_10, if_true, if_false, if_pos, if_neg, e2, a1, a2, hfi, up_n]
      · rw [show lg 2 + 0 = gu lg 1 (lg 1 + 1) 2 by omega]
        have : gu (gu lg 1 (lg 1 + 1)) 2 (gu lg 1 (lg 1 + 1) 2) = gu lg 1 (lg 1 + 1) := by
          funext y
          unfold gu
          split
          case isTrue z => rw [z]
          case isFalse z => rfl
        rw [this, gu_n _ _ _ 5 (by omega)]
        exact s3
theorem s_passDay (hS : isState c S) (hQ : isPlan c Q) (ha : apQ Q S) (h : SR A J S (M 2) g (g 5)) (hg : GR g) (hz : QZ g) (hs : GS g 500000000) (hM : SA M) (hP : PR A Q M) (hZ : ZR M g) (hk : KB M g) :
    ∃ A', fX5_passDay S Q (CW c A J) = some (Sum.inl (some (Value.int (ii ((gDa M g).2 5 - g 5)))), CW c A' J) ∧ SR A' J S (M 2) (gDa M g).2 ((gDa M g).2 5) ∧ frm (inS S) A A' J J := by
  have h3 := hM.1.2.1
  have i0 : inS S S := by unfold inS; omega
  have htail : daN M g 8 = daN M g (M 0 3).toNat := by
    have := daN_tail (M := M) (g := g) hg (M 0 3).toNat (fun r a b => (hZ r (by omega) b).2.1) (8 - (M 0 3).toNat) (by omega)
    rw [show (M 0 3).toNat + (8 - (M 0 3).toNat) = 8 by omega] at this
    exact this
  simp only [fX5_passDay, il0]
  refine lp (fun n i (s : AI) => fX5_passDay_2 n S Q (ii i) (CW c s J)) (fun x => ∃ A', x = some (Sum.inl (some (Value.int (ii ((gDa M g).2 5 - g 5)))), CW c A' J) ∧ SR A' J S (M 2) (gDa M g).2 ((gDa M g).2 5) ∧ frm (inS S) A A' J J)
    (fun i s => (0 ≤ i ∧ SR s J S (M 2) (daN M g i.toNat) (g 5)) ∧ frm (inS S) A s J J) 8 ?_ ?_ FU 0 A (by omega) ⟨⟨by omega, h⟩, frm.refl _ _ _⟩ (by have := FU_e; omega)
  · rintro n i s hi ⟨⟨hI, hss⟩, hf⟩
    have hgs : GR (daN M g i.toNat) := GR.da hM hg hs _
    have hR := hS.row i ⟨hI, hi⟩
    have hrr := hss.2 i hI hi
    have hP' := PR_S hP ha hf
    have hgi := c_growthDay (c := c) hR hQ hrr (hgs i hI hi) hP' hM (fun k p q => by
      have hp := (hg i hI hi).2.1
      rw [cel_daN M hg i 1 ⟨hI, hi⟩ (by omega), if_neg (by omega)] at q
      rw [cel_daN M hg i _ ⟨hI, hi⟩ (by omega), if_neg (by omega)]
      exact hk i hI hi k p q)
    have e9 := hrr.1.2.2.2.2.2.2
    have iR : inR (rc S i) (rc S i) := by unfold inR; omega
    have sl := s_slack hss hgs i (cel (daN M g i.toNat) i 4 + M 0 7 * suW (M 1) (daN M g i.toNat) i) ⟨hI, hi⟩
    have hsx := daN_s M g i.toNat
    rw [show ((i.toNat : Nat) : Int) = i by omega] at hsx
    rw [← hsx] at sl
    refine Or.inr ⟨_, ⟨⟨by omega, by rw [show (i + 1).toNat = i.toNat + 1 by omega]; exact sl⟩, frm_up hf _ _ _ (rc_in ⟨hI, hi⟩ iR).1.1⟩, ?_⟩
    simp (disch := first | assumption | omega) only [fX5_passDay_2, rwI1, rwS1, rwI2, rwS2, rwI4, rwS4, rwI5, rwS5, rwI7, rwS7, rwI8, rwS8, rwI9, rwS9, rwR0, rwR3, rwR6, rwA1, rwU1, rwA3, rwU3, rwV, rwJ, rwUJ, plI0, plS0, plI1, plS1, plI2, plS2, plI3, plS3, plI4, plS4, plI5, plS5, plI6, plS6, plI7, plS7, plR8, plR9, plR10, plA1, plU1, plA2, plU2, plA3, plU3, plV, stI2, stS2, stI3, stS3, stI4, stS4, stI5, stS5, stI6, stS6, stI7, stS7, stR0, stR1, stA2, stU2, stV, stRow, svI5, svS5, svI6, svS6, svI7, svS7, svR0, svR1, svR2, svR3, svR4, svA13, svU13, svA14, svU14, svA15, svU15, svA16, svU16, svV, svRow, svF, svUF, hiI1, hiS1, hiI2, hiS2, hiR0, hiV, hiRow, rdI2, rdS2, rdI3, rdS3, rdI4, rdS4, rdI5, rdS5, rdI6, rdS6, rdI7, rdS7, rdI8, rdS8, rdR0, rdR1, rdA1, rdU1, rdA2, rdU2, rdV, k_C, il0, il1, il2, il3, il4, il5, il6, il7, il8, il9, il10, il11, il12, il15, il16, il20, il24, il31, il32, il44, il45, il48, il50, il57, il58, il59, il63, il91, il93, il97, il99, il100, il109, il113, il119, il120, il122, il200, il255, il480, il500, il501, il512, il999, il4112, il41120, il1000000, il1000003, ii_add, ii_sub, ii_mul, ii_neg, ii_le, ii_lt, ii_eq, ii_div, q_I, q_V, q_R, lt_q, rZ_q, md_M, md_16, md_4, md_8, md_10, if_true, if_false, if_pos, if_neg, e9, hgi]
  · rintro n s ⟨⟨hI, hss⟩, hf⟩
    have e8 : (8 : Int).toNat = 8 := rfl
    rw [e8, htail] at hss
    have hgs : GR (daN M g (M 0 3).toNat) := GR.da hM hg hs _
    have e5 : daN M g (M 0 3).toNat 5 = g 5 := lo_daN M g 5 (by omega) _
    have e3 : daN M g (M 0 3).toNat 3 = g 3 := lo_daN M g 3 (by omega) _
    obtain ⟨a0, a1, a2, a3, a4, a5⟩ := hss.1.1
    have s1 : SR (up s S 5 (g 3 + 1)) J S (M 2) (gu (daN M g (M 0 3).toNat) 3 (g 3 + 1)) (g 5) := by
      refine SR_lo hss hgs (fun b z q => up_n _ _ _ _ _ _ (by omega)) (fun r w a b x y => cel_gu _ _ _ _ _ (by omega)) (fun k a b => gu_n _ _ _ _ (by omega)) ?_
      rw [gu_n _ _ _ 0 (by omega), gu_n _ _ _ 1 (by omega), gu_n _ _ _ 2 (by omega), gu_s, gu_n _ _ _ 4 (by omega)]
      simp (disch := first | assumption | omega) only [up_s, up_n]
      exact ⟨a0, a1, a2, trivial, a4, a5⟩
    have g1 : GR (gu (daN M g (M 0 3).toNat) 3 (g 3 + 1)) := fun r a b => (hgs r a b).gu a (by omega)
    have z1 : QZ (gu (daN M g (M 0 3).toNat) 3 (g 3 + 1)) := QZ.cong (fun r w a b c => by rw [cel_gu _ _ _ _ _ (by omega), cel_daN M hg r w ⟨a, b⟩ (by omega), if_neg (by omega)]) hz
    have f1 : frm (inS S) A (up s S 5 (g 3 + 1)) J J := frm_up hf _ _ _ i0
    have hP' := PR_S hP ha f1
    have e5' : gu (daN M g (M 0 3).toNat) 3 (g 3 + 1) 5 = g 5 := by rw [gu_n _ _ _ _ (by omega)]; exact e5
    rw [← e5'] at s1
    obtain ⟨A2, e2, s2, f2⟩ := s_dropLoose (c := c) hS hQ ha s1 g1 z1 hM ⟨hP'.1.1, hP'.1.2.2.1, hP'.1.2.2.2.2.2.2.1⟩ (fun r a b => by rw [cel_gu _ _ _ _ _ (by omega), cel_daN M hg r 0 (by omega) (by omega), if_neg (by omega)]; exact (hZ r a b).1)
    rw [e5'] at e2
    refine ⟨A2, ?_, s2, f1.trans f2⟩
    rw [e3] at a3
    simp (disch := first | assumption | omega) only [fX5_passDay_2, fX5_passDay_38, rwI1, rwS1, rwI2, rwS2, rwI4, rwS4, rwI5, rwS5, rwI7, rwS7, rwI8, rwS8, rwI9, rwS9, rwR0, rwR3, rwR6, rwA1, rwU1, rwA3, rwU3, rwV, rwJ, rwUJ, plI0, plS0, plI1, plS1, plI2, plS2, plI3, plS3, plI4, plS4, plI5, plS5, plI6, plS6, plI7, plS7, plR8, plR9, plR10, plA1, plU1, plA2, plU2, plA3, plU3, plV, stI2, stS2, stI3, stS3, stI4, stS4, stI5, stS5, stI6, stS6, stI7, stS7, stR0, stR1, stA2, stU2, stV, stRow, svI5, svS5, svI6, svS6, svI7, svS7, svR0, svR1, svR2, svR3, svR4, svA13, svU13, svA14, svU14, svA15, svU15, svA16, svU16, svV, svRow, svF, svUF, hiI1, hiS1, hiI2, hiS2, hiR0, hiV, hiRow, rdI2, rdS2, rdI3, rdS3, rdI4, rdS4, rdI5, rdS5, rdI6, rdS6, rdI7, rdS7, rdI8, rdS8, rdR0, rdR1, rdA1, rdU1, rdA2, rdU2, rdV, k_C, il0, il1, il2, il3, il4, il5, il6, il7, il8, il9, il10, il11, il12, il15, il16, il20, il24, il31, il32, il44, il45, il48, il50, il57, il58, il59, il63, il91, il93, il97, il99, il100, il109, il113, il119, il120, il122, il200, il255, il480, il500, il501, il512, il999, il4112, il41120, il1000000, il1000003, ii_add, ii_sub, ii_mul, ii_neg, ii_le, ii_lt, ii_eq, ii_div, q_I, q_V, q_R, lt_q, rZ_q, md_M, md_16, md_4, md_8, md_10, if_true, if_false, if_pos, if_neg, a3, e2]
    rfl
end CST4
