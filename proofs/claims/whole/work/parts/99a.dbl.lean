/-! CALLS THAT ANSWER BY A DOUBLE OR A FLOAT: meanGap, woodShare, goodShare -/
theorem nn64 {x : UInt64} (h : FP.dIsNaN x = false) : x &&& 0x7fffffffffffffff ≤ 0x7ff0000000000000 := by
  rw [UInt64.le_iff_toNat_le, UInt64.toNat_and, show (0x7fffffffffffffff : UInt64).toNat = 2 ^ 63 - 1 from rfl, Nat.and_two_pow_sub_one_eq_mod, show (0x7ff0000000000000 : UInt64).toNat = 9218868437227405312 from rfl]
  have h1 : ¬ FP.Core.dIsNaN x = true := fun z => by
    have h2 : FP.Core.dIsNaN x = false := h
    rw [h2] at z
    exact Bool.noConfusion z
  rw [FP.Core.isNaN_bits] at h1
  omega
theorem nn32 {x : UInt32} (h : FP.fIsNaN x = false) : x &&& 0x7fffffff ≤ 0x7f800000 := by
  rw [UInt32.le_iff_toNat_le, UInt32.toNat_and, show (0x7fffffff : UInt32).toNat = 2 ^ 31 - 1 from rfl, Nat.and_two_pow_sub_one_eq_mod, show (0x7f800000 : UInt32).toNat = 2139095040 from rfl]
  have h1 : ¬ FP.Core.fIsNaN x = true := fun z => by
    have h2 : FP.Core.fIsNaN x = false := h
    rw [h2] at z
    exact Bool.noConfusion z
  rw [FP.Core.isNaN_bits32] at h1
  omega
theorem nn_d (a b : Int32) (h : b ≠ 0) : FP.dIsNaN (FP.ddiv (FP.i2d a) (FP.i2d b)) = false :=
  FP.Core.ddiv_out (FP.Core.i2d_fin a).notNaN (FP.Core.i2d_fin b) (fun z => FP.Core.i2d_ne_zero h ((FP.Core.zero_bits2 _).mp z))
theorem nn_f (a b : Int32) (h : b ≠ 0) : FP.fIsNaN (FP.fdiv (FP.i2f a) (FP.i2f b)) = false :=
  FP.Core.fdiv_out (FP.Core.i2f_fin a).notNaN (FP.Core.i2f_fin b) (fun z => FP.Core.i2f_ne_zero h ((FP.Core.zero_bits232 _).mp z))
theorem q_F (g : UInt32 → AS → Option AR) (i : UInt32) (τ : AS) : qF g (some (.float i)) τ = g i τ := rfl
theorem q_D (g : UInt64 → AS → Option AR) (i : UInt64) (τ : AS) : qD g (some (.double i)) τ = g i τ := rfl
noncomputable def shF (a b : Int32) : UInt32 := if b = 0 then 0 else FP.fdiv (FP.i2f a) (FP.i2f b)
theorem shF_n (a b : Int32) : FP.fIsNaN (shF a b) = false := by
  unfold shF
  by_cases h : b = 0
  · rw [if_pos h]; decide +kernel
  · rw [if_neg h]; exact nn_f a b h
theorem c_share (a b : Int32) (W : AS) : fX6_share a b W = some (.inl (some (.float (shF a b))), W) := by
  unfold fX6_share shF
  by_cases h : b = 0
  · rw [if_pos h, if_pos h]
  · rw [if_neg h, if_neg h, if_pos (nn32 (nn_f a b h))]
/-- a wrapper of a method that answers by a double -/
abbrev wD (hh : List (String × Int32 × (Nat × Nat × Nat × Nat))) (x : Option AR) (σ : AS) : Option AR := cH σ 0 10 x hh (qD (fun d1 s2 => uD s2 456 0 d1 (fun s3 => some (.inl (some (.int 0)), s3))))
abbrev wF (hh : List (String × Int32 × (Nat × Nat × Nat × Nat))) (x : Option AR) (σ : AS) : Option AR := cH σ 0 10 x hh (qF (fun y1 s2 => if FP.f2d y1 &&& 0x7fffffffffffffff ≤ 0x7ff0000000000000 then (uD s2 456 0 (FP.f2d y1) (fun s3 => some (.inl (some (.int 0)), s3))) else none))
section DBL
variable {C0 N0 n : Nat} {K : Nat × Nat} {c : CC} {A A' : AI} {J J' : JI} {M M' : AI} {g g' o : Int → Int} {pl sp tv cap : Nat} {f B : Int}
theorem k_uD {a m : Nat} (h : okc c a 104 m) (hm : 0 < m ∧ m ≤ 2147483648) (v : UInt64) (k : AS → Option AR) : uD (CW c A J) a 0 v k = k (CW c A (upJ J a 0 v.toInt64)) := by
  refine (if_pos ⟨h.1, by rw [show ax_H (CW c A J) a = c.2.1 a from rfl, h.2], by rw [show ax_H (CW c A J) a = c.2.1 a from rfl, h.2]; exact ii_ib 0 m (by omega)⟩).trans ?_
  rfl
def GoodD (C0 N0 n : Nat) (K : Nat × Nat) (xc xm : Option AR) : Prop :=
  ∃ (code : Int) (d : UInt64) (pl sp tv cap : Nat) (c : CC) (A : AI) (J : JI) (M : AI) (g : Int → Int), xc = some (Sum.inl (some (Value.int (ii (code)))), CW c A J) ∧ xm = some (.inl (some (.double d)), NW K (mg M g)) ∧ (M 0 0 = code ∧ 0 ≤ code ∧ code ≤ 3) ∧ (code = 0 → J 456 0 = d.toInt64 ∧ FP.dIsNaN d = false) ∧ Inv C0 N0 (n + 1) pl sp tv cap c A J M g
def GoodF (C0 N0 n : Nat) (K : Nat × Nat) (xc xm : Option AR) : Prop :=
  ∃ (code : Int) (y : UInt32) (pl sp tv cap : Nat) (c : CC) (A : AI) (J : JI) (M : AI) (g : Int → Int), xc = some (Sum.inl (some (Value.int (ii (code)))), CW c A J) ∧ xm = some (.inl (some (.float y)), NW K (mg M g)) ∧ (M 0 0 = code ∧ 0 ≤ code ∧ code ≤ 3) ∧ (code = 0 → J 456 0 = (FP.f2d y).toInt64 ∧ FP.fIsNaN y = false) ∧ Inv C0 N0 (n + 1) pl sp tv cap c A J M g
theorem Inv.d456 (h : Inv C0 N0 n pl sp tv cap c A J M g) (v : Int64) : Inv C0 N0 n pl sp tv cap c A (upJ J 456 0 v) M g :=
  h.scr (Nat.le_refl _) ⟨rfl, rfl, rfl⟩ h.2.1.2 (frm_upJ (frm.refl _ _ _) _ _ _ (Or.inr (Or.inr rfl))) ⟨fun _ _ _ => rfl, fun _ _ _ _ => rfl⟩
theorem Inv.cU (h : Inv C0 N0 n pl sp tv cap c A J M g) : Inv C0 N0 (n + 1) pl sp tv cap (cU c) A J M g :=
  h.scr (Nat.le_succ n) ⟨rfl, rfl, rfl⟩ ⟨by have := h.2.1.2.1; show c.2.2.2.1 + 1 ≤ _; omega, by have := h.2.1.2.2; show c.2.2.2.2 + 6 ≤ _; omega⟩ (frm.refl _ _ _) ⟨fun _ _ _ => rfl, fun _ _ _ _ => rfl⟩
theorem GoodD_ok {hh : List (String × Int32 × (Nat × Nat × Nat × Nat))} {x xm : Option AR} {d : UInt64} (hI : Inv C0 N0 n pl sp tv cap c A J M g) (hx : x = some (.inl (some (.double d)), CW c A J)) (hm : xm = some (.inl (some (.double d)), NW K (mg (up M 0 0 0) g))) (hd : FP.dIsNaN d = false) : GoodD C0 N0 n K (wD hh x (CW c A J)) xm := by
  have hk := hI.1
  refine ⟨0, d, pl, sp, tv, cap, c, A, upJ J 456 0 d.toInt64, up M 0 0 0, g, ?_, hm, ⟨up_s _ _ _ _, by omega, by omega⟩, fun _ => ⟨ax_up2_s _ _ _ _, hd⟩, ((hI.thr 0).d456 _).one⟩
  rw [hx]
  refine (if_pos ⟨hk.1.1.1, by rw [show ax_H (CW c A J) 0 = c.2.1 0 from rfl, hk.1.1.2]⟩).trans ((if_pos ⟨Nat.le_refl _, Nat.le_refl _, Nat.le_refl _⟩).trans ?_)
  exact k_uD (c := c) (A := A) (J := J) hk.2.2.2.2.2.2 (by omega) d (fun s3 => some (.inl (some (.int 0)), s3))
theorem GoodF_ok {hh : List (String × Int32 × (Nat × Nat × Nat × Nat))} {x xm : Option AR} {y : UInt32} (hI : Inv C0 N0 n pl sp tv cap c A J M g) (hx : x = some (.inl (some (.float y)), CW c A J)) (hm : xm = some (.inl (some (.float y)), NW K (mg (up M 0 0 0) g))) (hd : FP.fIsNaN y = false) : GoodF C0 N0 n K (wF hh x (CW c A J)) xm := by
  have hk := hI.1
  refine ⟨0, y, pl, sp, tv, cap, c, A, upJ J 456 0 (FP.f2d y).toInt64, up M 0 0 0, g, ?_, hm, ⟨up_s _ _ _ _, by omega, by omega⟩, fun _ => ⟨ax_up2_s _ _ _ _, hd⟩, ((hI.thr 0).d456 _).one⟩
  rw [hx]
  refine (if_pos ⟨hk.1.1.1, by rw [show ax_H (CW c A J) 0 = c.2.1 0 from rfl, hk.1.1.2]⟩).trans ((if_pos ⟨Nat.le_refl _, Nat.le_refl _, Nat.le_refl _⟩).trans ((if_pos (nn64 ((FP.f2d_nan y).trans hd))).trans ?_))
  exact k_uD (c := c) (A := A) (J := J) hk.2.2.2.2.2.2 (by omega) (FP.f2d y) (fun s3 => some (.inl (some (.int 0)), s3))
theorem GoodD_nl {hh : List (String × Int32 × (Nat × Nat × Nat × Nat))} {x xm : Option AR} {d : UInt64} {E : String} (hI : Inv C0 N0 n pl sp tv cap c A J M g) (hx : x = some (.inr E, CW (cU c) A J)) (hF' : ∀ τ, hF hh E τ = some (Sum.inl (some (Value.int (ii (1)))), τ)) (hm : xm = some (.inl (some (.double d)), NW K (mg (up M 0 0 1) g))) : GoodD C0 N0 n K (wD hh x (CW c A J)) xm := by
  have hk := hI.1
  refine ⟨1, d, pl, sp, tv, cap, cU c, A, J, up M 0 0 1, g, ?_, hm, ⟨up_s _ _ _ _, by omega, by omega⟩, fun z => by omega, (hI.thr 1).cU⟩
  rw [hx]
  exact (if_pos ⟨hk.1.1.1, by rw [show ax_H (CW c A J) 0 = c.2.1 0 from rfl, hk.1.1.2]⟩).trans ((if_pos ⟨Nat.le_succ _, Nat.le_add_right _ 6, Nat.le_refl _⟩).trans (hF' _))
theorem GoodF_nl {hh : List (String × Int32 × (Nat × Nat × Nat × Nat))} {x xm : Option AR} {y : UInt32} {E : String} (hI : Inv C0 N0 n pl sp tv cap c A J M g) (hx : x = some (.inr E, CW (cU c) A J)) (hF' : ∀ τ, hF hh E τ = some (Sum.inl (some (Value.int (ii (1)))), τ)) (hm : xm = some (.inl (some (.float y)), NW K (mg (up M 0 0 1) g))) : GoodF C0 N0 n K (wF hh x (CW c A J)) xm := by
  have hk := hI.1
  refine ⟨1, y, pl, sp, tv, cap, cU c, A, J, up M 0 0 1, g, ?_, hm, ⟨up_s _ _ _ _, by omega, by omega⟩, fun z => by omega, (hI.thr 1).cU⟩
  rw [hx]
  exact (if_pos ⟨hk.1.1.1, by rw [show ax_H (CW c A J) 0 = c.2.1 0 from rfl, hk.1.1.2]⟩).trans ((if_pos ⟨Nat.le_succ _, Nat.le_add_right _ 6, Nat.le_refl _⟩).trans (hF' _))
theorem g_meanGap (hI : Inv C0 N0 n pl sp tv cap c A J M g) : GoodD C0 N0 n K (fL_meanGap 0 456 (CW c A J)) (fX7_meanGap 0 (NW K (mg M g))) := by
  have hk := hI.1
  have hRd : isReader c 1 := hk.2.1.1
  have hSv : isSolver c 4 := hk.2.1.2.1
  have hHi : isHist c 21 := hk.2.1.2.2.1
  have hNow : isState c 303 := hk.2.1.2.2.2.1
  have hSpr : isState c 338 := hk.2.1.2.2.2.2.1
  have hPl : isPlan c pl := hk.2.2.2.1.2.1
  have h00 : up M 0 0 0 0 0 = 0 := up_s _ _ _ _
  by_cases hl : M 0 1 = 1
  · obtain ⟨h10, hM, hP, hS, hG⟩ := hI.ld hl
    obtain ⟨p0, p1, p2, p3, p4, p5, p6, p7⟩ := hP.1
    have hc1 := c_chase1 (A := A) (J := J) hk h10
    have e3 : up M 0 0 0 0 3 = M 0 3 := up_n _ _ _ _ _ _ (by omega)
    have e9 : up M 0 0 0 0 9 = M 0 9 := up_n _ _ _ _ _ _ (by omega)
    have h38 := hM.1.2.1
    have h910 := hM.1.2.2.2.2.2.2.2
    have hb : ¬ ii (up M 0 0 0 0 3) = 0 := by rw [il0, ii_eq _ _ (by omega)]; omega
    have hnn := nn_d (ii (sm (fun r => gapM (up M 0 0 0) g r) (up M 0 0 0 0 3))) (ii (up M 0 0 0 0 3)) hb
    have hC : fX6_meanGap_8 FU 0 (ii 0) (ii 0) (CW c A J) = fX6_meanGap_44 0 (ii (sm (fun r => gapM (up M 0 0 0) g r) (up M 0 0 0 0 3))) (CW c A J) := by
      refine lp (fun m i (s : Int) => fX6_meanGap_8 m 0 (ii s) (ii i) (CW c A J)) (fun x => x = fX6_meanGap_44 0 (ii (sm (fun r => gapM (up M 0 0 0) g r) (up M 0 0 0 0 3))) (CW c A J)) (fun i s => 0 ≤ i ∧ s = sm (fun r => gapM (up M 0 0 0) g r) i) (up M 0 0 0 0 3) ?_ ?_ FU 0 0 (by omega) ⟨by omega, rfl⟩ (by have := FU_e; omega)
      · rintro m i s hi ⟨hJ, hs⟩
        have hR := hNow.row i (by omega)
        have hgp := c_gapIn (c := c) hR hPl (hS.2 i hJ (by omega)) (hG.1.1 i hJ (by omega)) p0 p2
        refine Or.inr ⟨s + gapM (up M 0 0 0) g i, ⟨by omega, by rw [sm_s _ _ hJ, hs]⟩, ?_⟩
        simp (disch := first | assumption | omega) only [fX6_meanGap_8, lkV hk, lkR0 hk, lkR1 hk, lkR2 hk, lkR3 hk, lkR4 hk, lkR5 hk, lkR6 hk, lkR7 hk, lkR8 hk, lkR9 hk, lkI hk, k_E, t_E, rwI1, rwS1, rwI2, rwS2, rwI4, rwS4, rwI5, rwS5, rwI7, rwS7, rwI8, rwS8, rwI9, rwS9, rwR0, rwR3, rwR6, rwA1, rwU1, rwA3, rwU3, rwV, rwJ, rwUJ, plI0, plS0, plI1, plS1, plI2, plS2, plI3, plS3, plI4, plS4, plI5, plS5, plI6, plS6, plI7, plS7, plR8, plR9, plR10, plA1, plU1, plA2, plU2, plA3, plU3, plV, stI2, stS2, stI3, stS3, stI4, stS4, stI5, stS5, stI6, stS6, stI7, stS7, stR0, stR1, stA2, stU2, stV, stRow, svI5, svS5, svI6, svS6, svI7, svS7, svR0, svR1, svR2, svR3, svR4, svA13, svU13, svA14, svU14, svA15, svU15, svA16, svU16, svV, svRow, svF, svUF, hiI1, hiS1, hiI2, hiS2, hiR0, hiV, hiRow, rdI2, rdS2, rdI3, rdS3, rdI4, rdS4, rdI5, rdS5, rdI6, rdS6, rdI7, rdS7, rdI8, rdS8, rdR0, rdR1, rdA1, rdU1, rdA2, rdU2, rdV, k_C, ↓reduceIte, tr_lt, fa_lt, tr_le, fa_le, tr_eq, fa_eq, and_true, true_and, and_false, false_and, il0, il1, il2, il3, il4, il5, il6, il7, il8, il9, il10, il11, il12, il15, il16, il20, il24, il31, il32, il44, il45, il48, il50, il57, il58, il59, il63, il91, il93, il97, il99, il100, il109, il113, il119, il120, il122, il200, il255, il480, il500, il501, il512, il999, il4112, il41120, il1000000, il1000003, ii_add, ii_sub, ii_mul, ii_neg, ii_le, ii_lt, ii_eq, ii_div, q_I, q_V, q_R, lt_q, rZ_q, md_M, md_16, md_4, md_8, md_10, if_true, if_false, if_pos, if_neg, p1, hgp]
      · rintro m s ⟨hJ, hs⟩
        rw [← hs]
        simp (disch := first | assumption | omega) only [fX6_meanGap_8, lkV hk, lkR0 hk, lkR1 hk, lkR2 hk, lkR3 hk, lkR4 hk, lkR5 hk, lkR6 hk, lkR7 hk, lkR8 hk, lkR9 hk, lkI hk, k_E, t_E, rwI1, rwS1, rwI2, rwS2, rwI4, rwS4, rwI5, rwS5, rwI7, rwS7, rwI8, rwS8, rwI9, rwS9, rwR0, rwR3, rwR6, rwA1, rwU1, rwA3, rwU3, rwV, rwJ, rwUJ, plI0, plS0, plI1, plS1, plI2, plS2, plI3, plS3, plI4, plS4, plI5, plS5, plI6, plS6, plI7, plS7, plR8, plR9, plR10, plA1, plU1, plA2, plU2, plA3, plU3, plV, stI2, stS2, stI3, stS3, stI4, stS4, stI5, stS5, stI6, stS6, stI7, stS7, stR0, stR1, stA2, stU2, stV, stRow, svI5, svS5, svI6, svS6, svI7, svS7, svR0, svR1, svR2, svR3, svR4, svA13, svU13, svA14, svU14, svA15, svU15, svA16, svU16, svV, svRow, svF, svUF, hiI1, hiS1, hiI2, hiS2, hiR0, hiV, hiRow, rdI2, rdS2, rdI3, rdS3, rdI4, rdS4, rdI5, rdS5, rdI6, rdS6, rdI7, rdS7, rdI8, rdS8, rdR0, rdR1, rdA1, rdU1, rdA2, rdU2, rdV, k_C, ↓reduceIte, tr_lt, fa_lt, tr_le, fa_le, tr_eq, fa_eq, and_true, true_and, and_false, false_and, il0, il1, il2, il3, il4, il5, il6, il7, il8, il9, il10, il11, il12, il15, il16, il20, il24, il31, il32, il44, il45, il48, il50, il57, il58, il59, il63, il91, il93, il97, il99, il100, il109, il113, il119, il120, il122, il200, il255, il480, il500, il501, il512, il999, il4112, il41120, il1000000, il1000003, ii_add, ii_sub, ii_mul, ii_neg, ii_le, ii_lt, ii_eq, ii_div, q_I, q_V, q_R, lt_q, rZ_q, md_M, md_16, md_4, md_8, md_10, if_true, if_false, if_pos, if_neg, p1]
    have hK : fX7_meanGap_13 FU 0 (ii 0) (ii 0) (NW K (mg (up M 0 0 0) g)) = some (.inl (some (.double (FP.ddiv (FP.i2d (ii (sm (fun r => gapM (up M 0 0 0) g r) (up M 0 0 0 0 3)))) (FP.i2d (ii (up M 0 0 0 0 3)))))), NW K (mg (up M 0 0 0) g)) := by
      refine lp (fun m i (s : Int) => fX7_meanGap_13 m 0 (ii s) (ii i) (NW K (mg (up M 0 0 0) g))) (fun x => x = some (.inl (some (.double (FP.ddiv (FP.i2d (ii (sm (fun r => gapM (up M 0 0 0) g r) (up M 0 0 0 0 3)))) (FP.i2d (ii (up M 0 0 0 0 3)))))), NW K (mg (up M 0 0 0) g))) (fun i s => 0 ≤ i ∧ s = sm (fun r => gapM (up M 0 0 0) g r) i) (up M 0 0 0 0 3) ?_ ?_ FU 0 0 (by omega) ⟨by omega, rfl⟩ (by have := FU_e; omega)
      · rintro m i s hi ⟨hJ, hs⟩
        have hgp := e_gap (K := K) hM ⟨hJ, by omega⟩ (hG.1.1 i hJ (by omega))
        refine Or.inr ⟨s + gapM (up M 0 0 0) g i, ⟨by omega, by rw [sm_s _ _ hJ, hs]⟩, ?_⟩
        simp (disch := first | assumption | omega) only [fX7_meanGap_13, nR1, nA1, nU1, nR2, nA2, nU2, nR3, nA3, nU3, nR4, nA4, nU4, nR5, nA5, nU5, nR6, nA6, nU6, nR7, nA7, nU7, nR8, nA8, nU8, nR9, nA9, nU9, nR10, nA10, nU10, nR11, nA11, nU11, nR12, nA12, nU12, nR13, nA13, nU13, nR14, nA14, nU14, nR15, nA15, nU15, nR16, nA16, nU16, nI0, nS0, nI1, nS1, nI2, nS2, nI3, nS3, nI4, nS4, nI5, nS5, nI6, nS6, nI7, nS7, nI8, nS8, nI9, nS9, nI15, nS15, nI18, nS18, nI19, nS19, nI20, nS20, nI21, nS21, nI22, nS22, nI23, nS23, nI24, nS24, nI25, nS25, nI26, nS26, nI27, nS27, nI32, nS32, nI36, nS36, nI37, nS37, nI40, nS40, nSZ1, nV, nC, ↓reduceIte, tr_lt, fa_lt, tr_le, fa_le, tr_eq, fa_eq, and_true, true_and, and_false, false_and, il0, il1, il2, il3, il4, il5, il6, il7, il8, il9, il10, il11, il12, il15, il16, il20, il24, il31, il32, il44, il45, il48, il50, il57, il58, il59, il63, il91, il93, il97, il99, il100, il109, il113, il119, il120, il122, il200, il255, il480, il500, il501, il512, il999, il4112, il41120, il1000000, il1000003, ii_add, ii_sub, ii_mul, ii_neg, ii_le, ii_lt, ii_eq, ii_div, q_I, q_V, q_R, lt_q, rZ_q, md_M, md_16, md_4, md_8, md_10, if_true, if_false, if_pos, if_neg, mg_3, mg_0, mg_1, mg_2, mg_k, mg_up3, mg_upk, hgp]
      · rintro m s ⟨hJ, hs⟩
        rw [← hs] at hnn ⊢
        rw [fX7_meanGap_13, nI3, mg_0, if_pos (Int32.le_refl _), nI3, mg_0, if_pos (nn64 hnn)]
    refine GoodD_ok hI ?_ ?_ hnn
    · rw [fX6_meanGap, lkV hk, hc1, k_C, q_V, il0, hC, fX6_meanGap_44, lkR8 hk, plI1 hPl, p1, if_neg hb, lkR8 hk, plI1 hPl, p1, if_pos (nn64 hnn)]
    · rw [fX7_meanGap, nV, e_notL1 hl, nC, q_I, if_pos i00, il0, hK]
  · obtain ⟨h10, h1⟩ := hI.nl hl
    refine GoodD_nl hI (d := 0) ?_ (hF_IS _ 1 rfl _ _) ?_
    · rw [fX6_meanGap, lkV hk, c_chase0 hk h10, k_E]
    · rw [fX7_meanGap, nV, e_notL0 h1, nC, q_I, if_neg (show ¬ ii 1 = (0 : Int32) by decide)]
theorem g_goodShare (hI : Inv C0 N0 n pl sp tv cap c A J M g) : GoodF C0 N0 n K (fL_goodShare 0 456 (CW c A J)) (fX7_goodShare 0 (NW K (mg M g))) := by
  have hk := hI.1
  have hRd : isReader c 1 := hk.2.1.1
  have hSv : isSolver c 4 := hk.2.1.2.1
  have hHi : isHist c 21 := hk.2.1.2.2.1
  have hNow : isState c 303 := hk.2.1.2.2.2.1
  have hSpr : isState c 338 := hk.2.1.2.2.2.2.1
  have hPl : isPlan c pl := hk.2.2.2.1.2.1
  have h00 : up M 0 0 0 0 0 = 0 := up_s _ _ _ _
  by_cases hl : M 0 1 = 1
  · obtain ⟨h10, hM, hP, hS, hG⟩ := hI.ld hl
    obtain ⟨p0, p1, p2, p3, p4, p5, p6, p7⟩ := hP.1
    have hc1 := c_chase1 (A := A) (J := J) hk h10
    have e3 : up M 0 0 0 0 3 = M 0 3 := up_n _ _ _ _ _ _ (by omega)
    have e9 : up M 0 0 0 0 9 = M 0 9 := up_n _ _ _ _ _ _ (by omega)
    have h38 := hM.1.2.1
    have h910 := hM.1.2.2.2.2.2.2.2
    have x3 := hS.1.1.2.1
    have x4 := hS.1.1.2.2.1
    refine GoodF_ok hI (y := shF (ii (g 2)) (ii (g 1))) ?_ ?_ (shF_n _ _)
    · rw [fX6_goodShare, lkV hk, hc1, k_C, q_V, lkR3 hk, stI4 hNow, x4, lkR3 hk, stI3 hNow, x3, c_share, k_C, q_F]
    · unfold shF
      by_cases y : ii (g 1) = 0
      · rw [if_pos y, fX7_goodShare, nV, e_notL1 hl, nC, q_I, if_pos i00, nR3, il1, nA3 _ _ _ (by omega), mg_3, if_pos y]
      · rw [if_neg y, fX7_goodShare, nV, e_notL1 hl, nC, q_I, if_pos i00, nR3, il1, nA3 _ _ _ (by omega), mg_3, if_neg y, nR3, il2, nA3 _ _ _ (by omega), mg_3, nR3, nA3 _ _ _ (by omega), mg_3, if_pos (nn32 (nn_f _ _ y))]
  · obtain ⟨h10, h1⟩ := hI.nl hl
    refine GoodF_nl hI (y := 0) ?_ (hF_IS _ 1 rfl _ _) ?_
    · rw [fX6_goodShare, lkV hk, c_chase0 hk h10, k_E]
    · rw [fX7_goodShare, nV, e_notL0 h1, nC, q_I, if_neg (show ¬ ii 1 = (0 : Int32) by decide)]
theorem g_woodShare (hI : Inv C0 N0 n pl sp tv cap c A J M g) : GoodF C0 N0 n K (fL_woodShare 0 456 (CW c A J)) (fX7_woodShare 0 (NW K (mg M g))) := by
  have hk := hI.1
  have hRd : isReader c 1 := hk.2.1.1
  have hSv : isSolver c 4 := hk.2.1.2.1
  have hHi : isHist c 21 := hk.2.1.2.2.1
  have hNow : isState c 303 := hk.2.1.2.2.2.1
  have hSpr : isState c 338 := hk.2.1.2.2.2.2.1
  have hPl : isPlan c pl := hk.2.2.2.1.2.1
  have h00 : up M 0 0 0 0 0 = 0 := up_s _ _ _ _
  by_cases hl : M 0 1 = 1
  · obtain ⟨h10, hM, hP, hS, hG⟩ := hI.ld hl
    obtain ⟨p0, p1, p2, p3, p4, p5, p6, p7⟩ := hP.1
    have hc1 := c_chase1 (A := A) (J := J) hk h10
    have e3 : up M 0 0 0 0 3 = M 0 3 := up_n _ _ _ _ _ _ (by omega)
    have e9 : up M 0 0 0 0 9 = M 0 9 := up_n _ _ _ _ _ _ (by omega)
    have h38 := hM.1.2.1
    have h910 := hM.1.2.2.2.2.2.2.2
    have hz := hG.1.2.2.1
    have hs4 := s_sum4 (c := c) (A := A) (J := J) hNow hS
    rw [sm8 (up M 0 0 0) _ (by omega) (fun r a b => (hz r a b).2.1)] at hs4
    have hso := e_sumOver (K := K) (A := up M 0 0 0) (g := g) 1 (by omega) (by omega)
    have hpb : 0 ≤ sm (fun r => cel g r 1) (up M 0 0 0 0 3) ∧ sm (fun r => cel g r 1) (up M 0 0 0 0 3) ≤ 500 * up M 0 0 0 0 3 := by
      refine sm_ind _ (fun n s => 0 ≤ s ∧ s ≤ 500 * n) (by omega) _ (fun k s a b d => ?_) (by omega)
      have := (hG.1.1 k a (by omega)).2.1
      omega
    have hC : fX6_woodShare_8 FU 0 (ii 0) (ii 0) (CW c A J) = fX6_woodShare_44 0 (ii (sm (fun r => suW (up M 0 0 0 1) g r) (up M 0 0 0 0 3))) (CW c A J) := by
      refine lp (fun m i (s : Int) => fX6_woodShare_8 m 0 (ii s) (ii i) (CW c A J)) (fun x => x = fX6_woodShare_44 0 (ii (sm (fun r => suW (up M 0 0 0 1) g r) (up M 0 0 0 0 3))) (CW c A J)) (fun i s => 0 ≤ i ∧ s = sm (fun r => suW (up M 0 0 0 1) g r) i) (up M 0 0 0 0 3) ?_ ?_ FU 0 0 (by omega) ⟨by omega, rfl⟩ (by have := FU_e; omega)
      · rintro m i s hi ⟨hJ, hs⟩
        have hR := hNow.row i (by omega)
        have hgp := c_woodIn (c := c) hR hPl (hS.2 i hJ (by omega)) (hG.1.1 i hJ (by omega)) hP hM (hG.1.2.2.2.1 i hJ (by omega))
        refine Or.inr ⟨s + suW (up M 0 0 0 1) g i, ⟨by omega, by rw [sm_s _ _ hJ, hs]⟩, ?_⟩
        simp (disch := first | assumption | omega) only [fX6_woodShare_8, lkV hk, lkR0 hk, lkR1 hk, lkR2 hk, lkR3 hk, lkR4 hk, lkR5 hk, lkR6 hk, lkR7 hk, lkR8 hk, lkR9 hk, lkI hk, k_E, t_E, rwI1, rwS1, rwI2, rwS2, rwI4, rwS4, rwI5, rwS5, rwI7, rwS7, rwI8, rwS8, rwI9, rwS9, rwR0, rwR3, rwR6, rwA1, rwU1, rwA3, rwU3, rwV, rwJ, rwUJ, plI0, plS0, plI1, plS1, plI2, plS2, plI3, plS3, plI4, plS4, plI5, plS5, plI6, plS6, plI7, plS7, plR8, plR9, plR10, plA1, plU1, plA2, plU2, plA3, plU3, plV, stI2, stS2, stI3, stS3, stI4, stS4, stI5, stS5, stI6, stS6, stI7, stS7, stR0, stR1, stA2, stU2, stV, stRow, svI5, svS5, svI6, svS6, svI7, svS7, svR0, svR1, svR2, svR3, svR4, svA13, svU13, svA14, svU14, svA15, svU15, svA16, svU16, svV, svRow, svF, svUF, hiI1, hiS1, hiI2, hiS2, hiR0, hiV, hiRow, rdI2, rdS2, rdI3, rdS3, rdI4, rdS4, rdI5, rdS5, rdI6, rdS6, rdI7, rdS7, rdI8, rdS8, rdR0, rdR1, rdA1, rdU1, rdA2, rdU2, rdV, k_C, ↓reduceIte, tr_lt, fa_lt, tr_le, fa_le, tr_eq, fa_eq, and_true, true_and, and_false, false_and, il0, il1, il2, il3, il4, il5, il6, il7, il8, il9, il10, il11, il12, il15, il16, il20, il24, il31, il32, il44, il45, il48, il50, il57, il58, il59, il63, il91, il93, il97, il99, il100, il109, il113, il119, il120, il122, il200, il255, il480, il500, il501, il512, il999, il4112, il41120, il1000000, il1000003, ii_add, ii_sub, ii_mul, ii_neg, ii_le, ii_lt, ii_eq, ii_div, q_I, q_V, q_R, lt_q, rZ_q, md_M, md_16, md_4, md_8, md_10, if_true, if_false, if_pos, if_neg, p1, hgp]
      · rintro m s ⟨hJ, hs⟩
        rw [← hs]
        simp (disch := first | assumption | omega) only [fX6_woodShare_8, lkV hk, lkR0 hk, lkR1 hk, lkR2 hk, lkR3 hk, lkR4 hk, lkR5 hk, lkR6 hk, lkR7 hk, lkR8 hk, lkR9 hk, lkI hk, k_E, t_E, rwI1, rwS1, rwI2, rwS2, rwI4, rwS4, rwI5, rwS5, rwI7, rwS7, rwI8, rwS8, rwI9, rwS9, rwR0, rwR3, rwR6, rwA1, rwU1, rwA3, rwU3, rwV, rwJ, rwUJ, plI0, plS0, plI1, plS1, plI2, plS2, plI3, plS3, plI4, plS4, plI5, plS5, plI6, plS6, plI7, plS7, plR8, plR9, plR10, plA1, plU1, plA2, plU2, plA3, plU3, plV, stI2, stS2, stI3, stS3, stI4, stS4, stI5, stS5, stI6, stS6, stI7, stS7, stR0, stR1, stA2, stU2, stV, stRow, svI5, svS5, svI6, svS6, svI7, svS7, svR0, svR1, svR2, svR3, svR4, svA13, svU13, svA14, svU14, svA15, svU15, svA16, svU16, svV, svRow, svF, svUF, hiI1, hiS1, hiI2, hiS2, hiR0, hiV, hiRow, rdI2, rdS2, rdI3, rdS3, rdI4, rdS4, rdI5, rdS5, rdI6, rdS6, rdI7, rdS7, rdI8, rdS8, rdR0, rdR1, rdA1, rdU1, rdA2, rdU2, rdV, k_C, ↓reduceIte, tr_lt, fa_lt, tr_le, fa_le, tr_eq, fa_eq, and_true, true_and, and_false, false_and, il0, il1, il2, il3, il4, il5, il6, il7, il8, il9, il10, il11, il12, il15, il16, il20, il24, il31, il32, il44, il45, il48, il50, il57, il58, il59, il63, il91, il93, il97, il99, il100, il109, il113, il119, il120, il122, il200, il255, il480, il500, il501, il512, il999, il4112, il41120, il1000000, il1000003, ii_add, ii_sub, ii_mul, ii_neg, ii_le, ii_lt, ii_eq, ii_div, q_I, q_V, q_R, lt_q, rZ_q, md_M, md_16, md_4, md_8, md_10, if_true, if_false, if_pos, if_neg, p1]
    have hK : fX7_woodShare_21 FU 0 (ii 0) (ii 0) (NW K (mg (up M 0 0 0) g)) = fX7_woodShare_43 0 (ii (sm (fun r => suW (up M 0 0 0 1) g r) (up M 0 0 0 0 3))) (NW K (mg (up M 0 0 0) g)) := by
      refine lp (fun m i (s : Int) => fX7_woodShare_21 m 0 (ii s) (ii i) (NW K (mg (up M 0 0 0) g))) (fun x => x = fX7_woodShare_43 0 (ii (sm (fun r => suW (up M 0 0 0 1) g r) (up M 0 0 0 0 3))) (NW K (mg (up M 0 0 0) g))) (fun i s => 0 ≤ i ∧ s = sm (fun r => suW (up M 0 0 0 1) g r) i) (up M 0 0 0 0 3) ?_ ?_ FU 0 0 (by omega) ⟨by omega, rfl⟩ (by have := FU_e; omega)
      · rintro m i s hi ⟨hJ, hs⟩
        have hgp := e_woodIn (K := K) hM ⟨hJ, by omega⟩ (hG.1.1 i hJ (by omega))
        refine Or.inr ⟨s + suW (up M 0 0 0 1) g i, ⟨by omega, by rw [sm_s _ _ hJ, hs]⟩, ?_⟩
        simp (disch := first | assumption | omega) only [fX7_woodShare_21, nR1, nA1, nU1, nR2, nA2, nU2, nR3, nA3, nU3, nR4, nA4, nU4, nR5, nA5, nU5, nR6, nA6, nU6, nR7, nA7, nU7, nR8, nA8, nU8, nR9, nA9, nU9, nR10, nA10, nU10, nR11, nA11, nU11, nR12, nA12, nU12, nR13, nA13, nU13, nR14, nA14, nU14, nR15, nA15, nU15, nR16, nA16, nU16, nI0, nS0, nI1, nS1, nI2, nS2, nI3, nS3, nI4, nS4, nI5, nS5, nI6, nS6, nI7, nS7, nI8, nS8, nI9, nS9, nI15, nS15, nI18, nS18, nI19, nS19, nI20, nS20, nI21, nS21, nI22, nS22, nI23, nS23, nI24, nS24, nI25, nS25, nI26, nS26, nI27, nS27, nI32, nS32, nI36, nS36, nI37, nS37, nI40, nS40, nSZ1, nV, nC, ↓reduceIte, tr_lt, fa_lt, tr_le, fa_le, tr_eq, fa_eq, and_true, true_and, and_false, false_and, il0, il1, il2, il3, il4, il5, il6, il7, il8, il9, il10, il11, il12, il15, il16, il20, il24, il31, il32, il44, il45, il48, il50, il57, il58, il59, il63, il91, il93, il97, il99, il100, il109, il113, il119, il120, il122, il200, il255, il480, il500, il501, il512, il999, il4112, il41120, il1000000, il1000003, ii_add, ii_sub, ii_mul, ii_neg, ii_le, ii_lt, ii_eq, ii_div, q_I, q_V, q_R, lt_q, rZ_q, md_M, md_16, md_4, md_8, md_10, if_true, if_false, if_pos, if_neg, mg_3, mg_0, mg_1, mg_2, mg_k, mg_up3, mg_upk, hgp]
      · rintro m s ⟨hJ, hs⟩
        rw [← hs]
        simp (disch := first | assumption | omega) only [fX7_woodShare_21, nR1, nA1, nU1, nR2, nA2, nU2, nR3, nA3, nU3, nR4, nA4, nU4, nR5, nA5, nU5, nR6, nA6, nU6, nR7, nA7, nU7, nR8, nA8, nU8, nR9, nA9, nU9, nR10, nA10, nU10, nR11, nA11, nU11, nR12, nA12, nU12, nR13, nA13, nU13, nR14, nA14, nU14, nR15, nA15, nU15, nR16, nA16, nU16, nI0, nS0, nI1, nS1, nI2, nS2, nI3, nS3, nI4, nS4, nI5, nS5, nI6, nS6, nI7, nS7, nI8, nS8, nI9, nS9, nI15, nS15, nI18, nS18, nI19, nS19, nI20, nS20, nI21, nS21, nI22, nS22, nI23, nS23, nI24, nS24, nI25, nS25, nI26, nS26, nI27, nS27, nI32, nS32, nI36, nS36, nI37, nS37, nI40, nS40, nSZ1, nV, nC, ↓reduceIte, tr_lt, fa_lt, tr_le, fa_le, tr_eq, fa_eq, and_true, true_and, and_false, false_and, il0, il1, il2, il3, il4, il5, il6, il7, il8, il9, il10, il11, il12, il15, il16, il20, il24, il31, il32, il44, il45, il48, il50, il57, il58, il59, il63, il91, il93, il97, il99, il100, il109, il113, il119, il120, il122, il200, il255, il480, il500, il501, il512, il999, il4112, il41120, il1000000, il1000003, ii_add, ii_sub, ii_mul, ii_neg, ii_le, ii_lt, ii_eq, ii_div, q_I, q_V, q_R, lt_q, rZ_q, md_M, md_16, md_4, md_8, md_10, if_true, if_false, if_pos, if_neg, mg_3, mg_0, mg_1, mg_2, mg_k, mg_up3, mg_upk]
    refine GoodF_ok hI (y := shF (ii (sm (fun r => suW (up M 0 0 0 1) g r) (up M 0 0 0 0 3))) (ii (sm (fun r => cel g r 1) (up M 0 0 0 0 3)))) ?_ ?_ (shF_n _ _)
    · rw [fX6_woodShare, lkV hk, hc1, k_C, q_V, il0, hC, fX6_woodShare_44, lkR3 hk, stV hNow, hs4, k_C, q_I, c_share, k_C, q_F]
    · unfold shF
      by_cases y : ii (sm (fun r => cel g r 1) (up M 0 0 0 0 3)) = 0
      · rw [if_pos y, fX7_woodShare, nV, e_notL1 hl, nC, q_I, if_pos i00, nV, il1, hso, nC, q_I, if_pos y]
      · rw [if_neg y, fX7_woodShare, nV, e_notL1 hl, nC, q_I, if_pos i00, nV, il1, hso, nC, q_I, if_neg y, il0, hK, fX7_woodShare_43, nV, il1, hso, nC, q_I, if_pos (nn32 (nn_f _ _ y))]
  · obtain ⟨h10, h1⟩ := hI.nl hl
    refine GoodF_nl hI (y := 0) ?_ (hF_IS _ 1 rfl _ _) ?_
    · rw [fX6_woodShare, lkV hk, c_chase0 hk h10, k_E]
    · rw [fX7_woodShare, nV, e_notL0 h1, nC, q_I, if_neg (show ¬ ii 1 = (0 : Int32) by decide)]
end DBL
