/-! CALLS THAT ANSWER BY A DOUBLE OR A FLOAT: meanGap, woodShare, goodShare -/
theorem nn64 {x : UInt64} (h : FP.dIsNaN x = false) : x &&& 0x7fffffffffffffff ≤ 0x7ff0000000000000 := by
  rw [UInt64.le_iff_toNat_le, UInt64.toNat_and, show (0x7fffffffffffffff : UInt64).toNat = 2 ^ 63 - 1 from rfl, Nat.and_two_pow_sub_one_eq_mod, show (0x7ff0000000000000 : UInt64).toNat = 9218868437227405312 from rfl]
  have h1 : ¬ FP.Core.dIsNaN x = true := fun z => by
    have h2 : FP.Core.dIsNaN x = false := h
    rw [h2] at z
    exact Bool.noConfusion z
  rw [FP.Core.isNaN_bits] at h1
  omega
theorem nn32 {x : UInt32} (h : FP.fIsNaN x = false) : x &&& 0x7fffffff ≤ 0x7f800000 := by
  rw [UInt32.le_iff_toNat_le, UInt32.toNat_and, show (0x7fffffff : UInt32).toNat = 2 ^ 31 - 1 from rfl, Nat.and_two_pow_sub_one_eq_mod, show (0x7f800000 : UInt32).toNat = 2139095040 from rfl]
  have h1 : ¬ FP.Core.fIsNaN x = true := fun z => by
    have h2 : FP.Core.fIsNaN x = false := h
    rw [h2] at z
    exact Bool.noConfusion z
  rw [FP.Core.isNaN_bits32] at h1
  omega
theorem nn_d (a b : Int32) (h : b ≠ 0) : FP.dIsNaN (FP.ddiv (FP.i2d a) (FP.i2d b)) = false :=
  FP.Core.ddiv_out (FP.Core.i2d_fin a).notNaN (FP.Core.i2d_fin b) (fun z => FP.Core.i2d_ne_zero h ((FP.Core.zero_bits2 _).mp z))
theorem nn_f (a b : Int32) (h : b ≠ 0) : FP.fIsNaN (FP.fdiv (FP.i2f a) (FP.i2f b)) = false :=
  FP.Core.fdiv_out (FP.Core.i2f_fin a).notNaN (FP.Core.i2f_fin b) (fun z => FP.Core.i2f_ne_zero h ((FP.Core.zero_bits232 _).mp z))
theorem q_F (g : UInt32 → AS → Option AR) (i : UInt32) (τ : AS) : qF g (some (.float i)) τ = g i τ := rfl
theorem q_D (g : UInt64 → AS → Option AR) (i : UInt64) (τ : AS) : qD g (some (.double i)) τ = g i τ := rfl
noncomputable def shF (a b : Int32) : UInt32 := if b = 0 then 0 else FP.fdiv (FP.i2f a) (FP.i2f b)
theorem shF_n (a b : Int32) : FP.fIsNaN (shF a b) = false := by
  unfold shF
  by_cases h : b = 0
  · rw [if_pos h]; decide +kernel
  · rw [if_neg h]; exact nn_f a b h
theorem c_share (a b : Int32) (W : AS) : fX6_share a b W = some (.inl (some (.float (shF a b))), W) := by
  unfold fX6_share shF
  by_cases h : b = 0
  · rw [if_pos h, if_pos h]
  · rw [if_neg h, if_neg h, if_pos (nn32 (nn_f a b h))]
section DBL
variable {C0 N0 n : Nat} {K : Nat × Nat} {c : CC} {A A' : AI} {J J' : JI} {M M' : AI} {g g' o : Int → Int} {pl sp tv cap : Nat} {f B : Int}
theorem Inv.cU (h : Inv C0 N0 n pl sp tv cap c A J M g) : Inv C0 N0 (n + 1) pl sp tv cap (cU c) A J M g :=
  h.scr (Nat.le_succ n) ⟨rfl, rfl, rfl⟩ ⟨by have := h.2.1.2.1; show c.2.2.2.1 + 1 ≤ _; omega, by have := h.2.1.2.2; show c.2.2.2.2 + 6 ≤ _; omega⟩ (frm.refl _ _ _) ⟨fun _ _ _ => rfl, fun _ _ _ _ => rfl⟩
end DBL
