/-! THE LAW: what each of its cases ends with -/
abbrev zz_lv (i : Int32) : List (Nat × Value) := [(0, .ref 0), (1, .ref 1), (2, .ref 2), (3, .ref 3), (4, .ref 4), (5, .int i)]
def zz_B (C0 N0 : Nat) (K : Nat × Nat) : Prop := C0 + 8000 + K.1 ≤ 601024 ∧ N0 + 20000 + K.2 ≤ 7293033
theorem zz_self (x : Int32) : ii x.toInt = x := Int32.ofInt_toInt x
theorem zz_bd (x : Int32) : -2147483648 ≤ x.toInt ∧ x.toInt < 2147483648 := by
  have h1 := Int32.le_toInt x
  have h2 := Int32.toInt_lt x
  omega
theorem zz_01 (x : Int32) : 0 ≤ (if x = 0 then (0 : Int) else 1) ∧ (if x = 0 then (0 : Int) else 1) ≤ 1 := by
  by_cases h : x = 0
  · rw [if_pos h]; omega
  · rw [if_neg h]; omega
theorem zz_l64 {x y : Int32} (h : x.toInt64 = y.toInt64) : x = y := by
  have h1 := congrArg Int64.toInt h
  rw [Int32.toInt_toInt64, Int32.toInt_toInt64] at h1
  exact Int32.toInt_inj.mp h1
theorem zz_cmp (x : Int64) : lg_cmp x x = 0 := by
  unfold lg_cmp
  rw [if_neg (Int64.lt_irrefl), if_pos rfl]
theorem zz_dd {d : UInt64} (h : FP.dIsNaN d = false) : Op.cmpValue (FP.dcmp d d) .l = 0 := by
  have h0 : FP.Core.dIsNaN d = false := h
  have h1 : FP.Core.dcmp d d = some .eq := FP.Core.dcmp_self (fun e => by
    have h3 : FP.Core.dIsNaN d = true := decide_eq_true e
    rw [h0] at h3
    cases h3)
  have h2 : FP.dcmp d d = some .eq := h1
  rw [h2]
  rfl
section ZZT
variable {Γ : CX} {b L : Nat} {xs : Nat → Int32} {Q : State → Prop} {pc : Nat} {C0 N0 n : Nat} {K : Nat × Nat} {c : CC} {A : AI} {J : JI} {M : AI} {g : Int → Int} {pl sp tv cap : Nat} {i : Int32} {off : Int}
theorem zz_cap (hB : zz_B C0 N0 K) (hn : n ≤ 513) (hI : Inv C0 N0 n pl sp tv cap c A J M g) {M' : AI} {g' : Int → Int} : ax_nc (CW c A J) + ax_nc (NW K (mg M' g')) ≤ 601024 ∧ ax_ns (CW c A J) + ax_ns (NW K (mg M' g')) ≤ 7293033 := by
  obtain ⟨-, ⟨-, h1, h2⟩, -, -, -, ⟨-, ⟨-, -, h3⟩, -⟩, -⟩ := hI
  obtain ⟨b1, b2⟩ := hB
  constructor
  · show c.2.2.2.1 + K.1 ≤ _
    omega
  · show c.2.2.2.2 + K.2 ≤ _
    omega
theorem zz_le (M' : AI) (g' : Int → Int) : ax_le (NW K (mg M g)) (NW K (mg M' g')) := ⟨Nat.le_refl _, Nat.le_refl _, Nat.le_refl _⟩
theorem zz_thr : fX7_thrown 0 (NW K (mg M g)) = some (Sum.inl (some (Value.int (ii (M 0 0)))), NW K (mg M g)) := by
  rw [fX7_thrown, nI0, mg_0]
theorem zz_H10 (h : isLock c pl sp tv cap) : (ax_H (CW c A J) 0).1 = 10 := by
  rw [show ax_H (CW c A J) 0 = c.2.1 0 from rfl, h.1.1.2]
/-- the model tells the same code -/
theorem zz_thrown (C : zz_C Γ b L xs) {code : Int} {lv : List (Nat × Value)} (hB : zz_B C0 N0 K) (hn : n ≤ 513) (hI : Inv C0 N0 n pl sp tv cap c A J M g) (hm : M 0 0 = code) (kz : ax_VL RL 189 yX7_thrown cX7_thrown 1 (some .int) 0 ∧ ax_VI yX7_thrown) (hlv : lv[1]? = some (6, .int (ii code))) (h2 : lv[4]? = some (2, .ref 2))
    (d0 : decode cL_law pc = .ok (.aload_n 2, 1)) (d1 : decode cL_law (pc + 1) = .ok (.invokevirtual 189, 3)) (d2 : decode cL_law (pc + 4) = .ok (.iload 6, 2)) (d3 : decode cL_law (pc + 6) = .ok (.if_icmp .eq 5, 3)) (k : LW Γ b Q (pc + 11) lv [] (CW c A J) (NW K (mg M g))) : LW Γ b Q pc lv [] (CW c A J) (NW K (mg M g)) := by
  refine zz_aload_n C 4 d0 h2 ?_
  refine zz_V2 C [] (ctX7_thrown C.1.2.2.2.2.2.2.2.2.1 0) kz.1 kz.2 rfl rfl rfl zz_thr (zz_le _ _) (fun _ => rfl) (zz_cap hB hn hI) (fun _ => rfl) trivial rfl (by decide) (by decide) d1 ?_
  refine zz_iload C 1 d2 hlv ?_
  exact zz_icmpT C (pc + 11) d3 (by omega) (by rw [hm]) k
/-- an answer that is an int -/
theorem zt_I (C : zz_C Γ b L xs) {code v : Int} (hB : zz_B C0 N0 K) (hn : n ≤ 513) (hI : Inv C0 N0 n pl sp tv cap c A J M g) (hm : M 0 0 = code ∧ 0 ≤ code ∧ code ≤ 3) (ha : code = 0 → J 455 0 = (ii v).toInt64) (kz : ax_VL RL 189 yX7_thrown cX7_thrown 1 (some .int) 0 ∧ ax_VI yX7_thrown)
    (d0 : decode cL_law pc = .ok (.aload_n 2, 1)) (d1 : decode cL_law (pc + 1) = .ok (.invokevirtual 189, 3)) (d2 : decode cL_law (pc + 4) = .ok (.iload 6, 2)) (d3 : decode cL_law (pc + 6) = .ok (.if_icmp .eq 5, 3)) (d4 : decode cL_law (pc + 11) = .ok (.iload 6, 2)) (d5 : decode cL_law (pc + 13) = .ok (.ifCond .ne 15, 3)) (d6 : decode cL_law (pc + 16) = .ok (.aload_n 3, 1)) (d7 : decode cL_law (pc + 17) = .ok (.iconst 0, 1)) (d8 : decode cL_law (pc + 18) = .ok (.laload, 1)) (d9 : decode cL_law (pc + 19) = .ok (.iload 7, 2)) (d10 : decode cL_law (pc + 21) = .ok (.i2l, 1)) (d11 : decode cL_law (pc + 22) = .ok (.lcmp, 1)) (d12 : decode cL_law (pc + 23) = .ok (.ifCond .eq 5, 3)) (d13 : decode cL_law (pc + 28) = .ok (.goto off, 3)) (ht : ((pc + 28 : Nat) : Int) + off = ((3404 : Nat) : Int))
    (k : LW Γ b Q 3404 (zz_lv i) [] (CW c A J) (NW K (mg M g))) : LW Γ b Q pc ((7, .int (ii v)) :: (6, .int (ii code)) :: zz_lv i) [] (CW c A J) (NW K (mg M g)) := by
  have k2 : LW Γ b Q (pc + 28) ((7, .int (ii v)) :: (6, .int (ii code)) :: zz_lv i) [] (CW c A J) (NW K (mg M g)) := zz_goto C 3404 d13 ht (zz_sub [2, 3, 4, 5, 6, 7] rfl k)
  refine zz_thrown C hB hn hI hm.1 kz rfl rfl d0 d1 d2 d3 ?_
  refine zz_iload C 1 d4 rfl ?_
  by_cases h0 : code = 0
  · refine zz_neF C (pc + 28) d5 (by omega) (by rw [h0]; rfl) ?_
    refine zz_aload_n C 5 d6 rfl ?_
    refine zz_iconst C (v := 0) d7 rfl ?_
    refine zz_lald C hI.1.2.2.2.2.2.1.2 d8 ?_
    refine zz_iload C 0 d9 rfl ?_
    refine zz_i2l C d10 ?_
    refine zz_lcmp C d11 ?_
    refine zz_eqT C (pc + 28) d12 (by omega) ?_ k2
    rw [show ax_J (CW c A J) 455 0 = J 455 0 from rfl, ha h0]
    exact zz_cmp _
  · refine zz_neT C (pc + 28) d5 (by omega) (fun e => h0 ?_) k2
    have := (ii_eq code 0 (by omega)).mp e
    exact this
/-- an answer that is true or false -/
theorem zt_Z (C : zz_C Γ b L xs) {code v : Int} (hB : zz_B C0 N0 K) (hn : n ≤ 513) (hI : Inv C0 N0 n pl sp tv cap c A J M g) (hm : M 0 0 = code ∧ 0 ≤ code ∧ code ≤ 3) (ha : code = 0 → J 455 0 = (ii v).toInt64) (hz : code = 0 → J 455 0 = 0 ∨ J 455 0 = 1) (kz : ax_VL RL 189 yX7_thrown cX7_thrown 1 (some .int) 0 ∧ ax_VI yX7_thrown)
    (d0 : decode cL_law pc = .ok (.aload_n 2, 1)) (d1 : decode cL_law (pc + 1) = .ok (.invokevirtual 189, 3)) (d2 : decode cL_law (pc + 4) = .ok (.iload 6, 2)) (d3 : decode cL_law (pc + 6) = .ok (.if_icmp .eq 5, 3)) (d4 : decode cL_law (pc + 11) = .ok (.iload 6, 2)) (d5 : decode cL_law (pc + 13) = .ok (.ifCond .ne 22, 3)) (d6 : decode cL_law (pc + 16) = .ok (.aload_n 3, 1)) (d7 : decode cL_law (pc + 17) = .ok (.iconst 0, 1)) (d8 : decode cL_law (pc + 18) = .ok (.laload, 1)) (d9 : decode cL_law (pc + 19) = .ok (.iload 7, 2)) (e1 : decode cL_law (pc + 21) = .ok (.ifCond .eq 7, 3)) (e2 : decode cL_law (pc + 24) = .ok (.lconst 1, 1)) (e3 : decode cL_law (pc + 25) = .ok (.goto 4, 3)) (e4 : decode cL_law (pc + 28) = .ok (.lconst 0, 1)) (d11 : decode cL_law (pc + 29) = .ok (.lcmp, 1)) (d12 : decode cL_law (pc + 30) = .ok (.ifCond .eq 5, 3)) (d13 : decode cL_law (pc + 35) = .ok (.goto off, 3)) (ht : ((pc + 35 : Nat) : Int) + off = ((3404 : Nat) : Int))
    (k : LW Γ b Q 3404 (zz_lv i) [] (CW c A J) (NW K (mg M g))) : LW Γ b Q pc ((7, .int (ii v)) :: (6, .int (ii code)) :: zz_lv i) [] (CW c A J) (NW K (mg M g)) := by
  have k2 : LW Γ b Q (pc + 35) ((7, .int (ii v)) :: (6, .int (ii code)) :: zz_lv i) [] (CW c A J) (NW K (mg M g)) := zz_goto C 3404 d13 ht (zz_sub [2, 3, 4, 5, 6, 7] rfl k)
  refine zz_thrown C hB hn hI hm.1 kz rfl rfl d0 d1 d2 d3 ?_
  refine zz_iload C 1 d4 rfl ?_
  by_cases h0 : code = 0
  · refine zz_neF C (pc + 35) d5 (by omega) (by rw [h0]; rfl) ?_
    refine zz_aload_n C 5 d6 rfl ?_
    refine zz_iconst C (v := 0) d7 rfl ?_
    refine zz_lald C hI.1.2.2.2.2.2.1.2 d8 ?_
    refine zz_iload C 0 d9 rfl ?_
    have hJ : ax_J (CW c A J) 455 0 = (ii v).toInt64 := ha h0
    by_cases hv : ii v = 0
    · refine zz_eqT C (pc + 28) e1 (by omega) hv ?_
      refine zz_lconst C (v := 0) e4 rfl ?_
      refine zz_lcmp C d11 ?_
      refine zz_eqT C (pc + 35) d12 (by omega) ?_ k2
      rw [hJ, hv]
      exact zz_cmp _
    · refine zz_eqF C (pc + 28) e1 (by omega) hv ?_
      refine zz_lconst C (v := 1) e2 rfl ?_
      refine zz_goto C (pc + 29) e3 (by omega) ?_
      refine zz_lcmp C d11 ?_
      refine zz_eqT C (pc + 35) d12 (by omega) ?_ k2
      rcases hz h0 with h | h
      · exact absurd (zz_l64 (y := 0) (hJ.symm.trans h)) hv
      · rw [show ax_J (CW c A J) 455 0 = J 455 0 from rfl, h]
        exact zz_cmp _
  · refine zz_neT C (pc + 35) d5 (by omega) (fun e => h0 ?_) k2
    have := (ii_eq code 0 (by omega)).mp e
    exact this
/-- an answer that is a double -/
theorem zt_D (C : zz_C Γ b L xs) {code : Int} {d : UInt64} (hB : zz_B C0 N0 K) (hn : n ≤ 513) (hI : Inv C0 N0 n pl sp tv cap c A J M g) (hm : M 0 0 = code ∧ 0 ≤ code ∧ code ≤ 3) (ha : code = 0 → J 456 0 = d.toInt64 ∧ FP.dIsNaN d = false) (kz : ax_VL RL 189 yX7_thrown cX7_thrown 1 (some .int) 0 ∧ ax_VI yX7_thrown)
    (d0 : decode cL_law pc = .ok (.aload_n 2, 1)) (d1 : decode cL_law (pc + 1) = .ok (.invokevirtual 189, 3)) (d2 : decode cL_law (pc + 4) = .ok (.iload 6, 2)) (d3 : decode cL_law (pc + 6) = .ok (.if_icmp .eq 5, 3)) (d4 : decode cL_law (pc + 11) = .ok (.iload 6, 2)) (d5 : decode cL_law (pc + 13) = .ok (.ifCond .ne 35, 3)) (d6 : decode cL_law (pc + 16) = .ok (.aload 4, 2)) (d7 : decode cL_law (pc + 18) = .ok (.iconst 0, 1)) (d8 : decode cL_law (pc + 19) = .ok (.daload, 1)) (d9 : decode cL_law (pc + 20) = .ok (.dload 7, 2)) (d11 : decode cL_law (pc + 22) = .ok (.dcmp .l, 1)) (d12 : decode cL_law (pc + 23) = .ok (.ifCond .eq 25, 3)) (d13 : decode cL_law (pc + 48) = .ok (.goto off, 3)) (ht : ((pc + 48 : Nat) : Int) + off = ((3404 : Nat) : Int))
    (k : LW Γ b Q 3404 (zz_lv i) [] (CW c A J) (NW K (mg M g))) : LW Γ b Q pc ((7, .double d) :: (6, .int (ii code)) :: zz_lv i) [] (CW c A J) (NW K (mg M g)) := by
  have k2 : LW Γ b Q (pc + 48) ((7, .double d) :: (6, .int (ii code)) :: zz_lv i) [] (CW c A J) (NW K (mg M g)) := zz_goto C 3404 d13 ht (zz_sub [2, 3, 4, 5, 6, 7] rfl k)
  refine zz_thrown C hB hn hI hm.1 kz rfl rfl d0 d1 d2 d3 ?_
  refine zz_iload C 1 d4 rfl ?_
  by_cases h0 : code = 0
  · refine zz_neF C (pc + 48) d5 (by omega) (by rw [h0]; rfl) ?_
    refine zz_aload C 6 d6 rfl ?_
    refine zz_iconst C (v := 0) d7 rfl ?_
    refine zz_dald C hI.1.2.2.2.2.2.2.2 d8 ?_
    refine zz_dload C 0 d9 rfl ?_
    refine zz_dcmp C d11 ?_
    refine zz_eqT C (pc + 48) d12 (by omega) ?_ k2
    rw [show ax_J (CW c A J) 456 0 = J 456 0 from rfl, (ha h0).1, UInt64.toUInt64_toInt64]
    exact zz_dd (ha h0).2
  · refine zz_neT C (pc + 48) d5 (by omega) (fun e => h0 ?_) k2
    have := (ii_eq code 0 (by omega)).mp e
    exact this
/-- an answer that is a float -/
theorem zt_F (C : zz_C Γ b L xs) {code : Int} {y : UInt32} (hB : zz_B C0 N0 K) (hn : n ≤ 513) (hI : Inv C0 N0 n pl sp tv cap c A J M g) (hm : M 0 0 = code ∧ 0 ≤ code ∧ code ≤ 3) (ha : code = 0 → J 456 0 = (FP.f2d y).toInt64 ∧ FP.fIsNaN y = false) (kz : ax_VL RL 189 yX7_thrown cX7_thrown 1 (some .int) 0 ∧ ax_VI yX7_thrown)
    (d0 : decode cL_law pc = .ok (.aload_n 2, 1)) (d1 : decode cL_law (pc + 1) = .ok (.invokevirtual 189, 3)) (d2 : decode cL_law (pc + 4) = .ok (.iload 6, 2)) (d3 : decode cL_law (pc + 6) = .ok (.if_icmp .eq 5, 3)) (d4 : decode cL_law (pc + 11) = .ok (.iload 6, 2)) (d5 : decode cL_law (pc + 13) = .ok (.ifCond .ne 36, 3)) (d6 : decode cL_law (pc + 16) = .ok (.aload 4, 2)) (d7 : decode cL_law (pc + 18) = .ok (.iconst 0, 1)) (d8 : decode cL_law (pc + 19) = .ok (.daload, 1)) (d9 : decode cL_law (pc + 20) = .ok (.fload 7, 2)) (d10 : decode cL_law (pc + 22) = .ok (.f2d, 1)) (d11 : decode cL_law (pc + 23) = .ok (.dcmp .l, 1)) (d12 : decode cL_law (pc + 24) = .ok (.ifCond .eq 25, 3)) (d13 : decode cL_law (pc + 49) = .ok (.goto off, 3)) (ht : ((pc + 49 : Nat) : Int) + off = ((3404 : Nat) : Int))
    (k : LW Γ b Q 3404 (zz_lv i) [] (CW c A J) (NW K (mg M g))) : LW Γ b Q pc ((7, .float y) :: (6, .int (ii code)) :: zz_lv i) [] (CW c A J) (NW K (mg M g)) := by
  have k2 : LW Γ b Q (pc + 49) ((7, .float y) :: (6, .int (ii code)) :: zz_lv i) [] (CW c A J) (NW K (mg M g)) := zz_goto C 3404 d13 ht (zz_sub [2, 3, 4, 5, 6, 7] rfl k)
  refine zz_thrown C hB hn hI hm.1 kz rfl rfl d0 d1 d2 d3 ?_
  refine zz_iload C 1 d4 rfl ?_
  by_cases h0 : code = 0
  · have hd : FP.dIsNaN (FP.f2d y) = false := (FP.f2d_nan y).trans (ha h0).2
    refine zz_neF C (pc + 49) d5 (by omega) (by rw [h0]; rfl) ?_
    refine zz_aload C 6 d6 rfl ?_
    refine zz_iconst C (v := 0) d7 rfl ?_
    refine zz_dald C hI.1.2.2.2.2.2.2.2 d8 ?_
    refine zz_fload C 0 d9 rfl ?_
    refine zz_f2d C d10 (nn64 hd) ?_
    refine zz_dcmp C d11 ?_
    refine zz_eqT C (pc + 49) d12 (by omega) ?_ k2
    rw [show ax_J (CW c A J) 456 0 = J 456 0 from rfl, (ha h0).1, UInt64.toUInt64_toInt64]
    exact zz_dd hd
  · refine zz_neT C (pc + 49) d5 (by omega) (fun e => h0 ?_) k2
    have := (ii_eq code 0 (by omega)).mp e
    exact this
/-- one of the script's ints, as an argument -/
theorem zz_arg (C : zz_C Γ b L xs) {lv : List (Nat × Value)} {st : List Value} {σ1 σ2 : AS} {m : Int} {k5 : Int32} (j0 j5 : Nat) (h0 : lv[j0]? = some (0, .ref 0)) (h5 : lv[j5]? = some (5, .int i)) (hm : Int32.ofInt m = k5) (hin : vp_in (i + k5) L)
    (d0 : decode cL_law pc = .ok (.aload_n 0, 1)) (d1 : decode cL_law (pc + 1) = .ok (.iload 5, 2)) (d2 : decode cL_law (pc + 3) = .ok (.iconst m, 1)) (d3 : decode cL_law (pc + 4) = .ok (.iadd, 1)) (d4 : decode cL_law (pc + 5) = .ok (.iaload, 1)) (k : LW Γ b Q (pc + 6) lv (.int (xs (i + k5).toNatClampNeg) :: st) σ1 σ2) : LW Γ b Q pc lv st σ1 σ2 :=
  zz_aload_n C j0 d0 h0 (zz_iload C j5 d1 h5 (zz_iconst C d2 hm (zz_iadd C d3 (zz_sld C hin d4 k))))
/-- .. as a boolean -/
theorem zz_argZ (C : zz_C Γ b L xs) {lv : List (Nat × Value)} {st : List Value} {σ1 σ2 : AS} {x : Int32}
    (d0 : decode cL_law pc = .ok (.ifCond .eq 7, 3)) (d1 : decode cL_law (pc + 3) = .ok (.iconst 1, 1)) (d2 : decode cL_law (pc + 4) = .ok (.goto 4, 3)) (d3 : decode cL_law (pc + 7) = .ok (.iconst 0, 1)) (k : LW Γ b Q (pc + 8) lv (.int (ii (if x = 0 then 0 else 1)) :: st) σ1 σ2) : LW Γ b Q pc lv (.int x :: st) σ1 σ2 := by
  by_cases h : x = 0
  · rw [if_pos h] at k
    exact zz_eqT C (pc + 7) d0 (by omega) h (zz_iconst C d3 rfl k)
  · rw [if_neg h] at k
    exact zz_eqF C (pc + 7) d0 (by omega) h (zz_iconst C d1 rfl (zz_goto C (pc + 8) d2 (by omega) k))
end ZZT
/-- what a wrapper of a boolean method laid down -/
theorem zj_uJ {σ τ : AS} {a : Nat} {x : Int64} {v : Option Value} (h : uJ σ a 0 x (fun s3 => some (.inl (some (.int 0)), s3)) = some (.inl v, τ)) : ax_J τ a 0 = x := by
  unfold uJ at h
  split at h
  · cases h
    exact ax_up2_s _ _ _ _
  · cases h
theorem zj_hF {τ υ : AS} {E : String} {v : Int32} : ∀ {hh : List (String × Int32 × (Nat × Nat × Nat × Nat))}, (∀ z ∈ hh, z.2.1 ≠ 0) → hF hh E τ = some (.inl (some (.int v)), υ) → v ≠ 0
  | [], _, h => by cases h
  | z :: hh, hz, h => by
    unfold hF at h
    split at h
    · cases h
      exact hz z List.mem_cons_self
    · exact zj_hF (fun y hy => hz y (List.mem_cons_of_mem _ hy)) h
theorem zj_Z {σ τ : AS} {a ci a3 : Nat} {x : Option AR} {hh : List (String × Int32 × (Nat × Nat × Nat × Nat))} {f0 f1 : AS → Option AR} {v : Int32} (hh0 : ∀ z ∈ hh, z.2.1 ≠ 0) (h0 : ∀ υ w, f0 υ = some (.inl w, τ) → ax_J τ a3 0 = 0 ∨ ax_J τ a3 0 = 1) (h1 : ∀ υ w, f1 υ = some (.inl w, τ) → ax_J τ a3 0 = 0 ∨ ax_J τ a3 0 = 1)
    (h : cH σ a ci x hh (qI (fun v1 s2 => if v1 = 0 then f0 s2 else f1 s2)) = some (.inl (some (.int v)), τ)) (hv : v = 0) : ax_J τ a3 0 = 0 ∨ ax_J τ a3 0 = 1 := by
  unfold cH at h
  split at h
  · match x, h with
    | some (.inl w, υ), h =>
      have h : (if ax_le σ υ then qI (fun v1 s2 => if v1 = 0 then f0 s2 else f1 s2) w υ else none) = some (.inl (some (.int v)), τ) := h
      split at h
      · rcases w with _ | w
        · cases h
        · cases w with
          | int q =>
            have h : (if q = 0 then f0 υ else f1 υ) = some (.inl (some (.int v)), τ) := h
            split at h
            · exact h0 _ _ h
            · exact h1 _ _ h
          | _ => cases h
      · cases h
    | some (.inr E, υ), h =>
      have h : (if ax_le σ υ then hF hh E υ else none) = some (.inl (some (.int v)), τ) := h
      split at h
      · exact absurd hv (zj_hF hh0 h)
      · cases h
    | none, h => cases h
  · cases h
