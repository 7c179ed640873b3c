/-! FOUR BITS OF A LONG -/
theorem b15 (i : Nat) : (15#64).getLsbD i = decide (i < 4) := by
  rw [BitVec.getLsbD_ofNat, show (15 : Nat) = 2 ^ 4 - 1 from rfl, Nat.testBit_two_pow_sub_one]
  by_cases h : i < 4
  · simp [h]; omega
  · simp [h]
theorem b_hi (d : BitVec 64) (h : d.toNat < 16) (i : Nat) (hi : 4 ≤ i) : d.getLsbD i = false := by
  rw [BitVec.getLsbD]
  apply Nat.testBit_lt_two_pow
  calc d.toNat < 2 ^ 4 := h
    _ ≤ 2 ^ i := Nat.pow_le_pow_right (by decide) hi
theorem nib_bv (l d : BitVec 64) (s s2 : Nat) (hd : d.toNat < 16) (hs : s < 64 ∧ s % 4 = 0) (h2 : s2 < 64 ∧ s2 % 4 = 0) :
    (((l &&& ~~~(15#64 <<< s)) ||| (d <<< s)) >>> s2) &&& 15#64 = if s2 = s then d else (l >>> s2) &&& 15#64 := by
  apply BitVec.eq_of_getLsbD_eq
  intro i hi
  by_cases q : s2 = s
  · rw [if_pos q, q]
    simp only [BitVec.getLsbD_and, BitVec.getLsbD_ushiftRight, BitVec.getLsbD_or, BitVec.getLsbD_not, BitVec.getLsbD_shiftLeft, b15]
    by_cases c : i < 4
    · rw [show s + i - s = i by omega]
      have h1 : decide (s + i < 64) = true := by simp; omega
      have h3 : decide (s + i < s) = false := by simp
      rw [h3, h1]
      simp [c]
    · have h4 := b_hi d hd i (by omega)
      simp [c, h4]
  · rw [if_neg q]
    simp only [BitVec.getLsbD_and, BitVec.getLsbD_ushiftRight, BitVec.getLsbD_or, BitVec.getLsbD_not, BitVec.getLsbD_shiftLeft, b15]
    by_cases c : i < 4
    · have h1 : s2 + i < 64 := by omega
      by_cases c2 : s2 + i < s
      · simp [c, c2, h1]
      · have h4 := b_hi d hd (s2 + i - s) (by omega)
        have h5 : ¬ (s2 + i - s < 4) := by omega
        simp [c, c2, h1, h4, h5]
    · simp [c]
def nibV (l : Int64) (s : Int) : Int32 := (((l.toUInt64 >>> ((ii s).toInt64.toUInt64 &&& Int64.toUInt64 63)).toInt64).toInt32) &&& 15
theorem sh_u (s : Nat) (h : s < 64) : ((ii s).toInt64.toUInt64 &&& Int64.toUInt64 63) = UInt64.ofNat s := by
  have key : ∀ s : Fin 64, ((ii ((s : Nat) : Int)).toInt64.toUInt64 &&& Int64.toUInt64 63) = UInt64.ofNat (s : Nat) := by decide +kernel
  exact key ⟨s, h⟩
theorem sh_s (s : Nat) (h : s < 64) : ((ii s).toInt64 &&& 63) = Int64.ofNat s := by
  have key : ∀ s : Fin 64, ((ii ((s : Nat) : Int)).toInt64 &&& 63) = Int64.ofNat (s : Nat) := by decide +kernel
  exact key ⟨s, h⟩
theorem nibV_bv (l : Int64) (s : Nat) (h : s < 64) : nibV l s = Int32.ofBitVec (((l.toBitVec >>> s) &&& 15#64).setWidth 32) := by
  unfold nibV
  rw [sh_u s h]
  apply Int32.toBitVec.inj
  apply BitVec.eq_of_getLsbD_eq
  intro i hi
  have e1 : ((((l.toUInt64 >>> UInt64.ofNat s).toInt64).toInt32) &&& 15).toBitVec = ((l.toBitVec >>> s).setWidth 32) &&& 15#32 := by
    have e2 : (l.toUInt64 >>> UInt64.ofNat s).toBitVec = l.toBitVec >>> s := by
      rw [UInt64.toBitVec_shiftRight]
      have e3 : (UInt64.ofNat s).toBitVec % 64#64 = BitVec.ofNat 64 s := by
        have key : ∀ s : Fin 64, (UInt64.ofNat (s : Nat)).toBitVec % 64#64 = BitVec.ofNat 64 (s : Nat) := by decide +kernel
        exact key ⟨s, h⟩
      show l.toBitVec >>> ((UInt64.ofNat s).toBitVec % 64#64) = _
      rw [e3, BitVec.ushiftRight_eq']
      rw [BitVec.toNat_ofNat, Nat.mod_eq_of_lt (by omega)]
    rw [Int32.toBitVec_and, Int64.toBitVec_toInt32, UInt64.toBitVec_toInt64, e2, BitVec.signExtend_eq_setWidth_of_le _ (by decide)]
    rfl
  rw [e1]
  show _ = (((l.toBitVec >>> s) &&& 15#64).setWidth 32).getLsbD i
  rw [BitVec.getLsbD_and, BitVec.getLsbD_setWidth, BitVec.getLsbD_setWidth, BitVec.getLsbD_and, b15]
  have e4 : (15#32).getLsbD i = decide (i < 4) := by
    have key : ∀ i : Fin 32, (15#32).getLsbD (i : Nat) = decide ((i : Nat) < 4) := by decide
    exact key ⟨i, hi⟩
  rw [e4, Bool.and_assoc]
def nibS (l : Int64) (s : Int) (d : Int) : Int64 := (l &&& (((15 : Int64) <<< ((ii s).toInt64 &&& 63)) ^^^ (-1))) ||| ((ii d).toInt64 <<< ((ii s).toInt64 &&& 63))
theorem nibS_bv (l : Int64) (s d : Nat) (h : s < 64) (hd : d < 16) : (nibS l s d).toBitVec = (l.toBitVec &&& ~~~(15#64 <<< s)) ||| (BitVec.ofNat 64 d <<< s) := by
  unfold nibS
  rw [sh_s s h]
  have e0 : ∀ x : Int64, (x <<< Int64.ofNat s).toBitVec = x.toBitVec <<< s := by
    intro x
    rw [Int64.toBitVec_shiftLeft]
    have e3 : (Int64.ofNat s).toBitVec.smod 64 = BitVec.ofNat 64 s := by
      have key : ∀ s : Fin 64, (Int64.ofNat (s : Nat)).toBitVec.smod 64 = BitVec.ofNat 64 (s : Nat) := by decide +kernel
      exact key ⟨s, h⟩
    rw [e3, BitVec.shiftLeft_eq']
    rw [BitVec.toNat_ofNat, Nat.mod_eq_of_lt (by omega)]
  have e1 : (ii (d : Int)).toInt64.toBitVec = BitVec.ofNat 64 d := by
    have key : ∀ d : Fin 16, (ii ((d : Nat) : Int)).toInt64.toBitVec = BitVec.ofNat 64 (d : Nat) := by decide +kernel
    exact key ⟨d, hd⟩
  rw [Int64.toBitVec_or, Int64.toBitVec_and, Int64.toBitVec_xor, e0, e0, e1]
  have e2 : (-1 : Int64).toBitVec = BitVec.allOnes 64 := by decide
  rw [e2, show (15 : Int64).toBitVec = 15#64 from rfl, BitVec.xor_allOnes]
theorem nibVS (l : Int64) (s s2 d : Int) (hs : (0 ≤ s ∧ s < 64) ∧ s % 4 = 0) (h2 : (0 ≤ s2 ∧ s2 < 64) ∧ s2 % 4 = 0) (hd : 0 ≤ d ∧ d < 16) : nibV (nibS l s d) s2 = if s2 = s then ii d else nibV l s2 := by
  obtain ⟨s, rfl⟩ : ∃ n : Nat, s = n := ⟨s.toNat, by omega⟩
  obtain ⟨s2, rfl⟩ : ∃ n : Nat, s2 = n := ⟨s2.toNat, by omega⟩
  obtain ⟨d, rfl⟩ : ∃ n : Nat, d = n := ⟨d.toNat, by omega⟩
  rw [nibV_bv _ _ (by omega), nibS_bv l s d (by omega) (by omega), nib_bv l.toBitVec (BitVec.ofNat 64 d) s s2 (by rw [BitVec.toNat_ofNat]; omega) (by omega) (by omega)]
  by_cases q : s2 = s
  · rw [if_pos q, if_pos (by omega)]
    have key : ∀ d : Fin 16, Int32.ofBitVec ((BitVec.ofNat 64 (d : Nat)).setWidth 32) = ii ((d : Nat) : Int) := by decide +kernel
    exact key ⟨d, by omega⟩
  · rw [if_neg q, if_neg (by omega), nibV_bv _ _ (by omega)]
/-- the k-th four bits of a row of longs -/
def nib (W : Nat → Int64) (k : Int) : Int := (nibV (W (k / 16).toNat) (k % 16 * 4)).toInt
theorem nib_set (J : JI) (a : Nat) (i k d : Int) (hi : 0 ≤ i) (hk : 0 ≤ k) (hd : 0 ≤ d ∧ d < 16) : nib (upJ J a (i / 16).toNat (nibS (J a (i / 16).toNat) (i % 16 * 4) d) a) k = if k = i then d else nib (J a) k := by
  unfold nib upJ
  by_cases q : (k / 16).toNat = (i / 16).toNat
  · rw [q, ax_up2_s, nibVS _ _ _ _ (by omega) (by omega) hd]
    by_cases q2 : k = i
    · rw [if_pos q2, if_pos (by omega), ii_ti _ (by omega)]
    · rw [if_neg q2, if_neg (by omega)]
  · rw [ax_up2_n _ _ (fun z => q z.2), if_neg (by intro z; rw [z] at q; exact q rfl)]
