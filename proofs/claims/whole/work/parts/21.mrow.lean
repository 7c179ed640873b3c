/-! A ROW IN THE MODEL'S ARRAY g: its parts, and what of them is asked. -/
def wB (g : Nat → Int32) (r : Nat) : Int32 := g (16 + 512 * r + 0)
def wP (g : Nat → Int32) (r : Nat) : Int32 := g (16 + 512 * r + 1)
def wO (g : Nat → Int32) (r : Nat) : Int32 := g (16 + 512 * r + 2)
def wT (g : Nat → Int32) (r : Nat) : Int32 := g (16 + 512 * r + 3)
def wS (g : Nat → Int32) (r : Nat) : Int32 := g (16 + 512 * r + 4)
def wb (g : Nat → Int32) (r k : Nat) : Int32 := g (16 + 512 * r + (5 + k))
def wp (g : Nat → Int32) (r k : Nat) : Int32 := g (16 + 512 * r + (11 + k))
def nB (g : Nat → Int32) (r : Nat) : Nat := (wB g r).toNatClampNeg
def nP (g : Nat → Int32) (r : Nat) : Nat := (wP g r).toNatClampNeg
def kP (g : Nat → Int32) (r k : Nat) : Nat := (wp g r k).toNatClampNeg
/-- the row's counts and kinds are in bounds -/
def MRow (g : Nat → Int32) (r : Nat) : Prop := (wB g r = Int32.ofNat (nB g r) ∧ nB g r ≤ 6) ∧ (wP g r = Int32.ofNat (nP g r) ∧ nP g r ≤ 500) ∧ ∀ k, k < nP g r → wp g r k = Int32.ofNat (kP g r k) ∧ kP g r k < 10
def uB (g : Nat → Int32) (r : Nat) : Int32 := sumI (wb g r) (nB g r)
def uQ (q : Int32) (g : Nat → Int32) (r : Nat) : Int32 := if wO g r = -1 then 0 else (q + wO g r) - wT g r
def uP (len : Nat → Int32) (g : Nat → Int32) (r : Nat) : Int32 := sumI (fun k => len (kP g r k)) (nP g r)
def uW (met : Nat → Int32) (g : Nat → Int32) (r : Nat) : Int32 := sumI (fun k => if met (kP g r k) = 0 then 1 else 0) (nP g r)
def wG (I : MI) (r : Nat) : Int32 := I 0 2 - ((uB (I 3) r + uQ (I 0 4) (I 3) r) + uP (I 2) (I 3) r)
section MROW
variable {K : Nat × Nat}
theorem i32_0 : (0 : Int32) = Int32.ofNat 0 := rfl
theorem eX7_hasQuoin (I : MI) (r : Nat) (hr : r < 8) : fX7_hasQuoin 0 (Int32.ofNat r) (MW K I) = some (.inl (some (.int (if wO (I 3) r = -1 then 0 else 1))), MW K I) := by
  rw [fX7_hasQuoin, mV, show (2 : Int32) = Int32.ofNat 2 from rfl, eX7_ofn I r 2 hr (by omega), mC, qI_i]
  show (if wO (I 3) r = -1 then _ else _) = _
  by_cases h : wO (I 3) r = -1
  · rw [if_pos h, if_pos h]; rfl
  · rw [if_neg h, if_neg h]; rfl
theorem eX7_quoinLong (I : MI) (r : Nat) (hr : r < 8) : fX7_quoinLong 0 (Int32.ofNat r) (MW K I) = some (.inl (some (.int (uQ (I 0 4) (I 3) r))), MW K I) := by
  rw [fX7_quoinLong, mV, eX7_hasQuoin I r hr, mC, qI_i]
  unfold uQ
  by_cases h : wO (I 3) r = -1
  · rw [if_pos h, if_pos rfl, if_pos h]
  · rw [if_neg h, if_neg (by decide), mI4, mV, show (2 : Int32) = Int32.ofNat 2 from rfl, eX7_ofn I r 2 hr (by omega), mC, qI_i, mV, show (3 : Int32) = Int32.ofNat 3 from rfl, eX7_ofn I r 3 hr (by omega), mC, qI_i, if_neg h]
    rfl
theorem eX7_filledLong_l (I : MI) (r : Nat) (hr : r < 8) (hm : MRow (I 3) r) : ∀ (k fuel i : Nat) (acc : Int32), i + k = nP (I 3) r → k < fuel →
    fX7_filledLong_14 fuel 0 (Int32.ofNat r) acc (Int32.ofNat i) (MW K I) = some (.inl (some (.int (acc + (uP (I 2) (I 3) r - sumI (fun k => I 2 (kP (I 3) r k)) i)))), MW K I)
  | k, 0, _, _, _, h => by omega
  | 0, fuel + 1, i, acc, hi, _ => by
    have hb := hm.2.1.2
    rw [fX7_filledLong_14, mV, show (1 : Int32) = Int32.ofNat 1 from rfl, eX7_ofn I r 1 hr (by omega), mC, qI_i, show I 3 (16 + 512 * r + 1) = Int32.ofNat (nP (I 3) r) from hm.2.1.1, if_pos ((i32_le (by omega) (by omega)).mpr (by omega))]
    rw [show i = nP (I 3) r by omega]
    unfold uP
    refine congrArg (fun z => some (Sum.inl (some (Value.int z)), MW K I)) ?_
    grind
  | k + 1, fuel + 1, i, acc, hi, h => by
    have hb := hm.2.1.2
    obtain ⟨hk, hk2⟩ := hm.2.2 i (by omega)
    rw [fX7_filledLong_14, mV, show (1 : Int32) = Int32.ofNat 1 from rfl, eX7_ofn I r 1 hr (by omega), mC, qI_i, show I 3 (16 + 512 * r + 1) = Int32.ofNat (nP (I 3) r) from hm.2.1.1, if_neg (fun q => by have := (i32_le (by omega) (by omega)).mp q; omega)]
    rw [mR11, mV, show (11 : Int32) = Int32.ofNat 11 from rfl, i32_add, eX7_ofn I r (11 + i) hr (by omega), mC, qI_i, show I 3 (16 + 512 * r + (11 + i)) = Int32.ofNat (kP (I 3) r i) from hk, mA2 _ _ _ (ax_ibo hk2 (by omega)), i32_tn (by omega), lt_e, lt_e, i32_add]
    rw [eX7_filledLong_l I r hr hm k fuel (i + 1) _ (by omega) (by omega)]
    refine congrArg (fun z => some (Sum.inl (some (Value.int z)), MW K I)) ?_
    simp only [sumI]
    generalize uP (I 2) (I 3) r = A
    generalize sumI (fun k => I 2 (kP (I 3) r k)) i = B
    generalize I 2 (kP (I 3) r i) = D
    grind
theorem eX7_filledLong (I : MI) (r : Nat) (hr : r < 8) (hm : MRow (I 3) r) : fX7_filledLong 0 (Int32.ofNat r) (MW K I) = some (.inl (some (.int ((uB (I 3) r + uQ (I 0 4) (I 3) r) + uP (I 2) (I 3) r))), MW K I) := by
  rw [fX7_filledLong, mV, eX7_blocksLong I r (nB (I 3) r) hr hm.1.2 hm.1.1, mC, qI_i, mV, eX7_quoinLong I r hr, mC, qI_i, lt_e, i32_0, eX7_filledLong_l I r hr hm (nP (I 3) r) FU 0 _ (by omega) (by have := hm.2.1.2; unfold FU; omega)]
  refine congrArg (fun z => some (Sum.inl (some (Value.int z)), MW K I)) ?_
  show (_ : Int32) + (_ - 0) = _
  unfold uB wb
  grind
theorem eX7_gap (I : MI) (r : Nat) (hr : r < 8) (hm : MRow (I 3) r) : fX7_gap 0 (Int32.ofNat r) (MW K I) = some (.inl (some (.int (wG I r))), MW K I) := by
  rw [fX7_gap, mI2, mV, eX7_filledLong I r hr hm, mC, qI_i]
  rfl
theorem eX7_looseness (I : MI) (r : Nat) (hr : r < 8) (hm : MRow (I 3) r) : fX7_looseness 0 (Int32.ofNat r) (MW K I) = some (.inl (some (.int (wS (I 3) r + 10 * wG I r))), MW K I) := by
  rw [fX7_looseness, mV, show (4 : Int32) = Int32.ofNat 4 from rfl, eX7_ofn I r 4 hr (by omega), mC, qI_i, mV, eX7_gap I r hr hm, mC, qI_i]
  rfl
theorem eX7_isTightRow (I : MI) (r : Nat) (hr : r < 8) (hm : MRow (I 3) r) : fX7_isTightRow 0 (Int32.ofNat r) (MW K I) = some (.inl (some (.int (if wG I r = 0 ∧ wS (I 3) r = 0 then 1 else 0))), MW K I) := by
  rw [fX7_isTightRow, mV, eX7_gap I r hr hm, mC, qI_i]
  by_cases h : wG I r = 0
  · rw [if_pos h, mV, show (4 : Int32) = Int32.ofNat 4 from rfl, eX7_ofn I r 4 hr (by omega), mC, qI_i]
    by_cases h2 : wS (I 3) r = 0
    · rw [if_pos (c := wG I r = 0 ∧ wS (I 3) r = 0) ⟨h, h2⟩, if_pos (c := I 3 (16 + 512 * r + 4) = 0) h2]
      rfl
    · rw [if_neg (c := wG I r = 0 ∧ wS (I 3) r = 0) (fun q => h2 q.2), if_neg (c := I 3 (16 + 512 * r + 4) = 0) h2]
      rfl
  · rw [if_neg h, if_neg (fun q => h q.1)]
    rfl
/-- what of the row a filling has to make, without its quoin -/
def wN (I : MI) (r : Nat) : Int32 := wG I r + uQ (I 0 4) (I 3) r
abbrev wC (I : MI) (r : Nat) : Prop := wO (I 3) r ≠ -1 ∨ 0 < I 3 0
theorem eX7_need (I : MI) (r : Nat) (hr : r < 8) (hm : MRow (I 3) r) : fX7_need 0 (Int32.ofNat r) (MW K I) = some (.inl (some (.int (wN I r))), MW K I) := by
  rw [fX7_need, mV, eX7_gap I r hr hm, mC, qI_i, mV, eX7_quoinLong I r hr, mC, qI_i]
  rfl
theorem eX7_canOpen (I : MI) (r : Nat) (hr : r < 8) : fX7_canOpen 0 (Int32.ofNat r) (MW K I) = some (.inl (some (.int (if wC I r then 1 else 0))), MW K I) := by
  rw [fX7_canOpen, mV, eX7_hasQuoin I r hr, mC, qI_i]
  by_cases h : wO (I 3) r = -1
  · rw [if_pos h, if_pos rfl, mR12, mA3 _ 0 _ (ax_ibo (n := 0) (by omega) (by omega))]
    show (if I 3 0 ≤ 0 then rZ 0 (MW K I) else rZ 1 (MW K I)) = _
    by_cases h2 : I 3 0 ≤ 0
    · rw [if_pos h2, if_neg (c := wC I r) (fun q => q.elim (fun q => q h) (fun q => Int32.not_le.mpr q h2))]
      rfl
    · rw [if_neg h2, if_pos (c := wC I r) (Or.inr (Int32.not_le.mp h2))]
      rfl
  · rw [if_neg h, if_neg (by decide), if_pos (c := wC I r) (Or.inl h)]
    rfl
theorem eX7_sumFor (I : MI) (r : Nat) (o : Int32) (hr : r < 8) (hm : MRow (I 3) r) : fX7_sumFor 0 (Int32.ofNat r) o (MW K I) = some (.inl (some (.int (if o = -1 then wN I r else (wN I r - I 0 4) - o))), MW K I) := by
  rw [fX7_sumFor]
  by_cases h : o = -1
  · rw [if_pos h, mV, eX7_need I r hr hm, mC, qI_i, if_pos h]
  · rw [if_neg h, mV, eX7_need I r hr hm, mC, qI_i, mI4, if_neg h]
end MROW
