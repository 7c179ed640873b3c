/-! THE MODEL ALONE IN ITS WORLD: its object is the cell 0, its arrays 1 to 16; only what ints they hold changes. -/
def MH : Nat → Nat × Nat := fun a => match a with
  | 0 => (11, 41)
  | 1 => (101, 10)
  | 2 => (100, 10)
  | 3 => (100, 4112)
  | 4 => (100, 4112)
  | 5 => (100, 41120)
  | 6 => (101, 2)
  | 7 => (100, 500)
  | 8 => (100, 4112)
  | 9 => (100, 8)
  | 10 => (100, 10)
  | 11 => (101, 10)
  | 12 => (100, 10)
  | 13 => (100, 5511)
  | 14 => (100, 10)
  | 15 => (100, 501)
  | 16 => (100, 3000)
  | _ => (0, 0)
def MP : Nat → Nat → Option Nat := fun a j => if a = 0 then (match j with
  | 10 => some 1
  | 11 => some 2
  | 12 => some 3
  | 13 => some 4
  | 14 => some 5
  | 16 => some 6
  | 17 => some 7
  | 28 => some 8
  | 29 => some 9
  | 30 => some 10
  | 31 => some 11
  | 33 => some 12
  | 34 => some 13
  | 35 => some 14
  | 38 => some 15
  | 39 => some 16
  | _ => none) else none
abbrev MI : Type := Nat → Nat → Int32
def MW (K : Nat × Nat) (I : MI) : AS := (I, fun _ _ => 0, MP, MH, 17, K.1, K.2)
section MPURE
variable {K : Nat × Nat}
theorem mZ {I : MI} (i : Nat) (h : i < 17) : i < ax_z (MW K I) := h
theorem mR10 (I : MI) (g : Nat → Option AR) : gR (MW K I) 0 11 10 g = g 1 := rfl
theorem mA1 (I : MI) (i : Int32) (g : Int32 → Option AR) (h : ax_ib i 10) : aI (MW K I) 1 101 i g = g (I 1 i.toNatClampNeg) := if_pos ⟨mZ _ (by decide), rfl, h⟩
theorem mR11 (I : MI) (g : Nat → Option AR) : gR (MW K I) 0 11 11 g = g 2 := rfl
theorem mA2 (I : MI) (i : Int32) (g : Int32 → Option AR) (h : ax_ib i 10) : aI (MW K I) 2 100 i g = g (I 2 i.toNatClampNeg) := if_pos ⟨mZ _ (by decide), rfl, h⟩
theorem mU2 (I : MI) (i x : Int32) (g : AS → Option AR) (h : ax_ib i 10) : uI (MW K I) 2 i x g = g (MW K (ax_up2 I 2 i.toNatClampNeg x)) := if_pos ⟨mZ _ (by decide), rfl, h⟩
theorem mR12 (I : MI) (g : Nat → Option AR) : gR (MW K I) 0 11 12 g = g 3 := rfl
theorem mA3 (I : MI) (i : Int32) (g : Int32 → Option AR) (h : ax_ib i 4112) : aI (MW K I) 3 100 i g = g (I 3 i.toNatClampNeg) := if_pos ⟨mZ _ (by decide), rfl, h⟩
theorem mU3 (I : MI) (i x : Int32) (g : AS → Option AR) (h : ax_ib i 4112) : uI (MW K I) 3 i x g = g (MW K (ax_up2 I 3 i.toNatClampNeg x)) := if_pos ⟨mZ _ (by decide), rfl, h⟩
theorem mR13 (I : MI) (g : Nat → Option AR) : gR (MW K I) 0 11 13 g = g 4 := rfl
theorem mA4 (I : MI) (i : Int32) (g : Int32 → Option AR) (h : ax_ib i 4112) : aI (MW K I) 4 100 i g = g (I 4 i.toNatClampNeg) := if_pos ⟨mZ _ (by decide), rfl, h⟩
theorem mU4 (I : MI) (i x : Int32) (g : AS → Option AR) (h : ax_ib i 4112) : uI (MW K I) 4 i x g = g (MW K (ax_up2 I 4 i.toNatClampNeg x)) := if_pos ⟨mZ _ (by decide), rfl, h⟩
theorem mR14 (I : MI) (g : Nat → Option AR) : gR (MW K I) 0 11 14 g = g 5 := rfl
theorem mA5 (I : MI) (i : Int32) (g : Int32 → Option AR) (h : ax_ib i 41120) : aI (MW K I) 5 100 i g = g (I 5 i.toNatClampNeg) := if_pos ⟨mZ _ (by decide), rfl, h⟩
theorem mU5 (I : MI) (i x : Int32) (g : AS → Option AR) (h : ax_ib i 41120) : uI (MW K I) 5 i x g = g (MW K (ax_up2 I 5 i.toNatClampNeg x)) := if_pos ⟨mZ _ (by decide), rfl, h⟩
theorem mR16 (I : MI) (g : Nat → Option AR) : gR (MW K I) 0 11 16 g = g 6 := rfl
theorem mA6 (I : MI) (i : Int32) (g : Int32 → Option AR) (h : ax_ib i 2) : aI (MW K I) 6 101 i g = g (I 6 i.toNatClampNeg) := if_pos ⟨mZ _ (by decide), rfl, h⟩
theorem mR17 (I : MI) (g : Nat → Option AR) : gR (MW K I) 0 11 17 g = g 7 := rfl
theorem mA7 (I : MI) (i : Int32) (g : Int32 → Option AR) (h : ax_ib i 500) : aI (MW K I) 7 100 i g = g (I 7 i.toNatClampNeg) := if_pos ⟨mZ _ (by decide), rfl, h⟩
theorem mU7 (I : MI) (i x : Int32) (g : AS → Option AR) (h : ax_ib i 500) : uI (MW K I) 7 i x g = g (MW K (ax_up2 I 7 i.toNatClampNeg x)) := if_pos ⟨mZ _ (by decide), rfl, h⟩
theorem mR28 (I : MI) (g : Nat → Option AR) : gR (MW K I) 0 11 28 g = g 8 := rfl
theorem mA8 (I : MI) (i : Int32) (g : Int32 → Option AR) (h : ax_ib i 4112) : aI (MW K I) 8 100 i g = g (I 8 i.toNatClampNeg) := if_pos ⟨mZ _ (by decide), rfl, h⟩
theorem mU8 (I : MI) (i x : Int32) (g : AS → Option AR) (h : ax_ib i 4112) : uI (MW K I) 8 i x g = g (MW K (ax_up2 I 8 i.toNatClampNeg x)) := if_pos ⟨mZ _ (by decide), rfl, h⟩
theorem mR29 (I : MI) (g : Nat → Option AR) : gR (MW K I) 0 11 29 g = g 9 := rfl
theorem mA9 (I : MI) (i : Int32) (g : Int32 → Option AR) (h : ax_ib i 8) : aI (MW K I) 9 100 i g = g (I 9 i.toNatClampNeg) := if_pos ⟨mZ _ (by decide), rfl, h⟩
theorem mU9 (I : MI) (i x : Int32) (g : AS → Option AR) (h : ax_ib i 8) : uI (MW K I) 9 i x g = g (MW K (ax_up2 I 9 i.toNatClampNeg x)) := if_pos ⟨mZ _ (by decide), rfl, h⟩
theorem mR30 (I : MI) (g : Nat → Option AR) : gR (MW K I) 0 11 30 g = g 10 := rfl
theorem mA10 (I : MI) (i : Int32) (g : Int32 → Option AR) (h : ax_ib i 10) : aI (MW K I) 10 100 i g = g (I 10 i.toNatClampNeg) := if_pos ⟨mZ _ (by decide), rfl, h⟩
theorem mU10 (I : MI) (i x : Int32) (g : AS → Option AR) (h : ax_ib i 10) : uI (MW K I) 10 i x g = g (MW K (ax_up2 I 10 i.toNatClampNeg x)) := if_pos ⟨mZ _ (by decide), rfl, h⟩
theorem mR31 (I : MI) (g : Nat → Option AR) : gR (MW K I) 0 11 31 g = g 11 := rfl
theorem mA11 (I : MI) (i : Int32) (g : Int32 → Option AR) (h : ax_ib i 10) : aI (MW K I) 11 101 i g = g (I 11 i.toNatClampNeg) := if_pos ⟨mZ _ (by decide), rfl, h⟩
theorem mR33 (I : MI) (g : Nat → Option AR) : gR (MW K I) 0 11 33 g = g 12 := rfl
theorem mA12 (I : MI) (i : Int32) (g : Int32 → Option AR) (h : ax_ib i 10) : aI (MW K I) 12 100 i g = g (I 12 i.toNatClampNeg) := if_pos ⟨mZ _ (by decide), rfl, h⟩
theorem mU12 (I : MI) (i x : Int32) (g : AS → Option AR) (h : ax_ib i 10) : uI (MW K I) 12 i x g = g (MW K (ax_up2 I 12 i.toNatClampNeg x)) := if_pos ⟨mZ _ (by decide), rfl, h⟩
theorem mR34 (I : MI) (g : Nat → Option AR) : gR (MW K I) 0 11 34 g = g 13 := rfl
theorem mA13 (I : MI) (i : Int32) (g : Int32 → Option AR) (h : ax_ib i 5511) : aI (MW K I) 13 100 i g = g (I 13 i.toNatClampNeg) := if_pos ⟨mZ _ (by decide), rfl, h⟩
theorem mU13 (I : MI) (i x : Int32) (g : AS → Option AR) (h : ax_ib i 5511) : uI (MW K I) 13 i x g = g (MW K (ax_up2 I 13 i.toNatClampNeg x)) := if_pos ⟨mZ _ (by decide), rfl, h⟩
theorem mR35 (I : MI) (g : Nat → Option AR) : gR (MW K I) 0 11 35 g = g 14 := rfl
theorem mA14 (I : MI) (i : Int32) (g : Int32 → Option AR) (h : ax_ib i 10) : aI (MW K I) 14 100 i g = g (I 14 i.toNatClampNeg) := if_pos ⟨mZ _ (by decide), rfl, h⟩
theorem mU14 (I : MI) (i x : Int32) (g : AS → Option AR) (h : ax_ib i 10) : uI (MW K I) 14 i x g = g (MW K (ax_up2 I 14 i.toNatClampNeg x)) := if_pos ⟨mZ _ (by decide), rfl, h⟩
theorem mR38 (I : MI) (g : Nat → Option AR) : gR (MW K I) 0 11 38 g = g 15 := rfl
theorem mA15 (I : MI) (i : Int32) (g : Int32 → Option AR) (h : ax_ib i 501) : aI (MW K I) 15 100 i g = g (I 15 i.toNatClampNeg) := if_pos ⟨mZ _ (by decide), rfl, h⟩
theorem mU15 (I : MI) (i x : Int32) (g : AS → Option AR) (h : ax_ib i 501) : uI (MW K I) 15 i x g = g (MW K (ax_up2 I 15 i.toNatClampNeg x)) := if_pos ⟨mZ _ (by decide), rfl, h⟩
theorem mR39 (I : MI) (g : Nat → Option AR) : gR (MW K I) 0 11 39 g = g 16 := rfl
theorem mA16 (I : MI) (i : Int32) (g : Int32 → Option AR) (h : ax_ib i 3000) : aI (MW K I) 16 100 i g = g (I 16 i.toNatClampNeg) := if_pos ⟨mZ _ (by decide), rfl, h⟩
theorem mU16 (I : MI) (i x : Int32) (g : AS → Option AR) (h : ax_ib i 3000) : uI (MW K I) 16 i x g = g (MW K (ax_up2 I 16 i.toNatClampNeg x)) := if_pos ⟨mZ _ (by decide), rfl, h⟩
theorem mI0 (I : MI) (g : Int32 → Option AR) : gI (MW K I) 0 11 0 g = g (I 0 0) := rfl
theorem mS0 (I : MI) (v : Int32) (g : AS → Option AR) : sI (MW K I) 0 11 0 v g = g (MW K (ax_up2 I 0 0 v)) := rfl
theorem mI1 (I : MI) (g : Int32 → Option AR) : gI (MW K I) 0 11 1 g = g (I 0 1) := rfl
theorem mS1 (I : MI) (v : Int32) (g : AS → Option AR) : sI (MW K I) 0 11 1 v g = g (MW K (ax_up2 I 0 1 v)) := rfl
theorem mI2 (I : MI) (g : Int32 → Option AR) : gI (MW K I) 0 11 2 g = g (I 0 2) := rfl
theorem mS2 (I : MI) (v : Int32) (g : AS → Option AR) : sI (MW K I) 0 11 2 v g = g (MW K (ax_up2 I 0 2 v)) := rfl
theorem mI3 (I : MI) (g : Int32 → Option AR) : gI (MW K I) 0 11 3 g = g (I 0 3) := rfl
theorem mS3 (I : MI) (v : Int32) (g : AS → Option AR) : sI (MW K I) 0 11 3 v g = g (MW K (ax_up2 I 0 3 v)) := rfl
theorem mI4 (I : MI) (g : Int32 → Option AR) : gI (MW K I) 0 11 4 g = g (I 0 4) := rfl
theorem mS4 (I : MI) (v : Int32) (g : AS → Option AR) : sI (MW K I) 0 11 4 v g = g (MW K (ax_up2 I 0 4 v)) := rfl
theorem mI5 (I : MI) (g : Int32 → Option AR) : gI (MW K I) 0 11 5 g = g (I 0 5) := rfl
theorem mS5 (I : MI) (v : Int32) (g : AS → Option AR) : sI (MW K I) 0 11 5 v g = g (MW K (ax_up2 I 0 5 v)) := rfl
theorem mI6 (I : MI) (g : Int32 → Option AR) : gI (MW K I) 0 11 6 g = g (I 0 6) := rfl
theorem mS6 (I : MI) (v : Int32) (g : AS → Option AR) : sI (MW K I) 0 11 6 v g = g (MW K (ax_up2 I 0 6 v)) := rfl
theorem mI7 (I : MI) (g : Int32 → Option AR) : gI (MW K I) 0 11 7 g = g (I 0 7) := rfl
theorem mS7 (I : MI) (v : Int32) (g : AS → Option AR) : sI (MW K I) 0 11 7 v g = g (MW K (ax_up2 I 0 7 v)) := rfl
theorem mI8 (I : MI) (g : Int32 → Option AR) : gI (MW K I) 0 11 8 g = g (I 0 8) := rfl
theorem mS8 (I : MI) (v : Int32) (g : AS → Option AR) : sI (MW K I) 0 11 8 v g = g (MW K (ax_up2 I 0 8 v)) := rfl
theorem mI9 (I : MI) (g : Int32 → Option AR) : gI (MW K I) 0 11 9 g = g (I 0 9) := rfl
theorem mS9 (I : MI) (v : Int32) (g : AS → Option AR) : sI (MW K I) 0 11 9 v g = g (MW K (ax_up2 I 0 9 v)) := rfl
theorem mI15 (I : MI) (g : Int32 → Option AR) : gI (MW K I) 0 11 15 g = g (I 0 15) := rfl
theorem mS15 (I : MI) (v : Int32) (g : AS → Option AR) : sI (MW K I) 0 11 15 v g = g (MW K (ax_up2 I 0 15 v)) := rfl
theorem mI18 (I : MI) (g : Int32 → Option AR) : gI (MW K I) 0 11 18 g = g (I 0 18) := rfl
theorem mS18 (I : MI) (v : Int32) (g : AS → Option AR) : sI (MW K I) 0 11 18 v g = g (MW K (ax_up2 I 0 18 v)) := rfl
theorem mI19 (I : MI) (g : Int32 → Option AR) : gI (MW K I) 0 11 19 g = g (I 0 19) := rfl
theorem mS19 (I : MI) (v : Int32) (g : AS → Option AR) : sI (MW K I) 0 11 19 v g = g (MW K (ax_up2 I 0 19 v)) := rfl
theorem mI20 (I : MI) (g : Int32 → Option AR) : gI (MW K I) 0 11 20 g = g (I 0 20) := rfl
theorem mS20 (I : MI) (v : Int32) (g : AS → Option AR) : sI (MW K I) 0 11 20 v g = g (MW K (ax_up2 I 0 20 v)) := rfl
theorem mI21 (I : MI) (g : Int32 → Option AR) : gI (MW K I) 0 11 21 g = g (I 0 21) := rfl
theorem mS21 (I : MI) (v : Int32) (g : AS → Option AR) : sI (MW K I) 0 11 21 v g = g (MW K (ax_up2 I 0 21 v)) := rfl
theorem mI22 (I : MI) (g : Int32 → Option AR) : gI (MW K I) 0 11 22 g = g (I 0 22) := rfl
theorem mS22 (I : MI) (v : Int32) (g : AS → Option AR) : sI (MW K I) 0 11 22 v g = g (MW K (ax_up2 I 0 22 v)) := rfl
theorem mI23 (I : MI) (g : Int32 → Option AR) : gI (MW K I) 0 11 23 g = g (I 0 23) := rfl
theorem mS23 (I : MI) (v : Int32) (g : AS → Option AR) : sI (MW K I) 0 11 23 v g = g (MW K (ax_up2 I 0 23 v)) := rfl
theorem mI24 (I : MI) (g : Int32 → Option AR) : gI (MW K I) 0 11 24 g = g (I 0 24) := rfl
theorem mS24 (I : MI) (v : Int32) (g : AS → Option AR) : sI (MW K I) 0 11 24 v g = g (MW K (ax_up2 I 0 24 v)) := rfl
theorem mI25 (I : MI) (g : Int32 → Option AR) : gI (MW K I) 0 11 25 g = g (I 0 25) := rfl
theorem mS25 (I : MI) (v : Int32) (g : AS → Option AR) : sI (MW K I) 0 11 25 v g = g (MW K (ax_up2 I 0 25 v)) := rfl
theorem mI26 (I : MI) (g : Int32 → Option AR) : gI (MW K I) 0 11 26 g = g (I 0 26) := rfl
theorem mS26 (I : MI) (v : Int32) (g : AS → Option AR) : sI (MW K I) 0 11 26 v g = g (MW K (ax_up2 I 0 26 v)) := rfl
theorem mI27 (I : MI) (g : Int32 → Option AR) : gI (MW K I) 0 11 27 g = g (I 0 27) := rfl
theorem mS27 (I : MI) (v : Int32) (g : AS → Option AR) : sI (MW K I) 0 11 27 v g = g (MW K (ax_up2 I 0 27 v)) := rfl
theorem mI32 (I : MI) (g : Int32 → Option AR) : gI (MW K I) 0 11 32 g = g (I 0 32) := rfl
theorem mS32 (I : MI) (v : Int32) (g : AS → Option AR) : sI (MW K I) 0 11 32 v g = g (MW K (ax_up2 I 0 32 v)) := rfl
theorem mI36 (I : MI) (g : Int32 → Option AR) : gI (MW K I) 0 11 36 g = g (I 0 36) := rfl
theorem mS36 (I : MI) (v : Int32) (g : AS → Option AR) : sI (MW K I) 0 11 36 v g = g (MW K (ax_up2 I 0 36 v)) := rfl
theorem mI37 (I : MI) (g : Int32 → Option AR) : gI (MW K I) 0 11 37 g = g (I 0 37) := rfl
theorem mS37 (I : MI) (v : Int32) (g : AS → Option AR) : sI (MW K I) 0 11 37 v g = g (MW K (ax_up2 I 0 37 v)) := rfl
theorem mI40 (I : MI) (g : Int32 → Option AR) : gI (MW K I) 0 11 40 g = g (I 0 40) := rfl
theorem mS40 (I : MI) (v : Int32) (g : AS → Option AR) : sI (MW K I) 0 11 40 v g = g (MW K (ax_up2 I 0 40 v)) := rfl
theorem mV (I : MI) (x : Option AR) (g : Option Value → AS → Option AR) : cV (MW K I) 0 11 x g = cS (MW K I) x g := rfl
theorem mC (I I1 : MI) (v : Option Value) (g : Option Value → AS → Option AR) : cS (MW K I) (some (.inl v, MW K I1)) g = g v (MW K I1) := by
  show (if ax_le (MW K I) (MW K I1) then g v (MW K I1) else none) = _
  exact if_pos ⟨Nat.le_refl _, Nat.le_refl _, Nat.le_refl _⟩
theorem qI_i (g : Int32 → AS → Option AR) (i : Int32) (τ : AS) : qI g (some (.int i)) τ = g i τ := rfl
theorem qV_n (g : AS → Option AR) (τ : AS) : qV g none τ = g τ := rfl
theorem lt_e (x : Int32) (g : Int32 → Option AR) : lt x g = g x := rfl
theorem eX7_of (I : MI) (r w : Int32) (h : ax_ib ((16 + (512 * r)) + w) 4112) : fX7_of 0 r w (MW K I) = some (.inl (some (.int (I 3 ((16 + (512 * r)) + w).toNatClampNeg))), MW K I) := by
  rw [fX7_of, mR12, mA3 _ _ _ h]
theorem eX7_puts (I : MI) (r w v : Int32) (h : ax_ib ((16 + (512 * r)) + w) 4112) : fX7_puts 0 r w v (MW K I) = some (.inl none, MW K (ax_up2 I 3 ((16 + (512 * r)) + w).toNatClampNeg v)) := by
  rw [fX7_puts, mR12, mU3 _ _ _ _ h]
/-! small numbers as ints -/
theorem i32_add (a b : Nat) : Int32.ofNat a + Int32.ofNat b = Int32.ofNat (a + b) := (Int32.ofNat_add a b).symm
theorem i32_mul (a b : Nat) : Int32.ofNat a * Int32.ofNat b = Int32.ofNat (a * b) := (Int32.ofNat_mul a b).symm
theorem i32_ti {n : Nat} (h : n < 2147483648) : (Int32.ofNat n).toInt = n := Int32.toInt_ofNat_of_lt h
theorem i32_tn {n : Nat} (h : n < 2147483648) : (Int32.ofNat n).toNatClampNeg = n := by
  show (Int32.ofNat n).toInt.toNat = n
  rw [i32_ti h]
  rfl
theorem ax_ibo {n m : Nat} (h : n < m) (hm : m ≤ 2147483648) : ax_ib (Int32.ofNat n) m := by
  show ¬ (Int32.ofNat n < 0 ∨ m ≤ (Int32.ofNat n).toNatClampNeg)
  rw [i32_tn (by omega)]
  rintro (h1 | h1)
  · have h2 := Int32.lt_iff_toInt_lt.mp h1
    rw [i32_ti (by omega)] at h2
    have : (0 : Int32).toInt = 0 := rfl
    omega
  · omega
theorem i32_le {a b : Nat} (ha : a < 2147483648) (hb : b < 2147483648) : Int32.ofNat a ≤ Int32.ofNat b ↔ a ≤ b := by
  rw [Int32.le_iff_toInt_le, i32_ti ha, i32_ti hb]
  omega
theorem i32_lt {a b : Nat} (ha : a < 2147483648) (hb : b < 2147483648) : Int32.ofNat a < Int32.ofNat b ↔ a < b := by
  rw [Int32.lt_iff_toInt_lt, i32_ti ha, i32_ti hb]
  omega
/-- the row r's what-th part of the array -/
theorem eX7_ofn (I : MI) (r w : Nat) (hr : r < 8) (hw : w < 512) : fX7_of 0 (Int32.ofNat r) (Int32.ofNat w) (MW K I) = some (.inl (some (.int (I 3 (16 + 512 * r + w)))), MW K I) := by
  have e : (16 + (512 * Int32.ofNat r)) + Int32.ofNat w = Int32.ofNat (16 + 512 * r + w) := by
    rw [show (16 : Int32) = Int32.ofNat 16 from rfl, show (512 : Int32) = Int32.ofNat 512 from rfl, i32_mul, i32_add, i32_add]
  rw [fX7_of, mR12, e, mA3 _ _ _ (ax_ibo (by omega) (by omega)), i32_tn (by omega)]
theorem eX7_putsn (I : MI) (r w : Nat) (v : Int32) (hr : r < 8) (hw : w < 512) : fX7_puts 0 (Int32.ofNat r) (Int32.ofNat w) v (MW K I) = some (.inl none, MW K (ax_up2 I 3 (16 + 512 * r + w) v)) := by
  have e : (16 + (512 * Int32.ofNat r)) + Int32.ofNat w = Int32.ofNat (16 + 512 * r + w) := by
    rw [show (16 : Int32) = Int32.ofNat 16 from rfl, show (512 : Int32) = Int32.ofNat 512 from rfl, i32_mul, i32_add, i32_add]
  rw [fX7_puts, mR12, e, mU3 _ _ _ _ (ax_ibo (by omega) (by omega)), i32_tn (by omega)]
/-- sums of ints -/
def sumI (f : Nat → Int32) : Nat → Int32
  | 0 => 0
  | n + 1 => sumI f n + f n
theorem eX7_blocksLong_l (I : MI) (r N : Nat) (hr : r < 8) (hN : N ≤ 6) (hv : I 3 (16 + 512 * r + 0) = Int32.ofNat N) : ∀ (k fuel i : Nat) (acc : Int32), i + k = N → k < fuel →
    fX7_blocksLong_4 fuel 0 (Int32.ofNat r) acc (Int32.ofNat i) (MW K I) = some (.inl (some (.int (acc + (sumI (fun j => I 3 (16 + 512 * r + (5 + j))) N - sumI (fun j => I 3 (16 + 512 * r + (5 + j))) i)))), MW K I)
  | k, 0, _, _, _, h => by omega
  | 0, fuel + 1, i, acc, hi, _ => by
    rw [fX7_blocksLong_4, mV, show (0 : Int32) = Int32.ofNat 0 from rfl, eX7_ofn I r 0 hr (by omega), mC, qI_i, hv, if_pos ((i32_le (by omega) (by omega)).mpr (by omega))]
    rw [show i = N by omega]
    simp
  | k + 1, fuel + 1, i, acc, hi, h => by
    rw [fX7_blocksLong_4, mV, show (0 : Int32) = Int32.ofNat 0 from rfl, eX7_ofn I r 0 hr (by omega), mC, qI_i, hv, if_neg (fun q => by have := (i32_le (by omega) (by omega)).mp q; omega)]
    rw [mV, show (5 : Int32) = Int32.ofNat 5 from rfl, i32_add, eX7_ofn I r (5 + i) hr (by omega), mC, qI_i, lt_e, lt_e, show (1 : Int32) = Int32.ofNat 1 from rfl, i32_add]
    rw [eX7_blocksLong_l I r N hr hN hv k fuel (i + 1) _ (by omega) (by omega)]
    refine congrArg (fun z => some (Sum.inl (some (Value.int z)), MW K I)) ?_
    simp only [sumI]
    generalize sumI (fun j => I 3 (16 + 512 * r + (5 + j))) N = A
    generalize sumI (fun j => I 3 (16 + 512 * r + (5 + j))) i = B
    generalize I 3 (16 + 512 * r + (5 + i)) = D
    grind
theorem eX7_blocksLong (I : MI) (r N : Nat) (hr : r < 8) (hN : N ≤ 6) (hv : I 3 (16 + 512 * r + 0) = Int32.ofNat N) : fX7_blocksLong 0 (Int32.ofNat r) (MW K I) = some (.inl (some (.int (sumI (fun j => I 3 (16 + 512 * r + (5 + j))) N))), MW K I) := by
  rw [fX7_blocksLong, show ((0 : Int32)) = Int32.ofNat 0 from rfl, eX7_blocksLong_l I r N hr hN hv N FU 0 (Int32.ofNat 0) (by omega) (by unfold FU; omega)]
  refine congrArg (fun z => some (Sum.inl (some (Value.int z)), MW K I)) ?_
  show 0 + (_ - 0) = _
  grind
end MPURE
