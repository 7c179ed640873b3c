/-! WRITERS OF THE MODEL'S ARRAY: the world with the array's content in its place. -/
def mG (I : MI) (g : Nat → Int32) : MI := fun a b => if a = 3 then g b else I a b
def gU (g : Nat → Int32) (j : Nat) (v : Int32) : Nat → Int32 := fun b => if b = j then v else g b
theorem mG_up (I : MI) (g : Nat → Int32) (j : Nat) (v : Int32) : ax_up2 (mG I g) 3 j v = mG I (gU g j v) := by
  funext a b
  show (if a = 3 ∧ b = j then v else if a = 3 then g b else I a b) = if a = 3 then (if b = j then v else g b) else I a b
  by_cases h : a = 3
  · by_cases h2 : b = j
    · rw [if_pos ⟨h, h2⟩, if_pos h, if_pos h2]
    · rw [if_neg (fun q => h2 q.2), if_pos h, if_pos h, if_neg h2]
  · rw [if_neg (fun q => h q.1), if_neg h, if_neg h]
theorem mG_self (I : MI) : mG I (I 3) = I := by
  funext a b
  show (if a = 3 then I 3 b else I a b) = I a b
  by_cases h : a = 3
  · rw [if_pos h, h]
  · rw [if_neg h]
theorem gU_s (g : Nat → Int32) (j : Nat) (v : Int32) : gU g j v j = v := if_pos rfl
theorem gU_n (g : Nat → Int32) {j b : Nat} (v : Int32) (h : b ≠ j) : gU g j v b = g b := if_neg h
section MWRITE
variable {K : Nat × Nat}
theorem eX7_ofg (I : MI) (g : Nat → Int32) (r w : Nat) (hr : r < 8) (hw : w < 512) : fX7_of 0 (Int32.ofNat r) (Int32.ofNat w) (MW K (mG I g)) = some (.inl (some (.int (g (16 + 512 * r + w)))), MW K (mG I g)) := eX7_ofn (mG I g) r w hr hw
theorem eX7_putsg (I : MI) (g : Nat → Int32) (r w : Nat) (v : Int32) (hr : r < 8) (hw : w < 512) : fX7_puts 0 (Int32.ofNat r) (Int32.ofNat w) v (MW K (mG I g)) = some (.inl none, MW K (mG I (gU g (16 + 512 * r + w) v))) := by
  rw [eX7_putsn (mG I g) r w v hr hw, mG_up]
def gAdds (g : Nat → Int32) (r : Nat) (its : Int32) : Nat → Int32 := gU (gU g (16 + 512 * r + (5 + nB g r)) its) (16 + 512 * r + 0) (Int32.ofNat (nB g r + 1))
theorem eX7_adds (I : MI) (g : Nat → Int32) (r : Nat) (its : Int32) (hr : r < 8) (h : wB g r = Int32.ofNat (nB g r)) (hb : nB g r < 6) : fX7_adds 0 (Int32.ofNat r) its (MW K (mG I g)) = some (.inl none, MW K (mG I (gAdds g r its))) := by
  have e0 : ∀ T : AS, fX7_of 0 (Int32.ofNat r) 0 T = fX7_of 0 (Int32.ofNat r) (Int32.ofNat 0) T := fun T => rfl
  have e1 : ∀ (v : Int32) (T : AS), fX7_puts 0 (Int32.ofNat r) 0 v T = fX7_puts 0 (Int32.ofNat r) (Int32.ofNat 0) v T := fun v T => rfl
  rw [fX7_adds, mV, e0, eX7_ofg I g r 0 hr (by omega), mC, qI_i, show g (16 + 512 * r + 0) = Int32.ofNat (nB g r) from h, mV, show (5 : Int32) = Int32.ofNat 5 from rfl, i32_add, eX7_putsg I g r (5 + nB g r) its hr (by omega), mC, qV_n, mV, e0, eX7_ofg I _ r 0 hr (by omega), mC, qI_i, gU_n _ _ (by omega), show g (16 + 512 * r + 0) = Int32.ofNat (nB g r) from h, mV, show (1 : Int32) = Int32.ofNat 1 from rfl, i32_add, e1, eX7_putsg I _ r 0 _ hr (by omega), mC, qV_n]
  rfl
end MWRITE
section MWRITE2
variable {K : Nat × Nat}
def gPiece (g : Nat → Int32) (r d : Nat) : Nat → Int32 := gU (gU (gU g (16 + 512 * r + (11 + nP g r)) (Int32.ofNat d)) (16 + 512 * r + 1) (Int32.ofNat (nP g r + 1))) (6 + d) (g (6 + d) - 1)
theorem eX7_putsPiece (I : MI) (g : Nat → Int32) (r d : Nat) (hr : r < 8) (hd : d < 10) (h : wP g r = Int32.ofNat (nP g r)) (hb : nP g r < 500) : fX7_putsPiece 0 (Int32.ofNat r) (Int32.ofNat d) (MW K (mG I g)) = some (.inl none, MW K (mG I (gPiece g r d))) := by
  have e0 : ∀ T : AS, fX7_of 0 (Int32.ofNat r) 1 T = fX7_of 0 (Int32.ofNat r) (Int32.ofNat 1) T := fun T => rfl
  have e1 : ∀ (v : Int32) (T : AS), fX7_puts 0 (Int32.ofNat r) 1 v T = fX7_puts 0 (Int32.ofNat r) (Int32.ofNat 1) v T := fun v T => rfl
  have e6 : (6 : Int32) + Int32.ofNat d = Int32.ofNat (6 + d) := by rw [show (6 : Int32) = Int32.ofNat 6 from rfl, i32_add]
  have e11 : (11 : Int32) + Int32.ofNat (nP g r) = Int32.ofNat (11 + nP g r) := by rw [show (11 : Int32) = Int32.ofNat 11 from rfl, i32_add]
  have es : Int32.ofNat (nP g r) + 1 = Int32.ofNat (nP g r + 1) := by rw [show (1 : Int32) = Int32.ofNat 1 from rfl, i32_add]
  rw [fX7_putsPiece, mV, e0, eX7_ofg I g r 1 hr (by omega), mC, qI_i, show g (16 + 512 * r + 1) = Int32.ofNat (nP g r) from h, mV, e11, eX7_putsg I g r (11 + nP g r) _ hr (by omega), mC, qV_n, mV, e0, eX7_ofg I _ r 1 hr (by omega), mC, qI_i, gU_n _ _ (by omega), show g (16 + 512 * r + 1) = Int32.ofNat (nP g r) from h, mV, es, e1, eX7_putsg I _ r 1 _ hr (by omega), mC, qV_n, mR12, e6, mA3 _ _ _ (ax_ibo (by omega) (by omega)), mU3 _ _ _ _ (ax_ibo (by omega) (by omega)), i32_tn (by omega), mG_up]
  unfold gPiece
  refine congrArg (fun z => some (Sum.inl none, MW K (mG I z))) ?_
  show gU _ _ (gU (gU g _ _) _ _ (6 + d) - 1) = _
  rw [gU_n _ _ (by omega), gU_n _ _ (by omega)]
end MWRITE2
section MWRITE3
variable {K : Nat × Nat}
def gNoQuoin (g : Nat → Int32) (r : Nat) : Nat → Int32 := if wO g r = -1 then g else gU (gU (gU g (16 + 512 * r + 2) (-1)) (16 + 512 * r + 3) 0) 0 (g 0 + 1)
theorem eX7_takesQuoin (I : MI) (g : Nat → Int32) (r : Nat) (hr : r < 8) : fX7_takesQuoin 0 (Int32.ofNat r) (MW K (mG I g)) = some (.inl none, MW K (mG I (gNoQuoin g r))) := by
  have e2 : ∀ (v : Int32) (T : AS), fX7_puts 0 (Int32.ofNat r) 2 v T = fX7_puts 0 (Int32.ofNat r) (Int32.ofNat 2) v T := fun v T => rfl
  have e3 : ∀ (v : Int32) (T : AS), fX7_puts 0 (Int32.ofNat r) 3 v T = fX7_puts 0 (Int32.ofNat r) (Int32.ofNat 3) v T := fun v T => rfl
  have h0 : ax_ib 0 4112 := ax_ibo (n := 0) (by omega) (by omega)
  rw [fX7_takesQuoin, mV, eX7_hasQuoin _ r hr, mC, qI_i]
  unfold gNoQuoin
  by_cases h : wO g r = -1
  · rw [if_pos (show wO (mG I g 3) r = -1 from h), if_pos rfl, if_pos h]
  · rw [if_neg (show ¬ wO (mG I g 3) r = -1 from h), if_neg (by decide), if_neg h, mV, e2, eX7_putsg I g r 2 _ hr (by omega), mC, qV_n, mV, e3, eX7_putsg I _ r 3 _ hr (by omega), mC, qV_n, mR12, mA3 _ 0 _ h0, mU3 _ 0 _ _ h0, show (0 : Int32).toNatClampNeg = 0 from rfl, mG_up]
    refine congrArg (fun z => some (Sum.inl none, MW K (mG I z))) ?_
    have em : ∀ h : Nat → Int32, mG I h 3 0 = h 0 := fun _ => rfl
    rw [em, gU_n (gU g (16 + 512 * r + 2) (-1)) 0 (by omega), gU_n g (-1) (by omega)]
end MWRITE3
