/-! LOAD: the text is taken over -/
def swp (c : CC) (pl sp : Nat) : CC := (ax_up2 (ax_up2 c.1 0 8 (some sp)) 0 9 (some pl), c.2)
section LDS
variable {C0 N0 n : Nat} {K : Nat × Nat} {c : CC} {A A' : AI} {J J' : JI} {M M' N1 N2 : AI} {g g' g2 : Int → Int} {pl sp tv cap a j q R S Q V Y : Nat}
theorem ptr_sw (h : ptr c a j q) (ha : a ≠ 0 ∨ j < 8) : ptr (swp c pl sp) a j q := by
  show ax_up2 (ax_up2 c.1 0 8 (some sp)) 0 9 (some pl) a j = some q
  unfold ax_up2
  rw [if_neg (by omega), if_neg (by omega)]
  exact h
theorem isRow.sw (h : isRow c R) (hR : R ≠ 0) : isRow (swp c pl sp) R := ⟨h.1, ptr_sw h.2.1 (Or.inl hR), ptr_sw h.2.2.1 (Or.inl hR), ptr_sw h.2.2.2 (Or.inl hR)⟩
theorem isPlan.sw (h : isPlan c Q) (hR : Q ≠ 0) : isPlan (swp c pl sp) Q := ⟨h.1, ptr_sw h.2.1 (Or.inl hR), ptr_sw h.2.2.1 (Or.inl hR), ptr_sw h.2.2.2 (Or.inl hR)⟩
theorem isState.sw (h : isState c S) (hR : S ≠ 0) : isState (swp c pl sp) S := ⟨h.1, ⟨ptr_sw h.2.1.1 (Or.inl hR), ptr_sw h.2.1.2 (Or.inl hR)⟩, fun r a b => ⟨ptr_sw (h.2.2 r a b).1 (Or.inl (by omega)), (h.2.2 r a b).2.sw (by unfold rc; omega)⟩⟩
theorem isReader.sw (h : isReader c R) (hR : R ≠ 0) : isReader (swp c pl sp) R := ⟨h.1, ptr_sw h.2.1 (Or.inl hR), ptr_sw h.2.2 (Or.inl hR)⟩
theorem isSolver.sw (h : isSolver c V) (hR : V ≠ 0) : isSolver (swp c pl sp) V := ⟨h.1, ⟨ptr_sw h.2.1.1 (Or.inl hR), ptr_sw h.2.1.2.1 (Or.inl hR), ptr_sw h.2.1.2.2.1 (Or.inl hR), ptr_sw h.2.1.2.2.2.1 (Or.inl hR), ptr_sw h.2.1.2.2.2.2 (Or.inl hR)⟩, fun p a b => ⟨ptr_sw (h.2.2 p a b).1 (Or.inl (by omega)), (h.2.2 p a b).2⟩⟩
theorem isHist.sw (h : isHist c Y) (hR : Y ≠ 0) : isHist (swp c pl sp) Y := ⟨h.1, ptr_sw h.2.1 (Or.inl hR), fun i a b => ⟨ptr_sw (h.2.2 i a b).1 (Or.inl (by omega)), (h.2.2 i a b).2.sw (by unfold hs; omega)⟩⟩
theorem isLock.sw (h : isLock c pl sp tv cap) : isLock (swp c pl sp) sp pl tv cap := by
  obtain ⟨⟨a, a0, a1, a2, a3, a4, a5, a6, a7, a8, a9⟩, ⟨b1, b2, b3, b4, b5, b6, b7⟩, ⟨d1, d2, d3, d4⟩, ⟨f1, f2, f3⟩, ⟨g1, g2, g3, g4⟩, h1⟩ := h
  refine ⟨⟨a, ptr_sw a0 (by omega), ptr_sw a1 (by omega), ptr_sw a2 (by omega), ptr_sw a3 (by omega), ptr_sw a4 (by omega), ptr_sw a5 (by omega), ptr_sw a6 (by omega), ptr_sw a7 (by omega), ?_, ?_⟩, ⟨b1.sw (by omega), b2.sw (by omega), b3.sw (by omega), b4.sw (by omega), b5.sw (by omega), b6.sw (by omega), b7.sw (by omega)⟩, ⟨d1, ptr_sw d2 (by omega), ptr_sw d3 (by omega), d4⟩, ⟨by omega, f3.sw (by omega), f2.sw (by omega)⟩, ⟨g1, ptr_sw g2 (by omega), g3, g4⟩, h1⟩
  · show ax_up2 (ax_up2 c.1 0 8 (some sp)) 0 9 (some pl) 0 8 = some sp
    unfold ax_up2
    rw [if_neg (by omega), if_pos ⟨rfl, rfl⟩]
  · show ax_up2 (ax_up2 c.1 0 8 (some sp)) 0 9 (some pl) 0 9 = some pl
    unfold ax_up2
    rw [if_pos ⟨rfl, rfl⟩]
/-- the class takes it over -/
theorem c_take (hk : isLock c pl sp tv cap) {len : Int → Int} (hS : SR A J 338 len g 0) (hg : GR g) : ∃ (A' : AI) (J' : JI), fX6_takeOverText 0 (CW c A J) = some (Sum.inl none, CW (swp c pl sp) A' J') ∧ SR A' J' 303 len g 0 ∧ (A' 0 10 = 1 ∧ A' 21 2 = 0 ∧ A' 374 0 = 0 ∧ A' 374 1 = 0) ∧ (∀ (b : Nat) (z : Int), ¬ inS 303 b → ¬ (b = 0 ∧ z = 10) → ¬ (b = 21 ∧ z = 2) → ¬ (b = 374 ∧ 0 ≤ z ∧ z < 2) → A' b z = A b z) ∧ ∀ (b i : Nat), ¬ inS 303 b → J' b i = J b i := by
  have hk2 := hk.sw
  have hap := hk.2.2.2.1.1
  obtain ⟨A2, J2, e2, s2, f2⟩ := s_copy (c := swp c pl sp) (A := A) (J := J) (S := 303) (S2 := 338) hk2.2.1.2.2.2.1 hk2.2.1.2.2.2.2.1 (Or.inl (by omega)) hS hg
  have r8 : ∀ k : AS → Option AR, sR (CW c A J) 0 10 8 sp k = k (CW (ax_up2 c.1 0 8 (some sp), c.2) A J) := fun k => (if_pos ⟨hk.1.1.1, by rw [show ax_H (CW c A J) 0 = c.2.1 0 from rfl, hk.1.1.2]⟩).trans rfl
  have r9 : ∀ k : AS → Option AR, sR (CW (ax_up2 c.1 0 8 (some sp), c.2) A J) 0 10 9 pl k = k (CW (swp c pl sp) A J) := fun k => (if_pos ⟨hk.1.1.1, by rw [show ax_H (CW (ax_up2 c.1 0 8 (some sp), c.2) A J) 0 = c.2.1 0 from rfl, hk.1.1.2]⟩).trans rfl
  have hz : ∀ (T : AI) (k : AS → Option AR), sZ (CW (swp c pl sp) T J2) 0 10 10 (ii 1) k = k (CW (swp c pl sp) (up T 0 10 1) J2) := fun T k => (if_pos ⟨⟨hk2.1.1.1, by rw [show ax_H (CW (swp c pl sp) T J2) 0 = (swp c pl sp).2.1 0 from rfl, hk2.1.1.2]⟩, Or.inr rfl⟩).trans (by rw [show ax_setI (CW (swp c pl sp) T J2) 0 10 (ii 1) = CW (swp c pl sp) (up T 0 10 1) J2 from cUp 0 10 1 (by omega)])
  have o374 : okc (swp c pl sp) 374 101 2 := hk2.2.2.1.2.2.2
  have u1 : ∀ (T : AI) (z : Int) (k : AS → Option AR), 0 ≤ z → z < 2 → uN 101 .boolean (CW (swp c pl sp) T J2) 374 (ii z) (ii 0) k = k (CW (swp c pl sp) (up T 374 z 0) J2) := fun T z k a b => k_uZ o374 z 0 (by omega) (by omega) k
  have hcl : fX0_clear 21 (CW (swp c pl sp) A2 J2) = some (Sum.inl none, CW (swp c pl sp) (up A2 21 2 0) J2) := by
    rw [fX0_clear, il0, hiS2 hk2.2.1.2.2.1]
  obtain ⟨w, hw, hw2⟩ := FU_1
  obtain ⟨w', hw'⟩ : ∃ w', w = w' + 1 + 1 := ⟨w - 2, by omega⟩
  have hlp : ∀ m : Nat, fX6_takeOverText_38 (m + 1 + 1 + 1) 0 (ii 0) (CW (swp c pl sp) (up A2 21 2 0) J2) = some (Sum.inl none, CW (swp c pl sp) (up (up (up (up A2 21 2 0) 374 0 0) 374 1 0) 0 10 1) J2) := fun m => by
    rw [fX6_takeOverText_38, il0, il1, il2, if_neg (by decide), lkR6 hk2, u1 _ 0 _ (by omega) (by omega), lt_q, ii_add, fX6_takeOverText_38, il0, il1, il2, if_neg (by decide), lkR6 hk2, u1 _ (0 + 1) _ (by omega) (by omega), lt_q, ii_add, fX6_takeOverText_38, il2, if_pos (by decide), fX6_takeOverText_56, il1, hz]
    rfl
  refine ⟨up (up (up (up A2 21 2 0) 374 0 0) 374 1 0) 0 10 1, J2, ?_, ?_, ⟨up_s _ _ _ _, ?_, ?_, ?_⟩, fun b z p q r s => ?_, fun b i p => f2.2 b i p⟩
  · rw [fX6_takeOverText, lkR8 hk, lkR9 hk, r8, r9, lkR3 hk2, lkR4 hk2, stV hk2.2.1.2.2.2.1, e2, k_C, q_V, lkR2 hk2, hiV hk2.2.1.2.2.1, hcl, k_C, q_V, il0, hw, hw', hlp w']
  · exact SR_frame s2 hg (fun b z hb => by
      unfold inS at hb
      rw [up_n _ _ _ _ _ _ (by omega), up_n _ _ _ _ _ _ (by omega), up_n _ _ _ _ _ _ (by omega), up_n _ _ _ _ _ _ (by omega)]) (fun _ _ _ => rfl)
  · rw [up_n _ _ _ _ _ _ (by omega), up_n _ _ _ _ _ _ (by omega), up_n _ _ _ _ _ _ (by omega), up_s]
  · rw [up_n _ _ _ _ _ _ (by omega), up_n _ _ _ _ _ _ (by omega), up_s]
  · rw [up_n _ _ _ _ _ _ (by omega), up_s]
  · rw [up_n _ _ _ _ _ _ q, up_n _ _ _ _ _ _ (by omega), up_n _ _ _ _ _ _ (by omega), up_n _ _ _ _ _ _ r]
    exact f2.1 b z p
end LDS
