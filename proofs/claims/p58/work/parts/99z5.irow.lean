/-! THE START: a row -/
section IRW
variable {c : CC} {A : AI} {J : JI}
/-- the structure after a new row -/
def rowC (c : CC) : CC := ptC (nwC (ptC (nwC (ptC (nwC (nwC c 7 10) 100 6) c.2.2.1 0 (c.2.2.1 + 1)) 102 32) c.2.2.1 3 (c.2.2.1 + 2)) 100 10) c.2.2.1 6 (c.2.2.1 + 3)
theorem rowC_z (c : CC) : (rowC c).2.2.1 = c.2.2.1 + 4 := rfl
theorem rowC_H (c : CC) (a : Nat) : (rowC c).2.1 a = if a = c.2.2.1 + 3 then (100, 10) else if a = c.2.2.1 + 2 then (102, 32) else if a = c.2.2.1 + 1 then (100, 6) else if a = c.2.2.1 then (7, 10) else c.2.1 a := rfl
theorem rowC_P (c : CC) (a j : Nat) : (rowC c).1 a j = ax_up2 (fun a b => if a = c.2.2.1 + 3 then none else ax_up2 (fun a b => if a = c.2.2.1 + 2 then none else ax_up2 (fun a b => if a = c.2.2.1 + 1 then none else if a = c.2.2.1 then none else c.1 a b) c.2.2.1 0 (some (c.2.2.1 + 1)) a b) c.2.2.1 3 (some (c.2.2.1 + 2)) a b) c.2.2.1 6 (some (c.2.2.1 + 3)) a j := rfl
theorem rowC_row (c : CC) : isRow (rowC c) c.2.2.1 := by
  have z := rowC_z c
  refine ⟨⟨⟨by omega, ?_⟩, ⟨by omega, ?_⟩, ⟨by omega, ?_⟩, ⟨by omega, ?_⟩⟩, ?_, ?_, ?_⟩
  · rw [rowC_H, if_neg (by omega), if_neg (by omega), if_neg (by omega), if_pos rfl]
  · rw [rowC_H, if_neg (by omega), if_neg (by omega), if_pos rfl]
  · rw [rowC_H, if_neg (by omega), if_pos rfl]
  · rw [rowC_H, if_pos rfl]
  · show (rowC c).1 _ _ = _
    rw [rowC_P, ax_up2_n _ _ (by omega), if_neg (by omega), ax_up2_n _ _ (by omega), if_neg (by omega), ax_up2_s]
  · show (rowC c).1 _ _ = _
    rw [rowC_P, ax_up2_n _ _ (by omega), if_neg (by omega), ax_up2_s]
  · show (rowC c).1 _ _ = _
    rw [rowC_P, ax_up2_s]
theorem rowC_x (c : CC) : exc c (rowC c) := by
  refine ⟨by rw [rowC_z]; omega, fun a p => ?_, fun a j p => ?_⟩
  · rw [rowC_H, if_neg (by omega), if_neg (by omega), if_neg (by omega), if_neg (by omega)]
  · rw [rowC_P, ax_up2_n _ _ (by omega), if_neg (by omega), ax_up2_n _ _ (by omega), if_neg (by omega), ax_up2_n _ _ (by omega), if_neg (by omega), if_neg (by omega)]
theorem i_row (hz : c.2.2.1 < 900000) : ∃ (A' : AI) (J' : JI), (∀ k : Nat → AS → Option AR, nO (CW c A J) 7 10 (fun q s => cS s (fX3_init q s) (qV (k q))) = k c.2.2.1 (CW (rowC c) A' J')) ∧ (∀ (b : Nat) (z : Int), b < c.2.2.1 → A' b z = A b z) ∧ ∀ (b j : Nat), b < c.2.2.1 → J' b j = J b j := by
  have e1 : (-1 : Int32) = ii (-1) := by decide
  have o1 : okc (nwC (nwC c 7 10) 100 6) c.2.2.1 7 10 := ⟨by show c.2.2.1 < c.2.2.1 + 1 + 1; omega, by show (if c.2.2.1 = c.2.2.1 + 1 then (100, 6) else if c.2.2.1 = c.2.2.1 then (7, 10) else _) = _; rw [if_neg (by omega), if_pos rfl]⟩
  have h0 : ∃ (A' : AI) (J' : JI), fX3_init c.2.2.1 (CW (nwC c 7 10) (nwA c A) (nwJ c J)) = some (Sum.inl none, CW (rowC c) A' J') ∧ (∀ (b : Nat) (z : Int), b < c.2.2.1 → A' b z = A b z) ∧ ∀ (b j : Nat), b < c.2.2.1 → J' b j = J b j := by
    have o2 : okc (nwC (ptC (nwC (nwC c 7 10) 100 6) c.2.2.1 0 (nwC c 7 10).2.2.1) 102 32) c.2.2.1 7 10 := okc_x (c := ptC (nwC (nwC c 7 10) 100 6) c.2.2.1 0 (nwC c 7 10).2.2.1) o1 (exc.new _ _ _)
    have o3 : okc (nwC (ptC (nwC (ptC (nwC (nwC c 7 10) 100 6) c.2.2.1 0 (nwC c 7 10).2.2.1) 102 32) c.2.2.1 3 (ptC (nwC (nwC c 7 10) 100 6) c.2.2.1 0 (nwC c 7 10).2.2.1).2.2.1) 100 10) c.2.2.1 7 10 := okc_x (c := ptC (nwC (ptC (nwC (nwC c 7 10) 100 6) c.2.2.1 0 (nwC c 7 10).2.2.1) 102 32) c.2.2.1 3 (ptC (nwC (nwC c 7 10) 100 6) c.2.2.1 0 (nwC c 7 10).2.2.1).2.2.1) o2 (exc.new _ _ _)
    have z1 : (nwC c 7 10).2.2.1 = c.2.2.1 + 1 := rfl
    have z2 : (ptC (nwC (nwC c 7 10) 100 6) c.2.2.1 0 (nwC c 7 10).2.2.1).2.2.1 = c.2.2.1 + 2 := rfl
    have z3 : (ptC (nwC (ptC (nwC (nwC c 7 10) 100 6) c.2.2.1 0 (nwC c 7 10).2.2.1) 102 32) c.2.2.1 3 (ptC (nwC (nwC c 7 10) 100 6) c.2.2.1 0 (nwC c 7 10).2.2.1).2.2.1).2.2.1 = c.2.2.1 + 3 := rfl
    refine ⟨up (nwA (ptC (nwC (ptC (nwC (nwC c 7 10) 100 6) c.2.2.1 0 (nwC c 7 10).2.2.1) 102 32) c.2.2.1 3 (ptC (nwC (nwC c 7 10) 100 6) c.2.2.1 0 (nwC c 7 10).2.2.1).2.2.1) (nwA (ptC (nwC (nwC c 7 10) 100 6) c.2.2.1 0 (nwC c 7 10).2.2.1) (nwA (nwC c 7 10) (nwA c A)))) c.2.2.1 7 (-1), nwJ (ptC (nwC (ptC (nwC (nwC c 7 10) 100 6) c.2.2.1 0 (nwC c 7 10).2.2.1) 102 32) c.2.2.1 3 (ptC (nwC (nwC c 7 10) 100 6) c.2.2.1 0 (nwC c 7 10).2.2.1).2.2.1) (nwJ (ptC (nwC (nwC c 7 10) 100 6) c.2.2.1 0 (nwC c 7 10).2.2.1) (nwJ (nwC c 7 10) (nwJ c J))), ?_, ?_, ?_⟩
    · rw [fX3_init, e1, k_nA (n := 6) _ (by omega) (by decide), k_sR o1, k_nA (n := 32) _ (by omega) (by decide), k_sR o2, k_nA (n := 10) _ (by omega) (by decide), k_sR o3]
      exact (rwS7 (rowC_row c) (-1) _).trans rfl
    · intro b z p
      rw [up_n _ _ _ _ _ _ (by omega)]
      unfold nwA
      rw [if_neg (by omega), if_neg (by omega), if_neg (by omega), if_neg (by omega)]
    · intro b j p
      unfold nwJ
      rw [if_neg (by omega), if_neg (by omega), if_neg (by omega), if_neg (by omega)]
  obtain ⟨A', J', e, f1, f2⟩ := h0
  refine ⟨A', J', fun k => ?_, f1, f2⟩
  rw [k_nO _ (by omega), e, k_Cl (c := nwC c 7 10) (c' := rowC c) ⟨by show c.2.2.1 + 1 ≤ c.2.2.1 + 4; omega, by show c.2.2.2.1 + 1 ≤ c.2.2.2.1 + 1 + 1 + 1 + 1; omega, by show c.2.2.2.2 + 10 ≤ c.2.2.2.2 + 10 + 6 + 32 + 10; omega⟩, q_V]
end IRW
