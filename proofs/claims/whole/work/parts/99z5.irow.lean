/-! THE START: a row -/
section IRW
variable {c : CC} {A : AI} {J : JI}
/-- the structure after a new row -/
def rowC (c : CC) : CC := ptC (nwC (ptC (nwC (ptC (nwC (nwC c 7 10) 100 6) c.2.2.1 0 (c.2.2.1 + 1)) 102 32) c.2.2.1 3 (c.2.2.1 + 2)) 100 10) c.2.2.1 6 (c.2.2.1 + 3)
theorem rowC_z (c : CC) : (rowC c).2.2.1 = c.2.2.1 + 4 := rfl
theorem rowC_H (c : CC) (a : Nat) : (rowC c).2.1 a = if a = c.2.2.1 + 3 then (100, 10) else if a = c.2.2.1 + 2 then (102, 32) else if a = c.2.2.1 + 1 then (100, 6) else if a = c.2.2.1 then (7, 10) else c.2.1 a := rfl
theorem rowC_P (c : CC) (a j : Nat) : (rowC c).1 a j = ax_up2 (fun a b => if a = c.2.2.1 + 3 then none else ax_up2 (fun a b => if a = c.2.2.1 + 2 then none else ax_up2 (fun a b => if a = c.2.2.1 + 1 then none else if a = c.2.2.1 then none else c.1 a b) c.2.2.1 0 (some (c.2.2.1 + 1)) a b) c.2.2.1 3 (some (c.2.2.1 + 2)) a b) c.2.2.1 6 (some (c.2.2.1 + 3)) a j := rfl
theorem rowC_row (c : CC) : isRow (rowC c) c.2.2.1 := by
  have z := rowC_z c
  refine ⟨⟨⟨by omega, ?_⟩, ⟨by omega, ?_⟩, ⟨by omega, ?_⟩, ⟨by omega, ?_⟩⟩, ?_, ?_, ?_⟩
  · rw [rowC_H, if_neg (by omega), if_neg (by omega), if_neg (by omega), if_pos rfl]
  · rw [rowC_H, if_neg (by omega), if_neg (by omega), if_pos rfl]
  · rw [rowC_H, if_neg (by omega), if_pos rfl]
  · rw [rowC_H, if_pos rfl]
  · show (rowC c).1 _ _ = _
    rw [rowC_P, ax_up2_n _ _ (by omega), if_neg (by omega), ax_up2_n _ _ (by omega), if_neg (by omega), ax_up2_s]
  · show (rowC c).1 _ _ = _
    rw [rowC_P, ax_up2_n _ _ (by omega), if_neg (by omega), ax_up2_s]
  · show (rowC c).1 _ _ = _
    rw [rowC_P, ax_up2_s]
theorem rowC_x (c : CC) : exc c (rowC c) := by
  refine ⟨by rw [rowC_z]; omega, fun a p => ?_, fun a j p => ?_⟩
  · rw [rowC_H, if_neg (by omega), if_neg (by omega), if_neg (by omega), if_neg (by omega)]
  · rw [rowC_P, ax_up2_n _ _ (by omega), if_neg (by omega), ax_up2_n _ _ (by omega), if_neg (by omega), ax_up2_n _ _ (by omega), if_neg (by omega), if_neg (by omega)]
end IRW
