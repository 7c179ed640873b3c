/-! THE START: a plan -/
section IPL
variable {c : CC} {A : AI} {J : JI}
/-- the structure after a new plan -/
def planC (c : CC) : CC := ptC (nwC (ptC (nwC (ptC (nwC (nwC c 5 11) 101 10) c.2.2.1 8 (c.2.2.1 + 1)) 100 10) c.2.2.1 9 (c.2.2.1 + 2)) 100 10) c.2.2.1 10 (c.2.2.1 + 3)
theorem planC_z (c : CC) : (planC c).2.2.1 = c.2.2.1 + 4 := rfl
theorem planC_H (c : CC) (a : Nat) : (planC c).2.1 a = if a = c.2.2.1 + 3 then (100, 10) else if a = c.2.2.1 + 2 then (100, 10) else if a = c.2.2.1 + 1 then (101, 10) else if a = c.2.2.1 then (5, 11) else c.2.1 a := rfl
theorem planC_P (c : CC) (a j : Nat) : (planC c).1 a j = ax_up2 (fun a b => if a = c.2.2.1 + 3 then none else ax_up2 (fun a b => if a = c.2.2.1 + 2 then none else ax_up2 (fun a b => if a = c.2.2.1 + 1 then none else if a = c.2.2.1 then none else c.1 a b) c.2.2.1 8 (some (c.2.2.1 + 1)) a b) c.2.2.1 9 (some (c.2.2.1 + 2)) a b) c.2.2.1 10 (some (c.2.2.1 + 3)) a j := rfl
theorem planC_plan (c : CC) : isPlan (planC c) c.2.2.1 := by
  have z := planC_z c
  refine ⟨⟨⟨by omega, ?_⟩, ⟨by omega, ?_⟩, ⟨by omega, ?_⟩, ⟨by omega, ?_⟩⟩, ?_, ?_, ?_⟩
  · rw [planC_H, if_neg (by omega), if_neg (by omega), if_neg (by omega), if_pos rfl]
  · rw [planC_H, if_neg (by omega), if_neg (by omega), if_pos rfl]
  · rw [planC_H, if_neg (by omega), if_pos rfl]
  · rw [planC_H, if_pos rfl]
  · show (planC c).1 _ _ = _
    rw [planC_P, ax_up2_n _ _ (by omega), if_neg (by omega), ax_up2_n _ _ (by omega), if_neg (by omega), ax_up2_s]
  · show (planC c).1 _ _ = _
    rw [planC_P, ax_up2_n _ _ (by omega), if_neg (by omega), ax_up2_s]
  · show (planC c).1 _ _ = _
    rw [planC_P, ax_up2_s]
theorem planC_x (c : CC) : exc c (planC c) := by
  refine ⟨by rw [planC_z]; omega, fun a p => ?_, fun a j p => ?_⟩
  · rw [planC_H, if_neg (by omega), if_neg (by omega), if_neg (by omega), if_neg (by omega)]
  · rw [planC_P, ax_up2_n _ _ (by omega), if_neg (by omega), ax_up2_n _ _ (by omega), if_neg (by omega), ax_up2_n _ _ (by omega), if_neg (by omega), if_neg (by omega)]
end IPL
