/-! THE LAW: the two worlds in the heap, as one -/
section ZMG
variable {c c1 : CC} {A A1 : AI} {J J1 : JI} {a1 a2 : Nat → Nat} {Γ : CX} {H : Heap} {locs : List Loc}
theorem ax_flds_sh {ad ad' : Nat → Nat} {σ τ : AS} {k k' : Nat} (h1 : ∀ j, ax_I τ k' j = ax_I σ k j) (h2 : ∀ j, ax_J τ k' j = ax_J σ k j) (h3 : ∀ j, (ax_P τ k' j).map ad' = (ax_P σ k j).map ad) : ∀ (ts : List Nat) (j : Nat), ax_flds ad' τ k' ts j = ax_flds ad σ k ts j
  | [], _ => rfl
  | t :: ts, j => by
    unfold ax_flds
    rw [ax_flds_sh h1 h2 h3 ts (j + 1), h1, h2, h3]
theorem ax_cell_sh {dA : Nat → ClassId} {ad ad' : Nat → Nat} {σ τ : AS} {k k' : Nat} (h0 : ax_H τ k' = ax_H σ k) (h1 : ∀ j, ax_I τ k' j = ax_I σ k j) (h2 : ∀ j, ax_J τ k' j = ax_J σ k j) (h3 : ∀ j, (ax_P τ k' j).map ad' = (ax_P σ k j).map ad) : ax_cell dA ad' τ k' = ax_cell dA ad σ k := by
  have e1 : ax_I τ k' = ax_I σ k := funext h1
  have e2 : ax_J τ k' = ax_J σ k := funext h2
  have e3 : (fun j => (ax_P τ k' j).map ad') = (fun j => (ax_P σ k j).map ad) := funext h3
  unfold ax_cell ax_arr
  rw [h0, e1, e2, e3, ax_flds_sh h1 h2 h3]
/-- what the one world's cells are called -/
def zz_am (Γ : CX) (a1 a2 : Nat → Nat) : Nat → Nat := fun k => if k < 455 then a1 k else if k < 1000000 then a2 (k - 455) else cx_ad Γ k
theorem zz_mg (h : zz_2 Γ a1 a2 (CW c A J) (CW c1 A1 J1) H locs) (hz : c.2.2.1 = 455) (hz1 : c1.2.2.1 ≤ 2000) : ax_Rep (cx_D Γ) (cx_dA Γ) (cx_A Γ) (zz_am Γ a1 a2) (CW (mgC c c1) (mgA A A1) (mgJ J J1)) H ∧ ax_cl (CW (mgC c c1) (mgA A A1) (mgJ J J1)) := by
  have happ := zz_app h
  obtain ⟨h1, h2, h3, h4, h5, h6, h7, h8⟩ := h
  have hzm : ax_z (CW (mgC c c1) (mgA A A1) (mgJ J J1)) = 455 + c1.2.2.1 := rfl
  have hz0 : ax_z (CW c A J) = 455 := hz
  have hzc : ax_z (CW c1 A1 J1) = c1.2.2.1 := rfl
  have b6 : ∀ k, 1000000 ≤ k → zz_am Γ a1 a2 k = cx_ad Γ k := fun k hk => (if_neg (by omega)).trans (if_neg (by omega))
  have hws : ax_ws (cx_dA Γ) (zz_am Γ a1 a2) (CW (mgC c c1) (mgA A A1) (mgJ J J1)) = ax_ws (cx_dA Γ) a1 (CW c A J) ++ ax_ws (cx_dA Γ) a2 (CW c1 A1 J1) := by
    refine List.ext_getElem? fun k => ?_
    by_cases k1 : k < 455
    · rw [ax_ws_get (by omega), List.getElem?_append_left (by rw [zz_len, hz0]; exact k1), ax_ws_get (by omega)]
      refine congrArg some (Prod.ext (if_pos k1) ?_)
      refine ax_cell_sh (if_pos k1) (fun j => congrArg ii (if_pos k1)) (fun j => by show (if k < 455 then _ else _) = _; rw [if_pos k1]; rfl) (fun j => ?_)
      show (if k < 455 then c.1 k j else (c1.1 (k - 455) j).map shP).map _ = (c.1 k j).map a1
      rw [if_pos k1]
      cases e : c.1 k j with
      | none => rfl
      | some q =>
        rcases h7 k j q (by omega) e with y | y
        · exact congrArg some (if_pos (by omega))
        · exact congrArg some ((b6 q y).trans (h1 q y).symm)
    · by_cases k2 : k < 455 + c1.2.2.1
      · rw [ax_ws_get (by omega), List.getElem?_append_right (by rw [zz_len, hz0]; omega), zz_len, hz0, ax_ws_get (by omega)]
        refine congrArg some (Prod.ext ((if_neg k1).trans (if_pos (by omega))) ?_)
        refine ax_cell_sh (if_neg k1) (fun j => congrArg ii (if_neg k1)) (fun j => by show (if k < 455 then _ else _) = _; rw [if_neg k1]; rfl) (fun j => ?_)
        show (if k < 455 then c.1 k j else (c1.1 (k - 455) j).map shP).map _ = (c1.1 (k - 455) j).map a2
        rw [if_neg k1]
        cases e : c1.1 (k - 455) j with
        | none => rfl
        | some q =>
          show some (zz_am Γ a1 a2 (shP q)) = some (a2 q)
          rcases h8 (k - 455) j q (by omega) e with y | y
          · rw [shP, if_pos (by omega)]
            refine congrArg some ((if_neg (by omega)).trans ((if_pos (by omega)).trans ?_))
            rw [Nat.add_sub_cancel]
          · rw [shP, if_neg (by omega)]
            exact congrArg some ((b6 q y).trans (h2 q y).symm)
      · rw [List.getElem?_eq_none (by rw [zz_len]; omega), List.getElem?_eq_none (by rw [List.length_append, zz_len, zz_len]; omega)]
  refine ⟨⟨by rw [hws]; exact happ.1, by rw [hws]; exact happ.2⟩, fun a j q ha hq => ?_⟩
  have hq : (if a < 455 then c.1 a j else (c1.1 (a - 455) j).map shP) = some q := hq
  by_cases k1 : a < 455
  · rw [if_pos k1] at hq
    rcases h7 a j q (by omega) hq with y | y
    · exact Or.inl (by omega)
    · exact Or.inr y
  · rw [if_neg k1] at hq
    cases e : c1.1 (a - 455) j with
    | none => rw [e] at hq; cases hq
    | some q0 =>
      rw [e] at hq
      have hq : some (shP q0) = some q := hq
      have hq := Option.some.inj hq
      unfold shP at hq
      rcases h8 (a - 455) j q0 (by omega) e with y | y
      · rw [if_pos (by omega)] at hq
        exact Or.inl (by omega)
      · rw [if_neg (by omega)] at hq
        exact Or.inr (by omega)
end ZMG
