/-! CHANGES: place, lift -/
theorem i00 : ii 0 = (0 : Int32) := rfl
theorem Bn_s (n : Nat) : Bn n ≤ Bn (n + 1) := by unfold Bn; omega
theorem gapM_at {M M' : AI} {g : Int → Int} {r : Int} (e : M' 0 2 = M 0 2) (e4 : M' 0 4 = M 0 4) (e2 : M' 2 = M 2) : gapM M' g r = gapM M g r := by
  unfold gapM
  rw [e, e4, e2]
section CHS1
variable {c : CC} {A : AI} {J : JI} {S : Nat} {len g : Int → Int} {f : Int} {K : Nat × Nat} {M : AI} {r : Int}
theorem s_adds (hS : isState c S) (h : SR A J S len g f) (hg : GR g) (r its : Int) (hr : 0 ≤ r ∧ r < 8) (hb : cel g r 0 < 6) : ∃ A', fX3_addBlock (rc S r) (ii its) (CW c A J) = some (Sum.inl none, CW c A' J) ∧ SR A' J S len (gAdds g r its) f ∧ frm (inS S) A A' J J := by
  have hR := hS.row r hr
  have hrr := h.2 r hr.1 hr.2
  have hgr := hg r hr.1 hr.2
  have i0 : inR (rc S r) (rc S r) := by unfold inR; omega
  have i1 : inR (rc S r) (rc S r + 1) := by unfold inR; omega
  have n0 := (rc_in hr i0).1
  have n1 := (rc_in hr i1).1
  have ec := fun (r2 w : Int) (a : 0 ≤ r2) (b : 0 ≤ w ∧ w < 512) => cel_gAdds g r its r2 w ⟨⟨⟨hr.1, a⟩, b⟩, hgr.1⟩
  have el := fun (z : Int) (a : z < 16) => lo_gAdds g r its z ⟨⟨hr.1, a⟩, hgr.1.1⟩
  refine ⟨_, c_addBlock hR hrr hgr its hb, SR_upd h hg r hr (RR.adds hrr hgr hr.1 its hb) ⟨?_, fun k a b => ?_⟩ (fun b z p q s _ => ?_) (fun _ _ _ _ => rfl) (fun r2 w a b p d e => by rw [ec r2 w a ⟨d, e⟩, if_neg (by omega), if_neg (by omega)]), frm_up (frm_up (frm_up (frm.refl _ _ _) _ _ _ n1.1) _ _ _ n0.1) _ _ _ n0.1⟩
  · rw [el 0 (by omega), el 1 (by omega), el 2 (by omega), el 3 (by omega), el 4 (by omega)]
    simp (disch := first | assumption | omega) only [up_n]
    exact h.1.1
  · rw [el (6 + k) (by omega)]
    simp (disch := first | assumption | omega) only [up_n]
    exact h.1.2 k a b
  · rw [up_n _ _ _ _ _ _ (fun e => s (by rw [e.1]; exact i0)), up_n _ _ _ _ _ _ (fun e => s (by rw [e.1]; exact i0)), up_n _ _ _ _ _ _ (fun e => s (by rw [e.1]; exact i1))]
theorem s_lift (hS : isState c S) (h : SR A J S len g f) (hg : GR g) (r i : Int) (hr : 0 ≤ r ∧ r < 8) (hi : 0 ≤ i ∧ i < cel g r 0) : ∃ A', fX3_removeBlock (rc S r) (ii i) (CW c A J) = some (Sum.inl (some (Value.int (ii (cel g r (5 + i))))), CW c A' J) ∧ SR A' J S len (gLift g r i) f ∧ frm (inS S) A A' J J := by
  have hR := hS.row r hr
  have hrr := h.2 r hr.1 hr.2
  have hgr := hg r hr.1 hr.2
  have ec := fun (r2 w : Int) (a : 0 ≤ r2) (b : 0 ≤ w ∧ w < 512) => cel_gLift g r i r2 w ⟨⟨⟨hr.1, a⟩, b⟩, hi, hgr.1.2⟩
  have el := fun (z : Int) (a : z < 16) => lo_gLift g r i z ⟨⟨hr.1, a⟩, hi.1⟩
  obtain ⟨A', e1, r1, f1⟩ := c_removeBlock (c := c) hR hrr hgr hr.1 i hi
  have hn2 : ¬ inR (rc S r) (S + 2) := fun z => (rc_in hr z).1.2.2 rfl
  have hn0 : ¬ inR (rc S r) S := fun z => (rc_in hr z).1.2.1 rfl
  refine ⟨A', e1, SR_upd h hg r hr r1 ⟨?_, fun k a b => ?_⟩ (fun b z p q s _ => f1.1 b z s) (fun b j s _ => f1.2 b j s) (fun r2 w a b p d e => by rw [ec r2 w a ⟨d, e⟩, if_neg (by omega), if_neg (by omega)]), f1.mono fun b hb => (rc_in hr hb).1.1⟩
  · rw [el 0 (by omega), el 1 (by omega), el 2 (by omega), el 3 (by omega), el 4 (by omega), f1.1 _ _ hn0, f1.1 _ _ hn0, f1.1 _ _ hn0, f1.1 _ _ hn0, f1.1 _ _ hn0, f1.1 _ _ hn0]
    exact h.1.1
  · rw [el (6 + k) (by omega), f1.1 _ _ hn2]
    exact h.1.2 k a b
theorem gSh_s (g : Int → Int) (r b i k : Int) (h : i ≤ k) : gpu (gSh g r b i k) r (b + k) (cel g r (b + k + 1)) = gSh g r b i (k + 1) := by
  funext z
  unfold gpu gu gSh cel
  by_cases q : z = 16 + 512 * r + (b + k)
  · rw [if_pos q, if_pos (by omega), q, show 16 + 512 * r + (b + k + 1) = 16 + 512 * r + (b + k) + 1 by omega]
  · rw [if_neg q]
    by_cases q2 : 16 + 512 * r + b + i ≤ z ∧ z < 16 + 512 * r + b + k
    · rw [if_pos q2, if_pos (by omega)]
    · rw [if_neg q2, if_neg (by omega)]
theorem gSh_0 (g : Int → Int) (r b i : Int) : gSh g r b i i = g := by
  funext z
  unfold gSh
  rw [if_neg (by omega)]
end CHS1
section CHG1
variable {C0 N0 n : Nat} {K : Nat × Nat} {c : CC} {A : AI} {J : JI} {M : AI} {g g' o : Int → Int} {pl sp tv cap : Nat} {f B : Int}
end CHG1
