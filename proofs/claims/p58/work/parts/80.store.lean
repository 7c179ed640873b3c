/-! THE MODEL'S STORE -/
section STC
variable {M : AI} {g g' : Int → Int} {B : Int}
theorem cel_cg (e : ∀ z, 0 ≤ z → z < 4112 → g' z = g z) (r w : Int) (hr : 0 ≤ r ∧ r < 8) (hw : 0 ≤ w ∧ w < 512) : cel g' r w = cel g r w := e _ (by omega) (by omega)
theorem GC_cg (h : GC M g B) (hM : SA M) (e : ∀ z, 0 ≤ z → z < 4112 → g' z = g z) : GC M g' B := by
  obtain ⟨⟨g1, g2, g3, g4, g5⟩, h2, h3, h4, h5⟩ := h
  have h38 := hM.1.2.1
  have ec := fun r w a b => cel_cg e r w a b
  refine ⟨⟨fun r a b => (g1 r a b).cong fun w c d => ec r w ⟨a, b⟩ ⟨c, d⟩, fun r a b q => ?_, fun r a b => ?_, fun r a b k p q => ?_, fun r a b => ?_⟩, fun k a b => ?_, ?_, fun r a b q => ?_, fun r a b => ?_⟩
  · rw [ec r 2 ⟨a, b⟩ (by omega)] at q
    rw [ec r 3 ⟨a, b⟩ (by omega)]; exact g2 r a b q
  · rw [ec r 0 (by omega) (by omega), ec r 1 (by omega) (by omega), ec r 2 (by omega) (by omega), ec r 3 (by omega) (by omega), ec r 4 (by omega) (by omega)]
    exact g3 r a b
  · have := (g1 r a b).2.1
    rw [ec r 1 ⟨a, b⟩ (by omega)] at q
    rw [ec r _ ⟨a, b⟩ (by omega)]; exact g4 r a b k p q
  · rw [ec r 4 ⟨a, b⟩ (by omega)]; exact g5 r a b
  · rw [e (6 + k) (by omega) (by omega), sm_c (fun r => cnt g' r k) (fun r => cnt g r k) 8 (fun r c d => cnt_cg (g1 r c d) (fun w p s => ec r w ⟨c, d⟩ ⟨p, s⟩) k)]
    exact h2 k a b
  · rw [e 0 (by omega) (by omega), sm_c (fun r => qi g' r) (fun r => qi g r) 8 (fun r c d => by unfold qi; rw [ec r 2 ⟨c, d⟩ (by omega)])]
    exact h3
  · rw [ec r 2 ⟨a, b⟩ (by omega)] at q ⊢
    rw [ec r 3 ⟨a, b⟩ (by omega)]; exact h4 r a b q
  · rw [gapM_cong (g1 r a (by omega)) (fun w c d _ => ec r w ⟨a, by omega⟩ ⟨c, d⟩)]; exact h5 r a b
theorem SR_cg {A : AI} {J : JI} {S : Nat} {len : Int → Int} (h : SR A J S len g (g 5)) (hg : GR g) (e : ∀ z, 0 ≤ z → z < 4112 → g' z = g z) : SR A J S len g' (g' 5) := by
  refine ⟨⟨?_, fun k a b => by rw [e _ (by omega) (by omega)]; exact h.1.2 k a b⟩, fun r a b => RR.frame (h.2 r a b) (hg r a b) (fun _ _ _ => rfl) (fun _ _ _ => rfl) (fun w c d => cel_cg e r w ⟨a, b⟩ ⟨c, d⟩)⟩
  rw [e 0 (by omega) (by omega), e 1 (by omega) (by omega), e 2 (by omega) (by omega), e 3 (by omega) (by omega), e 4 (by omega) (by omega), e 5 (by omega) (by omega)]
  exact h.1.1
end STC
/-- the cell that is put aside is other -/
def cA4 (M : AI) (X : Int → Int) : AI := fun b z => if b = 4 then X z else M b z
/-- only scratch and what is put aside is other -/
def scr4 (M M' : AI) : Prop := (∀ z, z ≠ 36 → M' 0 z = M 0 z) ∧ ∀ (b : Nat) (z : Int), 0 < b → b ≠ 4 → (b < 12 ∨ b = 16) → M' b z = M b z
theorem scr4.c4 {M M' : AI} (h : scr4 M M') : scr (cA4 M (M' 4)) M' := by
  refine ⟨fun z q => h.1 z q, fun b z q p => ?_⟩
  unfold cA4
  by_cases y : b = 4
  · rw [if_pos y, y]
  · rw [if_neg y]; exact h.2 b z q y p
theorem scr.s4 {M M' : AI} (h : scr M M') : scr4 M M' := ⟨h.1, fun b z q _ p => h.2 b z q p⟩
theorem scr4.trans {M M1 M2 : AI} (h : scr4 M M1) (k : scr4 M1 M2) : scr4 M M2 := ⟨fun z q => (k.1 z q).trans (h.1 z q), fun b z q q2 q3 => (k.2 b z q q2 q3).trans (h.2 b z q q2 q3)⟩
theorem scr4_c4 (M : AI) (X : Int → Int) : scr4 M (cA4 M X) := ⟨fun _ _ => rfl, fun _ _ _ q _ => if_neg q⟩
theorem SA_4 {M M' : AI} (h : scr4 M M') (hM : SA M) : SA M' := scr_SA h.c4 (A := cA4 M (M' 4)) hM
section STI
variable {C0 N0 n : Nat} {K : Nat × Nat} {c : CC} {A : AI} {J : JI} {M : AI} {g g' : Int → Int} {pl sp tv cap : Nat}
end STI
