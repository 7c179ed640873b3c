/-! LOAD: what it leaves -/
section LDG
variable {C0 N0 n : Nat} {K : Nat × Nat} {c c' : CC} {A A' : AI} {J : JI} {M M' : AI} {g g' : Int → Int} {pl sp tv cap : Nat}
/-- the reader, its text and the spare ones alone are other -/
theorem Inv.rdG (h : Inv C0 N0 n pl sp tv cap c A J M g) (hc : c'.1 = c.1 ∧ c'.2.1 = c.2.1 ∧ c'.2.2.1 = c.2.2.1) (hc2 : c'.2.2.2.1 ≤ C0 + (n + 1) + cap ∧ c'.2.2.2.2 ≤ N0 + 6 * (n + 1) + 2 * cap) (hA : ∀ (b : Nat) (z : Int), (b = 0 ∨ 4 ≤ b) → (b < sp ∨ sp + 4 ≤ b) → ¬ inS 338 b → A' b z = A b z) (hRI : RI A' M') (m0 : ∀ z, z = 1 ∨ (2 ≤ z ∧ z ≤ 9) ∨ z = 15 ∨ z = 37 ∨ z = 40 → M' 0 z = M 0 z) (mb : ∀ b : Nat, b = 1 ∨ b = 2 ∨ b = 5 ∨ b = 6 ∨ b = 16 → M' b = M b) : Inv C0 N0 (n + 1) pl sp tv cap c' A' J M' g := by
  obtain ⟨h1, h2', h3', h4', -, ⟨t1, t2, t3⟩, h7, h8, ⟨p1, p2, p3⟩, ⟨k1, k2, k3⟩⟩ := h
  have hB : Bn n ≤ Bn (n + 1) := by unfold Bn; omega
  have hk' : isLock c' pl sp tv cap := by
    obtain ⟨c1, c2, c3, c4⟩ := c
    obtain ⟨d1, d2, d3, d4⟩ := c'
    obtain ⟨x1, x2, x3⟩ := hc
    dsimp only at x1 x2 x3
    subst x1; subst x2; subst x3
    exact h1
  have hap := h1.2.2.2.1.1
  have htv := h1.2.2.2.2.1.2.2.2
  have e1 : M' 1 = M 1 := mb 1 (Or.inl rfl)
  have e2 : M' 2 = M 2 := mb 2 (Or.inr (Or.inl rfl))
  have e5' : M' 5 = M 5 := mb 5 (Or.inr (Or.inr (Or.inl rfl)))
  have e6 : M' 6 = M 6 := mb 6 (Or.inr (Or.inr (Or.inr (Or.inl rfl))))
  have e16 : M' 16 = M 16 := mb 16 (Or.inr (Or.inr (Or.inr (Or.inr rfl))))
  have e5 : ∀ i, pastg M' i = pastg M i := fun i => funext fun z => by unfold pastg; rw [e5']
  have e0 : ∀ z, 2 ≤ z → z ≤ 9 → M' 0 z = M 0 z := fun z a b => m0 z (Or.inr (Or.inl ⟨a, b⟩))
  have n338 : ∀ b : Nat, (b < 338 ∨ 373 ≤ b) → ¬ inS 338 b := fun b hb x => by unfold inS at x; omega
  have fA : ∀ (b : Nat) (z : Int), (b = 0 ∨ 4 ≤ b) → (b < sp ∨ sp + 4 ≤ b) → (b < 338 ∨ 373 ≤ b) → A' b z = A b z := fun b z x y w => hA b z x y (n338 b w)
  have fS : ∀ S : Nat, (S + 35 ≤ 338 ∧ 21 ≤ S ∨ 385 ≤ S) → ∀ {g : Int → Int} {f : Int}, GR g → SR A J S (M 2) g f → SR A' J S (M' 2) g f := fun S hS g f hg hs => by
    rw [e2]
    exact SR_frame hs hg (fun b z hb => fA b z (by unfold inS at hb; omega) (by unfold inS at hb; omega) (by unfold inS at hb; omega)) (fun _ _ _ => rfl)
  have fG : ∀ {g : Int → Int}, GC M g (Bn n) → GC M' g (Bn (n + 1)) := fun hg => (hg.at e0 e2).mono hB
  refine ⟨hk', ⟨by rw [hc.2.2]; exact h2'.1, hc2⟩, ?_, ?_, hRI, ⟨?_, ?_, fun k a b => ?_⟩, fun hl => ?_, fun hl => ?_, ⟨?_, ?_, fun i a b => ?_⟩, ⟨fun j a b => ?_, fun hl => ?_, fun hl => ?_⟩⟩
  · rw [fA 0 10 (by omega) (by omega) (by omega), m0 1 (Or.inl rfl)]; exact h3'
  · rw [m0 37 (by omega)]; exact h4'
  · rw [fA 375 3 (by omega) (by omega) (by omega), fA 375 1 (by omega) (by omega) (by omega), m0 40 (by omega)]; exact t1
  · rw [m0 40 (by omega)]; exact t2
  · rw [fA tv k (by omega) (by omega) (by omega), m0 40 (by omega), e16]; exact t3 k a b
  · rw [m0 1 (Or.inl rfl)] at hl
    obtain ⟨l1, l2, l3, l4⟩ := h7 hl
    exact ⟨l1.at e0 e1 e2, (PR_frm l2 (fun b z hb => fA b z (by omega) (by omega) (by omega))).at e0 e1 e2, fS 303 (by omega) l4.1.1 l3, fG l4⟩
  · rw [m0 1 (Or.inl rfl)] at hl
    rw [m0 15 (by omega), e6, e1, e2]; exact h8 hl
  · rw [fA 21 2 (by omega) (by omega) (by omega), m0 15 (by omega)]; exact p1
  · rw [fA 21 1 (by omega) (by omega) (by omega)]; exact p2
  · rw [m0 15 (by omega)] at b
    obtain ⟨q1, q2⟩ := p3 i a b
    rw [fA 21 1 (by omega) (by omega) (by omega), m0 15 (by omega), e5]
    exact ⟨fS _ (by unfold hs; omega) q2.1.1 q1, fG q2⟩
  · rw [fA 374 j (by omega) (by omega) (by omega), e6]; exact k1 j a b
  · rw [e6] at hl
    rw [e5]
    exact ⟨fS 385 (by omega) (k2 hl).2.1.1 (k2 hl).1, fG (k2 hl).2⟩
  · rw [e6] at hl
    rw [e5]
    exact ⟨fS 420 (by omega) (k3 hl).2.1.1 (k3 hl).1, fG (k3 hl).2⟩
theorem Inv.rd (h : Inv C0 N0 n pl sp tv cap c A J M g) (hc : c'.1 = c.1 ∧ c'.2.1 = c.2.1 ∧ c'.2.2.1 = c.2.2.1) (hc2 : c'.2.2.2.1 ≤ C0 + (n + 1) + cap ∧ c'.2.2.2.2 ≤ N0 + 6 * (n + 1) + 2 * cap) (hA : ∀ (b : Nat) (z : Int), b ≠ 1 → b ≠ 1 + 2 → (b < sp ∨ sp + 4 ≤ b) → ¬ inS 338 b → A' b z = A b z) (h2 : A' 1 2 = 0 ∧ M' 0 18 = 0) (h3 : A' 1 3 = M' 0 19) (h4 : A' 1 4 = M' 0 20) (m0 : ∀ z, z = 1 ∨ (2 ≤ z ∧ z ≤ 9) ∨ z = 15 ∨ z = 37 ∨ z = 40 → M' 0 z = M 0 z) (mb : ∀ b : Nat, b = 1 ∨ b = 2 ∨ b = 5 ∨ b = 6 ∨ b = 16 → M' b = M b) : Inv C0 N0 (n + 1) pl sp tv cap c' A' J M' g :=
  h.rdG hc hc2 (fun b z x y w => hA b z (by omega) (by omega) y w) ⟨⟨by rw [h2.1, h2.2], by omega, by omega⟩, fun k a b => by rw [h2.2] at b; omega, h3, h4⟩ m0 mb
theorem Inv.mbd (hI : Inv C0 N0 n pl sp tv cap c A J M g) : ∀ k, 0 ≤ k → k < 10 → (0 ≤ M 1 k ∧ M 1 k ≤ 1) ∧ 0 ≤ M 2 k ∧ M 2 k ≤ 99 := by
  have h3 := hI.2.2.1
  by_cases q : M 0 1 = 1
  · have l1 := (hI.2.2.2.2.2.2.1 q).1
    exact fun k a b => ⟨l1.2.1 k a b, l1.2.2.1 k a b⟩
  · exact (hI.2.2.2.2.2.2.2.1 (by omega)).2.2.2
end LDG
