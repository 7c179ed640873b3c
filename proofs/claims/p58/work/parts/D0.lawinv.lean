/-! THE LAW'S STATE: the class's invariant beside the law's cells -/
theorem isLock.x {c c' : CC} {pl sp tv cap : Nat} (h : isLock c pl sp tv cap) (e : exc c c') : isLock c' pl sp tv cap := by
  obtain ⟨⟨a, a0, a1, a2, a3, a4, a5, a6, a7, a8, a9⟩, ⟨b1, b2, b3, b4, b5, b6, b7⟩, ⟨d1, d2, d3, d4⟩, ⟨f1, f2, f3⟩, ⟨g1, g2, g3, g4⟩, h1⟩ := h
  exact ⟨⟨okc_x a e, ptr_x a a0 e, ptr_x a a1 e, ptr_x a a2 e, ptr_x a a3 e, ptr_x a a4 e, ptr_x a a5 e, ptr_x a a6 e, ptr_x a a7 e, ptr_x a a8 e, ptr_x a a9 e⟩, ⟨b1.x e, b2.x e, b3.x e, b4.x e, b5.x e, b6.x e, b7.x e⟩, ⟨okc_x d1 e, ptr_x d1 d2 e, ptr_x d1 d3 e, okc_x d4 e⟩, ⟨f1, f2.x e, f3.x e⟩, ⟨okc_x g1 e, ptr_x g1 g2 e, okc_x g3 e, g4⟩, h1⟩
theorem Inv.law {C0 N0 n : Nat} {pl sp tv cap : Nat} {c c' : CC} {A A' : AI} {J J' : JI} {M : AI} {g : Int → Int} (h : Inv C0 N0 n pl sp tv cap c A J M g) (ex : exc c c') (hz : c'.2.2.1 ≤ zB + cap) (hc2 : c'.2.2.2.1 ≤ C0 + n + cap ∧ c'.2.2.2.2 ≤ N0 + 6 * n + 2 * cap) (hf1 : ∀ (b : Nat) (z : Int), b < 455 → ¬ scC b → A' b z = A b z) (hf2 : ∀ b j : Nat, b < 455 → ¬ scC b → J' b j = J b j) (hft : ∀ z : Int, A' tv z = A tv z) : Inv C0 N0 n pl sp tv cap c' A' J' M g := by
  obtain ⟨h1, h2, h3, h4, ⟨r1, r2, r3, r4⟩, ⟨t1, t2, t3⟩, h7, h8, ⟨p1, p2, p3⟩, ⟨k1, k2, k3⟩⟩ := h
  have m1 : ∀ z : Int, z ≠ 36 → z ≠ 0 → M 0 z = M 0 z := fun _ _ _ => rfl
  have m2 : ∀ (b : Nat) (z : Int), 0 < b → (b < 12 ∨ b = 16) → M b z = M b z := fun _ _ _ _ => rfl
  have hB : Bn n ≤ Bn n := by exact Int.le_refl _
  have hk' : isLock c' pl sp tv cap := h1.x ex
  have e1 : M 1 = M 1 := funext fun z => m2 1 z (by omega) (by omega)
  have e2 : M 2 = M 2 := funext fun z => m2 2 z (by omega) (by omega)
  have e5 : ∀ i, pastg M i = pastg M i := fun i => funext fun z => m2 5 _ (by omega) (by omega)
  have nsc : ∀ b : Nat, (b < 4 ∨ 21 ≤ b) → (b < 338 ∨ 373 ≤ b) → ¬ scC b := fun b x y q => by
    rcases q with q | q
    · unfold inV at q; omega
    · unfold inS at q; omega
  have fS : ∀ S : Nat, (S + 35 ≤ 338 ∧ 21 ≤ S ∨ 373 ≤ S ∧ S + 35 ≤ 455) → ∀ {g : Int → Int} {f : Int}, GR g → SR A J S (M 2) g f → SR A' J' S (M 2) g f := fun S hS g f hg hs => by
    exact SR_frame hs hg (fun b z hb => hf1 b z (by unfold inS at hb; omega) (nsc b (by unfold inS at hb; omega) (by unfold inS at hb; omega))) (fun b z hb => hf2 b z (by unfold inS at hb; omega) (nsc b (by unfold inS at hb; omega) (by unfold inS at hb; omega)))
  have fA : ∀ (b : Nat) (z : Int), (b < 4 ∨ 21 ≤ b) → (b < 338 ∨ 373 ≤ b) → b < 455 → (0 : Nat) ≤ 1 → A' b z = A b z := fun b z x y w v => hf1 b z w (nsc b x y)
  have hpl : pl = 377 ∨ pl = 381 := by have := h1.2.2.2.1.1; omega
  refine ⟨hk', ⟨hz, hc2⟩, ?_, ?_, ⟨?_, fun k a b => ?_, ?_, ?_⟩, ⟨?_, ?_, fun k a b => ?_⟩, fun hl => ?_, fun hl => ?_, ⟨?_, ?_, fun i a b => ?_⟩, ⟨fun j a b => ?_, fun hl => ?_, fun hl => ?_⟩⟩
  · rw [fA 0 10 (by omega) (by omega) (by omega) (by omega), m1 1 (by omega) (by omega)]; exact h3
  · rw [m1 37 (by omega) (by omega)]; exact h4
  · rw [fA 1 2 (by omega) (by omega) (by omega) (by omega), m1 18 (by omega) (by omega)]; exact r1
  · rw [m1 18 (by omega) (by omega)] at b
    rw [fA 2 k (by omega) (by omega) (by omega) (by omega), m2 7 k (by omega) (by omega)]; exact r2 k a b
  · rw [fA 1 3 (by omega) (by omega) (by omega) (by omega), m1 19 (by omega) (by omega)]; exact r3
  · rw [fA 1 4 (by omega) (by omega) (by omega) (by omega), m1 20 (by omega) (by omega)]; exact r4
  · rw [fA 375 3 (by omega) (by omega) (by omega) (by omega), fA 375 1 (by omega) (by omega) (by omega) (by omega), m1 40 (by omega) (by omega)]; exact t1
  · rw [m1 40 (by omega) (by omega)]; exact t2
  · rw [hft k, m1 40 (by omega) (by omega), m2 16 k (by omega) (by omega)]; exact t3 k a b
  · rw [m1 1 (by omega) (by omega)] at hl
    obtain ⟨l1, l2, l3, l4⟩ := h7 hl
    refine ⟨l1.scr' m1 e1 e2, ?_, fS 303 (by omega) l4.1.1 l3, l4.scr hB m1 e2⟩
    have l2' := PR_frm l2 (fun b z hb => fA b z (by omega) (by omega) (by omega) (by omega))
    unfold PR at l2' ⊢
    rw [e1, e2, m1 2 (by omega) (by omega), m1 3 (by omega) (by omega), m1 4 (by omega) (by omega), m1 5 (by omega) (by omega), m1 6 (by omega) (by omega), m1 7 (by omega) (by omega), m1 8 (by omega) (by omega), m1 9 (by omega) (by omega)]
    exact l2'
  · rw [m1 1 (by omega) (by omega)] at hl
    rw [m1 15 (by omega) (by omega), m2 6 0 (by omega) (by omega), m2 6 1 (by omega) (by omega), e1, e2]; exact h8 hl
  · rw [fA 21 2 (by omega) (by omega) (by omega) (by omega), m1 15 (by omega) (by omega)]; exact p1
  · rw [fA 21 1 (by omega) (by omega) (by omega) (by omega)]; exact p2
  · rw [m1 15 (by omega) (by omega)] at b
    obtain ⟨q1, q2⟩ := p3 i a b
    rw [fA 21 1 (by omega) (by omega) (by omega) (by omega), m1 15 (by omega) (by omega), e5]
    exact ⟨fS _ (by unfold hs; omega) q2.1.1 q1, q2.scr hB m1 e2⟩
  · rw [fA 374 j (by omega) (by omega) (by omega) (by omega), m2 6 j (by omega) (by omega)]; exact k1 j a b
  · rw [m2 6 0 (by omega) (by omega)] at hl
    rw [e5]
    exact ⟨fS 385 (by omega) (k2 hl).2.1.1 (k2 hl).1, (k2 hl).2.scr hB m1 e2⟩
  · rw [m2 6 1 (by omega) (by omega)] at hl
    rw [e5]
    exact ⟨fS 420 (by omega) (k3 hl).2.1.1 (k3 hl).1, (k3 hl).2.scr hB m1 e2⟩

