/-! WHAT HOLDS BETWEEN TWO CALLS: the class's world and its model's tell the same -/
def isLock (c : CC) (pl sp tv cap : Nat) : Prop :=
  (okc c 0 10 11 ∧ ptr c 0 0 1 ∧ ptr c 0 1 4 ∧ ptr c 0 2 21 ∧ ptr c 0 3 303 ∧ ptr c 0 4 338 ∧ ptr c 0 5 373 ∧ ptr c 0 6 374 ∧ ptr c 0 7 375 ∧ ptr c 0 8 pl ∧ ptr c 0 9 sp) ∧
  (isReader c 1 ∧ isSolver c 4 ∧ isHist c 21 ∧ isState c 303 ∧ isState c 338 ∧ isState c 385 ∧ isState c 420) ∧
  (okc c 373 112 2 ∧ ptr c 373 0 385 ∧ ptr c 373 1 420 ∧ okc c 374 101 2) ∧
  ((pl = 377 ∧ sp = 381 ∨ pl = 381 ∧ sp = 377) ∧ isPlan c pl ∧ isPlan c sp) ∧
  (okc c 375 1 4 ∧ ptr c 375 0 tv ∧ okc c tv 103 cap ∧ (tv = 376 ∨ 455 ≤ tv)) ∧ True
def cU (c : CC) : CC := (c.1, c.2.1, c.2.2.1, c.2.2.2.1 + 1, c.2.2.2.2 + 6)
theorem isLock.U {c : CC} {pl sp tv cap : Nat} (h : isLock c pl sp tv cap) : isLock (cU c) pl sp tv cap := h
def zB : Nat := 900000
theorem zB_e : zB = 900000 := rfl
def pastg (M : AI) (i : Int) : Int → Int := fun z => M 5 (4112 * i + z)
/-- the most slack, after so many calls -/
def Bn (n : Nat) : Int := 460000 * (n + 1)
abbrev HI (c : CC) (A : AI) (J : JI) (M : AI) (B : Int) : Prop :=
  (A 21 2 = M 0 15 ∧ 0 ≤ M 0 15 ∧ M 0 15 ≤ 8) ∧ (0 ≤ A 21 1 ∧ A 21 1 < 8) ∧ ∀ i, 0 ≤ i → i < M 0 15 → SR A J (hs 21 ((A 21 1 - M 0 15 + i) % 8)) (M 2) (pastg M i) (pastg M i 5) ∧ GC M (pastg M i) B
abbrev KI (A : AI) (J : JI) (M : AI) (B : Int) : Prop :=
  (∀ j, 0 ≤ j → j < 2 → A 374 j = M 6 j ∧ 0 ≤ M 6 j ∧ M 6 j ≤ 1) ∧ (M 6 0 = 1 → SR A J 385 (M 2) (pastg M 8) (pastg M 8 5) ∧ GC M (pastg M 8) B) ∧ (M 6 1 = 1 → SR A J 420 (M 2) (pastg M 9) (pastg M 9 5) ∧ GC M (pastg M 9) B)
abbrev RI (A : AI) (M : AI) : Prop :=
  (A 1 2 = M 0 18 ∧ 0 ≤ M 0 18 ∧ M 0 18 ≤ 500) ∧ (∀ k, 0 ≤ k → k < M 0 18 → A 2 k = M 7 k ∧ 0 ≤ M 7 k ∧ M 7 k ≤ 255) ∧ A 1 3 = M 0 19 ∧ A 1 4 = M 0 20
abbrev TI (A : AI) (M : AI) (tv cap : Nat) : Prop :=
  (A 375 3 = M 0 40 ∧ 0 ≤ M 0 40 ∧ M 0 40 ≤ 2900 ∧ A 375 1 = 0) ∧ (M 0 40 ≤ cap ∧ 16 ≤ cap ∧ cap ≤ 7000) ∧ ∀ k, 0 ≤ k → k < cap → (k < M 0 40 → A tv k = M 16 k) ∧ 0 ≤ A tv k ∧ A tv k ≤ 127
/-- what holds of the rows, once a text was loaded -/
abbrev LI (A : AI) (J : JI) (M : AI) (g : Int → Int) (pl : Nat) (B : Int) : Prop := SA M ∧ PR A pl M ∧ SR A J 303 (M 2) g (g 5) ∧ GC M g B
def Inv (C0 N0 n : Nat) (pl sp tv cap : Nat) (c : CC) (A : AI) (J : JI) (M : AI) (g : Int → Int) : Prop :=
  isLock c pl sp tv cap ∧ (c.2.2.1 ≤ zB + cap ∧ c.2.2.2.1 ≤ C0 + n + cap ∧ c.2.2.2.2 ≤ N0 + 6 * n + 2 * cap) ∧ (A 0 10 = M 0 1 ∧ 0 ≤ M 0 1 ∧ M 0 1 ≤ 1) ∧ M 0 37 = -1 ∧
  RI A M ∧ TI A M tv cap ∧ (M 0 1 = 1 → LI A J M g pl (Bn n)) ∧ (M 0 1 = 0 → M 0 15 = 0 ∧ M 6 0 = 0 ∧ M 6 1 = 0 ∧ ∀ k, 0 ≤ k → k < 10 → (0 ≤ M 1 k ∧ M 1 k ≤ 1) ∧ 0 ≤ M 2 k ∧ M 2 k ≤ 99) ∧ HI c A J M (Bn n) ∧ KI A J M (Bn n)
/-- the class's cells that keep nothing from call to call, and the two that answers are laid in -/
def scC (b : Nat) : Prop := inV 4 b ∨ inS 338 b
abbrev scO (b : Nat) : Prop := scC b ∨ False
theorem GC.scr {M M' : AI} {g : Int → Int} {B B' : Int} (h : GC M g B) (hB : B ≤ B') (e : ∀ z, z ≠ 36 → z ≠ 0 → M' 0 z = M 0 z) (e2 : M' 2 = M 2) : GC M' g B' := by
  obtain ⟨⟨g1, g2, g3, g4, g5⟩, h2, h3, h4, h5⟩ := h
  have eg : ∀ r, gapM M' g r = gapM M g r := fun r => by unfold gapM; rw [e2, e 2 (by omega) (by omega), e 4 (by omega) (by omega)]
  refine ⟨⟨g1, g2, fun r a b => g3 r (by rw [e 3 (by omega) (by omega)] at a; exact a) b, fun r a b k p q => by rw [e 9 (by omega) (by omega)]; exact g4 r a b k p q, fun r a b => by have := g5 r a b; omega⟩, by rw [show lim M' = lim M from funext fun k => by unfold lim; rw [e 9 (by omega) (by omega)]]; exact h2, h3, fun r a b q => by rw [e 5 (by omega) (by omega)]; exact h4 r a b q, fun r a b => by rw [eg]; exact h5 r a (by rw [e 3 (by omega) (by omega)] at b; exact b)⟩
theorem SA.scr' {M M' : AI} (h : SA M) (e : ∀ z, z ≠ 36 → z ≠ 0 → M' 0 z = M 0 z) (e1 : M' 1 = M 1) (e2 : M' 2 = M 2) : SA M' := by
  unfold SA at h ⊢
  rw [e1, e2, e 2 (by omega) (by omega), e 3 (by omega) (by omega), e 4 (by omega) (by omega), e 5 (by omega) (by omega), e 6 (by omega) (by omega), e 7 (by omega) (by omega), e 8 (by omega) (by omega), e 9 (by omega) (by omega)]
  exact h
/-- only scratch is other, on both sides -/
theorem Inv.scr {C0 N0 n n' : Nat} {pl sp tv cap : Nat} {c c' : CC} {A A' : AI} {J J' : JI} {M M' : AI} {g : Int → Int} (h : Inv C0 N0 n pl sp tv cap c A J M g) (hn : n ≤ n') (hc : c'.1 = c.1 ∧ c'.2.1 = c.2.1 ∧ c'.2.2.1 = c.2.2.1) (hc2 : c'.2.2.2.1 ≤ C0 + n' + cap ∧ c'.2.2.2.2 ≤ N0 + 6 * n' + 2 * cap) (hf : frm scO A A' J J') (hM : (∀ z, z ≠ 36 → z ≠ 0 → M' 0 z = M 0 z) ∧ ∀ (b : Nat) (z : Int), 0 < b → (b < 12 ∨ b = 16) → M' b z = M b z) : Inv C0 N0 n' pl sp tv cap c' A' J' M' g := by
  obtain ⟨h1, h2, h3, h4, ⟨r1, r2, r3, r4⟩, ⟨t1, t2, t3⟩, h7, h8, ⟨p1, p2, p3⟩, ⟨k1, k2, k3⟩⟩ := h
  obtain ⟨m1, m2⟩ := hM
  have hB : Bn n ≤ Bn n' := by unfold Bn; omega
  have hk' : isLock c' pl sp tv cap := by
    obtain ⟨c1, c2, c3, c4⟩ := c
    obtain ⟨d1, d2, d3, d4⟩ := c'
    obtain ⟨x1, x2, x3⟩ := hc
    dsimp only at x1 x2 x3
    subst x1; subst x2; subst x3
    exact h1
  have e1 : M' 1 = M 1 := funext fun z => m2 1 z (by omega) (by omega)
  have e2 : M' 2 = M 2 := funext fun z => m2 2 z (by omega) (by omega)
  have e5 : ∀ i, pastg M' i = pastg M i := fun i => funext fun z => m2 5 _ (by omega) (by omega)
  have nsc : ∀ b : Nat, (b < 4 ∨ 21 ≤ b) → (b < 338 ∨ 373 ≤ b) → (0 : Nat) ≤ 1 → (0 : Nat) ≤ 1 → ¬ scO b := fun b x y _ _ q => by
    rcases q with (q | q) | q
    · unfold inV at q; omega
    · unfold inS at q; omega
    · exact q
  have htv : ¬ scO tv := by
    have := h1.2.2.2.2.1.2.2.2
    exact nsc tv (by omega) (by omega) (by omega) (by omega)
  have fS : ∀ S : Nat, (S + 35 ≤ 338 ∧ 21 ≤ S ∨ 373 ≤ S ∧ S + 35 ≤ 455) → ∀ {g : Int → Int} {f : Int}, GR g → SR A J S (M 2) g f → SR A' J' S (M' 2) g f := fun S hS g f hg hs => by
    rw [e2]
    exact SR_frame hs hg (fun b z hb => hf.1 b z (nsc b (by unfold inS at hb; omega) (by unfold inS at hb; omega) (by unfold inS at hb; omega) (by unfold inS at hb; omega))) (fun b z hb => hf.2 b z (nsc b (by unfold inS at hb; omega) (by unfold inS at hb; omega) (by unfold inS at hb; omega) (by unfold inS at hb; omega)))
  have fA : ∀ (b : Nat) (z : Int), (b < 4 ∨ 21 ≤ b) → (b < 338 ∨ 373 ≤ b) → (0 : Nat) ≤ 1 → (0 : Nat) ≤ 1 → A' b z = A b z := fun b z x y w v => hf.1 b z (nsc b x y w v)
  have hpl : pl = 377 ∨ pl = 381 := by have := h1.2.2.2.1.1; omega
  refine ⟨hk', ⟨by rw [hc.2.2]; exact h2.1, hc2⟩, ?_, ?_, ⟨?_, fun k a b => ?_, ?_, ?_⟩, ⟨?_, ?_, fun k a b => ?_⟩, fun hl => ?_, fun hl => ?_, ⟨?_, ?_, fun i a b => ?_⟩, ⟨fun j a b => ?_, fun hl => ?_, fun hl => ?_⟩⟩
  · rw [fA 0 10 (by omega) (by omega) (by omega) (by omega), m1 1 (by omega) (by omega)]; exact h3
  · rw [m1 37 (by omega) (by omega)]; exact h4
  · rw [fA 1 2 (by omega) (by omega) (by omega) (by omega), m1 18 (by omega) (by omega)]; exact r1
  · rw [m1 18 (by omega) (by omega)] at b
    rw [fA 2 k (by omega) (by omega) (by omega) (by omega), m2 7 k (by omega) (by omega)]; exact r2 k a b
  · rw [fA 1 3 (by omega) (by omega) (by omega) (by omega), m1 19 (by omega) (by omega)]; exact r3
  · rw [fA 1 4 (by omega) (by omega) (by omega) (by omega), m1 20 (by omega) (by omega)]; exact r4
  · rw [fA 375 3 (by omega) (by omega) (by omega) (by omega), fA 375 1 (by omega) (by omega) (by omega) (by omega), m1 40 (by omega) (by omega)]; exact t1
  · rw [m1 40 (by omega) (by omega)]; exact t2
  · rw [hf.1 tv k htv, m1 40 (by omega) (by omega), m2 16 k (by omega) (by omega)]; exact t3 k a b
  · rw [m1 1 (by omega) (by omega)] at hl
    obtain ⟨l1, l2, l3, l4⟩ := h7 hl
    refine ⟨l1.scr' m1 e1 e2, ?_, fS 303 (by omega) l4.1.1 l3, l4.scr hB m1 e2⟩
    have l2' := PR_frm l2 (fun b z hb => fA b z (by omega) (by omega) (by omega) (by omega))
    unfold PR at l2' ⊢
    rw [e1, e2, m1 2 (by omega) (by omega), m1 3 (by omega) (by omega), m1 4 (by omega) (by omega), m1 5 (by omega) (by omega), m1 6 (by omega) (by omega), m1 7 (by omega) (by omega), m1 8 (by omega) (by omega), m1 9 (by omega) (by omega)]
    exact l2'
  · rw [m1 1 (by omega) (by omega)] at hl
    rw [m1 15 (by omega) (by omega), m2 6 0 (by omega) (by omega), m2 6 1 (by omega) (by omega), e1, e2]; exact h8 hl
  · rw [fA 21 2 (by omega) (by omega) (by omega) (by omega), m1 15 (by omega) (by omega)]; exact p1
  · rw [fA 21 1 (by omega) (by omega) (by omega) (by omega)]; exact p2
  · rw [m1 15 (by omega) (by omega)] at b
    obtain ⟨q1, q2⟩ := p3 i a b
    rw [fA 21 1 (by omega) (by omega) (by omega) (by omega), m1 15 (by omega) (by omega), e5]
    exact ⟨fS _ (by unfold hs; omega) q2.1.1 q1, q2.scr hB m1 e2⟩
  · rw [fA 374 j (by omega) (by omega) (by omega) (by omega), m2 6 j (by omega) (by omega)]; exact k1 j a b
  · rw [m2 6 0 (by omega) (by omega)] at hl
    rw [e5]
    exact ⟨fS 385 (by omega) (k2 hl).2.1.1 (k2 hl).1, (k2 hl).2.scr hB m1 e2⟩
  · rw [m2 6 1 (by omega) (by omega)] at hl
    rw [e5]
    exact ⟨fS 420 (by omega) (k3 hl).2.1.1 (k3 hl).1, (k3 hl).2.scr hB m1 e2⟩
