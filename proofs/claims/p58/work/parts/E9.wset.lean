/-! THE LAW'S WORLD: its settings, the text's head -/
section WI2
variable {c c' c2 : CC} {A A' A2 : AI} {J J' J2 : JI} {M : AI} {g o : Int → Int} {w d tvb capb NC NS tvb' capb' : Nat} {p p' : TP} {q qf : Int} {sc : Nat × (Nat → Int32)}
def rngS (w : Nat) (i : Int) (A : AI) : Prop := (i ≤ 0 → 10 ≤ A (w + 3) 0 ∧ A (w + 3) 0 ≤ 120) ∧ (i ≤ 1 → 1 ≤ A (w + 3) 1 ∧ A (w + 3) 1 ≤ 8) ∧ (i ≤ 2 → 1 ≤ A (w + 3) 2 ∧ A (w + 3) 2 ≤ 50) ∧ (i ≤ 3 → 0 ≤ A (w + 3) 3 ∧ A (w + 3) 3 ≤ 20) ∧ (i ≤ 4 → 0 ≤ A w 15 ∧ A w 15 ≤ 20) ∧ (i ≤ 4 → 0 ≤ A (w + 3) 4 ∧ A (w + 3) 4 ≤ 9) ∧ (i ≤ 5 → 0 ≤ A (w + 3) 5 ∧ A (w + 3) 5 ≤ 9) ∧ (i ≤ 6 → 1 ≤ A (w + 3) 6 ∧ A (w + 3) 6 ≤ 999)
abbrev SetR (NC NS w d : Nat) (sc : Nat × (Nat → Int32)) (i : Int) (c : CC) (A : AI) (J : JI) (tvb capb : Nat) (p : TP) (qf : Int) (x : Option AR) : Prop := ∃ A', x = fX19_init_314 sc FU w d 0 (CW c A' J) ∧ WI NC NS w d c A' J tvb capb p qf ∧ (∀ j, 0 ≤ j → j < i → A' (w + 3) j = A (w + 3) j) ∧ rngS w i A' ∧ ∀ (b : Nat) (z : Int), b ≠ d → b ≠ w + 3 → (4 < i ∨ ¬ (b = w ∧ z = 15)) → A' b z = A b z
theorem u3 (hW : isWorld c w) (i : Int32) (z v : Int) (e : i = ii z) (hz : 0 ≤ z ∧ z < 8) (k : AS → Option AR) : uI (CW c A J) (w + 3) i (ii v) k = k (CW c (up A (w + 3) z v) J) := by rw [e]; exact wdU3 hW z v k hz
theorem w_308 (h : WI NC NS w d c A J tvb capb p q) (hs : sc.1 < 2147483648) (hq : q + 1 ≤ qf ∧ qf ≤ 1000) (hi : Int) (hhi : 1 ≤ hi ∧ hi ≤ 999) {y : Int32} (hy : y = ii hi) : SetR NC NS w d sc 6 c A J tvb capb p qf (fX19_init_308 sc w d (w + 3) 6 d 1 y (CW c A J)) := by
  obtain ⟨v, A1, hv, e1, h1, f1⟩ := h.draw (J := J) sc hs 1 hi (by omega) (by omega) (x := 1) rfl hy
  have hd := h.2.2.1.2
  refine ⟨up A1 (w + 3) 6 v, ?_, (h1.cell (w + 3) 6 v (by omega)).mono (by omega), fun j a b => by rw [up_n _ _ _ _ _ _ (by omega)]; exact f1 _ _ (by omega), ⟨fun x => by omega, fun x => by omega, fun x => by omega, fun x => by omega, fun x => by omega, fun x => by omega, fun x => by omega, fun _ => by rw [up_s]; omega⟩, fun b z x1 x2 x3 => by rw [up_n _ _ _ _ _ _ (by omega)]; exact f1 _ _ x1⟩
  rw [fX19_init_308, e1, u3 h1.1.1 6 6 v rfl (by omega)]
theorem w_251 (h : WI NC NS w d c A J tvb capb p q) (hs : sc.1 < 2147483648) (hq : q + 5 ≤ qf ∧ qf ≤ 1000) (hi : Int) (hhi : 0 ≤ hi ∧ hi ≤ 20) {y : Int32} (hy : y = ii hi) : SetR NC NS w d sc 4 c A J tvb capb p qf (fX19_init_251 sc w d w d 0 y (CW c A J)) := by
  have hd := h.2.2.1.2
  obtain ⟨v, A1, hv, e1, h1, f1⟩ := h.draw (J := J) sc hs 0 hi (by omega) (by omega) (x := 0) rfl hy
  have k1 := h1.cell w 15 v (by omega)
  obtain ⟨v4, A2, hv4, e2, h2, f2⟩ := k1.draw (J := J) sc hs 0 9 (by omega) (by omega) (x := 0) (y := 9) rfl rfl
  have k2 := h2.cell (w + 3) 4 v4 (by omega)
  obtain ⟨v5, A3, hv5, e3, h3, f3⟩ := k2.draw (J := J) sc hs 0 9 (by omega) (by omega) (x := 0) (y := 9) rfl rfl
  have k3 := h3.cell (w + 3) 5 v5 (by omega)
  obtain ⟨v6, A4, hv6, e4, h4, f4⟩ := k3.draw (J := J) sc hs 0 1 (by omega) (by omega) (x := 0) (y := 1) rfl rfl
  have st : fX19_init_251 sc w d w d 0 y (CW c A J) = if ii v6 = 0 then fX19_init_308 sc w d (w + 3) 6 d 1 999 (CW c A4 J) else fX19_init_308 sc w d (w + 3) 6 d 1 120 (CW c A4 J) := by
    rw [fX19_init_251, e1, wdS15 h1.1.1, wdR1 h1.1.1, e2, u3 h1.1.1 4 4 v4 rfl (by omega), wdR1 h1.1.1, e3, u3 h1.1.1 5 5 v5 rfl (by omega), wdR1 h1.1.1, e4]
  have fin : SetR NC NS w d sc 6 c A4 J tvb capb p qf (fX19_init_251 sc w d w d 0 y (CW c A J)) := by
    rw [st]
    by_cases z : ii v6 = 0
    · rw [if_pos z]
      exact w_308 h4 hs (by omega) 999 (by omega) rfl
    · rw [if_neg z]
      exact w_308 h4 hs (by omega) 120 (by omega) rfl
  obtain ⟨A', e, hw, hk, ⟨r0, r1, r2, r3, r4, r5, r6, r7⟩, hf⟩ := fin
  have g4 : ∀ (b : Nat) (z : Int), b ≠ d → A4 b z = up A3 (w + 3) 5 v5 b z := f4
  have x15 : A' w 15 = v := by
    rw [hf w 15 (by omega) (by omega) (Or.inl (by omega)), f4 _ _ (by omega), up_n _ _ _ _ _ _ (by omega), f3 _ _ (by omega), up_n _ _ _ _ _ _ (by omega), f2 _ _ (by omega), up_s]
  refine ⟨A', e, hw, fun j a b => ?_, ⟨fun x => by omega, fun x => by omega, fun x => by omega, fun x => by omega, fun _ => by rw [x15]; omega, fun _ => ?_, fun _ => ?_, fun _ => r7 (by omega)⟩, fun b z x1 x2 x3 => ?_⟩
  · rw [hk j a (by omega), f4 _ _ (by omega), up_n _ _ _ _ _ _ (by omega), f3 _ _ (by omega), up_n _ _ _ _ _ _ (by omega), f2 _ _ (by omega), up_n _ _ _ _ _ _ (by omega), f1 _ _ (by omega)]
  · rw [hk 4 (by omega) (by omega), f4 _ _ (by omega), up_n _ _ _ _ _ _ (by omega), f3 _ _ (by omega), up_s]; omega
  · rw [hk 5 (by omega) (by omega), f4 _ _ (by omega), up_s]; omega
  · rw [hf b z x1 x2 (by omega), f4 _ _ x1, up_n _ _ _ _ _ _ (by omega), f3 _ _ x1, up_n _ _ _ _ _ _ (by omega), f2 _ _ x1, up_n _ _ _ _ _ _ (by omega), f1 _ _ x1]
theorem w_229 (h : WI NC NS w d c A J tvb capb p q) (hs : sc.1 < 2147483648) (hq : q + 7 ≤ qf ∧ qf ≤ 1000) (hi : Int) (hhi : 0 ≤ hi ∧ hi ≤ 20) {y : Int32} (hy : y = ii hi) : SetR NC NS w d sc 3 c A J tvb capb p qf (fX19_init_229 sc w d (w + 3) 3 d 0 y (CW c A J)) := by
  have hd := h.2.2.1.2
  obtain ⟨v, A1, hv, e1, h1, f1⟩ := h.draw (J := J) sc hs 0 hi (by omega) (by omega) (x := 0) rfl hy
  have k1 := h1.cell (w + 3) 3 v (by omega)
  obtain ⟨u, A2, hu, e2, h2, f2⟩ := k1.draw (J := J) sc hs 0 2 (by omega) (by omega) (x := 0) (y := 2) rfl rfl
  have st : fX19_init_229 sc w d (w + 3) 3 d 0 y (CW c A J) = if ii u = 0 then fX19_init_251 sc w d w d 0 20 (CW c A2 J) else fX19_init_251 sc w d w d 0 3 (CW c A2 J) := by
    rw [fX19_init_229, e1, u3 h1.1.1 3 3 v rfl (by omega), e2]
  have fin : SetR NC NS w d sc 4 c A2 J tvb capb p qf (fX19_init_229 sc w d (w + 3) 3 d 0 y (CW c A J)) := by
    rw [st]
    by_cases z : ii u = 0
    · rw [if_pos z]
      exact w_251 h2 hs (by omega) 20 (by omega) rfl
    · rw [if_neg z]
      exact w_251 h2 hs (by omega) 3 (by omega) rfl
  obtain ⟨A', e, hw, hk, ⟨r0, r1, r2, r3, r4, r5, r6, r7⟩, hf⟩ := fin
  have x0 : A' (w + 3) 3 = v := by rw [hk 3 (by omega) (by omega), f2 _ _ (by omega), up_s]
  refine ⟨A', e, hw, fun j a b => ?_, ⟨fun x => by omega, fun x => by omega, fun x => by omega, fun _ => by rw [x0]; omega, fun _ => r4 (by omega), fun _ => r5 (by omega), fun _ => r6 (by omega), fun _ => r7 (by omega)⟩, fun b z x1 x2 x3 => ?_⟩
  · rw [hk j a (by omega), f2 _ _ (by omega), up_n _ _ _ _ _ _ (by omega), f1 _ _ (by omega)]
  · rw [hf b z x1 x2 (by omega), f2 _ _ x1, up_n _ _ _ _ _ _ (by omega), f1 _ _ x1]
theorem w_203 (h : WI NC NS w d c A J tvb capb p q) (hs : sc.1 < 2147483648) (hq : q + 9 ≤ qf ∧ qf ≤ 1000) (hi : Int) (hhi : 1 ≤ hi ∧ hi ≤ 50) {y : Int32} (hy : y = ii hi) : SetR NC NS w d sc 2 c A J tvb capb p qf (fX19_init_203 sc w d (w + 3) 2 d 1 y (CW c A J)) := by
  have hd := h.2.2.1.2
  obtain ⟨v, A1, hv, e1, h1, f1⟩ := h.draw (J := J) sc hs 1 hi (by omega) (by omega) (x := 1) rfl hy
  have k1 := h1.cell (w + 3) 2 v (by omega)
  obtain ⟨u, A2, hu, e2, h2, f2⟩ := k1.draw (J := J) sc hs 0 2 (by omega) (by omega) (x := 0) (y := 2) rfl rfl
  have st : fX19_init_203 sc w d (w + 3) 2 d 1 y (CW c A J) = if ii u = 0 then fX19_init_229 sc w d (w + 3) 3 d 0 20 (CW c A2 J) else fX19_init_229 sc w d (w + 3) 3 d 0 4 (CW c A2 J) := by
    rw [fX19_init_203, e1, u3 h1.1.1 2 2 v rfl (by omega), wdR1 h1.1.1, e2]
  have fin : SetR NC NS w d sc 3 c A2 J tvb capb p qf (fX19_init_203 sc w d (w + 3) 2 d 1 y (CW c A J)) := by
    rw [st]
    by_cases z : ii u = 0
    · rw [if_pos z]
      exact w_229 h2 hs (by omega) 20 (by omega) rfl
    · rw [if_neg z]
      exact w_229 h2 hs (by omega) 4 (by omega) rfl
  obtain ⟨A', e, hw, hk, ⟨r0, r1, r2, r3, r4, r5, r6, r7⟩, hf⟩ := fin
  have x0 : A' (w + 3) 2 = v := by rw [hk 2 (by omega) (by omega), f2 _ _ (by omega), up_s]
  refine ⟨A', e, hw, fun j a b => ?_, ⟨fun x => by omega, fun x => by omega, fun _ => by rw [x0]; omega, fun _ => r3 (by omega), fun _ => r4 (by omega), fun _ => r5 (by omega), fun _ => r6 (by omega), fun _ => r7 (by omega)⟩, fun b z x1 x2 x3 => ?_⟩
  · rw [hk j a (by omega), f2 _ _ (by omega), up_n _ _ _ _ _ _ (by omega), f1 _ _ (by omega)]
  · rw [hf b z x1 x2 (by omega), f2 _ _ x1, up_n _ _ _ _ _ _ (by omega), f1 _ _ x1]
theorem w_176 (h : WI NC NS w d c A J tvb capb p q) (hs : sc.1 < 2147483648) (hq : q + 11 ≤ qf ∧ qf ≤ 1000) (hi : Int) (hhi : 1 ≤ hi ∧ hi ≤ 8) {y : Int32} (hy : y = ii hi) : SetR NC NS w d sc 1 c A J tvb capb p qf (fX19_init_176 sc w d (w + 3) 1 d 1 y (CW c A J)) := by
  have hd := h.2.2.1.2
  obtain ⟨v, A1, hv, e1, h1, f1⟩ := h.draw (J := J) sc hs 1 hi (by omega) (by omega) (x := 1) rfl hy
  have k1 := h1.cell (w + 3) 1 v (by omega)
  obtain ⟨u, A2, hu, e2, h2, f2⟩ := k1.draw (J := J) sc hs 0 2 (by omega) (by omega) (x := 0) (y := 2) rfl rfl
  have st : fX19_init_176 sc w d (w + 3) 1 d 1 y (CW c A J) = if ii u = 0 then fX19_init_203 sc w d (w + 3) 2 d 1 50 (CW c A2 J) else fX19_init_203 sc w d (w + 3) 2 d 1 6 (CW c A2 J) := by
    rw [fX19_init_176, e1, u3 h1.1.1 1 1 v rfl (by omega), wdR1 h1.1.1, e2]
  have fin : SetR NC NS w d sc 2 c A2 J tvb capb p qf (fX19_init_176 sc w d (w + 3) 1 d 1 y (CW c A J)) := by
    rw [st]
    by_cases z : ii u = 0
    · rw [if_pos z]
      exact w_203 h2 hs (by omega) 50 (by omega) rfl
    · rw [if_neg z]
      exact w_203 h2 hs (by omega) 6 (by omega) rfl
  obtain ⟨A', e, hw, hk, ⟨r0, r1, r2, r3, r4, r5, r6, r7⟩, hf⟩ := fin
  have x0 : A' (w + 3) 1 = v := by rw [hk 1 (by omega) (by omega), f2 _ _ (by omega), up_s]
  refine ⟨A', e, hw, fun j a b => ?_, ⟨fun x => by omega, fun _ => by rw [x0]; omega, fun _ => r2 (by omega), fun _ => r3 (by omega), fun _ => r4 (by omega), fun _ => r5 (by omega), fun _ => r6 (by omega), fun _ => r7 (by omega)⟩, fun b z x1 x2 x3 => ?_⟩
  · rw [hk j a (by omega), f2 _ _ (by omega), up_n _ _ _ _ _ _ (by omega), f1 _ _ (by omega)]
  · rw [hf b z x1 x2 (by omega), f2 _ _ x1, up_n _ _ _ _ _ _ (by omega), f1 _ _ x1]
theorem w_150 (h : WI NC NS w d c A J tvb capb p q) (hs : sc.1 < 2147483648) (hq : q + 13 ≤ qf ∧ qf ≤ 1000) (hi : Int) (hhi : 10 ≤ hi ∧ hi ≤ 120) {y : Int32} (hy : y = ii hi) : SetR NC NS w d sc 0 c A J tvb capb p qf (fX19_init_150 sc w d (w + 3) 0 d 10 y (CW c A J)) := by
  have hd := h.2.2.1.2
  obtain ⟨v, A1, hv, e1, h1, f1⟩ := h.draw (J := J) sc hs 10 hi (by omega) (by omega) (x := 10) rfl hy
  have k1 := h1.cell (w + 3) 0 v (by omega)
  obtain ⟨u, A2, hu, e2, h2, f2⟩ := k1.draw (J := J) sc hs 0 2 (by omega) (by omega) (x := 0) (y := 2) rfl rfl
  have st : fX19_init_150 sc w d (w + 3) 0 d 10 y (CW c A J) = if ii u = 0 then fX19_init_176 sc w d (w + 3) 1 d 1 8 (CW c A2 J) else fX19_init_176 sc w d (w + 3) 1 d 1 3 (CW c A2 J) := by
    rw [fX19_init_150, e1, u3 h1.1.1 0 0 v rfl (by omega), wdR1 h1.1.1, e2]
  have fin : SetR NC NS w d sc 1 c A2 J tvb capb p qf (fX19_init_150 sc w d (w + 3) 0 d 10 y (CW c A J)) := by
    rw [st]
    by_cases z : ii u = 0
    · rw [if_pos z]
      exact w_176 h2 hs (by omega) 8 (by omega) rfl
    · rw [if_neg z]
      exact w_176 h2 hs (by omega) 3 (by omega) rfl
  obtain ⟨A', e, hw, hk, ⟨r0, r1, r2, r3, r4, r5, r6, r7⟩, hf⟩ := fin
  have x0 : A' (w + 3) 0 = v := by rw [hk 0 (by omega) (by omega), f2 _ _ (by omega), up_s]
  refine ⟨A', e, hw, fun j a b => ?_, ⟨fun _ => by rw [x0]; omega, fun _ => r1 (by omega), fun _ => r2 (by omega), fun _ => r3 (by omega), fun _ => r4 (by omega), fun _ => r5 (by omega), fun _ => r6 (by omega), fun _ => r7 (by omega)⟩, fun b z x1 x2 x3 => ?_⟩
  · rw [hk j a (by omega), f2 _ _ (by omega), up_n _ _ _ _ _ _ (by omega), f1 _ _ (by omega)]
  · rw [hf b z x1 x2 (by omega), f2 _ _ x1, up_n _ _ _ _ _ _ (by omega), f1 _ _ x1]
end WI2
