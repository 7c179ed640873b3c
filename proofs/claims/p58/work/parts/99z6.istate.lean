/-! THE START: a state -/
section IST
variable {c c0 : CC} {A A0 : AI} {J J0 : JI} {a S R j q n : Nat}
theorem k_uR {t ci m : Nat} (h : okc c a t n) (o : okc c q ci m) (z : Int) (hz : (0 ≤ z ∧ z < n) ∧ n ≤ 2147483648) (k : AS → Option AR) : uR (CW c A J) a t ci (ii z) q k = k (CW (ptC c a z.toNat q) A J) := by
  refine (if_pos ⟨h.1, by rw [show ax_H (CW c A J) a = c.2.1 a from rfl, h.2], by rw [show ax_H (CW c A J) a = c.2.1 a from rfl, h.2]; exact ii_ib z n hz, o.1, by rw [show ax_H (CW c A J) q = c.2.1 q from rfl, o.2]⟩).trans ?_
  rw [ii_tn z (by omega)]
  rfl
theorem ptr_pt (h : ptr c R j q) (b i p : Nat) (hb : ¬ (R = b ∧ j = i)) : ptr (ptC c b i p) R j q := (ax_up2_n _ _ hb).trans h
theorem okc_pt {t : Nat} (h : okc c a t n) (b i p : Nat) : okc (ptC c b i p) a t n := h
theorem isRow.pt (h : isRow c R) (b i p : Nat) (hb : R ≠ b) : isRow (ptC c b i p) R := ⟨h.1, ptr_pt h.2.1 _ _ _ (fun e => hb e.1), ptr_pt h.2.2.1 _ _ _ (fun e => hb e.1), ptr_pt h.2.2.2 _ _ _ (fun e => hb e.1)⟩
theorem exc.pt (h : exc c0 c) (b i p : Nat) (hb : c0.2.2.1 ≤ b) : exc c0 (ptC c b i p) := ⟨h.1, h.2.1, fun a j q => (ax_up2_n _ _ (fun e => by omega)).trans (h.2.2 a j q)⟩
/-- how much structure, how much room -/
abbrev stI (c0 : CC) (A0 : AI) (J0 : JI) (S : Nat) (i : Int) (c : CC) (A : AI) (J : JI) : Prop :=
  (c.2.2.1 = S + 3 + 4 * i.toNat ∧ c.2.2.2.1 = c0.2.2.2.1 + 3 + 4 * i.toNat ∧ c.2.2.2.2 = c0.2.2.2.2 + 26 + 58 * i.toNat) ∧ (okc c S 9 8 ∧ okc c (S + 1) 111 8 ∧ okc c (S + 2) 100 10) ∧ (ptr c S 0 (S + 1) ∧ ptr c S 1 (S + 2)) ∧ (∀ r : Int, 0 ≤ r → r < i → ptr c (S + 1) r.toNat (rc S r) ∧ isRow c (rc S r)) ∧ exc c0 c ∧ (∀ (b : Nat) (z : Int), b < S → A b z = A0 b z) ∧ ∀ (b j : Nat), b < S → J b j = J0 b j
theorem i_rows (hS : c0.2.2.1 = S ∧ S < 800000) (h : stI c0 A0 J0 S 0 c A J) : ∃ (c' : CC) (A' : AI) (J' : JI), fX5_init_23 FU S (ii 0) (CW c A J) = some (Sum.inl none, CW c' A' J') ∧ stI c0 A0 J0 S 8 c' A' J' := by
  refine lp (fun m i (s : CC × AI × JI) => fX5_init_23 m S (ii i) (CW s.1 s.2.1 s.2.2)) (fun x => ∃ (c' : CC) (A' : AI) (J' : JI), x = some (Sum.inl none, CW c' A' J') ∧ stI c0 A0 J0 S 8 c' A' J') (fun i s => 0 ≤ i ∧ stI c0 A0 J0 S i s.1 s.2.1 s.2.2) 8 ?_ ?_ FU 0 (c, A, J) (by omega) ⟨by omega, h⟩ (by have := FU_e; omega)
  · rintro m i ⟨c1, A1, J1⟩ hi ⟨hI, ⟨z1, z2, z3⟩, ⟨o1, o2, o3⟩, ⟨p1, p2⟩, hr, hx, fA, fJ⟩
    dsimp only at z1 z2 z3 o1 o2 o3 p1 p2 hr hx fA fJ ⊢
    obtain ⟨A2, J2, e, f1, f2⟩ := i_row (c := c1) (A := A1) (J := J1) (by omega)
    have hxr := rowC_x c1
    have hrow := rowC_row c1
    have hrc : rc S i = c1.2.2.1 := by unfold rc; omega
    refine Or.inr ⟨(ptC (rowC c1) (S + 1) i.toNat c1.2.2.1, A2, J2), ⟨by omega, ⟨?_, ?_, ?_⟩, ⟨okc_pt (okc_x o1 hxr) _ _ _, okc_pt (okc_x o2 hxr) _ _ _, okc_pt (okc_x o3 hxr) _ _ _⟩, ⟨ptr_pt (ptr_x o1 p1 hxr) _ _ _ (by omega), ptr_pt (ptr_x o1 p2 hxr) _ _ _ (by omega)⟩, fun r a b => ?_, (hx.trans hxr).pt _ _ _ (by omega), fun b z q => ?_, fun b j q => ?_⟩, ?_⟩
    · show c1.2.2.1 + 4 = _
      omega
    · show c1.2.2.2.1 + 1 + 1 + 1 + 1 = _
      omega
    · show c1.2.2.2.2 + 10 + 6 + 32 + 10 = _
      omega
    · by_cases q : r = i
      · rw [q, hrc]
        exact ⟨ax_up2_s _ _ _ _, hrow.pt _ _ _ (by omega)⟩
      · have hq := hr r a (by omega)
        exact ⟨ptr_pt (ptr_x o2 hq.1 hxr) _ _ _ (fun e => by have := e.2; omega), (hq.2.x hxr).pt _ _ _ (by unfold rc; omega)⟩
    · show A2 b z = A0 b z
      rw [f1 b z (by omega)]; exact fA b z q
    · show J2 b j = J0 b j
      rw [f2 b j (by omega)]; exact fJ b j q
    · show fX5_init_23 (m + 1) S (ii i) (CW c1 A1 J1) = fX5_init_23 m S (ii (i + 1)) (CW (ptC (rowC c1) (S + 1) i.toNat c1.2.2.1) A2 J2)
      rw [fX5_init_23, il1, il8, if_neg (by rw [ii_le _ _ (by omega)]; omega), k_gR o1 p1, e, k_uR (okc_x o2 hxr) hrow.1.1 i (by omega), ii_add, lt_q]
  · rintro m ⟨c1, A1, J1⟩ ⟨hI, hs⟩
    refine ⟨c1, A1, J1, ?_, hs⟩
    show fX5_init_23 (m + 1) S (ii 8) (CW c1 A1 J1) = _
    rw [fX5_init_23, il8, if_pos (Int32.le_refl _)]
theorem i_st0 (hz : c.2.2.1 < 800000) : stI c A J c.2.2.1 0 (ptC (nwC (ptC (nwC (nwC c 9 8) 111 8) c.2.2.1 0 (nwC c 9 8).2.2.1) 100 10) c.2.2.1 1 (ptC (nwC (nwC c 9 8) 111 8) c.2.2.1 0 (nwC c 9 8).2.2.1).2.2.1) (nwA (ptC (nwC (nwC c 9 8) 111 8) c.2.2.1 0 (nwC c 9 8).2.2.1) (nwA (nwC c 9 8) (nwA c A))) (nwJ (ptC (nwC (nwC c 9 8) 111 8) c.2.2.1 0 (nwC c 9 8).2.2.1) (nwJ (nwC c 9 8) (nwJ c J))) := by
  have x1 : exc c (nwC c 9 8) := exc.new _ _ _
  have x2 : exc c (ptC (nwC (nwC c 9 8) 111 8) c.2.2.1 0 (nwC c 9 8).2.2.1) := (x1.trans (exc.new _ _ _)).pt _ _ _ (Nat.le_refl _)
  have x3 : exc c (ptC (nwC (ptC (nwC (nwC c 9 8) 111 8) c.2.2.1 0 (nwC c 9 8).2.2.1) 100 10) c.2.2.1 1 (ptC (nwC (nwC c 9 8) 111 8) c.2.2.1 0 (nwC c 9 8).2.2.1).2.2.1) := (x2.trans (exc.new _ _ _)).pt _ _ _ (Nat.le_refl _)
  have o1 : okc (nwC c 9 8) c.2.2.1 9 8 := ⟨Nat.lt_succ_self _, if_pos rfl⟩
  have o1' : okc (ptC (nwC (nwC c 9 8) 111 8) c.2.2.1 0 (nwC c 9 8).2.2.1) c.2.2.1 9 8 := okc_pt (okc_x o1 (exc.new _ _ _)) _ _ _
  have o2 : okc (ptC (nwC (nwC c 9 8) 111 8) c.2.2.1 0 (nwC c 9 8).2.2.1) (c.2.2.1 + 1) 111 8 := ⟨Nat.lt_succ_self _, if_pos rfl⟩
  have o3 : okc (ptC (nwC (ptC (nwC (nwC c 9 8) 111 8) c.2.2.1 0 (nwC c 9 8).2.2.1) 100 10) c.2.2.1 1 (ptC (nwC (nwC c 9 8) 111 8) c.2.2.1 0 (nwC c 9 8).2.2.1).2.2.1) (c.2.2.1 + 2) 100 10 := ⟨Nat.lt_succ_self _, if_pos rfl⟩
  have p1 : ptr (ptC (nwC (nwC c 9 8) 111 8) c.2.2.1 0 (nwC c 9 8).2.2.1) c.2.2.1 0 (c.2.2.1 + 1) := ax_up2_s _ _ _ _
  refine ⟨⟨rfl, rfl, by show c.2.2.2.2 + 8 + 8 + 10 = c.2.2.2.2 + 26 + 58 * 0; omega⟩, ⟨okc_pt (okc_x o1' (exc.new _ _ _)) _ _ _, okc_pt (okc_x o2 (exc.new _ _ _)) _ _ _, o3⟩, ⟨ptr_pt (ptr_x o1' p1 (exc.new _ _ _)) _ _ _ (by omega), ax_up2_s _ _ _ _⟩, fun r a b => by omega, x3, fun b z q => ?_, fun b j q => ?_⟩
  · show (if b = c.2.2.1 + 2 then 0 else if b = c.2.2.1 + 1 then 0 else if b = c.2.2.1 then 0 else A b z) = A b z
    rw [if_neg (by omega), if_neg (by omega), if_neg (by omega)]
  · show (if b = c.2.2.1 + 2 then 0 else if b = c.2.2.1 + 1 then 0 else if b = c.2.2.1 then 0 else J b j) = J b j
    rw [if_neg (by omega), if_neg (by omega), if_neg (by omega)]
/-- a new state -/
theorem i_state (hz : c.2.2.1 < 800000) : ∃ (c' : CC) (A' : AI) (J' : JI), (∀ k : Nat → AS → Option AR, nO (CW c A J) 9 8 (fun q s => cS s (fX5_init q s) (qV (k q))) = k c.2.2.1 (CW c' A' J')) ∧ isState c' c.2.2.1 ∧ exc c c' ∧ (c'.2.2.1 = c.2.2.1 + 35 ∧ c'.2.2.2.1 = c.2.2.2.1 + 35 ∧ c'.2.2.2.2 = c.2.2.2.2 + 490) ∧ (∀ (b : Nat) (z : Int), b < c.2.2.1 → A' b z = A b z) ∧ ∀ (b j : Nat), b < c.2.2.1 → J' b j = J b j := by
  have o1 : okc (nwC (nwC c 9 8) 111 8) c.2.2.1 9 8 := okc_x (c := (nwC c 9 8)) ⟨Nat.lt_succ_self _, if_pos rfl⟩ (exc.new _ _ _)
  have o2 : okc (nwC (ptC (nwC (nwC c 9 8) 111 8) c.2.2.1 0 (nwC c 9 8).2.2.1) 100 10) c.2.2.1 9 8 := okc_x (c := (ptC (nwC (nwC c 9 8) 111 8) c.2.2.1 0 (nwC c 9 8).2.2.1)) (okc_pt o1 _ _ _) (exc.new _ _ _)
  have z1 : (nwC c 9 8).2.2.1 = c.2.2.1 + 1 := rfl
  have z2 : (ptC (nwC (nwC c 9 8) 111 8) c.2.2.1 0 (nwC c 9 8).2.2.1).2.2.1 = c.2.2.1 + 2 := rfl
  obtain ⟨c', A', J', e, ⟨y1, y2, y3⟩, ⟨q1, q2, q3⟩, ⟨q4, q5⟩, q6, q7, q8, q9⟩ := i_rows (c0 := c) (A0 := A) (J0 := J) (S := c.2.2.1) ⟨rfl, hz⟩ (i_st0 (c := c) (A := A) (J := J) hz)
  have y1' : c'.2.2.1 = c.2.2.1 + 35 := y1
  have y2' : c'.2.2.2.1 = c.2.2.2.1 + 35 := y2
  have y3' : c'.2.2.2.2 = c.2.2.2.2 + 490 := by rw [y3]; show c.2.2.2.2 + 26 + 58 * 8 = _; omega
  refine ⟨c', A', J', fun k => ?_, ⟨⟨q1, q2, q3⟩, ⟨q4, q5⟩, q6⟩, q7, ⟨y1', y2', y3'⟩, q8, q9⟩
  rw [k_nO _ (by omega), fX5_init, k_nA (n := 8) _ (by omega) (by decide), k_sR o1, k_nA (n := 10) _ (by omega) (by decide), k_sR o2, il0, e, k_Cl (c := (nwC c 9 8)) (c' := c') ⟨by show c.2.2.1 + 1 ≤ _; omega, by show c.2.2.2.1 + 1 ≤ _; omega, by show c.2.2.2.2 + 8 ≤ _; omega⟩, q_V]
end IST
