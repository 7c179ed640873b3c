/-! THE LAW: is the chase like the World? counts -/
section LK6
variable {C0 N0 n : Nat} {c c' c2 : CC} {A A' A2 : AI} {J J' J2 : JI} {M : AI} {g o : Int → Int} {pl sp tv cap k m w q : Nat} {r : Int}
theorem n_like713 (h : LwS C0 N0 n pl sp tv cap c A J M g o w) (ho : okc c q 100 12) (hq : ∀ k : Int, 0 ≤ k → k < 12 → A q k = cnv M g k) : fL_isLike_713 FU 0 w q 0 (CW c A J) = fL_isLike_742 0 w (CW c A J) := by
  obtain ⟨hI, hl, -⟩ := h
  rw [show (0 : Int32) = ii 0 from rfl]
  refine lp (fun f i (_ : Unit) => fL_isLike_713 f 0 w q (ii i) (CW c A J)) (fun x => x = fL_isLike_742 0 w (CW c A J)) (fun i _ => 0 ≤ i) 12 ?_ ?_ FU 0 () (by omega) (by omega) (by have := FU_e; omega)
  · rintro f i ⟨⟩ hi h0
    have e1 := d_count hI hl.1 hl.2 i ⟨h0, hi⟩
    refine Or.inr ⟨(), by omega, ?_⟩
    show fL_isLike_713 (f + 1) 0 w q (ii i) (CW c A J) = _
    rw [fL_isLike_713, show (12 : Int32) = ii 12 from rfl, if_neg (by rw [ii_le _ _ (by omega)]; omega), lkV hI.1, e1, k_C, q_I, k_aI ho i (by omega), hq i h0 hi, if_pos rfl, lt_q, show (1 : Int32) = ii 1 from rfl, ii_add]
  · rintro f ⟨⟩ h0
    rw [fL_isLike_713, show (12 : Int32) = ii 12 from rfl, if_pos (Int32.le_refl _)]
theorem n_like610 (h : LwS C0 N0 n pl sp tv cap c A J M g o w) (hro : RO C0 N0 n cap c 8 44) : ∃ (c' : CC) (A' : AI) (J' : JI), fL_isLike_610 0 w (ii (sm (fun r => cel g r 0) (M 0 3))) (ii (sm (fun r => cel g r 1) (M 0 3))) (ii (sm (fun k => g (6 + k)) (M 0 9))) (CW c A J) = some (Sum.inl (some (Value.int (ii (1)))), CW c' A' J') ∧ LX 8 44 c c' A A' J J' := by
  obtain ⟨hM, hP, hS, hG⟩ := h.li
  have h4 := h.2.2.2.2.1
  have hx0 := LX.new c A J 100 12
  have W1 := h.2.2.1.1.x hx0.1
  have o1 : okc (nwC c 100 12) c.2.2.1 100 12 := ⟨Nat.lt_succ_self _, if_pos rfl⟩
  obtain ⟨E1, hE1⟩ : ∃ E, E = up (nwA c A) c.2.2.1 0 (cnv M g 0) := ⟨_, rfl⟩
  have x1 : LX 1 12 c (nwC c 100 12) A E1 J (nwJ c J) := by rw [hE1]; exact hx0.upN _ _ _ (Nat.le_refl _)
  obtain ⟨E2, hE2⟩ : ∃ E, E = up E1 c.2.2.1 1 (cnv M g 1) := ⟨_, rfl⟩
  have x2 : LX 1 12 c (nwC c 100 12) A E2 J (nwJ c J) := by rw [hE2]; exact x1.upN _ _ _ (Nat.le_refl _)
  obtain ⟨E3, hE3⟩ : ∃ E, E = up E2 c.2.2.1 2 (cnv M g 2) := ⟨_, rfl⟩
  have x3 : LX 1 12 c (nwC c 100 12) A E3 J (nwJ c J) := by rw [hE3]; exact x2.upN _ _ _ (Nat.le_refl _)
  obtain ⟨E4, hE4⟩ : ∃ E, E = up E3 c.2.2.1 3 (cnv M g 3) := ⟨_, rfl⟩
  have x4 : LX 1 12 c (nwC c 100 12) A E4 J (nwJ c J) := by rw [hE4]; exact x3.upN _ _ _ (Nat.le_refl _)
  obtain ⟨E5, hE5⟩ : ∃ E, E = up E4 c.2.2.1 4 (cnv M g 4) := ⟨_, rfl⟩
  have x5 : LX 1 12 c (nwC c 100 12) A E5 J (nwJ c J) := by rw [hE5]; exact x4.upN _ _ _ (Nat.le_refl _)
  obtain ⟨E6, hE6⟩ : ∃ E, E = up E5 c.2.2.1 5 (cnv M g 5) := ⟨_, rfl⟩
  have x6 : LX 1 12 c (nwC c 100 12) A E6 J (nwJ c J) := by rw [hE6]; exact x5.upN _ _ _ (Nat.le_refl _)
  obtain ⟨E7, hE7⟩ : ∃ E, E = up E6 c.2.2.1 6 (cnv M g 6) := ⟨_, rfl⟩
  have x7 : LX 1 12 c (nwC c 100 12) A E7 J (nwJ c J) := by rw [hE7]; exact x6.upN _ _ _ (Nat.le_refl _)
  obtain ⟨E8, hE8⟩ : ∃ E, E = up E7 c.2.2.1 7 (cnv M g 7) := ⟨_, rfl⟩
  have x8 : LX 1 12 c (nwC c 100 12) A E8 J (nwJ c J) := by rw [hE8]; exact x7.upN _ _ _ (Nat.le_refl _)
  obtain ⟨E9, hE9⟩ : ∃ E, E = up E8 c.2.2.1 8 (cnv M g 8) := ⟨_, rfl⟩
  have x9 : LX 1 12 c (nwC c 100 12) A E9 J (nwJ c J) := by rw [hE9]; exact x8.upN _ _ _ (Nat.le_refl _)
  obtain ⟨E10, hE10⟩ : ∃ E, E = up E9 c.2.2.1 9 (cnv M g 9) := ⟨_, rfl⟩
  have x10 : LX 1 12 c (nwC c 100 12) A E10 J (nwJ c J) := by rw [hE10]; exact x9.upN _ _ _ (Nat.le_refl _)
  obtain ⟨E11, hE11⟩ : ∃ E, E = up E10 c.2.2.1 10 (cnv M g 10) := ⟨_, rfl⟩
  have x11 : LX 1 12 c (nwC c 100 12) A E11 J (nwJ c J) := by rw [hE11]; exact x10.upN _ _ _ (Nat.le_refl _)
  obtain ⟨E12, hE12⟩ : ∃ E, E = up E11 c.2.2.1 11 (cnv M g 11) := ⟨_, rfl⟩
  have x12 : LX 1 12 c (nwC c 100 12) A E12 J (nwJ c J) := by rw [hE12]; exact x11.upN _ _ _ (Nat.le_refl _)
  have v0 : nwA c A (w + 3) 1 = cnv M g 0 := (h.lx hx0 (by omega)).2.2.1.2.1.1.2.1
  have v1 : E1 w 14 = cnv M g 1 := (h.lx x1 (by omega)).2.2.1.2.1.2.1
  have v2 : E2 w 15 = cnv M g 2 := (h.lx x2 (by omega)).2.2.1.2.1.2.2
  have v6 : E6 (w + 7) 0 = cnv M g 6 := (h.lx x6 (by omega)).2.2.1.2.2.2.1.1
  have v7 : E7 (w + 7) 1 = cnv M g 7 := (h.lx x7 (by omega)).2.2.1.2.2.2.1.2.1
  have v8 : E8 (w + 7) 2 = cnv M g 8 := (h.lx x8 (by omega)).2.2.1.2.2.2.1.2.2.1
  have v9 : E9 (w + 7) 3 = cnv M g 9 := (h.lx x9 (by omega)).2.2.1.2.2.2.1.2.2.2.1
  have v10 : E10 (w + 7) 4 = cnv M g 10 := (h.lx x10 (by omega)).2.2.1.2.2.2.1.2.2.2.2
  have q5 : fX19_tight w (CW (nwC c 100 12) E5 (nwJ c J)) = some (Sum.inl (some (Value.int (ii (cnv M g 5)))), CW (nwC c 100 12) E5 (nwJ c J)) := n_tightN W1 (h.lx x5 (by omega)).2.2.1.2 hM hG h4
  have h6 := h.lx x12 (by omega)
  have z1 : (nwC c 100 12).2.2.1 = c.2.2.1 + 1 := rfl
  have z2 : (nwC c 100 12).2.2.2.1 = c.2.2.2.1 + 1 := rfl
  have z3 : (nwC c 100 12).2.2.2.2 = c.2.2.2.2 + 12 := rfl
  have hq : ∀ k : Int, 0 ≤ k → k < 12 → E12 c.2.2.1 k = cnv M g k := fun k a b => by
    rcases (show k = 0 ∨ k = 1 ∨ k = 2 ∨ k = 3 ∨ k = 4 ∨ k = 5 ∨ k = 6 ∨ k = 7 ∨ k = 8 ∨ k = 9 ∨ k = 10 ∨ k = 11 by omega) with rfl | rfl | rfl | rfl | rfl | rfl | rfl | rfl | rfl | rfl | rfl | rfl
    · rw [hE12, up_n _ _ _ _ _ _ (by omega), hE11, up_n _ _ _ _ _ _ (by omega), hE10, up_n _ _ _ _ _ _ (by omega), hE9, up_n _ _ _ _ _ _ (by omega), hE8, up_n _ _ _ _ _ _ (by omega), hE7, up_n _ _ _ _ _ _ (by omega), hE6, up_n _ _ _ _ _ _ (by omega), hE5, up_n _ _ _ _ _ _ (by omega), hE4, up_n _ _ _ _ _ _ (by omega), hE3, up_n _ _ _ _ _ _ (by omega), hE2, up_n _ _ _ _ _ _ (by omega), hE1, up_s]
    · rw [hE12, up_n _ _ _ _ _ _ (by omega), hE11, up_n _ _ _ _ _ _ (by omega), hE10, up_n _ _ _ _ _ _ (by omega), hE9, up_n _ _ _ _ _ _ (by omega), hE8, up_n _ _ _ _ _ _ (by omega), hE7, up_n _ _ _ _ _ _ (by omega), hE6, up_n _ _ _ _ _ _ (by omega), hE5, up_n _ _ _ _ _ _ (by omega), hE4, up_n _ _ _ _ _ _ (by omega), hE3, up_n _ _ _ _ _ _ (by omega), hE2, up_s]
    · rw [hE12, up_n _ _ _ _ _ _ (by omega), hE11, up_n _ _ _ _ _ _ (by omega), hE10, up_n _ _ _ _ _ _ (by omega), hE9, up_n _ _ _ _ _ _ (by omega), hE8, up_n _ _ _ _ _ _ (by omega), hE7, up_n _ _ _ _ _ _ (by omega), hE6, up_n _ _ _ _ _ _ (by omega), hE5, up_n _ _ _ _ _ _ (by omega), hE4, up_n _ _ _ _ _ _ (by omega), hE3, up_s]
    · rw [hE12, up_n _ _ _ _ _ _ (by omega), hE11, up_n _ _ _ _ _ _ (by omega), hE10, up_n _ _ _ _ _ _ (by omega), hE9, up_n _ _ _ _ _ _ (by omega), hE8, up_n _ _ _ _ _ _ (by omega), hE7, up_n _ _ _ _ _ _ (by omega), hE6, up_n _ _ _ _ _ _ (by omega), hE5, up_n _ _ _ _ _ _ (by omega), hE4, up_s]
    · rw [hE12, up_n _ _ _ _ _ _ (by omega), hE11, up_n _ _ _ _ _ _ (by omega), hE10, up_n _ _ _ _ _ _ (by omega), hE9, up_n _ _ _ _ _ _ (by omega), hE8, up_n _ _ _ _ _ _ (by omega), hE7, up_n _ _ _ _ _ _ (by omega), hE6, up_n _ _ _ _ _ _ (by omega), hE5, up_s]
    · rw [hE12, up_n _ _ _ _ _ _ (by omega), hE11, up_n _ _ _ _ _ _ (by omega), hE10, up_n _ _ _ _ _ _ (by omega), hE9, up_n _ _ _ _ _ _ (by omega), hE8, up_n _ _ _ _ _ _ (by omega), hE7, up_n _ _ _ _ _ _ (by omega), hE6, up_s]
    · rw [hE12, up_n _ _ _ _ _ _ (by omega), hE11, up_n _ _ _ _ _ _ (by omega), hE10, up_n _ _ _ _ _ _ (by omega), hE9, up_n _ _ _ _ _ _ (by omega), hE8, up_n _ _ _ _ _ _ (by omega), hE7, up_s]
    · rw [hE12, up_n _ _ _ _ _ _ (by omega), hE11, up_n _ _ _ _ _ _ (by omega), hE10, up_n _ _ _ _ _ _ (by omega), hE9, up_n _ _ _ _ _ _ (by omega), hE8, up_s]
    · rw [hE12, up_n _ _ _ _ _ _ (by omega), hE11, up_n _ _ _ _ _ _ (by omega), hE10, up_n _ _ _ _ _ _ (by omega), hE9, up_s]
    · rw [hE12, up_n _ _ _ _ _ _ (by omega), hE11, up_n _ _ _ _ _ _ (by omega), hE10, up_s]
    · rw [hE12, up_n _ _ _ _ _ _ (by omega), hE11, up_s]
    · rw [hE12, up_s]
  have e8 := n_like713 h6 o1 hq
  obtain ⟨c2, A2, J2, e9, x9⟩ := n_like742 h6 (by omega)
  refine ⟨c2, A2, J2, ?_, x12.trans x9⟩
  have u : ∀ (E : AI) (i v : Int) (k : AS → Option AR), 0 ≤ i ∧ i < 12 → uI (CW (nwC c 100 12) E (nwJ c J)) c.2.2.1 (ii i) (ii v) k = k (CW (nwC c 100 12) (up E c.2.2.1 i v) (nwJ c J)) := fun E i v k hi => k_uI o1 i v (by omega) k
  have l0 : (0 : Int32) = ii 0 := rfl
  have l1 : (1 : Int32) = ii 1 := rfl
  have l2 : (2 : Int32) = ii 2 := rfl
  have l3 : (3 : Int32) = ii 3 := rfl
  have l4 : (4 : Int32) = ii 4 := rfl
  have l5 : (5 : Int32) = ii 5 := rfl
  have l6 : (6 : Int32) = ii 6 := rfl
  have l7 : (7 : Int32) = ii 7 := rfl
  have l8 : (8 : Int32) = ii 8 := rfl
  have l9 : (9 : Int32) = ii 9 := rfl
  have l10 : (10 : Int32) = ii 10 := rfl
  have l11 : (11 : Int32) = ii 11 := rfl
  have c3 : sm (fun r => cel g r 0) (M 0 3) = cnv M g 3 := rfl
  have c4 : sm (fun r => cel g r 1) (M 0 3) = cnv M g 4 := rfl
  have c11 : sm (fun k => g (6 + k)) (M 0 9) = cnv M g 11 := rfl
  rw [← e9, ← e8, c3, c4, c11, fL_isLike_610, k_nA (n := 12) _ (by omega) ⟨rfl, by decide, by omega⟩, l0, l1, l2, l3, l4, l5, l6, l7, l8, l9, l10, l11, wdR1 W1, wdA3 W1 1 _ (by omega), v0, u _ 0 _ _ (by omega), ← hE1, wdI14 W1, v1, u _ 1 _ _ (by omega), ← hE2, wdI15 W1, v2, u _ 2 _ _ (by omega), ← hE3, u _ 3 _ _ (by omega), ← hE4, u _ 4 _ _ (by omega), ← hE5, wdV W1, q5, k_C, q_I, u _ 5 _ _ (by omega), ← hE6, wdR5 W1, wdA7 W1 0 _ (by omega), v6, u _ 6 _ _ (by omega), ← hE7, wdR5 W1, wdA7 W1 1 _ (by omega), v7, u _ 7 _ _ (by omega), ← hE8, wdR5 W1, wdA7 W1 2 _ (by omega), v8, u _ 8 _ _ (by omega), ← hE9, wdR5 W1, wdA7 W1 3 _ (by omega), v9, u _ 9 _ _ (by omega), ← hE10, wdR5 W1, wdA7 W1 4 _ (by omega), v10, u _ 10 _ _ (by omega), ← hE11, u _ 11 _ _ (by omega), ← hE12]
end LK6
