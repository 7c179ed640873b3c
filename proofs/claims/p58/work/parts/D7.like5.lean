/-! THE LAW: is the chase like the World? settings, the end -/
section LK5
variable {C0 N0 n : Nat} {c c' c2 : CC} {A A' A2 : AI} {J J' J2 : JI} {M : AI} {g o : Int → Int} {pl sp tv cap k m w q : Nat} {r : Int}
theorem n_thrR (h : LwS C0 N0 n pl sp tv cap c A J M g o w) (hro : RO C0 N0 n cap c 3 13) : ∃ (c' : CC) (A' : AI) (J' : JI), (∀ K : Int32 → AS → Option AR, nA (CW c A J) 100 2 (fun q1 s2 => gR s2 w 13 1 (fun q3 => aI s2 q3 100 1 (fun v4 => uI s2 q1 0 v4 (fun s5 => uI s5 q1 1 0 (fun s6 => cR s6 (fL_thrown 0 2 q1 s6) (qI K)))))) = K (ii 2) (CW c' A' J')) ∧ LX 3 13 c c' A A' J J' := by
  have h38 := h.li.1.1.2.1
  have x0 := LX.new c A J 100 2
  have x2 := (x0.upN c.2.2.1 0 (M 0 3) (Nat.le_refl _)).upN c.2.2.1 1 0 (Nat.le_refl _)
  have ha := h.lx x0 (by omega)
  have hb := h.lx x2 (by omega)
  obtain ⟨hI2, hl2, ⟨hW2, hR2⟩, -⟩ := hb
  have hv := ha.2.2.1.2.1.1.2.1
  have o1 : okc (nwC c 100 2) c.2.2.1 100 2 := ⟨Nat.lt_succ_self _, if_pos rfl⟩
  have z1 : (nwC c 100 2).2.2.1 = c.2.2.1 + 1 := rfl
  have z2 : (nwC c 100 2).2.2.2.1 = c.2.2.2.1 + 1 := rfl
  have z3 : (nwC c 100 2).2.2.2.2 = c.2.2.2.2 + 2 := rfl
  have e0 : up (up (nwA c A) c.2.2.1 0 (M 0 3)) c.2.2.1 1 0 c.2.2.1 0 = M 0 3 := by rw [up_n _ _ _ _ _ _ (by omega), up_s]
  have e1 : up (up (nwA c A) c.2.2.1 0 (M 0 3)) c.2.2.1 1 0 c.2.2.1 1 = 0 := up_s _ _ _ _
  obtain ⟨c3, A3, J3, y1, y2⟩ := t_thr_row (J := nwJ c J) (A := up (up (nwA c A) c.2.2.1 0 (M 0 3)) c.2.2.1 1 0) (L := 2) hI2.1 (by omega) o1 (by omega) nCode2 (fun c4 A4 J4 hx => by
    have hI4 := hI2.lx hx (by omega) (by omega) (by omega)
    refine ⟨A4, J4, ?_, frm.refl _ _ _⟩
    rw [e0, e1]
    exact d_rowN hI4 hl2.1 hl2.2 0)
  refine ⟨c3, A3, J3, fun K => ?_, x2.trans y2⟩
  rw [k_nA (n := 2) _ (by omega) ⟨rfl, by decide, by omega⟩, wdR1 hW2, show (1 : Int32) = ii 1 from rfl, wdA3 hW2 1 _ (by omega), hv, show (0 : Int32) = ii 0 from rfl, k_uI o1 0 _ (by omega), k_uI o1 1 0 (by omega), y1, k_R y2, q_I]
theorem n_thrK (h : LwS C0 N0 n pl sp tv cap c A J M g o w) (hro : RO C0 N0 n cap c 3 13) : ∃ (c' : CC) (A' : AI) (J' : JI), (∀ K : Int32 → AS → Option AR, nA (CW c A J) 100 2 (fun q1 s2 => gI s2 w 13 14 (fun v4 => uI s2 q1 0 v4 (fun s5 => uI s5 q1 1 0 (fun s6 => cR s6 (fL_thrown 0 5 q1 s6) (qI K))))) = K (ii 2) (CW c' A' J')) ∧ LX 3 13 c c' A A' J J' := by
  have h38 := h.li.1.1.2.1
  have x0 := LX.new c A J 100 2
  have x2 := (x0.upN c.2.2.1 0 (M 0 9) (Nat.le_refl _)).upN c.2.2.1 1 0 (Nat.le_refl _)
  have ha := h.lx x0 (by omega)
  have hb := h.lx x2 (by omega)
  obtain ⟨hI2, hl2, ⟨hW2, hR2⟩, -⟩ := hb
  have hv := ha.2.2.1.2.1.2.1
  have o1 : okc (nwC c 100 2) c.2.2.1 100 2 := ⟨Nat.lt_succ_self _, if_pos rfl⟩
  have z1 : (nwC c 100 2).2.2.1 = c.2.2.1 + 1 := rfl
  have z2 : (nwC c 100 2).2.2.2.1 = c.2.2.2.1 + 1 := rfl
  have z3 : (nwC c 100 2).2.2.2.2 = c.2.2.2.2 + 2 := rfl
  have e0 : up (up (nwA c A) c.2.2.1 0 (M 0 9)) c.2.2.1 1 0 c.2.2.1 0 = M 0 9 := by rw [up_n _ _ _ _ _ _ (by omega), up_s]
  have e1 : up (up (nwA c A) c.2.2.1 0 (M 0 9)) c.2.2.1 1 0 c.2.2.1 1 = 0 := up_s _ _ _ _
  obtain ⟨c3, A3, J3, y1, y2⟩ := t_thr_kind (J := nwJ c J) (A := up (up (nwA c A) c.2.2.1 0 (M 0 9)) c.2.2.1 1 0) (L := 2) hI2.1 (by omega) o1 (by omega) nCode2 (fun c4 A4 J4 hx => by
    have hI4 := hI2.lx hx (by omega) (by omega) (by omega)
    refine ⟨A4, J4, ?_, frm.refl _ _ _⟩
    rw [e0, e1]
    exact d_kindN hI4 hl2.1 hl2.2 0)
  refine ⟨c3, A3, J3, fun K => ?_, x2.trans y2⟩
  rw [k_nA (n := 2) _ (by omega) ⟨rfl, by decide, by omega⟩, wdI14 hW2, hv, show (0 : Int32) = ii 0 from rfl, k_uI o1 0 _ (by omega), show (1 : Int32) = ii 1 from rfl, k_uI o1 1 0 (by omega), y1, k_R y2, q_I]
theorem n_like835 (h : LwS C0 N0 n pl sp tv cap c A J M g o w) (hro : RO C0 N0 n cap c 6 26) : ∃ (c' : CC) (A' : AI) (J' : JI), fL_isLike_835 0 w (CW c A J) = some (Sum.inl (some (Value.int (ii (1)))), CW c' A' J') ∧ LX 6 26 c c' A A' J J' := by
  obtain ⟨c3, A3, J3, y1, y2⟩ := n_thrR h (by omega)
  have h3 := h.lx y2 (by omega)
  have b3 := y2.2.1
  obtain ⟨c5, A5, J5, y3, y4⟩ := n_thrK h3 (by omega)
  refine ⟨c5, A5, J5, ?_, y2.trans y4⟩
  have n2 : ii 2 = (2 : Int32) := rfl
  rw [fL_isLike_835, y1, if_pos n2, y3, if_pos n2]
  rfl
theorem n_like806 (h : LwS C0 N0 n pl sp tv cap c A J M g o w) (ho : okc c q 100 6) (hq : ∀ k : Int, 0 ≤ k → k < 6 → A q k = stv M k) : fL_isLike_806 FU 0 w q 0 (CW c A J) = fL_isLike_835 0 w (CW c A J) := by
  obtain ⟨hI, hl, -⟩ := h
  rw [show (0 : Int32) = ii 0 from rfl]
  refine lp (fun f i (_ : Unit) => fL_isLike_806 f 0 w q (ii i) (CW c A J)) (fun x => x = fL_isLike_835 0 w (CW c A J)) (fun i _ => 0 ≤ i) 6 ?_ ?_ FU 0 () (by omega) (by omega) (by have := FU_e; omega)
  · rintro f i ⟨⟩ hi h0
    have e1 := d_setting hI hl.1 hl.2 i ⟨h0, hi⟩
    refine Or.inr ⟨(), by omega, ?_⟩
    show fL_isLike_806 (f + 1) 0 w q (ii i) (CW c A J) = _
    rw [fL_isLike_806, show (6 : Int32) = ii 6 from rfl, if_neg (by rw [ii_le _ _ (by omega)]; omega), lkV hI.1, e1, k_C, q_I, k_aI ho i (by omega), hq i h0 hi, if_pos rfl, lt_q, show (1 : Int32) = ii 1 from rfl, ii_add]
  · rintro f ⟨⟩ h0
    rw [fL_isLike_806, show (6 : Int32) = ii 6 from rfl, if_pos (Int32.le_refl _)]
theorem n_like742 (h : LwS C0 N0 n pl sp tv cap c A J M g o w) (hro : RO C0 N0 n cap c 7 32) : ∃ (c' : CC) (A' : AI) (J' : JI), fL_isLike_742 0 w (CW c A J) = some (Sum.inl (some (Value.int (ii (1)))), CW c' A' J') ∧ LX 7 32 c c' A A' J J' := by
  have hx0 := LX.new c A J 100 6
  have W1 := h.2.2.1.1.x hx0.1
  have h38 := h.li.1.1.2.1
  have o1 : okc (nwC c 100 6) c.2.2.1 100 6 := ⟨Nat.lt_succ_self _, if_pos rfl⟩
  obtain ⟨z, hz⟩ : ∃ z, z = c.2.2.1 := ⟨_, rfl⟩
  obtain ⟨E1, hE1⟩ : ∃ E, E = up (nwA c A) c.2.2.1 0 (stv M 0) := ⟨_, rfl⟩
  have x1 : LX 1 6 c (nwC c 100 6) A E1 J (nwJ c J) := by rw [hE1]; exact hx0.upN _ _ _ (Nat.le_refl _)
  obtain ⟨E2, hE2⟩ : ∃ E, E = up E1 c.2.2.1 1 (stv M 1) := ⟨_, rfl⟩
  have x2 : LX 1 6 c (nwC c 100 6) A E2 J (nwJ c J) := by rw [hE2]; exact x1.upN _ _ _ (Nat.le_refl _)
  obtain ⟨E3, hE3⟩ : ∃ E, E = up E2 c.2.2.1 2 (stv M 2) := ⟨_, rfl⟩
  have x3 : LX 1 6 c (nwC c 100 6) A E3 J (nwJ c J) := by rw [hE3]; exact x2.upN _ _ _ (Nat.le_refl _)
  obtain ⟨E4, hE4⟩ : ∃ E, E = up E3 c.2.2.1 3 (stv M 3) := ⟨_, rfl⟩
  have x4 : LX 1 6 c (nwC c 100 6) A E4 J (nwJ c J) := by rw [hE4]; exact x3.upN _ _ _ (Nat.le_refl _)
  obtain ⟨E5, hE5⟩ : ∃ E, E = up E4 c.2.2.1 4 (stv M 4) := ⟨_, rfl⟩
  have x5 : LX 1 6 c (nwC c 100 6) A E5 J (nwJ c J) := by rw [hE5]; exact x4.upN _ _ _ (Nat.le_refl _)
  obtain ⟨E6, hE6⟩ : ∃ E, E = up E5 c.2.2.1 5 (stv M 5) := ⟨_, rfl⟩
  have x6 : LX 1 6 c (nwC c 100 6) A E6 J (nwJ c J) := by rw [hE6]; exact x5.upN _ _ _ (Nat.le_refl _)
  have v0 : nwA c A (w + 3) 0 = stv M 0 := (h.lx hx0 (by omega)).2.2.1.2.1.1.1
  have v1 : E1 (w + 3) 2 = stv M 1 := (h.lx x1 (by omega)).2.2.1.2.1.1.2.2.1
  have v2 : E2 (w + 3) 3 = stv M 2 := (h.lx x2 (by omega)).2.2.1.2.1.1.2.2.2.1
  have v3 : E3 (w + 3) 4 = stv M 3 := (h.lx x3 (by omega)).2.2.1.2.1.1.2.2.2.2.1
  have v4 : E4 (w + 3) 5 = stv M 4 := (h.lx x4 (by omega)).2.2.1.2.1.1.2.2.2.2.2.1
  have v5 : E5 (w + 3) 6 = stv M 5 := (h.lx x5 (by omega)).2.2.1.2.1.1.2.2.2.2.2.2
  have h6 := h.lx x6 (by omega)
  have z1 : (nwC c 100 6).2.2.1 = c.2.2.1 + 1 := rfl
  have z2 : (nwC c 100 6).2.2.2.1 = c.2.2.2.1 + 1 := rfl
  have z3 : (nwC c 100 6).2.2.2.2 = c.2.2.2.2 + 6 := rfl
  have hq : ∀ k : Int, 0 ≤ k → k < 6 → E6 c.2.2.1 k = stv M k := fun k a b => by
    rcases (show k = 0 ∨ k = 1 ∨ k = 2 ∨ k = 3 ∨ k = 4 ∨ k = 5 by omega) with rfl | rfl | rfl | rfl | rfl | rfl
    · rw [hE6, up_n _ _ _ _ _ _ (by omega), hE5, up_n _ _ _ _ _ _ (by omega), hE4, up_n _ _ _ _ _ _ (by omega), hE3, up_n _ _ _ _ _ _ (by omega), hE2, up_n _ _ _ _ _ _ (by omega), hE1, up_s]
    · rw [hE6, up_n _ _ _ _ _ _ (by omega), hE5, up_n _ _ _ _ _ _ (by omega), hE4, up_n _ _ _ _ _ _ (by omega), hE3, up_n _ _ _ _ _ _ (by omega), hE2, up_s]
    · rw [hE6, up_n _ _ _ _ _ _ (by omega), hE5, up_n _ _ _ _ _ _ (by omega), hE4, up_n _ _ _ _ _ _ (by omega), hE3, up_s]
    · rw [hE6, up_n _ _ _ _ _ _ (by omega), hE5, up_n _ _ _ _ _ _ (by omega), hE4, up_s]
    · rw [hE6, up_n _ _ _ _ _ _ (by omega), hE5, up_s]
    · rw [hE6, up_s]
  have e8 := n_like806 h6 o1 hq
  obtain ⟨c2, A2, J2, e9, x9⟩ := n_like835 h6 (by omega)
  refine ⟨c2, A2, J2, ?_, x6.trans x9⟩
  have u : ∀ (E : AI) (i v : Int) (k : AS → Option AR), 0 ≤ i ∧ i < 6 → uI (CW (nwC c 100 6) E (nwJ c J)) c.2.2.1 (ii i) (ii v) k = k (CW (nwC c 100 6) (up E c.2.2.1 i v) (nwJ c J)) := fun E i v k hi => k_uI o1 i v (by omega) k
  have l0 : (0 : Int32) = ii 0 := rfl
  have l1 : (1 : Int32) = ii 1 := rfl
  have l2 : (2 : Int32) = ii 2 := rfl
  have l3 : (3 : Int32) = ii 3 := rfl
  have l4 : (4 : Int32) = ii 4 := rfl
  have l5 : (5 : Int32) = ii 5 := rfl
  have l6 : (6 : Int32) = ii 6 := rfl
  rw [← e9, ← e8, fL_isLike_742, k_nA (n := 6) _ (by omega) ⟨rfl, by decide, by omega⟩, l0, l1, l2, l3, l4, l5, l6, wdR1 W1, wdA3 W1 0 _ (by omega), v0, u _ 0 _ _ (by omega), ← hE1, wdR1 W1, wdA3 W1 2 _ (by omega), v1, u _ 1 _ _ (by omega), ← hE2, wdR1 W1, wdA3 W1 3 _ (by omega), v2, u _ 2 _ _ (by omega), ← hE3, wdR1 W1, wdA3 W1 4 _ (by omega), v3, u _ 3 _ _ (by omega), ← hE4, wdR1 W1, wdA3 W1 5 _ (by omega), v4, u _ 4 _ _ (by omega), ← hE5, wdR1 W1, wdA3 W1 6 _ (by omega), v5, u _ 5 _ _ (by omega), ← hE6]
end LK5
