/-! THE LAW: is the chase like the World? all rows -/
section LK3
variable {C0 N0 n : Nat} {c c' c2 : CC} {A A' A2 : AI} {J J' J2 : JI} {M : AI} {g o : Int → Int} {pl sp tv cap k m w q : Nat} {r : Int}
theorem n_thrB (h : LwS C0 N0 n pl sp tv cap c A J M g o w) (hr : 0 ≤ r ∧ r < M 0 3) (hro : RO C0 N0 n cap c 3 13) : ∃ (c' : CC) (A' : AI) (J' : JI), (∀ K : Int32 → AS → Option AR, nA (CW c A J) 100 2 (fun q5 s6 => uI s6 q5 0 (ii r) (fun s7 => gR s7 w 13 9 (fun q8 => aI s7 q8 100 (ii r) (fun v9 => uI s7 q5 1 v9 (fun s10 => cR s10 (fL_thrown 0 3 q5 s10) (qI K)))))) = K (ii 2) (CW c' A' J')) ∧ LX 3 13 c c' A A' J J' := by
  have h38 := h.li.1.1.2.1
  have x1 : LX 1 2 c (nwC c 100 2) A (up (nwA c A) c.2.2.1 0 r) J (nwJ c J) := (LX.new c A J 100 2).upN _ _ _ (Nat.le_refl _)
  have x2 := x1.upN c.2.2.1 1 (cel g r 0) (Nat.le_refl _)
  have ha := h.lx x1 (by omega)
  have hb := h.lx x2 (by omega)
  obtain ⟨hI2, hl2, ⟨hW2, hR2⟩, -⟩ := hb
  have hv := (ha.2.2.1.2.2.2.2.1 r hr.1 hr.2).1.1
  have o1 : okc (nwC c 100 2) c.2.2.1 100 2 := ⟨Nat.lt_succ_self _, if_pos rfl⟩
  have z1 : (nwC c 100 2).2.2.1 = c.2.2.1 + 1 := rfl
  have z2 : (nwC c 100 2).2.2.2.1 = c.2.2.2.1 + 1 := rfl
  have z3 : (nwC c 100 2).2.2.2.2 = c.2.2.2.2 + 2 := rfl
  have e0 : up (up (nwA c A) c.2.2.1 0 r) c.2.2.1 1 (cel g r 0) c.2.2.1 0 = r := by rw [up_n _ _ _ _ _ _ (by omega), up_s]
  have e1 : up (up (nwA c A) c.2.2.1 0 r) c.2.2.1 1 (cel g r 0) c.2.2.1 1 = cel g r 0 := up_s _ _ _ _
  obtain ⟨c3, A3, J3, y1, y2⟩ := t_thr_block (J := nwJ c J) (A := up (up (nwA c A) c.2.2.1 0 r) c.2.2.1 1 (cel g r 0)) (L := 2) hI2.1 (by omega) o1 (by omega) nCode2 (fun c4 A4 J4 hx => by
    have hI4 := hI2.lx hx (by omega) (by omega) (by omega)
    refine ⟨A4, J4, ?_, frm.refl _ _ _⟩
    rw [e0, e1]
    exact d_block2 hI4 hl2.1 hl2.2 r hr)
  refine ⟨c3, A3, J3, fun K => ?_, x2.trans y2⟩
  rw [k_nA (n := 2) _ (by omega) ⟨rfl, by decide, by omega⟩, show (0 : Int32) = ii 0 from rfl, k_uI o1 0 r (by omega), wdR9 hW2, wdA27 hW2 r _ (by omega), hv, show (1 : Int32) = ii 1 from rfl, k_uI o1 1 _ (by omega), y1, k_R y2, q_I]
theorem n_thrP (h : LwS C0 N0 n pl sp tv cap c A J M g o w) (hr : 0 ≤ r ∧ r < M 0 3) (hro : RO C0 N0 n cap c 3 13) : ∃ (c' : CC) (A' : AI) (J' : JI), (∀ K : Int32 → AS → Option AR, nA (CW c A J) 100 2 (fun q5 s6 => uI s6 q5 0 (ii r) (fun s7 => gR s7 w 13 10 (fun q8 => aI s7 q8 100 (ii r) (fun v9 => uI s7 q5 1 v9 (fun s10 => cR s10 (fL_thrown 0 4 q5 s10) (qI K)))))) = K (ii 2) (CW c' A' J')) ∧ LX 3 13 c c' A A' J J' := by
  have h38 := h.li.1.1.2.1
  have x1 : LX 1 2 c (nwC c 100 2) A (up (nwA c A) c.2.2.1 0 r) J (nwJ c J) := (LX.new c A J 100 2).upN _ _ _ (Nat.le_refl _)
  have x2 := x1.upN c.2.2.1 1 (cel g r 1) (Nat.le_refl _)
  have ha := h.lx x1 (by omega)
  have hb := h.lx x2 (by omega)
  obtain ⟨hI2, hl2, ⟨hW2, hR2⟩, -⟩ := hb
  have hv := (ha.2.2.1.2.2.2.2.1 r hr.1 hr.2).1.2.1
  have o1 : okc (nwC c 100 2) c.2.2.1 100 2 := ⟨Nat.lt_succ_self _, if_pos rfl⟩
  have z1 : (nwC c 100 2).2.2.1 = c.2.2.1 + 1 := rfl
  have z2 : (nwC c 100 2).2.2.2.1 = c.2.2.2.1 + 1 := rfl
  have z3 : (nwC c 100 2).2.2.2.2 = c.2.2.2.2 + 2 := rfl
  have e0 : up (up (nwA c A) c.2.2.1 0 r) c.2.2.1 1 (cel g r 1) c.2.2.1 0 = r := by rw [up_n _ _ _ _ _ _ (by omega), up_s]
  have e1 : up (up (nwA c A) c.2.2.1 0 r) c.2.2.1 1 (cel g r 1) c.2.2.1 1 = cel g r 1 := up_s _ _ _ _
  obtain ⟨c3, A3, J3, y1, y2⟩ := t_thr_piece (J := nwJ c J) (A := up (up (nwA c A) c.2.2.1 0 r) c.2.2.1 1 (cel g r 1)) (L := 2) hI2.1 (by omega) o1 (by omega) nCode2 (fun c4 A4 J4 hx => by
    have hI4 := hI2.lx hx (by omega) (by omega) (by omega)
    refine ⟨A4, J4, ?_, frm.refl _ _ _⟩
    rw [e0, e1]
    exact d_piece2 hI4 hl2.1 hl2.2 r hr)
  refine ⟨c3, A3, J3, fun K => ?_, x2.trans y2⟩
  rw [k_nA (n := 2) _ (by omega) ⟨rfl, by decide, by omega⟩, show (0 : Int32) = ii 0 from rfl, k_uI o1 0 r (by omega), wdR10 hW2, wdA28 hW2 r _ (by omega), hv, show (1 : Int32) = ii 1 from rfl, k_uI o1 1 _ (by omega), y1, k_R y2, q_I]
theorem n_like333 (h : LwS C0 N0 n pl sp tv cap c A J M g o w) (hr : 0 ≤ r ∧ r < M 0 3) (hro : RO C0 N0 n cap c 6 26) (b p : Int) (x4 : Int32) (r10 : _) : ∃ (c' : CC) (A' : AI) (J' : JI), fL_isLike_333 r10 0 w (ii b) (ii p) x4 (ii r) (CW c A J) = r10 0 w (ii (b + cel g r 0)) (ii (p + cel g r 1)) x4 (ii (r + 1)) (CW c' A' J') ∧ LX 6 26 c c' A A' J J' := by
  obtain ⟨hM, hP, hS, hG⟩ := h.li
  have h38 := hM.1.2.1
  have h4 := h.2.2.2.2.1
  have e1 := d_isTight h.1 h.2.1.1 h.2.1.2 r hr
  have e2 := n_isTight (J := J) h.2.2.1.1 h.2.2.1.2 hM hG h4 hr
  obtain ⟨c3, A3, J3, y1, y2⟩ := n_thrB h hr (by omega)
  have h3 := h.lx y2 (by omega)
  have b3 := y2.2.1
  obtain ⟨c5, A5, J5, y3, y4⟩ := n_thrP h3 hr (by omega)
  have h5 := h3.lx y4 (by omega)
  obtain ⟨hI5, hl5, ⟨hW5, hR5⟩, -⟩ := h5
  have v1 := (hR5.2.2.2.1 r hr.1 hr.2).1.1
  have v2 := (hR5.2.2.2.1 r hr.1 hr.2).1.2.1
  refine ⟨c5, A5, J5, ?_, y2.trans y4⟩
  have n2 : ii 2 = (2 : Int32) := rfl
  rw [fL_isLike_333, lkV h.1.1, e1, k_C, q_I, wdV h.2.2.1.1, e2, k_C, q_I, if_pos rfl, y1, if_pos n2, y3, if_pos n2, wdR9 hW5, wdA27 hW5 r _ (by omega), v1, lt_q, ii_add, wdR10 hW5, wdA28 hW5 r _ (by omega), v2, lt_q, ii_add, lt_q, show (1 : Int32) = ii 1 from rfl, ii_add]
end LK3
