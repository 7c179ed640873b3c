/-! THE LAW: a text, byte by byte -/
section IST
variable {C0 N0 n : Nat} {c c' c2 : CC} {A A' A2 : AI} {J J' J2 : JI} {M : AI} {g : Int → Int} {pl sp tv cap k m q L : Nat} {t : Int → Int} {E : String} {cd : Int}
theorem k_R (h : LX k m c c' A2 A' J2 J') (v : Option Value) (g : Option Value → AS → Option AR) : cR (CW c A J) (some (.inl v, CW c' A' J')) g = g v (CW c' A' J') := by
  show (if ax_le (CW c A J) (CW c' A' J') then g v (CW c' A' J') else none) = _
  exact if_pos ⟨h.2.1.2.1.1, h.2.1.2.2.1, h.1.1⟩
theorem k_R0 (v : Option Value) (g : Option Value → AS → Option AR) : cR (CW c A J) (some (.inl v, CW c A' J')) g = g v (CW c A' J') := by
  show (if ax_le (CW c A J) (CW c A' J') then g v (CW c A' J') else none) = _
  exact if_pos ⟨Nat.le_refl _, Nat.le_refl _, Nat.le_refl _⟩
theorem LX.le (h : LX k m c c' A A' J J') : c.2.2.1 ≤ c'.2.2.1 ∧ c.2.2.2.1 ≤ c'.2.2.2.1 ∧ c.2.2.2.2 ≤ c'.2.2.2.2 := ⟨h.1.1, h.2.1.2.1.1, h.2.1.2.2.1⟩
/-- room for so much more -/
abbrev RO (C0 N0 n cap : Nat) (c : CC) (k m : Nat) : Prop := c.2.2.1 + k ≤ zB + cap ∧ c.2.2.1 + k < 900000 ∧ c.2.2.2.1 + k ≤ C0 + n + cap ∧ c.2.2.2.2 + m ≤ N0 + 6 * n + 2 * cap
theorem Inv.lx' (h : Inv C0 N0 n pl sp tv cap c A J M g) (hx : LX k m c c' A A' J J') (hr : RO C0 N0 n cap c k m) : Inv C0 N0 n pl sp tv cap c' A' J' M g := h.lx hx hr.1 hr.2.2.1 hr.2.2.2
theorem t_thr_quoin (hk : isLock c pl sp tv cap) (hz : c.2.2.1 < 1000000) (hq : okc c q 100 L) (hL : 2 ≤ L ∧ L ≤ 5) (hm : A q 1 = 0 ∨ A q 1 = 1) (hE : ∀ τ, hF hxL_thrown E τ = some (Sum.inl (some (Value.int (ii (cd)))), τ)) (h : ∀ (c1 : CC) (A1 : AI) (J1 : JI), LX 1 5 c c1 A A1 J J1 → ∃ (A2 : AI) (J2 : JI), fX6_quoin 0 (ii (A q 0)) (ii (A q 1)) (CW c1 A1 J1) = some (.inr E, CW (cU c1) A2 J2) ∧ frm scC A1 A2 J1 J2) : ∃ (c' : CC) (A' : AI) (J' : JI), fL_thrown 0 16 q (CW c A J) = some (Sum.inl (some (Value.int (ii (cd)))), CW c' A' J') ∧ LX 2 11 c c' A A' J J' := by
  obtain ⟨c1, A1, J1, x1, o2, x2, x3⟩ := t_thr0 (A := A) (J := J) (E := E) (cd := cd) hz hq hL.2 16
  obtain ⟨A2, J2, y1, y2⟩ := h c1 A1 J1 x1
  have e0 := x2 0 (by omega) (by omega)
  have e1 := x2 1 (by omega) (by omega)
  have hk1 := hk.x x1.1
  refine ⟨_, _, _, x3 A2 J2 ?_ hE, x1.trans (LX.cU c1 A1 A2 J1 J2 y2)⟩
  rw [fL_calls, if_neg (by decide), if_neg (by decide), if_neg (by decide), if_neg (by decide), if_neg (by decide), if_neg (by decide), if_neg (by decide), if_neg (by decide), if_neg (by decide), if_neg (by decide), if_neg (by decide), if_neg (by decide), if_neg (by decide), if_neg (by decide), if_neg (by decide), if_neg (by decide), if_pos rfl, show (0 : Int32) = ii 0 from rfl, k_aI o2 0 (by omega), show (1 : Int32) = ii 1 from rfl, k_aI o2 1 (by omega), e0, e1]
  rcases hm with h1 | h1
  · rw [h1] at y1 ⊢
    rw [if_neg (by decide), fL_calls_314, lkV hk1, y1, k_E]
  · rw [h1] at y1 ⊢
    rw [if_pos rfl, fL_calls_314, lkV hk1, y1, k_E]
theorem n_isText (hI : Inv C0 N0 n pl sp tv cap c A J M g) (hs : isStr c A q m t) (hm : M 0 40 = m) (ht : ∀ i : Int, 0 ≤ i → i < m → M 16 i = t i) (hr : RO C0 N0 n cap c 3 12) : ∃ (c' : CC) (A' : AI) (J' : JI), fL_isText 0 (ii m) q (CW c A J) = some (Sum.inl (some (Value.int (ii (1)))), CW c' A' J') ∧ LX 3 12 c c' A A' J J' := by
  have hk := hI.1
  have hm7 := hs.2.1.2
  have hn := s_len (J := J) hs
  have x1 : LX 1 1 c (nwC c 100 1) A (up (nwA c A) c.2.2.1 0 m) J (nwJ c J) := (LX.new c A J 100 1).upN _ _ _ (Nat.le_refl _)
  have hI1 := hI.lx x1 (by omega) (by omega) (by omega)
  have o1 : okc (nwC c 100 1) c.2.2.1 100 1 := ⟨Nat.lt_succ_self _, if_pos rfl⟩
  have z1 : (nwC c 100 1).2.2.1 = c.2.2.1 + 1 := rfl
  have z2 : (nwC c 100 1).2.2.2.1 = c.2.2.2.1 + 1 := rfl
  have z3 : (nwC c 100 1).2.2.2.2 = c.2.2.2.2 + 1 := rfl
  obtain ⟨c3, A3, J3, y1, y2⟩ := t_thr_textByte (J := nwJ c J) (A := up (nwA c A) c.2.2.1 0 m) (L := 1) hI1.1 (by omega) o1 (by omega) nCode2 (fun c2 A2 J2 hx => by
    have hI2 := hI1.lx hx (by omega) (by omega) (by omega)
    refine ⟨A2, J2, ?_, frm.refl _ _ _⟩
    rw [up_s]
    exact d_textByteN hI2 m (by omega) (by omega))
  have h41 : fL_isText_41 0 (ii m) (CW c A J) = some (Sum.inl (some (Value.int (ii (1)))), CW c3 A3 J3) := by
    rw [fL_isText_41, k_nA (n := 1) _ (by omega) ⟨rfl, by decide, by omega⟩, show (0 : Int32) = ii 0 from rfl, k_uI o1 0 m (by omega), y1, k_R y2, q_I, if_pos (show ii 2 = (2 : Int32) from rfl)]
    rfl
  have hlo : fL_isText_12 FU 0 (ii m) q (ii 0) (CW c A J) = some (Sum.inl (some (Value.int (ii (1)))), CW c3 A3 J3) := by
    refine lp (fun f i (_ : Unit) => fL_isText_12 f 0 (ii m) q (ii i) (CW c A J)) (fun x => x = some (Sum.inl (some (Value.int (ii (1)))), CW c3 A3 J3)) (fun i _ => 0 ≤ i) m ?_ ?_ FU 0 () (by omega) (by omega) (by have := FU_e; omega)
    · rintro f i ⟨⟩ hi hI0
      have hb := d_textByte hI i (by omega)
      rw [ht i hI0 hi] at hb
      have hc := s_char (J := J) hs i ⟨hI0, hi⟩
      refine Or.inr ⟨(), by omega, ?_⟩
      show fL_isText_12 (f + 1) 0 (ii m) q (ii i) (CW c A J) = _
      rw [fL_isText_12, k_V hs.1.1, hn, k_C, q_I, if_neg (by rw [ii_le _ _ (by omega)]; omega), lkV hk, hb, k_C, q_I, k_V hs.1.1, hc, k_C, q_I, if_pos rfl, lt_q, show (1 : Int32) = ii 1 from rfl, ii_add]
    · rintro f ⟨⟩ hI0
      rw [fL_isText_12, k_V hs.1.1, hn, k_C, q_I, if_pos (Int32.le_refl _), h41]
  refine ⟨c3, A3, J3, ?_, x1.trans y2⟩
  rw [fL_isText, k_V hs.1.1, hn, k_C, q_I, if_pos rfl, show (0 : Int32) = ii 0 from rfl, hlo]
end IST
