/-! THE LAW: is the chase like the World? all -/
section LK8
variable {C0 N0 n : Nat} {c c' c2 : CC} {A A' A2 : AI} {J J' J2 : JI} {M : AI} {g o : Int → Int} {pl sp tv cap k m w q : Nat} {r : Int}
theorem n_like562 (h : LwS C0 N0 n pl sp tv cap c A J M g o w) (kd : Int) (hk : 0 ≤ kd ∧ kd < M 0 9) (ho : okc c q 100 4) (hq : ∀ k : Int, 0 ≤ k → k < 4 → A q k = kdv M g kd k) (x2 x3 x4 : Int32) (r433 : _) : fL_isLike_562 r433 FU 0 w x2 x3 x4 (ii kd) q 0 (CW c A J) = fL_isLike_592 r433 0 w x2 x3 x4 (ii kd) (CW c A J) := by
  obtain ⟨hI, hl, -⟩ := h
  rw [show (0 : Int32) = ii 0 from rfl]
  refine lp (fun f i (_ : Unit) => fL_isLike_562 r433 f 0 w x2 x3 x4 (ii kd) q (ii i) (CW c A J)) (fun x => x = fL_isLike_592 r433 0 w x2 x3 x4 (ii kd) (CW c A J)) (fun i _ => 0 ≤ i) 4 ?_ ?_ FU 0 () (by omega) (by omega) (by have := FU_e; omega)
  · rintro f i ⟨⟩ hi h0
    have e1 := d_kind hI hl.1 hl.2 kd i hk ⟨h0, hi⟩
    refine Or.inr ⟨(), by omega, ?_⟩
    show fL_isLike_562 r433 (f + 1) 0 w x2 x3 x4 (ii kd) q (ii i) (CW c A J) = _
    rw [fL_isLike_562, show (4 : Int32) = ii 4 from rfl, if_neg (by rw [ii_le _ _ (by omega)]; omega), lkV hI.1, e1, k_C, q_I, k_aI ho i (by omega), hq i h0 hi, if_pos rfl, lt_q, show (1 : Int32) = ii 1 from rfl, ii_add]
  · rintro f ⟨⟩ h0
    rw [fL_isLike_562, show (4 : Int32) = ii 4 from rfl, if_pos (Int32.le_refl _)]
theorem n_like511 (h : LwS C0 N0 n pl sp tv cap c A J M g o w) (hro : RO C0 N0 n cap c 1 4) (kd : Int) (hk : 0 ≤ kd ∧ kd < M 0 9) (x2 x3 : Int32) (l : Int) (r433 : _) : ∃ (c' : CC) (A' : AI) (J' : JI), fL_isLike_511 r433 0 w x2 x3 (ii l) (ii kd) (ii (sm (fun r => cnt g r kd) (M 0 3))) (CW c A J) = r433 0 w x2 x3 (ii (l + g (6 + kd))) (ii (kd + 1)) (CW c' A' J') ∧ LX 1 4 c c' A A' J J' := by
  obtain ⟨hM, hP, hS, hG⟩ := h.li
  have h4 := h.2.2.2.2.1
  have hx0 := LX.new c A J 100 4
  have W1 := h.2.2.1.1.x hx0.1
  have o1 : okc (nwC c 100 4) c.2.2.1 100 4 := ⟨Nat.lt_succ_self _, if_pos rfl⟩
  have hm := hM.2.1 kd hk.1 (by omega)
  obtain ⟨E1, hE1⟩ : ∃ E, E = up (nwA c A) c.2.2.1 0 (kdv M g kd 0) := ⟨_, rfl⟩
  have x1 : LX 1 4 c (nwC c 100 4) A E1 J (nwJ c J) := by rw [hE1]; exact hx0.upN _ _ _ (Nat.le_refl _)
  obtain ⟨E2, hE2⟩ : ∃ E, E = up E1 c.2.2.1 1 (kdv M g kd 1) := ⟨_, rfl⟩
  have x2' : LX 1 4 c (nwC c 100 4) A E2 J (nwJ c J) := by rw [hE2]; exact x1.upN _ _ _ (Nat.le_refl _)
  obtain ⟨E3, hE3⟩ : ∃ E, E = up E2 c.2.2.1 2 (kdv M g kd 2) := ⟨_, rfl⟩
  have x3' : LX 1 4 c (nwC c 100 4) A E3 J (nwJ c J) := by rw [hE3]; exact x2'.upN _ _ _ (Nat.le_refl _)
  obtain ⟨E4, hE4⟩ : ∃ E, E = up E3 c.2.2.1 3 (kdv M g kd 3) := ⟨_, rfl⟩
  have x4' : LX 1 4 c (nwC c 100 4) A E4 J (nwJ c J) := by rw [hE4]; exact x3'.upN _ _ _ (Nat.le_refl _)
  have v0 : nwA c A (w + 8) kd = M 1 kd := ((h.lx hx0 (by omega)).2.2.1.2.2.1 kd hk.1 hk.2).2.1
  have v1 : E1 (w + 4) kd = kdv M g kd 1 := ((h.lx x1 (by omega)).2.2.1.2.2.1 kd hk.1 hk.2).1
  have v2 : E2 (w + 5) kd = kdv M g kd 2 := ((h.lx x2' (by omega)).2.2.1.2.2.1 kd hk.1 hk.2).2.2
  have h6 := h.lx x4' (by omega)
  have v4 : E4 (w + 5) kd = g (6 + kd) := (h6.2.2.1.2.2.1 kd hk.1 hk.2).2.2
  have hq : ∀ k : Int, 0 ≤ k → k < 4 → E4 c.2.2.1 k = kdv M g kd k := fun k a b => by
    rcases (show k = 0 ∨ k = 1 ∨ k = 2 ∨ k = 3 by omega) with rfl | rfl | rfl | rfl
    · rw [hE4, up_n _ _ _ _ _ _ (by omega), hE3, up_n _ _ _ _ _ _ (by omega), hE2, up_n _ _ _ _ _ _ (by omega), hE1, up_s]
    · rw [hE4, up_n _ _ _ _ _ _ (by omega), hE3, up_n _ _ _ _ _ _ (by omega), hE2, up_s]
    · rw [hE4, up_n _ _ _ _ _ _ (by omega), hE3, up_s]
    · rw [hE4, up_s]
  have e8 := n_like562 h6 kd hk o1 hq x2 x3 (ii l) r433
  have u : ∀ (E : AI) (i v : Int) (k : AS → Option AR), 0 ≤ i ∧ i < 4 → uI (CW (nwC c 100 4) E (nwJ c J)) c.2.2.1 (ii i) (ii v) k = k (CW (nwC c 100 4) (up E c.2.2.1 i v) (nwJ c J)) := fun E i v k hi => k_uI o1 i v (by omega) k
  have c3 : sm (fun r => cnt g r kd) (M 0 3) = kdv M g kd 3 := rfl
  have c0 : M 1 kd = kdv M g kd 0 := rfl
  have h31 : ∀ v : Int, v = kdv M g kd 0 → fL_isLike_531 r433 0 w x2 x3 (ii l) (ii kd) (ii (kdv M g kd 3)) c.2.2.1 c.2.2.1 (ii 0) (ii v) (CW (nwC c 100 4) (nwA c A) (nwJ c J)) = fL_isLike_592 r433 0 w x2 x3 (ii l) (ii kd) (CW (nwC c 100 4) E4 (nwJ c J)) := fun v hv => by
    rw [← e8, fL_isLike_531, hv, u _ 0 _ _ (by omega), ← hE1, wdR2 W1, wdA4 W1 kd _ (by omega), v1, show (1 : Int32) = ii 1 from rfl, u _ 1 _ _ (by omega), ← hE2, wdR3 W1, wdA5 W1 kd _ (by omega), v2, show (2 : Int32) = ii 2 from rfl, u _ 2 _ _ (by omega), ← hE3, show (3 : Int32) = ii 3 from rfl, u _ 3 _ _ (by omega), ← hE4]
  refine ⟨_, _, _, ?_, x4'⟩
  have fin : fL_isLike_592 r433 0 w x2 x3 (ii l) (ii kd) (CW (nwC c 100 4) E4 (nwJ c J)) = r433 0 w x2 x3 (ii (l + g (6 + kd))) (ii (kd + 1)) (CW (nwC c 100 4) E4 (nwJ c J)) := by
    rw [fL_isLike_592, wdR3 W1, wdA5 W1 kd _ (by omega), v4, lt_q, lt_q, ii_add, show (1 : Int32) = ii 1 from rfl, ii_add]
  rw [← fin, c3, fL_isLike_511, k_nA (n := 4) _ (by omega) ⟨rfl, by decide, by omega⟩, wdR6 W1, wdA8 W1 kd _ (by omega), v0]
  by_cases y : M 1 kd = 0
  · rw [if_pos (by rw [y]; rfl)]
    exact h31 0 (by rw [← c0, y])
  · rw [if_neg (by rw [il0, ii_eq _ _ (by omega)]; exact y)]
    exact h31 1 (by rw [← c0]; omega)
theorem n_isLike (h : LwS C0 N0 n pl sp tv cap c A J M g o w) (hro : RO C0 N0 n cap c 68 340) : ∃ (c' : CC) (A' : AI) (J' : JI), fL_isLike 0 w (CW c A J) = some (Sum.inl (some (Value.int (ii (1)))), CW c' A' J') ∧ LX 68 340 c c' A A' J J' := by
  obtain ⟨hM, hP, hS, hG⟩ := h.li
  have h9 := hM.1.2.2.2.2.2.2.2
  have h4 := h.2.2.2.2.1
  obtain ⟨c1, A1, J1, e1, x1⟩ := n_likeRows h (by omega) (ii 0)
  have h1 := h.lx x1 (by omega)
  have b1 := x1.2.1
  obtain ⟨b, hb⟩ : ∃ b, b = sm (fun r => cel g r 0) (M 0 3) := ⟨_, rfl⟩
  obtain ⟨p, hp⟩ : ∃ p, p = sm (fun r => cel g r 1) (M 0 3) := ⟨_, rfl⟩
  have e2 : ∃ (c' : CC) (A' : AI) (J' : JI), fL_isLike_433 FU 0 w (ii b) (ii p) (ii 0) (ii 0) (CW c1 A1 J1) = fL_isLike_610 0 w (ii b) (ii p) (ii (sm (fun k => g (6 + k)) (M 0 9))) (CW c' A' J') ∧ LX 4 16 c1 c' A1 A' J1 J' := by
    refine lp (fun f i (s : (CC × AI × JI) × Int) => fL_isLike_433 f 0 w (ii b) (ii p) (ii s.2) (ii i) (CW s.1.1 s.1.2.1 s.1.2.2)) (fun x => ∃ (c' : CC) (A' : AI) (J' : JI), x = fL_isLike_610 0 w (ii b) (ii p) (ii (sm (fun k => g (6 + k)) (M 0 9))) (CW c' A' J') ∧ LX 4 16 c1 c' A1 A' J1 J')
      (fun i s => (0 ≤ i ∧ s.2 = sm (fun k => g (6 + k)) i) ∧ LX i.toNat (4 * i.toNat) c1 s.1.1 A1 s.1.2.1 J1 s.1.2.2) (M 0 9) ?_ ?_ FU 0 ((c1, A1, J1), 0) (by omega) ⟨⟨by omega, by rw [sm_0]⟩, LX.refl _ _ _⟩ (by have := FU_e; omega)
    · rintro f i ⟨⟨c2, A2, J2⟩, l⟩ hi ⟨⟨h0, hl⟩, hx⟩
      dsimp only at hl hx ⊢
      have h2 := h1.lx hx (by omega)
      have b2 := hx.2.1
      have wK := h2.2.2.1.2.1.2.1
      obtain ⟨c3, A3, J3, e3, x3⟩ := n_like511 h2 (by omega) i ⟨h0, hi⟩ (ii b) (ii p) l (fL_isLike_433 f)
      have e4 := n_like448 h2 (ii b) (ii p) (ii l) i ⟨h0, hi⟩ (fL_isLike_433 f)
      refine Or.inr ⟨((c3, A3, J3), l + g (6 + i)), ⟨⟨by omega, by dsimp only; rw [sm_s _ _ h0, hl]⟩, ?_⟩, ?_⟩
      · have := hx.trans x3
        rw [show (i + 1).toNat = i.toNat + 1 by omega]
        exact this.mono (by omega) (by omega)
      · show fL_isLike_433 (f + 1) 0 w (ii b) (ii p) (ii l) (ii i) (CW c2 A2 J2) = _
        rw [← e3, ← e4, fL_isLike_433, wdI14 h2.2.2.1.1, wK, if_neg (by rw [ii_le _ _ (by omega)]; omega)]
        rfl
    · rintro f ⟨⟨c2, A2, J2⟩, l⟩ ⟨⟨h0, hl⟩, hx⟩
      dsimp only at hl hx ⊢
      have h2 := h1.lx hx (by omega)
      have wK := h2.2.2.1.2.1.2.1
      refine ⟨c2, A2, J2, ?_, hx.mono (by omega) (by omega)⟩
      rw [fL_isLike_433, wdI14 h2.2.2.1.1, wK, if_pos (Int32.le_refl _), hl]
  obtain ⟨c2, A2, J2, e3, x2⟩ := e2
  have h2 := h1.lx x2 (by omega)
  have b2 := x2.2.1
  obtain ⟨c3, A3, J3, e4, x3⟩ := n_like610 h2 (by omega)
  rw [← hb, ← hp] at e1 e4
  refine ⟨c3, A3, J3, ?_, (x1.trans x2).trans x3⟩
  rw [fL_isLike, show (0 : Int32) = ii 0 from rfl, e1, fL_isLike_430, show (0 : Int32) = ii 0 from rfl, e3, e4]
end LK8
