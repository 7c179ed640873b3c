/-! THE LAW: exceptions in a change -/
section THQ
variable {C0 N0 n : Nat} {c c1 c' c2 : CC} {A A1 A' A2 : AI} {J J1 J' J2 : JI} {M M' : AI} {g g' o : Int → Int} {pl sp tv cap k m w d z : Nat} {a b cd : Int} {E : String}
theorem n_tq_place (h : LwS C0 N0 n pl sp tv cap c A J M g o w) (hro : RO C0 N0 n cap c 2 11) (ho : okc c z 100 2) (ha : A z 0 = a) (hb : A z 1 = b) (hE : ∀ τ, hF hxL_thrown E τ = some (Sum.inl (some (Value.int (ii (cd)))), τ)) (hT : ∀ (c4 : CC) (A4 : AI) (J4 : JI), LwS C0 N0 n pl sp tv cap c4 A4 J4 M g o w → (∀ y, A4 (pl + 3) y = A (pl + 3) y) → ∃ (A5 : AI) (J5 : JI), fX6_place 0 (ii a) (ii b) (CW c4 A4 J4) = some (.inr E, CW (cU c4) A5 J5) ∧ frm scC A4 A5 J4 J5) : ∃ (c' : CC) (A' : AI) (J' : JI), (∀ K : Int32 → AS → Option AR, cR (CW c A J) (fL_thrown 0 12 z (CW c A J)) (qI K) = K (ii cd) (CW c' A' J')) ∧ LX 2 11 c c' A A' J J' := by
  have hpl := h.1.1.2.2.2.1.1
  have hw := h.2.2.2.1
  obtain ⟨c3, A3, J3, y1, y2⟩ := t_thr_place (J := J) (A := A) (L := 2) h.1.1 (by omega) ho (by omega) hE (fun c4 A4 J4 hx => by
    have h4 := h.lx hx (by omega)
    rw [ha, hb]
    exact hT c4 A4 J4 h4 (fun y => hx.2.2.1 _ y (by omega) (fun s => by have := scC_lt s; omega)))
  exact ⟨c3, A3, J3, fun K => by rw [y1, k_R y2, q_I], y2⟩
theorem n_th_place (h : LwS C0 N0 n pl sp tv cap c A J M g o w) (hro : RO C0 N0 n cap c 3 13) (a b : Int) {i0 i1 x y : Int32} (e0 : i0 = ii 0) (e1 : i1 = ii 1) (ex : x = ii a) (ey : y = ii b) (hE : ∀ τ, hF hxL_thrown E τ = some (Sum.inl (some (Value.int (ii (cd)))), τ)) (hT : ∀ (c4 : CC) (A4 : AI) (J4 : JI), LwS C0 N0 n pl sp tv cap c4 A4 J4 M g o w → (∀ y, A4 (pl + 3) y = A (pl + 3) y) → ∃ (A5 : AI) (J5 : JI), fX6_place 0 (ii a) (ii b) (CW c4 A4 J4) = some (.inr E, CW (cU c4) A5 J5) ∧ frm scC A4 A5 J4 J5) : ∃ (c' : CC) (A' : AI) (J' : JI), (∀ K : Int32 → AS → Option AR, nA (CW c A J) 100 2 (fun q s => uI s q i0 x (fun s1 => uI s1 q i1 y (fun s2 => cR s2 (fL_thrown 0 12 q s2) (qI K)))) = K (ii cd) (CW c' A' J')) ∧ LX 3 13 c c' A A' J J' := by
  have hpl := h.1.1.2.2.2.1.1
  have hw := h.2.2.2.1
  obtain ⟨A1, y1, y2, o1, a0, a1⟩ := n_two (A := A) (J := J) (c := c) (by omega) a b
  have h1 := h.lx y2 (by omega)
  have z1 : (nwC c 100 2).2.2.1 = c.2.2.1 + 1 := rfl
  have z2 : (nwC c 100 2).2.2.2.1 = c.2.2.2.1 + 1 := rfl
  have z3 : (nwC c 100 2).2.2.2.2 = c.2.2.2.2 + 2 := rfl
  obtain ⟨c3, A3, J3, y3, y4⟩ := n_tq_place h1 (by omega) o1 a0 a1 hE (fun c4 A4 J4 h4 s => hT c4 A4 J4 h4 (fun y => (s y).trans (y2.2.2.1 _ y (by omega) (fun s => by have := scC_lt s; omega))))
  refine ⟨c3, A3, J3, fun K => ?_, y2.trans y4⟩
  rw [e0, e1, ex, ey]
  exact (y1 _).trans (y3 K)
theorem n_tq_lift (h : LwS C0 N0 n pl sp tv cap c A J M g o w) (hro : RO C0 N0 n cap c 2 11) (ho : okc c z 100 2) (ha : A z 0 = a) (hb : A z 1 = b) (hE : ∀ τ, hF hxL_thrown E τ = some (Sum.inl (some (Value.int (ii (cd)))), τ)) (hT : ∀ (c4 : CC) (A4 : AI) (J4 : JI), LwS C0 N0 n pl sp tv cap c4 A4 J4 M g o w → (∀ y, A4 (pl + 3) y = A (pl + 3) y) → ∃ (A5 : AI) (J5 : JI), fX6_lift 0 (ii a) (ii b) (CW c4 A4 J4) = some (.inr E, CW (cU c4) A5 J5) ∧ frm scC A4 A5 J4 J5) : ∃ (c' : CC) (A' : AI) (J' : JI), (∀ K : Int32 → AS → Option AR, cR (CW c A J) (fL_thrown 0 13 z (CW c A J)) (qI K) = K (ii cd) (CW c' A' J')) ∧ LX 2 11 c c' A A' J J' := by
  have hpl := h.1.1.2.2.2.1.1
  have hw := h.2.2.2.1
  obtain ⟨c3, A3, J3, y1, y2⟩ := t_thr_lift (J := J) (A := A) (L := 2) h.1.1 (by omega) ho (by omega) hE (fun c4 A4 J4 hx => by
    have h4 := h.lx hx (by omega)
    rw [ha, hb]
    exact hT c4 A4 J4 h4 (fun y => hx.2.2.1 _ y (by omega) (fun s => by have := scC_lt s; omega)))
  exact ⟨c3, A3, J3, fun K => by rw [y1, k_R y2, q_I], y2⟩
theorem n_th_lift (h : LwS C0 N0 n pl sp tv cap c A J M g o w) (hro : RO C0 N0 n cap c 3 13) (a b : Int) {i0 i1 x y : Int32} (e0 : i0 = ii 0) (e1 : i1 = ii 1) (ex : x = ii a) (ey : y = ii b) (hE : ∀ τ, hF hxL_thrown E τ = some (Sum.inl (some (Value.int (ii (cd)))), τ)) (hT : ∀ (c4 : CC) (A4 : AI) (J4 : JI), LwS C0 N0 n pl sp tv cap c4 A4 J4 M g o w → (∀ y, A4 (pl + 3) y = A (pl + 3) y) → ∃ (A5 : AI) (J5 : JI), fX6_lift 0 (ii a) (ii b) (CW c4 A4 J4) = some (.inr E, CW (cU c4) A5 J5) ∧ frm scC A4 A5 J4 J5) : ∃ (c' : CC) (A' : AI) (J' : JI), (∀ K : Int32 → AS → Option AR, nA (CW c A J) 100 2 (fun q s => uI s q i0 x (fun s1 => uI s1 q i1 y (fun s2 => cR s2 (fL_thrown 0 13 q s2) (qI K)))) = K (ii cd) (CW c' A' J')) ∧ LX 3 13 c c' A A' J J' := by
  have hpl := h.1.1.2.2.2.1.1
  have hw := h.2.2.2.1
  obtain ⟨A1, y1, y2, o1, a0, a1⟩ := n_two (A := A) (J := J) (c := c) (by omega) a b
  have h1 := h.lx y2 (by omega)
  have z1 : (nwC c 100 2).2.2.1 = c.2.2.1 + 1 := rfl
  have z2 : (nwC c 100 2).2.2.2.1 = c.2.2.2.1 + 1 := rfl
  have z3 : (nwC c 100 2).2.2.2.2 = c.2.2.2.2 + 2 := rfl
  obtain ⟨c3, A3, J3, y3, y4⟩ := n_tq_lift h1 (by omega) o1 a0 a1 hE (fun c4 A4 J4 h4 s => hT c4 A4 J4 h4 (fun y => (s y).trans (y2.2.2.1 _ y (by omega) (fun s => by have := scC_lt s; omega))))
  refine ⟨c3, A3, J3, fun K => ?_, y2.trans y4⟩
  rw [e0, e1, ex, ey]
  exact (y1 _).trans (y3 K)
theorem n_tq_put (h : LwS C0 N0 n pl sp tv cap c A J M g o w) (hro : RO C0 N0 n cap c 2 11) (ho : okc c z 100 2) (ha : A z 0 = a) (hb : A z 1 = b) (hE : ∀ τ, hF hxL_thrown E τ = some (Sum.inl (some (Value.int (ii (cd)))), τ)) (hT : ∀ (c4 : CC) (A4 : AI) (J4 : JI), LwS C0 N0 n pl sp tv cap c4 A4 J4 M g o w → (∀ y, A4 (pl + 3) y = A (pl + 3) y) → ∃ (A5 : AI) (J5 : JI), fX6_put 0 (ii a) (ii b) (CW c4 A4 J4) = some (.inr E, CW (cU c4) A5 J5) ∧ frm scC A4 A5 J4 J5) : ∃ (c' : CC) (A' : AI) (J' : JI), (∀ K : Int32 → AS → Option AR, cR (CW c A J) (fL_thrown 0 14 z (CW c A J)) (qI K) = K (ii cd) (CW c' A' J')) ∧ LX 2 11 c c' A A' J J' := by
  have hpl := h.1.1.2.2.2.1.1
  have hw := h.2.2.2.1
  obtain ⟨c3, A3, J3, y1, y2⟩ := t_thr_put (J := J) (A := A) (L := 2) h.1.1 (by omega) ho (by omega) hE (fun c4 A4 J4 hx => by
    have h4 := h.lx hx (by omega)
    rw [ha, hb]
    exact hT c4 A4 J4 h4 (fun y => hx.2.2.1 _ y (by omega) (fun s => by have := scC_lt s; omega)))
  exact ⟨c3, A3, J3, fun K => by rw [y1, k_R y2, q_I], y2⟩
theorem n_th_put (h : LwS C0 N0 n pl sp tv cap c A J M g o w) (hro : RO C0 N0 n cap c 3 13) (a b : Int) {i0 i1 x y : Int32} (e0 : i0 = ii 0) (e1 : i1 = ii 1) (ex : x = ii a) (ey : y = ii b) (hE : ∀ τ, hF hxL_thrown E τ = some (Sum.inl (some (Value.int (ii (cd)))), τ)) (hT : ∀ (c4 : CC) (A4 : AI) (J4 : JI), LwS C0 N0 n pl sp tv cap c4 A4 J4 M g o w → (∀ y, A4 (pl + 3) y = A (pl + 3) y) → ∃ (A5 : AI) (J5 : JI), fX6_put 0 (ii a) (ii b) (CW c4 A4 J4) = some (.inr E, CW (cU c4) A5 J5) ∧ frm scC A4 A5 J4 J5) : ∃ (c' : CC) (A' : AI) (J' : JI), (∀ K : Int32 → AS → Option AR, nA (CW c A J) 100 2 (fun q s => uI s q i0 x (fun s1 => uI s1 q i1 y (fun s2 => cR s2 (fL_thrown 0 14 q s2) (qI K)))) = K (ii cd) (CW c' A' J')) ∧ LX 3 13 c c' A A' J J' := by
  have hpl := h.1.1.2.2.2.1.1
  have hw := h.2.2.2.1
  obtain ⟨A1, y1, y2, o1, a0, a1⟩ := n_two (A := A) (J := J) (c := c) (by omega) a b
  have h1 := h.lx y2 (by omega)
  have z1 : (nwC c 100 2).2.2.1 = c.2.2.1 + 1 := rfl
  have z2 : (nwC c 100 2).2.2.2.1 = c.2.2.2.1 + 1 := rfl
  have z3 : (nwC c 100 2).2.2.2.2 = c.2.2.2.2 + 2 := rfl
  obtain ⟨c3, A3, J3, y3, y4⟩ := n_tq_put h1 (by omega) o1 a0 a1 hE (fun c4 A4 J4 h4 s => hT c4 A4 J4 h4 (fun y => (s y).trans (y2.2.2.1 _ y (by omega) (fun s => by have := scC_lt s; omega))))
  refine ⟨c3, A3, J3, fun K => ?_, y2.trans y4⟩
  rw [e0, e1, ex, ey]
  exact (y1 _).trans (y3 K)
theorem n_tq_take (h : LwS C0 N0 n pl sp tv cap c A J M g o w) (hro : RO C0 N0 n cap c 2 11) (ho : okc c z 100 2) (ha : A z 0 = a) (hb : A z 1 = b) (hE : ∀ τ, hF hxL_thrown E τ = some (Sum.inl (some (Value.int (ii (cd)))), τ)) (hT : ∀ (c4 : CC) (A4 : AI) (J4 : JI), LwS C0 N0 n pl sp tv cap c4 A4 J4 M g o w → (∀ y, A4 (pl + 3) y = A (pl + 3) y) → ∃ (A5 : AI) (J5 : JI), fX6_take 0 (ii a) (ii b) (CW c4 A4 J4) = some (.inr E, CW (cU c4) A5 J5) ∧ frm scC A4 A5 J4 J5) : ∃ (c' : CC) (A' : AI) (J' : JI), (∀ K : Int32 → AS → Option AR, cR (CW c A J) (fL_thrown 0 15 z (CW c A J)) (qI K) = K (ii cd) (CW c' A' J')) ∧ LX 2 11 c c' A A' J J' := by
  have hpl := h.1.1.2.2.2.1.1
  have hw := h.2.2.2.1
  obtain ⟨c3, A3, J3, y1, y2⟩ := t_thr_take (J := J) (A := A) (L := 2) h.1.1 (by omega) ho (by omega) hE (fun c4 A4 J4 hx => by
    have h4 := h.lx hx (by omega)
    rw [ha, hb]
    exact hT c4 A4 J4 h4 (fun y => hx.2.2.1 _ y (by omega) (fun s => by have := scC_lt s; omega)))
  exact ⟨c3, A3, J3, fun K => by rw [y1, k_R y2, q_I], y2⟩
theorem n_th_take (h : LwS C0 N0 n pl sp tv cap c A J M g o w) (hro : RO C0 N0 n cap c 3 13) (a b : Int) {i0 i1 x y : Int32} (e0 : i0 = ii 0) (e1 : i1 = ii 1) (ex : x = ii a) (ey : y = ii b) (hE : ∀ τ, hF hxL_thrown E τ = some (Sum.inl (some (Value.int (ii (cd)))), τ)) (hT : ∀ (c4 : CC) (A4 : AI) (J4 : JI), LwS C0 N0 n pl sp tv cap c4 A4 J4 M g o w → (∀ y, A4 (pl + 3) y = A (pl + 3) y) → ∃ (A5 : AI) (J5 : JI), fX6_take 0 (ii a) (ii b) (CW c4 A4 J4) = some (.inr E, CW (cU c4) A5 J5) ∧ frm scC A4 A5 J4 J5) : ∃ (c' : CC) (A' : AI) (J' : JI), (∀ K : Int32 → AS → Option AR, nA (CW c A J) 100 2 (fun q s => uI s q i0 x (fun s1 => uI s1 q i1 y (fun s2 => cR s2 (fL_thrown 0 15 q s2) (qI K)))) = K (ii cd) (CW c' A' J')) ∧ LX 3 13 c c' A A' J J' := by
  have hpl := h.1.1.2.2.2.1.1
  have hw := h.2.2.2.1
  obtain ⟨A1, y1, y2, o1, a0, a1⟩ := n_two (A := A) (J := J) (c := c) (by omega) a b
  have h1 := h.lx y2 (by omega)
  have z1 : (nwC c 100 2).2.2.1 = c.2.2.1 + 1 := rfl
  have z2 : (nwC c 100 2).2.2.2.1 = c.2.2.2.1 + 1 := rfl
  have z3 : (nwC c 100 2).2.2.2.2 = c.2.2.2.2 + 2 := rfl
  obtain ⟨c3, A3, J3, y3, y4⟩ := n_tq_take h1 (by omega) o1 a0 a1 hE (fun c4 A4 J4 h4 s => hT c4 A4 J4 h4 (fun y => (s y).trans (y2.2.2.1 _ y (by omega) (fun s => by have := scC_lt s; omega))))
  refine ⟨c3, A3, J3, fun K => ?_, y2.trans y4⟩
  rw [e0, e1, ex, ey]
  exact (y1 _).trans (y3 K)
theorem n_tq_open (h : LwS C0 N0 n pl sp tv cap c A J M g o w) (hro : RO C0 N0 n cap c 2 11) (ho : okc c z 100 2) (ha : A z 0 = a) (hb : A z 1 = b) (hE : ∀ τ, hF hxL_thrown E τ = some (Sum.inl (some (Value.int (ii (cd)))), τ)) (hT : ∀ (c4 : CC) (A4 : AI) (J4 : JI), LwS C0 N0 n pl sp tv cap c4 A4 J4 M g o w → (∀ y, A4 (pl + 3) y = A (pl + 3) y) → ∃ (A5 : AI) (J5 : JI), fX6_open 0 (ii a) (ii b) (CW c4 A4 J4) = some (.inr E, CW (cU c4) A5 J5) ∧ frm scC A4 A5 J4 J5) : ∃ (c' : CC) (A' : AI) (J' : JI), (∀ K : Int32 → AS → Option AR, cR (CW c A J) (fL_thrown 0 17 z (CW c A J)) (qI K) = K (ii cd) (CW c' A' J')) ∧ LX 2 11 c c' A A' J J' := by
  have hpl := h.1.1.2.2.2.1.1
  have hw := h.2.2.2.1
  obtain ⟨c3, A3, J3, y1, y2⟩ := t_thr_open (J := J) (A := A) (L := 2) h.1.1 (by omega) ho (by omega) hE (fun c4 A4 J4 hx => by
    have h4 := h.lx hx (by omega)
    rw [ha, hb]
    exact hT c4 A4 J4 h4 (fun y => hx.2.2.1 _ y (by omega) (fun s => by have := scC_lt s; omega)))
  exact ⟨c3, A3, J3, fun K => by rw [y1, k_R y2, q_I], y2⟩
theorem n_th_open (h : LwS C0 N0 n pl sp tv cap c A J M g o w) (hro : RO C0 N0 n cap c 3 13) (a b : Int) {i0 i1 x y : Int32} (e0 : i0 = ii 0) (e1 : i1 = ii 1) (ex : x = ii a) (ey : y = ii b) (hE : ∀ τ, hF hxL_thrown E τ = some (Sum.inl (some (Value.int (ii (cd)))), τ)) (hT : ∀ (c4 : CC) (A4 : AI) (J4 : JI), LwS C0 N0 n pl sp tv cap c4 A4 J4 M g o w → (∀ y, A4 (pl + 3) y = A (pl + 3) y) → ∃ (A5 : AI) (J5 : JI), fX6_open 0 (ii a) (ii b) (CW c4 A4 J4) = some (.inr E, CW (cU c4) A5 J5) ∧ frm scC A4 A5 J4 J5) : ∃ (c' : CC) (A' : AI) (J' : JI), (∀ K : Int32 → AS → Option AR, nA (CW c A J) 100 2 (fun q s => uI s q i0 x (fun s1 => uI s1 q i1 y (fun s2 => cR s2 (fL_thrown 0 17 q s2) (qI K)))) = K (ii cd) (CW c' A' J')) ∧ LX 3 13 c c' A A' J J' := by
  have hpl := h.1.1.2.2.2.1.1
  have hw := h.2.2.2.1
  obtain ⟨A1, y1, y2, o1, a0, a1⟩ := n_two (A := A) (J := J) (c := c) (by omega) a b
  have h1 := h.lx y2 (by omega)
  have z1 : (nwC c 100 2).2.2.1 = c.2.2.1 + 1 := rfl
  have z2 : (nwC c 100 2).2.2.2.1 = c.2.2.2.1 + 1 := rfl
  have z3 : (nwC c 100 2).2.2.2.2 = c.2.2.2.2 + 2 := rfl
  obtain ⟨c3, A3, J3, y3, y4⟩ := n_tq_open h1 (by omega) o1 a0 a1 hE (fun c4 A4 J4 h4 s => hT c4 A4 J4 h4 (fun y => (s y).trans (y2.2.2.1 _ y (by omega) (fun s => by have := scC_lt s; omega))))
  refine ⟨c3, A3, J3, fun K => ?_, y2.trans y4⟩
  rw [e0, e1, ex, ey]
  exact (y1 _).trans (y3 K)
theorem n_tq_buy (h : LwS C0 N0 n pl sp tv cap c A J M g o w) (hro : RO C0 N0 n cap c 2 11) (ho : okc c z 100 2) (ha : A z 0 = a) (hb : A z 1 = b) (hE : ∀ τ, hF hxL_thrown E τ = some (Sum.inl (some (Value.int (ii (cd)))), τ)) (hT : ∀ (c4 : CC) (A4 : AI) (J4 : JI), LwS C0 N0 n pl sp tv cap c4 A4 J4 M g o w → (∀ y, A4 (pl + 3) y = A (pl + 3) y) → ∃ (A5 : AI) (J5 : JI), fX6_buy 0 (ii a) (ii b) (CW c4 A4 J4) = some (.inr E, CW (cU c4) A5 J5) ∧ frm scC A4 A5 J4 J5) : ∃ (c' : CC) (A' : AI) (J' : JI), (∀ K : Int32 → AS → Option AR, cR (CW c A J) (fL_thrown 0 23 z (CW c A J)) (qI K) = K (ii cd) (CW c' A' J')) ∧ LX 2 11 c c' A A' J J' := by
  have hpl := h.1.1.2.2.2.1.1
  have hw := h.2.2.2.1
  obtain ⟨c3, A3, J3, y1, y2⟩ := t_thr_buy (J := J) (A := A) (L := 2) h.1.1 (by omega) ho (by omega) hE (fun c4 A4 J4 hx => by
    have h4 := h.lx hx (by omega)
    rw [ha, hb]
    exact hT c4 A4 J4 h4 (fun y => hx.2.2.1 _ y (by omega) (fun s => by have := scC_lt s; omega)))
  exact ⟨c3, A3, J3, fun K => by rw [y1, k_R y2, q_I], y2⟩
theorem n_th_buy (h : LwS C0 N0 n pl sp tv cap c A J M g o w) (hro : RO C0 N0 n cap c 3 13) (a b : Int) {i0 i1 x y : Int32} (e0 : i0 = ii 0) (e1 : i1 = ii 1) (ex : x = ii a) (ey : y = ii b) (hE : ∀ τ, hF hxL_thrown E τ = some (Sum.inl (some (Value.int (ii (cd)))), τ)) (hT : ∀ (c4 : CC) (A4 : AI) (J4 : JI), LwS C0 N0 n pl sp tv cap c4 A4 J4 M g o w → (∀ y, A4 (pl + 3) y = A (pl + 3) y) → ∃ (A5 : AI) (J5 : JI), fX6_buy 0 (ii a) (ii b) (CW c4 A4 J4) = some (.inr E, CW (cU c4) A5 J5) ∧ frm scC A4 A5 J4 J5) : ∃ (c' : CC) (A' : AI) (J' : JI), (∀ K : Int32 → AS → Option AR, nA (CW c A J) 100 2 (fun q s => uI s q i0 x (fun s1 => uI s1 q i1 y (fun s2 => cR s2 (fL_thrown 0 23 q s2) (qI K)))) = K (ii cd) (CW c' A' J')) ∧ LX 3 13 c c' A A' J J' := by
  have hpl := h.1.1.2.2.2.1.1
  have hw := h.2.2.2.1
  obtain ⟨A1, y1, y2, o1, a0, a1⟩ := n_two (A := A) (J := J) (c := c) (by omega) a b
  have h1 := h.lx y2 (by omega)
  have z1 : (nwC c 100 2).2.2.1 = c.2.2.1 + 1 := rfl
  have z2 : (nwC c 100 2).2.2.2.1 = c.2.2.2.1 + 1 := rfl
  have z3 : (nwC c 100 2).2.2.2.2 = c.2.2.2.2 + 2 := rfl
  obtain ⟨c3, A3, J3, y3, y4⟩ := n_tq_buy h1 (by omega) o1 a0 a1 hE (fun c4 A4 J4 h4 s => hT c4 A4 J4 h4 (fun y => (s y).trans (y2.2.2.1 _ y (by omega) (fun s => by have := scC_lt s; omega))))
  refine ⟨c3, A3, J3, fun K => ?_, y2.trans y4⟩
  rw [e0, e1, ex, ey]
  exact (y1 _).trans (y3 K)
theorem n_tq_quoin (h : LwS C0 N0 n pl sp tv cap c A J M g o w) (hro : RO C0 N0 n cap c 2 11) (ho : okc c z 100 2) (ha : A z 0 = a) (hb : A z 1 = b) (hm : b = 0 ∨ b = 1) (hE : ∀ τ, hF hxL_thrown E τ = some (Sum.inl (some (Value.int (ii (cd)))), τ)) (hT : ∀ (c4 : CC) (A4 : AI) (J4 : JI), LwS C0 N0 n pl sp tv cap c4 A4 J4 M g o w → (∀ y, A4 (pl + 3) y = A (pl + 3) y) → ∃ (A5 : AI) (J5 : JI), fX6_quoin 0 (ii a) (ii b) (CW c4 A4 J4) = some (.inr E, CW (cU c4) A5 J5) ∧ frm scC A4 A5 J4 J5) : ∃ (c' : CC) (A' : AI) (J' : JI), (∀ K : Int32 → AS → Option AR, cR (CW c A J) (fL_thrown 0 16 z (CW c A J)) (qI K) = K (ii cd) (CW c' A' J')) ∧ LX 2 11 c c' A A' J J' := by
  have hpl := h.1.1.2.2.2.1.1
  have hw := h.2.2.2.1
  obtain ⟨c3, A3, J3, y1, y2⟩ := t_thr_quoin (J := J) (A := A) (L := 2) h.1.1 (by omega) ho (by omega) (by rw [hb]; exact hm) hE (fun c4 A4 J4 hx => by
    have h4 := h.lx hx (by omega)
    rw [ha, hb]
    exact hT c4 A4 J4 h4 (fun y => hx.2.2.1 _ y (by omega) (fun s => by have := scC_lt s; omega)))
  exact ⟨c3, A3, J3, fun K => by rw [y1, k_R y2, q_I], y2⟩
theorem n_th_lock (h : LwS C0 N0 n pl sp tv cap c A J M g o w) (hro : RO C0 N0 n cap c 3 12) (a : Int) {i0 x : Int32} (e0 : i0 = ii 0) (ex : x = ii a) (hE : ∀ τ, hF hxL_thrown E τ = some (Sum.inl (some (Value.int (ii (cd)))), τ)) (hT : ∀ (c4 : CC) (A4 : AI) (J4 : JI), LwS C0 N0 n pl sp tv cap c4 A4 J4 M g o w → (∀ y, A4 (pl + 3) y = A (pl + 3) y) → ∃ (A5 : AI) (J5 : JI), fX6_lock 0 (ii a) (CW c4 A4 J4) = some (.inr E, CW (cU c4) A5 J5) ∧ frm scC A4 A5 J4 J5) : ∃ (c' : CC) (A' : AI) (J' : JI), (∀ K : Int32 → AS → Option AR, nA (CW c A J) 100 1 (fun q s => uI s q i0 x (fun s2 => cR s2 (fL_thrown 0 18 q s2) (qI K))) = K (ii cd) (CW c' A' J')) ∧ LX 3 12 c c' A A' J J' := by
  have hpl := h.1.1.2.2.2.1.1
  have hw := h.2.2.2.1
  have x1 : LX 1 1 c (nwC c 100 1) A (up (nwA c A) c.2.2.1 0 a) J (nwJ c J) := (LX.new c A J 100 1).upN _ _ _ (Nat.le_refl _)
  have h1 := h.lx x1 (by omega)
  have o1 : okc (nwC c 100 1) c.2.2.1 100 1 := ⟨Nat.lt_succ_self _, if_pos rfl⟩
  have z1 : (nwC c 100 1).2.2.1 = c.2.2.1 + 1 := rfl
  have z2 : (nwC c 100 1).2.2.2.1 = c.2.2.2.1 + 1 := rfl
  have z3 : (nwC c 100 1).2.2.2.2 = c.2.2.2.2 + 1 := rfl
  obtain ⟨c3, A3, J3, y3, y4⟩ := t_thr_lock (J := nwJ c J) (A := up (nwA c A) c.2.2.1 0 a) (L := 1) h1.1.1 (by omega) o1 (by omega) hE (fun c4 A4 J4 hx => by
    have h4 := h1.lx hx (by omega)
    rw [up_s]
    exact hT c4 A4 J4 h4 (fun y => (hx.2.2.1 _ y (by omega) (fun s => by have := scC_lt s; omega)).trans (x1.2.2.1 _ y (by omega) (fun s => by have := scC_lt s; omega))))
  refine ⟨c3, A3, J3, fun K => ?_, x1.trans y4⟩
  rw [e0, ex, k_nA (n := 1) _ (by omega) ⟨rfl, by decide, by omega⟩, k_uI o1 0 a (by omega), y3, k_R y4, q_I]
theorem n_th_relock (h : LwS C0 N0 n pl sp tv cap c A J M g o w) (hro : RO C0 N0 n cap c 3 12) (a : Int) {i0 x : Int32} (e0 : i0 = ii 0) (ex : x = ii a) (hE : ∀ τ, hF hxL_thrown E τ = some (Sum.inl (some (Value.int (ii (cd)))), τ)) (hT : ∀ (c4 : CC) (A4 : AI) (J4 : JI), LwS C0 N0 n pl sp tv cap c4 A4 J4 M g o w → (∀ y, A4 (pl + 3) y = A (pl + 3) y) → ∃ (A5 : AI) (J5 : JI), fX6_relock 0 (ii a) (CW c4 A4 J4) = some (.inr E, CW (cU c4) A5 J5) ∧ frm scC A4 A5 J4 J5) : ∃ (c' : CC) (A' : AI) (J' : JI), (∀ K : Int32 → AS → Option AR, nA (CW c A J) 100 1 (fun q s => uI s q i0 x (fun s2 => cR s2 (fL_thrown 0 19 q s2) (qI K))) = K (ii cd) (CW c' A' J')) ∧ LX 3 12 c c' A A' J J' := by
  have hpl := h.1.1.2.2.2.1.1
  have hw := h.2.2.2.1
  have x1 : LX 1 1 c (nwC c 100 1) A (up (nwA c A) c.2.2.1 0 a) J (nwJ c J) := (LX.new c A J 100 1).upN _ _ _ (Nat.le_refl _)
  have h1 := h.lx x1 (by omega)
  have o1 : okc (nwC c 100 1) c.2.2.1 100 1 := ⟨Nat.lt_succ_self _, if_pos rfl⟩
  have z1 : (nwC c 100 1).2.2.1 = c.2.2.1 + 1 := rfl
  have z2 : (nwC c 100 1).2.2.2.1 = c.2.2.2.1 + 1 := rfl
  have z3 : (nwC c 100 1).2.2.2.2 = c.2.2.2.2 + 1 := rfl
  obtain ⟨c3, A3, J3, y3, y4⟩ := t_thr_relock (J := nwJ c J) (A := up (nwA c A) c.2.2.1 0 a) (L := 1) h1.1.1 (by omega) o1 (by omega) hE (fun c4 A4 J4 hx => by
    have h4 := h1.lx hx (by omega)
    rw [up_s]
    exact hT c4 A4 J4 h4 (fun y => (hx.2.2.1 _ y (by omega) (fun s => by have := scC_lt s; omega)).trans (x1.2.2.1 _ y (by omega) (fun s => by have := scC_lt s; omega))))
  refine ⟨c3, A3, J3, fun K => ?_, x1.trans y4⟩
  rw [e0, ex, k_nA (n := 1) _ (by omega) ⟨rfl, by decide, by omega⟩, k_uI o1 0 a (by omega), y3, k_R y4, q_I]
theorem n_th_tighten (h : LwS C0 N0 n pl sp tv cap c A J M g o w) (hro : RO C0 N0 n cap c 3 12) (a : Int) {i0 x : Int32} (e0 : i0 = ii 0) (ex : x = ii a) (hE : ∀ τ, hF hxL_thrown E τ = some (Sum.inl (some (Value.int (ii (cd)))), τ)) (hT : ∀ (c4 : CC) (A4 : AI) (J4 : JI), LwS C0 N0 n pl sp tv cap c4 A4 J4 M g o w → (∀ y, A4 (pl + 3) y = A (pl + 3) y) → ∃ (A5 : AI) (J5 : JI), fX6_tighten 0 (ii a) (CW c4 A4 J4) = some (.inr E, CW (cU c4) A5 J5) ∧ frm scC A4 A5 J4 J5) : ∃ (c' : CC) (A' : AI) (J' : JI), (∀ K : Int32 → AS → Option AR, nA (CW c A J) 100 1 (fun q s => uI s q i0 x (fun s2 => cR s2 (fL_thrown 0 20 q s2) (qI K))) = K (ii cd) (CW c' A' J')) ∧ LX 3 12 c c' A A' J J' := by
  have hpl := h.1.1.2.2.2.1.1
  have hw := h.2.2.2.1
  have x1 : LX 1 1 c (nwC c 100 1) A (up (nwA c A) c.2.2.1 0 a) J (nwJ c J) := (LX.new c A J 100 1).upN _ _ _ (Nat.le_refl _)
  have h1 := h.lx x1 (by omega)
  have o1 : okc (nwC c 100 1) c.2.2.1 100 1 := ⟨Nat.lt_succ_self _, if_pos rfl⟩
  have z1 : (nwC c 100 1).2.2.1 = c.2.2.1 + 1 := rfl
  have z2 : (nwC c 100 1).2.2.2.1 = c.2.2.2.1 + 1 := rfl
  have z3 : (nwC c 100 1).2.2.2.2 = c.2.2.2.2 + 1 := rfl
  obtain ⟨c3, A3, J3, y3, y4⟩ := t_thr_tighten (J := nwJ c J) (A := up (nwA c A) c.2.2.1 0 a) (L := 1) h1.1.1 (by omega) o1 (by omega) hE (fun c4 A4 J4 hx => by
    have h4 := h1.lx hx (by omega)
    rw [up_s]
    exact hT c4 A4 J4 h4 (fun y => (hx.2.2.1 _ y (by omega) (fun s => by have := scC_lt s; omega)).trans (x1.2.2.1 _ y (by omega) (fun s => by have := scC_lt s; omega))))
  refine ⟨c3, A3, J3, fun K => ?_, x1.trans y4⟩
  rw [e0, ex, k_nA (n := 1) _ (by omega) ⟨rfl, by decide, by omega⟩, k_uI o1 0 a (by omega), y3, k_R y4, q_I]
theorem n_th_print (h : LwS C0 N0 n pl sp tv cap c A J M g o w) (hro : RO C0 N0 n cap c 3 12) (a : Int) {i0 x : Int32} (e0 : i0 = ii 0) (ex : x = ii a) (hE : ∀ τ, hF hxL_thrown E τ = some (Sum.inl (some (Value.int (ii (cd)))), τ)) (hT : ∀ (c4 : CC) (A4 : AI) (J4 : JI), LwS C0 N0 n pl sp tv cap c4 A4 J4 M g o w → (∀ y, A4 (pl + 3) y = A (pl + 3) y) → ∃ (A5 : AI) (J5 : JI), fX6_print 0 (ii a) (CW c4 A4 J4) = some (.inr E, CW (cU c4) A5 J5) ∧ frm scC A4 A5 J4 J5) : ∃ (c' : CC) (A' : AI) (J' : JI), (∀ K : Int32 → AS → Option AR, nA (CW c A J) 100 1 (fun q s => uI s q i0 x (fun s2 => cR s2 (fL_thrown 0 21 q s2) (qI K))) = K (ii cd) (CW c' A' J')) ∧ LX 3 12 c c' A A' J J' := by
  have hpl := h.1.1.2.2.2.1.1
  have hw := h.2.2.2.1
  have x1 : LX 1 1 c (nwC c 100 1) A (up (nwA c A) c.2.2.1 0 a) J (nwJ c J) := (LX.new c A J 100 1).upN _ _ _ (Nat.le_refl _)
  have h1 := h.lx x1 (by omega)
  have o1 : okc (nwC c 100 1) c.2.2.1 100 1 := ⟨Nat.lt_succ_self _, if_pos rfl⟩
  have z1 : (nwC c 100 1).2.2.1 = c.2.2.1 + 1 := rfl
  have z2 : (nwC c 100 1).2.2.2.1 = c.2.2.2.1 + 1 := rfl
  have z3 : (nwC c 100 1).2.2.2.2 = c.2.2.2.2 + 1 := rfl
  obtain ⟨c3, A3, J3, y3, y4⟩ := t_thr_print (J := nwJ c J) (A := up (nwA c A) c.2.2.1 0 a) (L := 1) h1.1.1 (by omega) o1 (by omega) hE (fun c4 A4 J4 hx => by
    have h4 := h1.lx hx (by omega)
    rw [up_s]
    exact hT c4 A4 J4 h4 (fun y => (hx.2.2.1 _ y (by omega) (fun s => by have := scC_lt s; omega)).trans (x1.2.2.1 _ y (by omega) (fun s => by have := scC_lt s; omega))))
  refine ⟨c3, A3, J3, fun K => ?_, x1.trans y4⟩
  rw [e0, ex, k_nA (n := 1) _ (by omega) ⟨rfl, by decide, by omega⟩, k_uI o1 0 a (by omega), y3, k_R y4, q_I]
theorem n_th_rest (h : LwS C0 N0 n pl sp tv cap c A J M g o w) (hro : RO C0 N0 n cap c 3 12) (a : Int) {i0 x : Int32} (e0 : i0 = ii 0) (ex : x = ii a) (hE : ∀ τ, hF hxL_thrown E τ = some (Sum.inl (some (Value.int (ii (cd)))), τ)) (hT : ∀ (c4 : CC) (A4 : AI) (J4 : JI), LwS C0 N0 n pl sp tv cap c4 A4 J4 M g o w → (∀ y, A4 (pl + 3) y = A (pl + 3) y) → ∃ (A5 : AI) (J5 : JI), fX6_rest 0 (ii a) (CW c4 A4 J4) = some (.inr E, CW (cU c4) A5 J5) ∧ frm scC A4 A5 J4 J5) : ∃ (c' : CC) (A' : AI) (J' : JI), (∀ K : Int32 → AS → Option AR, nA (CW c A J) 100 1 (fun q s => uI s q i0 x (fun s2 => cR s2 (fL_thrown 0 22 q s2) (qI K))) = K (ii cd) (CW c' A' J')) ∧ LX 3 12 c c' A A' J J' := by
  have hpl := h.1.1.2.2.2.1.1
  have hw := h.2.2.2.1
  have x1 : LX 1 1 c (nwC c 100 1) A (up (nwA c A) c.2.2.1 0 a) J (nwJ c J) := (LX.new c A J 100 1).upN _ _ _ (Nat.le_refl _)
  have h1 := h.lx x1 (by omega)
  have o1 : okc (nwC c 100 1) c.2.2.1 100 1 := ⟨Nat.lt_succ_self _, if_pos rfl⟩
  have z1 : (nwC c 100 1).2.2.1 = c.2.2.1 + 1 := rfl
  have z2 : (nwC c 100 1).2.2.2.1 = c.2.2.2.1 + 1 := rfl
  have z3 : (nwC c 100 1).2.2.2.2 = c.2.2.2.2 + 1 := rfl
  obtain ⟨c3, A3, J3, y3, y4⟩ := t_thr_rest (J := nwJ c J) (A := up (nwA c A) c.2.2.1 0 a) (L := 1) h1.1.1 (by omega) o1 (by omega) hE (fun c4 A4 J4 hx => by
    have h4 := h1.lx hx (by omega)
    rw [up_s]
    exact hT c4 A4 J4 h4 (fun y => (hx.2.2.1 _ y (by omega) (fun s => by have := scC_lt s; omega)).trans (x1.2.2.1 _ y (by omega) (fun s => by have := scC_lt s; omega))))
  refine ⟨c3, A3, J3, fun K => ?_, x1.trans y4⟩
  rw [e0, ex, k_nA (n := 1) _ (by omega) ⟨rfl, by decide, by omega⟩, k_uI o1 0 a (by omega), y3, k_R y4, q_I]
end THQ
