/-! THE LAW: exceptions, by their numbers -/
/-- new cells, scratch, and so much room -/
abbrev LX (k m : Nat) (c c' : CC) (A A' : AI) (J J' : JI) : Prop := exc c c' ∧ (c'.2.2.1 ≤ c.2.2.1 + k ∧ (c.2.2.2.1 ≤ c'.2.2.2.1 ∧ c'.2.2.2.1 ≤ c.2.2.2.1 + k) ∧ c.2.2.2.2 ≤ c'.2.2.2.2 ∧ c'.2.2.2.2 ≤ c.2.2.2.2 + m) ∧ (∀ (b : Nat) (z : Int), b < c.2.2.1 → ¬ scC b → A' b z = A b z) ∧ ∀ b j : Nat, b < c.2.2.1 → ¬ scC b → J' b j = J b j
section THN
variable {C0 N0 n : Nat} {c c' c2 : CC} {A A' A2 : AI} {J J' J2 : JI} {M : AI} {g : Int → Int} {pl sp tv cap k m k2 m2 L q : Nat} {E : String} {cd : Int}
theorem LX.refl (c : CC) (A : AI) (J : JI) : LX 0 0 c c A A J J := ⟨exc.refl c, by omega, fun _ _ _ _ => rfl, fun _ _ _ _ => rfl⟩
theorem LX.trans (h : LX k m c c' A A' J J') (h2 : LX k2 m2 c' c2 A' A2 J' J2) : LX (k + k2) (m + m2) c c2 A A2 J J2 := by
  obtain ⟨a1, a2, a3, a4⟩ := h
  obtain ⟨b1, b2, b3, b4⟩ := h2
  have := a1.1
  exact ⟨a1.trans b1, by omega, fun b z x y => (b3 b z (by omega) y).trans (a3 b z x y), fun b j x y => (b4 b j (by omega) y).trans (a4 b j x y)⟩
theorem LX.mono (h : LX k m c c' A A' J J') (hk : k ≤ k2) (hm : m ≤ m2) : LX k2 m2 c c' A A' J J' := ⟨h.1, by have := h.2.1; omega, h.2.2⟩
/-- an int array is made -/
theorem LX.new (c : CC) (A : AI) (J : JI) (t s : Nat) : LX 1 s c (nwC c t s) A (nwA c A) J (nwJ c J) := ⟨exc.new c t s, ⟨Nat.le_refl _, ⟨Nat.le_succ _, Nat.le_refl _⟩, Nat.le_add_right _ _, Nat.le_refl _⟩, fun b z x _ => if_neg (by omega), fun b j x _ => if_neg (by omega)⟩
theorem LX.upN (h : LX k m c c' A A' J J') (b : Nat) (z v : Int) (hb : c.2.2.1 ≤ b) : LX k m c c' A (up A' b z v) J J' := ⟨h.1, h.2.1, fun b2 z2 x y => by rw [up_n _ _ _ _ _ _ (by omega)]; exact h.2.2.1 b2 z2 x y, h.2.2.2⟩
theorem LX.cU (c : CC) (A A' : AI) (J J' : JI) (hf : frm scC A A' J J') : LX 1 6 c (cU c) A A' J J' := ⟨⟨Nat.le_refl _, fun _ _ => rfl, fun _ _ _ => rfl⟩, ⟨Nat.le_succ _, ⟨Nat.le_succ _, Nat.le_refl _⟩, Nat.le_add_right _ 6, Nat.le_refl _⟩, fun b z _ y => hf.1 b z y, fun b j _ y => hf.2 b j y⟩
theorem scC_lt {b : Nat} (h : scC b) : b < 373 := by
  rcases h with x | x
  · unfold inV at x; omega
  · unfold inS at x; omega
/-- the class's invariant, behind new cells and scratch -/
theorem Inv.lx (h : Inv C0 N0 n pl sp tv cap c A J M g) (hx : LX k m c c' A A' J J') (h1 : c.2.2.1 + k ≤ zB + cap) (h2 : c.2.2.2.1 + k ≤ C0 + n + cap) (h3 : c.2.2.2.2 + m ≤ N0 + 6 * n + 2 * cap) : Inv C0 N0 n pl sp tv cap c' A' J' M g := by
  obtain ⟨a1, a2, a3, a4⟩ := hx
  have hz := h.1.zl
  have htv := h.1.2.2.2.2.1.2.2.2
  have ht := h.1.2.2.2.2.1.2.2.1.1
  refine h.law a1 (by omega) (by omega) (fun b z x y => a3 b z (by omega) y) (fun b j x y => a4 b j (by omega) y) (fun z => a3 tv z ht (fun y => ?_))
  have := scC_lt y
  omega
theorem nCode1 (τ : AS) : hF hxL_thrown "java/lang/IllegalStateException" τ = some (Sum.inl (some (Value.int (ii (1)))), τ) := rfl
theorem nCode2 (τ : AS) : hF hxL_thrown "java/lang/IndexOutOfBoundsException" τ = some (Sum.inl (some (Value.int (ii (2)))), τ) := rfl
theorem nCode3 (τ : AS) : hF hxL_thrown "java/lang/IllegalArgumentException" τ = some (Sum.inl (some (Value.int (ii (3)))), τ) := rfl
theorem t_thr0 (hz : c.2.2.1 < 1000000) (hq : okc c q 100 L) (hL : L ≤ 5) (w : Int32) : ∃ (c1 : CC) (A1 : AI) (J1 : JI), LX 1 5 c c1 A A1 J J1 ∧ okc c1 c.2.2.1 100 5 ∧ (∀ z : Int, 0 ≤ z → z < L → A1 c.2.2.1 z = A q z) ∧ ∀ (A2 : AI) (J2 : JI), fL_calls 0 w c.2.2.1 (CW c1 A1 J1) = some (.inr E, CW (cU c1) A2 J2) → (∀ τ, hF hxL_thrown E τ = some (Sum.inl (some (Value.int (ii (cd)))), τ)) → fL_thrown 0 w q (CW c A J) = some (Sum.inl (some (Value.int (ii (cd)))), CW (cU c1) A2 J2) := by
  have hqz := hq.1
  have o1 : okc (nwC c 100 5) q 100 L := okc_x hq (exc.new _ _ _)
  have o2 : okc (nwC c 100 5) c.2.2.1 100 5 := ⟨Nat.lt_succ_self _, if_pos rfl⟩
  have hx : LX 1 5 c (nwC c 100 5) A (cpA (nwA c A) q c.2.2.1 L) J (nwJ c J) := ⟨exc.new c 100 5, ⟨Nat.le_refl _, ⟨Nat.le_succ _, Nat.le_refl _⟩, Nat.le_add_right _ _, Nat.le_refl _⟩, fun b z x _ => by
    rw [cpA_n _ _ _ _ _ _ (by omega)]
    exact if_neg (by omega), fun b j x _ => if_neg (by omega)⟩
  refine ⟨_, _, _, hx, o2, fun z a b => ?_, fun A2 J2 h hE => ?_⟩
  · rw [cpA_s _ _ _ _ _ ⟨a, b⟩]
    exact if_neg (by omega)
  · rw [fL_thrown, show (5 : Int32) = ii 5 from rfl, k_nA (n := 5) _ hz ⟨rfl, by decide, by omega⟩, k_aL o1, show (0 : Int32) = ii 0 from rfl, k_cp o1 o2 L (by omega), h]
    show (if ax_le (CW (nwC c 100 5) _ _) (CW (_root_.id (Jvm.Pilot.CChaseLockerLaw_law_r8511_0d16c9.cU (nwC c 100 5))) A2 J2) then hF hxL_thrown E _ else none) = _
    refine (if_pos ⟨Nat.le_succ _, Nat.le_add_right _ 6, Nat.le_refl _⟩).trans (hE _)
theorem t_thr_count (hk : isLock c pl sp tv cap) (hz : c.2.2.1 < 1000000) (hq : okc c q 100 L) (hL : 1 ≤ L ∧ L ≤ 5) (hE : ∀ τ, hF hxL_thrown E τ = some (Sum.inl (some (Value.int (ii (cd)))), τ)) (h : ∀ (c1 : CC) (A1 : AI) (J1 : JI), LX 1 5 c c1 A A1 J J1 → ∃ (A2 : AI) (J2 : JI), fX6_count 0 (ii (A q 0)) (CW c1 A1 J1) = some (.inr E, CW (cU c1) A2 J2) ∧ frm scC A1 A2 J1 J2) : ∃ (c' : CC) (A' : AI) (J' : JI), fL_thrown 0 0 q (CW c A J) = some (Sum.inl (some (Value.int (ii (cd)))), CW c' A' J') ∧ LX 2 11 c c' A A' J J' := by
  obtain ⟨c1, A1, J1, x1, o2, x2, x3⟩ := t_thr0 (A := A) (J := J) (E := E) (cd := cd) hz hq hL.2 0
  obtain ⟨A2, J2, y1, y2⟩ := h c1 A1 J1 x1
  have e0 := x2 0 (by omega) (by omega)
  have hk1 := hk.x x1.1
  refine ⟨_, _, _, x3 A2 J2 ?_ hE, x1.trans (LX.cU c1 A1 A2 J1 J2 y2)⟩
  rw [fL_calls, if_pos rfl, show (0 : Int32) = ii 0 from rfl, k_aI o2 0 (by omega), lkV hk1, e0, y1, k_E]
theorem t_thr_setting (hk : isLock c pl sp tv cap) (hz : c.2.2.1 < 1000000) (hq : okc c q 100 L) (hL : 1 ≤ L ∧ L ≤ 5) (hE : ∀ τ, hF hxL_thrown E τ = some (Sum.inl (some (Value.int (ii (cd)))), τ)) (h : ∀ (c1 : CC) (A1 : AI) (J1 : JI), LX 1 5 c c1 A A1 J J1 → ∃ (A2 : AI) (J2 : JI), fX6_setting 0 (ii (A q 0)) (CW c1 A1 J1) = some (.inr E, CW (cU c1) A2 J2) ∧ frm scC A1 A2 J1 J2) : ∃ (c' : CC) (A' : AI) (J' : JI), fL_thrown 0 1 q (CW c A J) = some (Sum.inl (some (Value.int (ii (cd)))), CW c' A' J') ∧ LX 2 11 c c' A A' J J' := by
  obtain ⟨c1, A1, J1, x1, o2, x2, x3⟩ := t_thr0 (A := A) (J := J) (E := E) (cd := cd) hz hq hL.2 1
  obtain ⟨A2, J2, y1, y2⟩ := h c1 A1 J1 x1
  have e0 := x2 0 (by omega) (by omega)
  have hk1 := hk.x x1.1
  refine ⟨_, _, _, x3 A2 J2 ?_ hE, x1.trans (LX.cU c1 A1 A2 J1 J2 y2)⟩
  rw [fL_calls, if_neg (by decide), if_pos rfl, show (0 : Int32) = ii 0 from rfl, k_aI o2 0 (by omega), lkV hk1, e0, y1, k_E]
theorem t_thr_row (hk : isLock c pl sp tv cap) (hz : c.2.2.1 < 1000000) (hq : okc c q 100 L) (hL : 2 ≤ L ∧ L ≤ 5) (hE : ∀ τ, hF hxL_thrown E τ = some (Sum.inl (some (Value.int (ii (cd)))), τ)) (h : ∀ (c1 : CC) (A1 : AI) (J1 : JI), LX 1 5 c c1 A A1 J J1 → ∃ (A2 : AI) (J2 : JI), fX6_row 0 (ii (A q 0)) (ii (A q 1)) (CW c1 A1 J1) = some (.inr E, CW (cU c1) A2 J2) ∧ frm scC A1 A2 J1 J2) : ∃ (c' : CC) (A' : AI) (J' : JI), fL_thrown 0 2 q (CW c A J) = some (Sum.inl (some (Value.int (ii (cd)))), CW c' A' J') ∧ LX 2 11 c c' A A' J J' := by
  obtain ⟨c1, A1, J1, x1, o2, x2, x3⟩ := t_thr0 (A := A) (J := J) (E := E) (cd := cd) hz hq hL.2 2
  obtain ⟨A2, J2, y1, y2⟩ := h c1 A1 J1 x1
  have e0 := x2 0 (by omega) (by omega)
  have e1 := x2 1 (by omega) (by omega)
  have hk1 := hk.x x1.1
  refine ⟨_, _, _, x3 A2 J2 ?_ hE, x1.trans (LX.cU c1 A1 A2 J1 J2 y2)⟩
  rw [fL_calls, if_neg (by decide), if_neg (by decide), if_pos rfl, show (0 : Int32) = ii 0 from rfl, k_aI o2 0 (by omega), show (1 : Int32) = ii 1 from rfl, k_aI o2 1 (by omega), lkV hk1, e0, e1, y1, k_E]
theorem t_thr_block (hk : isLock c pl sp tv cap) (hz : c.2.2.1 < 1000000) (hq : okc c q 100 L) (hL : 2 ≤ L ∧ L ≤ 5) (hE : ∀ τ, hF hxL_thrown E τ = some (Sum.inl (some (Value.int (ii (cd)))), τ)) (h : ∀ (c1 : CC) (A1 : AI) (J1 : JI), LX 1 5 c c1 A A1 J J1 → ∃ (A2 : AI) (J2 : JI), fX6_block 0 (ii (A q 0)) (ii (A q 1)) (CW c1 A1 J1) = some (.inr E, CW (cU c1) A2 J2) ∧ frm scC A1 A2 J1 J2) : ∃ (c' : CC) (A' : AI) (J' : JI), fL_thrown 0 3 q (CW c A J) = some (Sum.inl (some (Value.int (ii (cd)))), CW c' A' J') ∧ LX 2 11 c c' A A' J J' := by
  obtain ⟨c1, A1, J1, x1, o2, x2, x3⟩ := t_thr0 (A := A) (J := J) (E := E) (cd := cd) hz hq hL.2 3
  obtain ⟨A2, J2, y1, y2⟩ := h c1 A1 J1 x1
  have e0 := x2 0 (by omega) (by omega)
  have e1 := x2 1 (by omega) (by omega)
  have hk1 := hk.x x1.1
  refine ⟨_, _, _, x3 A2 J2 ?_ hE, x1.trans (LX.cU c1 A1 A2 J1 J2 y2)⟩
  rw [fL_calls, if_neg (by decide), if_neg (by decide), if_neg (by decide), if_pos rfl, show (0 : Int32) = ii 0 from rfl, k_aI o2 0 (by omega), show (1 : Int32) = ii 1 from rfl, k_aI o2 1 (by omega), lkV hk1, e0, e1, y1, k_E]
theorem t_thr_piece (hk : isLock c pl sp tv cap) (hz : c.2.2.1 < 1000000) (hq : okc c q 100 L) (hL : 2 ≤ L ∧ L ≤ 5) (hE : ∀ τ, hF hxL_thrown E τ = some (Sum.inl (some (Value.int (ii (cd)))), τ)) (h : ∀ (c1 : CC) (A1 : AI) (J1 : JI), LX 1 5 c c1 A A1 J J1 → ∃ (A2 : AI) (J2 : JI), fX6_piece 0 (ii (A q 0)) (ii (A q 1)) (CW c1 A1 J1) = some (.inr E, CW (cU c1) A2 J2) ∧ frm scC A1 A2 J1 J2) : ∃ (c' : CC) (A' : AI) (J' : JI), fL_thrown 0 4 q (CW c A J) = some (Sum.inl (some (Value.int (ii (cd)))), CW c' A' J') ∧ LX 2 11 c c' A A' J J' := by
  obtain ⟨c1, A1, J1, x1, o2, x2, x3⟩ := t_thr0 (A := A) (J := J) (E := E) (cd := cd) hz hq hL.2 4
  obtain ⟨A2, J2, y1, y2⟩ := h c1 A1 J1 x1
  have e0 := x2 0 (by omega) (by omega)
  have e1 := x2 1 (by omega) (by omega)
  have hk1 := hk.x x1.1
  refine ⟨_, _, _, x3 A2 J2 ?_ hE, x1.trans (LX.cU c1 A1 A2 J1 J2 y2)⟩
  rw [fL_calls, if_neg (by decide), if_neg (by decide), if_neg (by decide), if_neg (by decide), if_pos rfl, show (0 : Int32) = ii 0 from rfl, k_aI o2 0 (by omega), show (1 : Int32) = ii 1 from rfl, k_aI o2 1 (by omega), lkV hk1, e0, e1, y1, k_E]
theorem t_thr_kind (hk : isLock c pl sp tv cap) (hz : c.2.2.1 < 1000000) (hq : okc c q 100 L) (hL : 2 ≤ L ∧ L ≤ 5) (hE : ∀ τ, hF hxL_thrown E τ = some (Sum.inl (some (Value.int (ii (cd)))), τ)) (h : ∀ (c1 : CC) (A1 : AI) (J1 : JI), LX 1 5 c c1 A A1 J J1 → ∃ (A2 : AI) (J2 : JI), fX6_kind 0 (ii (A q 0)) (ii (A q 1)) (CW c1 A1 J1) = some (.inr E, CW (cU c1) A2 J2) ∧ frm scC A1 A2 J1 J2) : ∃ (c' : CC) (A' : AI) (J' : JI), fL_thrown 0 5 q (CW c A J) = some (Sum.inl (some (Value.int (ii (cd)))), CW c' A' J') ∧ LX 2 11 c c' A A' J J' := by
  obtain ⟨c1, A1, J1, x1, o2, x2, x3⟩ := t_thr0 (A := A) (J := J) (E := E) (cd := cd) hz hq hL.2 5
  obtain ⟨A2, J2, y1, y2⟩ := h c1 A1 J1 x1
  have e0 := x2 0 (by omega) (by omega)
  have e1 := x2 1 (by omega) (by omega)
  have hk1 := hk.x x1.1
  refine ⟨_, _, _, x3 A2 J2 ?_ hE, x1.trans (LX.cU c1 A1 A2 J1 J2 y2)⟩
  rw [fL_calls, if_neg (by decide), if_neg (by decide), if_neg (by decide), if_neg (by decide), if_neg (by decide), if_pos rfl, show (0 : Int32) = ii 0 from rfl, k_aI o2 0 (by omega), show (1 : Int32) = ii 1 from rfl, k_aI o2 1 (by omega), lkV hk1, e0, e1, y1, k_E]
theorem t_thr_rowFor (hk : isLock c pl sp tv cap) (hz : c.2.2.1 < 1000000) (hq : okc c q 100 L) (hL : 1 ≤ L ∧ L ≤ 5) (hE : ∀ τ, hF hxL_thrown E τ = some (Sum.inl (some (Value.int (ii (cd)))), τ)) (h : ∀ (c1 : CC) (A1 : AI) (J1 : JI), LX 1 5 c c1 A A1 J J1 → ∃ (A2 : AI) (J2 : JI), fX6_rowFor 0 (ii (A q 0)) (CW c1 A1 J1) = some (.inr E, CW (cU c1) A2 J2) ∧ frm scC A1 A2 J1 J2) : ∃ (c' : CC) (A' : AI) (J' : JI), fL_thrown 0 8 q (CW c A J) = some (Sum.inl (some (Value.int (ii (cd)))), CW c' A' J') ∧ LX 2 11 c c' A A' J J' := by
  obtain ⟨c1, A1, J1, x1, o2, x2, x3⟩ := t_thr0 (A := A) (J := J) (E := E) (cd := cd) hz hq hL.2 8
  obtain ⟨A2, J2, y1, y2⟩ := h c1 A1 J1 x1
  have e0 := x2 0 (by omega) (by omega)
  have hk1 := hk.x x1.1
  refine ⟨_, _, _, x3 A2 J2 ?_ hE, x1.trans (LX.cU c1 A1 A2 J1 J2 y2)⟩
  rw [fL_calls, if_neg (by decide), if_neg (by decide), if_neg (by decide), if_neg (by decide), if_neg (by decide), if_neg (by decide), if_neg (by decide), if_neg (by decide), if_pos rfl, show (0 : Int32) = ii 0 from rfl, k_aI o2 0 (by omega), lkV hk1, e0, y1, k_E]
theorem t_thr_textByte (hk : isLock c pl sp tv cap) (hz : c.2.2.1 < 1000000) (hq : okc c q 100 L) (hL : 1 ≤ L ∧ L ≤ 5) (hE : ∀ τ, hF hxL_thrown E τ = some (Sum.inl (some (Value.int (ii (cd)))), τ)) (h : ∀ (c1 : CC) (A1 : AI) (J1 : JI), LX 1 5 c c1 A A1 J J1 → ∃ (A2 : AI) (J2 : JI), fX6_textByte 0 (ii (A q 0)) (CW c1 A1 J1) = some (.inr E, CW (cU c1) A2 J2) ∧ frm scC A1 A2 J1 J2) : ∃ (c' : CC) (A' : AI) (J' : JI), fL_thrown 0 11 q (CW c A J) = some (Sum.inl (some (Value.int (ii (cd)))), CW c' A' J') ∧ LX 2 11 c c' A A' J J' := by
  obtain ⟨c1, A1, J1, x1, o2, x2, x3⟩ := t_thr0 (A := A) (J := J) (E := E) (cd := cd) hz hq hL.2 11
  obtain ⟨A2, J2, y1, y2⟩ := h c1 A1 J1 x1
  have e0 := x2 0 (by omega) (by omega)
  have hk1 := hk.x x1.1
  refine ⟨_, _, _, x3 A2 J2 ?_ hE, x1.trans (LX.cU c1 A1 A2 J1 J2 y2)⟩
  rw [fL_calls, if_neg (by decide), if_neg (by decide), if_neg (by decide), if_neg (by decide), if_neg (by decide), if_neg (by decide), if_neg (by decide), if_neg (by decide), if_neg (by decide), if_neg (by decide), if_neg (by decide), if_pos rfl, show (0 : Int32) = ii 0 from rfl, k_aI o2 0 (by omega), lkV hk1, e0, y1, k_E]
theorem t_thr_place (hk : isLock c pl sp tv cap) (hz : c.2.2.1 < 1000000) (hq : okc c q 100 L) (hL : 2 ≤ L ∧ L ≤ 5) (hE : ∀ τ, hF hxL_thrown E τ = some (Sum.inl (some (Value.int (ii (cd)))), τ)) (h : ∀ (c1 : CC) (A1 : AI) (J1 : JI), LX 1 5 c c1 A A1 J J1 → ∃ (A2 : AI) (J2 : JI), fX6_place 0 (ii (A q 0)) (ii (A q 1)) (CW c1 A1 J1) = some (.inr E, CW (cU c1) A2 J2) ∧ frm scC A1 A2 J1 J2) : ∃ (c' : CC) (A' : AI) (J' : JI), fL_thrown 0 12 q (CW c A J) = some (Sum.inl (some (Value.int (ii (cd)))), CW c' A' J') ∧ LX 2 11 c c' A A' J J' := by
  obtain ⟨c1, A1, J1, x1, o2, x2, x3⟩ := t_thr0 (A := A) (J := J) (E := E) (cd := cd) hz hq hL.2 12
  obtain ⟨A2, J2, y1, y2⟩ := h c1 A1 J1 x1
  have e0 := x2 0 (by omega) (by omega)
  have e1 := x2 1 (by omega) (by omega)
  have hk1 := hk.x x1.1
  refine ⟨_, _, _, x3 A2 J2 ?_ hE, x1.trans (LX.cU c1 A1 A2 J1 J2 y2)⟩
  rw [fL_calls, if_neg (by decide), if_neg (by decide), if_neg (by decide), if_neg (by decide), if_neg (by decide), if_neg (by decide), if_neg (by decide), if_neg (by decide), if_neg (by decide), if_neg (by decide), if_neg (by decide), if_neg (by decide), if_pos rfl, show (0 : Int32) = ii 0 from rfl, k_aI o2 0 (by omega), show (1 : Int32) = ii 1 from rfl, k_aI o2 1 (by omega), lkV hk1, e0, e1, y1, k_E]
theorem t_thr_lift (hk : isLock c pl sp tv cap) (hz : c.2.2.1 < 1000000) (hq : okc c q 100 L) (hL : 2 ≤ L ∧ L ≤ 5) (hE : ∀ τ, hF hxL_thrown E τ = some (Sum.inl (some (Value.int (ii (cd)))), τ)) (h : ∀ (c1 : CC) (A1 : AI) (J1 : JI), LX 1 5 c c1 A A1 J J1 → ∃ (A2 : AI) (J2 : JI), fX6_lift 0 (ii (A q 0)) (ii (A q 1)) (CW c1 A1 J1) = some (.inr E, CW (cU c1) A2 J2) ∧ frm scC A1 A2 J1 J2) : ∃ (c' : CC) (A' : AI) (J' : JI), fL_thrown 0 13 q (CW c A J) = some (Sum.inl (some (Value.int (ii (cd)))), CW c' A' J') ∧ LX 2 11 c c' A A' J J' := by
  obtain ⟨c1, A1, J1, x1, o2, x2, x3⟩ := t_thr0 (A := A) (J := J) (E := E) (cd := cd) hz hq hL.2 13
  obtain ⟨A2, J2, y1, y2⟩ := h c1 A1 J1 x1
  have e0 := x2 0 (by omega) (by omega)
  have e1 := x2 1 (by omega) (by omega)
  have hk1 := hk.x x1.1
  refine ⟨_, _, _, x3 A2 J2 ?_ hE, x1.trans (LX.cU c1 A1 A2 J1 J2 y2)⟩
  rw [fL_calls, if_neg (by decide), if_neg (by decide), if_neg (by decide), if_neg (by decide), if_neg (by decide), if_neg (by decide), if_neg (by decide), if_neg (by decide), if_neg (by decide), if_neg (by decide), if_neg (by decide), if_neg (by decide), if_neg (by decide), if_pos rfl, show (0 : Int32) = ii 0 from rfl, k_aI o2 0 (by omega), show (1 : Int32) = ii 1 from rfl, k_aI o2 1 (by omega), lkV hk1, e0, e1, y1, k_E]
theorem t_thr_put (hk : isLock c pl sp tv cap) (hz : c.2.2.1 < 1000000) (hq : okc c q 100 L) (hL : 2 ≤ L ∧ L ≤ 5) (hE : ∀ τ, hF hxL_thrown E τ = some (Sum.inl (some (Value.int (ii (cd)))), τ)) (h : ∀ (c1 : CC) (A1 : AI) (J1 : JI), LX 1 5 c c1 A A1 J J1 → ∃ (A2 : AI) (J2 : JI), fX6_put 0 (ii (A q 0)) (ii (A q 1)) (CW c1 A1 J1) = some (.inr E, CW (cU c1) A2 J2) ∧ frm scC A1 A2 J1 J2) : ∃ (c' : CC) (A' : AI) (J' : JI), fL_thrown 0 14 q (CW c A J) = some (Sum.inl (some (Value.int (ii (cd)))), CW c' A' J') ∧ LX 2 11 c c' A A' J J' := by
  obtain ⟨c1, A1, J1, x1, o2, x2, x3⟩ := t_thr0 (A := A) (J := J) (E := E) (cd := cd) hz hq hL.2 14
  obtain ⟨A2, J2, y1, y2⟩ := h c1 A1 J1 x1
  have e0 := x2 0 (by omega) (by omega)
  have e1 := x2 1 (by omega) (by omega)
  have hk1 := hk.x x1.1
  refine ⟨_, _, _, x3 A2 J2 ?_ hE, x1.trans (LX.cU c1 A1 A2 J1 J2 y2)⟩
  rw [fL_calls, if_neg (by decide), if_neg (by decide), if_neg (by decide), if_neg (by decide), if_neg (by decide), if_neg (by decide), if_neg (by decide), if_neg (by decide), if_neg (by decide), if_neg (by decide), if_neg (by decide), if_neg (by decide), if_neg (by decide), if_neg (by decide), if_pos rfl, show (0 : Int32) = ii 0 from rfl, k_aI o2 0 (by omega), show (1 : Int32) = ii 1 from rfl, k_aI o2 1 (by omega), lkV hk1, e0, e1, y1, k_E]
theorem t_thr_take (hk : isLock c pl sp tv cap) (hz : c.2.2.1 < 1000000) (hq : okc c q 100 L) (hL : 2 ≤ L ∧ L ≤ 5) (hE : ∀ τ, hF hxL_thrown E τ = some (Sum.inl (some (Value.int (ii (cd)))), τ)) (h : ∀ (c1 : CC) (A1 : AI) (J1 : JI), LX 1 5 c c1 A A1 J J1 → ∃ (A2 : AI) (J2 : JI), fX6_take 0 (ii (A q 0)) (ii (A q 1)) (CW c1 A1 J1) = some (.inr E, CW (cU c1) A2 J2) ∧ frm scC A1 A2 J1 J2) : ∃ (c' : CC) (A' : AI) (J' : JI), fL_thrown 0 15 q (CW c A J) = some (Sum.inl (some (Value.int (ii (cd)))), CW c' A' J') ∧ LX 2 11 c c' A A' J J' := by
  obtain ⟨c1, A1, J1, x1, o2, x2, x3⟩ := t_thr0 (A := A) (J := J) (E := E) (cd := cd) hz hq hL.2 15
  obtain ⟨A2, J2, y1, y2⟩ := h c1 A1 J1 x1
  have e0 := x2 0 (by omega) (by omega)
  have e1 := x2 1 (by omega) (by omega)
  have hk1 := hk.x x1.1
  refine ⟨_, _, _, x3 A2 J2 ?_ hE, x1.trans (LX.cU c1 A1 A2 J1 J2 y2)⟩
  rw [fL_calls, if_neg (by decide), if_neg (by decide), if_neg (by decide), if_neg (by decide), if_neg (by decide), if_neg (by decide), if_neg (by decide), if_neg (by decide), if_neg (by decide), if_neg (by decide), if_neg (by decide), if_neg (by decide), if_neg (by decide), if_neg (by decide), if_neg (by decide), if_pos rfl, show (0 : Int32) = ii 0 from rfl, k_aI o2 0 (by omega), show (1 : Int32) = ii 1 from rfl, k_aI o2 1 (by omega), lkV hk1, e0, e1, y1, k_E]
theorem t_thr_open (hk : isLock c pl sp tv cap) (hz : c.2.2.1 < 1000000) (hq : okc c q 100 L) (hL : 2 ≤ L ∧ L ≤ 5) (hE : ∀ τ, hF hxL_thrown E τ = some (Sum.inl (some (Value.int (ii (cd)))), τ)) (h : ∀ (c1 : CC) (A1 : AI) (J1 : JI), LX 1 5 c c1 A A1 J J1 → ∃ (A2 : AI) (J2 : JI), fX6_open 0 (ii (A q 0)) (ii (A q 1)) (CW c1 A1 J1) = some (.inr E, CW (cU c1) A2 J2) ∧ frm scC A1 A2 J1 J2) : ∃ (c' : CC) (A' : AI) (J' : JI), fL_thrown 0 17 q (CW c A J) = some (Sum.inl (some (Value.int (ii (cd)))), CW c' A' J') ∧ LX 2 11 c c' A A' J J' := by
  obtain ⟨c1, A1, J1, x1, o2, x2, x3⟩ := t_thr0 (A := A) (J := J) (E := E) (cd := cd) hz hq hL.2 17
  obtain ⟨A2, J2, y1, y2⟩ := h c1 A1 J1 x1
  have e0 := x2 0 (by omega) (by omega)
  have e1 := x2 1 (by omega) (by omega)
  have hk1 := hk.x x1.1
  refine ⟨_, _, _, x3 A2 J2 ?_ hE, x1.trans (LX.cU c1 A1 A2 J1 J2 y2)⟩
  rw [fL_calls, if_neg (by decide), if_neg (by decide), if_neg (by decide), if_neg (by decide), if_neg (by decide), if_neg (by decide), if_neg (by decide), if_neg (by decide), if_neg (by decide), if_neg (by decide), if_neg (by decide), if_neg (by decide), if_neg (by decide), if_neg (by decide), if_neg (by decide), if_neg (by decide), if_neg (by decide), if_pos rfl, show (0 : Int32) = ii 0 from rfl, k_aI o2 0 (by omega), show (1 : Int32) = ii 1 from rfl, k_aI o2 1 (by omega), lkV hk1, e0, e1, y1, k_E]
theorem t_thr_lock (hk : isLock c pl sp tv cap) (hz : c.2.2.1 < 1000000) (hq : okc c q 100 L) (hL : 1 ≤ L ∧ L ≤ 5) (hE : ∀ τ, hF hxL_thrown E τ = some (Sum.inl (some (Value.int (ii (cd)))), τ)) (h : ∀ (c1 : CC) (A1 : AI) (J1 : JI), LX 1 5 c c1 A A1 J J1 → ∃ (A2 : AI) (J2 : JI), fX6_lock 0 (ii (A q 0)) (CW c1 A1 J1) = some (.inr E, CW (cU c1) A2 J2) ∧ frm scC A1 A2 J1 J2) : ∃ (c' : CC) (A' : AI) (J' : JI), fL_thrown 0 18 q (CW c A J) = some (Sum.inl (some (Value.int (ii (cd)))), CW c' A' J') ∧ LX 2 11 c c' A A' J J' := by
  obtain ⟨c1, A1, J1, x1, o2, x2, x3⟩ := t_thr0 (A := A) (J := J) (E := E) (cd := cd) hz hq hL.2 18
  obtain ⟨A2, J2, y1, y2⟩ := h c1 A1 J1 x1
  have e0 := x2 0 (by omega) (by omega)
  have hk1 := hk.x x1.1
  refine ⟨_, _, _, x3 A2 J2 ?_ hE, x1.trans (LX.cU c1 A1 A2 J1 J2 y2)⟩
  rw [fL_calls, if_neg (by decide), if_neg (by decide), if_neg (by decide), if_neg (by decide), if_neg (by decide), if_neg (by decide), if_neg (by decide), if_neg (by decide), if_neg (by decide), if_neg (by decide), if_neg (by decide), if_neg (by decide), if_neg (by decide), if_neg (by decide), if_neg (by decide), if_neg (by decide), if_neg (by decide), if_neg (by decide), if_pos rfl, show (0 : Int32) = ii 0 from rfl, k_aI o2 0 (by omega), lkV hk1, e0, y1, k_E]
theorem t_thr_relock (hk : isLock c pl sp tv cap) (hz : c.2.2.1 < 1000000) (hq : okc c q 100 L) (hL : 1 ≤ L ∧ L ≤ 5) (hE : ∀ τ, hF hxL_thrown E τ = some (Sum.inl (some (Value.int (ii (cd)))), τ)) (h : ∀ (c1 : CC) (A1 : AI) (J1 : JI), LX 1 5 c c1 A A1 J J1 → ∃ (A2 : AI) (J2 : JI), fX6_relock 0 (ii (A q 0)) (CW c1 A1 J1) = some (.inr E, CW (cU c1) A2 J2) ∧ frm scC A1 A2 J1 J2) : ∃ (c' : CC) (A' : AI) (J' : JI), fL_thrown 0 19 q (CW c A J) = some (Sum.inl (some (Value.int (ii (cd)))), CW c' A' J') ∧ LX 2 11 c c' A A' J J' := by
  obtain ⟨c1, A1, J1, x1, o2, x2, x3⟩ := t_thr0 (A := A) (J := J) (E := E) (cd := cd) hz hq hL.2 19
  obtain ⟨A2, J2, y1, y2⟩ := h c1 A1 J1 x1
  have e0 := x2 0 (by omega) (by omega)
  have hk1 := hk.x x1.1
  refine ⟨_, _, _, x3 A2 J2 ?_ hE, x1.trans (LX.cU c1 A1 A2 J1 J2 y2)⟩
  rw [fL_calls, if_neg (by decide), if_neg (by decide), if_neg (by decide), if_neg (by decide), if_neg (by decide), if_neg (by decide), if_neg (by decide), if_neg (by decide), if_neg (by decide), if_neg (by decide), if_neg (by decide), if_neg (by decide), if_neg (by decide), if_neg (by decide), if_neg (by decide), if_neg (by decide), if_neg (by decide), if_neg (by decide), if_neg (by decide), if_pos rfl, show (0 : Int32) = ii 0 from rfl, k_aI o2 0 (by omega), lkV hk1, e0, y1, k_E]
theorem t_thr_tighten (hk : isLock c pl sp tv cap) (hz : c.2.2.1 < 1000000) (hq : okc c q 100 L) (hL : 1 ≤ L ∧ L ≤ 5) (hE : ∀ τ, hF hxL_thrown E τ = some (Sum.inl (some (Value.int (ii (cd)))), τ)) (h : ∀ (c1 : CC) (A1 : AI) (J1 : JI), LX 1 5 c c1 A A1 J J1 → ∃ (A2 : AI) (J2 : JI), fX6_tighten 0 (ii (A q 0)) (CW c1 A1 J1) = some (.inr E, CW (cU c1) A2 J2) ∧ frm scC A1 A2 J1 J2) : ∃ (c' : CC) (A' : AI) (J' : JI), fL_thrown 0 20 q (CW c A J) = some (Sum.inl (some (Value.int (ii (cd)))), CW c' A' J') ∧ LX 2 11 c c' A A' J J' := by
  obtain ⟨c1, A1, J1, x1, o2, x2, x3⟩ := t_thr0 (A := A) (J := J) (E := E) (cd := cd) hz hq hL.2 20
  obtain ⟨A2, J2, y1, y2⟩ := h c1 A1 J1 x1
  have e0 := x2 0 (by omega) (by omega)
  have hk1 := hk.x x1.1
  refine ⟨_, _, _, x3 A2 J2 ?_ hE, x1.trans (LX.cU c1 A1 A2 J1 J2 y2)⟩
  rw [fL_calls, if_neg (by decide), if_neg (by decide), if_neg (by decide), if_neg (by decide), if_neg (by decide), if_neg (by decide), if_neg (by decide), if_neg (by decide), if_neg (by decide), if_neg (by decide), if_neg (by decide), if_neg (by decide), if_neg (by decide), if_neg (by decide), if_neg (by decide), if_neg (by decide), if_neg (by decide), if_neg (by decide), if_neg (by decide), if_neg (by decide), if_pos rfl, show (0 : Int32) = ii 0 from rfl, k_aI o2 0 (by omega), lkV hk1, e0, y1, k_E]
theorem t_thr_print (hk : isLock c pl sp tv cap) (hz : c.2.2.1 < 1000000) (hq : okc c q 100 L) (hL : 1 ≤ L ∧ L ≤ 5) (hE : ∀ τ, hF hxL_thrown E τ = some (Sum.inl (some (Value.int (ii (cd)))), τ)) (h : ∀ (c1 : CC) (A1 : AI) (J1 : JI), LX 1 5 c c1 A A1 J J1 → ∃ (A2 : AI) (J2 : JI), fX6_print 0 (ii (A q 0)) (CW c1 A1 J1) = some (.inr E, CW (cU c1) A2 J2) ∧ frm scC A1 A2 J1 J2) : ∃ (c' : CC) (A' : AI) (J' : JI), fL_thrown 0 21 q (CW c A J) = some (Sum.inl (some (Value.int (ii (cd)))), CW c' A' J') ∧ LX 2 11 c c' A A' J J' := by
  obtain ⟨c1, A1, J1, x1, o2, x2, x3⟩ := t_thr0 (A := A) (J := J) (E := E) (cd := cd) hz hq hL.2 21
  obtain ⟨A2, J2, y1, y2⟩ := h c1 A1 J1 x1
  have e0 := x2 0 (by omega) (by omega)
  have hk1 := hk.x x1.1
  refine ⟨_, _, _, x3 A2 J2 ?_ hE, x1.trans (LX.cU c1 A1 A2 J1 J2 y2)⟩
  rw [fL_calls, if_neg (by decide), if_neg (by decide), if_neg (by decide), if_neg (by decide), if_neg (by decide), if_neg (by decide), if_neg (by decide), if_neg (by decide), if_neg (by decide), if_neg (by decide), if_neg (by decide), if_neg (by decide), if_neg (by decide), if_neg (by decide), if_neg (by decide), if_neg (by decide), if_neg (by decide), if_neg (by decide), if_neg (by decide), if_neg (by decide), if_neg (by decide), if_pos rfl, show (0 : Int32) = ii 0 from rfl, k_aI o2 0 (by omega), lkV hk1, e0, y1, k_E]
theorem t_thr_rest (hk : isLock c pl sp tv cap) (hz : c.2.2.1 < 1000000) (hq : okc c q 100 L) (hL : 1 ≤ L ∧ L ≤ 5) (hE : ∀ τ, hF hxL_thrown E τ = some (Sum.inl (some (Value.int (ii (cd)))), τ)) (h : ∀ (c1 : CC) (A1 : AI) (J1 : JI), LX 1 5 c c1 A A1 J J1 → ∃ (A2 : AI) (J2 : JI), fX6_rest 0 (ii (A q 0)) (CW c1 A1 J1) = some (.inr E, CW (cU c1) A2 J2) ∧ frm scC A1 A2 J1 J2) : ∃ (c' : CC) (A' : AI) (J' : JI), fL_thrown 0 22 q (CW c A J) = some (Sum.inl (some (Value.int (ii (cd)))), CW c' A' J') ∧ LX 2 11 c c' A A' J J' := by
  obtain ⟨c1, A1, J1, x1, o2, x2, x3⟩ := t_thr0 (A := A) (J := J) (E := E) (cd := cd) hz hq hL.2 22
  obtain ⟨A2, J2, y1, y2⟩ := h c1 A1 J1 x1
  have e0 := x2 0 (by omega) (by omega)
  have hk1 := hk.x x1.1
  refine ⟨_, _, _, x3 A2 J2 ?_ hE, x1.trans (LX.cU c1 A1 A2 J1 J2 y2)⟩
  rw [fL_calls, if_neg (by decide), if_neg (by decide), if_neg (by decide), if_neg (by decide), if_neg (by decide), if_neg (by decide), if_neg (by decide), if_neg (by decide), if_neg (by decide), if_neg (by decide), if_neg (by decide), if_neg (by decide), if_neg (by decide), if_neg (by decide), if_neg (by decide), if_neg (by decide), if_neg (by decide), if_neg (by decide), if_neg (by decide), if_neg (by decide), if_neg (by decide), if_neg (by decide), if_pos rfl, show (0 : Int32) = ii 0 from rfl, k_aI o2 0 (by omega), lkV hk1, e0, y1, k_E]
theorem t_thr_buy (hk : isLock c pl sp tv cap) (hz : c.2.2.1 < 1000000) (hq : okc c q 100 L) (hL : 2 ≤ L ∧ L ≤ 5) (hE : ∀ τ, hF hxL_thrown E τ = some (Sum.inl (some (Value.int (ii (cd)))), τ)) (h : ∀ (c1 : CC) (A1 : AI) (J1 : JI), LX 1 5 c c1 A A1 J J1 → ∃ (A2 : AI) (J2 : JI), fX6_buy 0 (ii (A q 0)) (ii (A q 1)) (CW c1 A1 J1) = some (.inr E, CW (cU c1) A2 J2) ∧ frm scC A1 A2 J1 J2) : ∃ (c' : CC) (A' : AI) (J' : JI), fL_thrown 0 23 q (CW c A J) = some (Sum.inl (some (Value.int (ii (cd)))), CW c' A' J') ∧ LX 2 11 c c' A A' J J' := by
  obtain ⟨c1, A1, J1, x1, o2, x2, x3⟩ := t_thr0 (A := A) (J := J) (E := E) (cd := cd) hz hq hL.2 23
  obtain ⟨A2, J2, y1, y2⟩ := h c1 A1 J1 x1
  have e0 := x2 0 (by omega) (by omega)
  have e1 := x2 1 (by omega) (by omega)
  have hk1 := hk.x x1.1
  refine ⟨_, _, _, x3 A2 J2 ?_ hE, x1.trans (LX.cU c1 A1 A2 J1 J2 y2)⟩
  rw [fL_calls, if_neg (by decide), if_neg (by decide), if_neg (by decide), if_neg (by decide), if_neg (by decide), if_neg (by decide), if_neg (by decide), if_neg (by decide), if_neg (by decide), if_neg (by decide), if_neg (by decide), if_neg (by decide), if_neg (by decide), if_neg (by decide), if_neg (by decide), if_neg (by decide), if_neg (by decide), if_neg (by decide), if_neg (by decide), if_neg (by decide), if_neg (by decide), if_neg (by decide), if_neg (by decide), if_pos rfl, show (0 : Int32) = ii 0 from rfl, k_aI o2 0 (by omega), show (1 : Int32) = ii 1 from rfl, k_aI o2 1 (by omega), lkV hk1, e0, e1, y1, k_E]
theorem t_thr_undo (hk : isLock c pl sp tv cap) (hz : c.2.2.1 < 1000000) (hq : okc c q 100 L) (hL : 0 ≤ L ∧ L ≤ 5) (hE : ∀ τ, hF hxL_thrown E τ = some (Sum.inl (some (Value.int (ii (cd)))), τ)) (h : ∀ (c1 : CC) (A1 : AI) (J1 : JI), LX 1 5 c c1 A A1 J J1 → ∃ (A2 : AI) (J2 : JI), fX6_undo 0 (CW c1 A1 J1) = some (.inr E, CW (cU c1) A2 J2) ∧ frm scC A1 A2 J1 J2) : ∃ (c' : CC) (A' : AI) (J' : JI), fL_thrown 0 24 q (CW c A J) = some (Sum.inl (some (Value.int (ii (cd)))), CW c' A' J') ∧ LX 2 11 c c' A A' J J' := by
  obtain ⟨c1, A1, J1, x1, o2, x2, x3⟩ := t_thr0 (A := A) (J := J) (E := E) (cd := cd) hz hq hL.2 24
  obtain ⟨A2, J2, y1, y2⟩ := h c1 A1 J1 x1
  have hk1 := hk.x x1.1
  refine ⟨_, _, _, x3 A2 J2 ?_ hE, x1.trans (LX.cU c1 A1 A2 J1 J2 y2)⟩
  rw [fL_calls, if_neg (by decide), if_neg (by decide), if_neg (by decide), if_neg (by decide), if_neg (by decide), if_neg (by decide), if_neg (by decide), if_neg (by decide), if_neg (by decide), if_neg (by decide), if_neg (by decide), if_neg (by decide), if_neg (by decide), if_neg (by decide), if_neg (by decide), if_neg (by decide), if_neg (by decide), if_neg (by decide), if_neg (by decide), if_neg (by decide), if_neg (by decide), if_neg (by decide), if_neg (by decide), if_neg (by decide), if_pos rfl, lkV hk1, y1, k_E]
end THN
