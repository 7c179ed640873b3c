/-! THE LAW'S TEXTS: builders made, Strings out of them -/
/-- what making a builder leaves of all else -/
abbrev NB (B : Nat) (c c' : CC) (A A' : AI) (J J' : JI) : Prop := (c'.2.2.1 = c.2.2.1 + 1 ∧ c'.2.2.2.1 = c.2.2.2.1 + 1 ∧ c.2.2.2.2 ≤ c'.2.2.2.2 ∧ c'.2.2.2.2 ≤ c.2.2.2.2 + 23) ∧ ((∀ a, a < c.2.2.1 → c'.2.1 a = c.2.1 a) ∧ ∀ a j, a < c.2.2.1 → a ≠ B → c'.1 a j = c.1 a j) ∧ (∀ (b : Nat) (z : Int), b < c.2.2.1 → b ≠ B → A' b z = A b z) ∧ ∀ b j : Nat, b < c.2.2.1 → J' b j = J b j
/-- a String that was made -/
def isStr (c : CC) (A : AI) (q n : Nat) (t : Int → Int) : Prop := (okc c q 0 4 ∧ ptr c q 0 (q + 1) ∧ okc c (q + 1) 103 n) ∧ (A q 1 = 0 ∧ n ≤ 7000) ∧ ∀ k : Int, 0 ≤ k → k < n → A (q + 1) k = t k ∧ 0 ≤ t k ∧ t k ≤ 127
/-- new cells alone, and what the older ones hold is as it was -/
abbrev NC (c c' : CC) (A A' : AI) (J J' : JI) : Prop := exc c c' ∧ (c.2.2.2.1 ≤ c'.2.2.2.1 ∧ c.2.2.2.2 ≤ c'.2.2.2.2) ∧ (∀ (b : Nat) (z : Int), b < c.2.2.1 → A' b z = A b z) ∧ ∀ b j : Nat, b < c.2.2.1 → J' b j = J b j
section STR
variable {c c' c2 : CC} {A A' A2 : AI} {J J' J2 : JI} {tv cap n q B : Nat} {p : TP} {t : Int → Int}
theorem isSB.x (h : isSB c B tv cap) (e : exc c c') : isSB c' B tv cap := ⟨okc_x h.1 e, ptr_x h.1 h.2.1 e, okc_x h.2.2.1 e, h.2.2.2⟩
theorem k_sB {a ci m : Nat} (h : okc c a ci m) (j : Nat) (v : Int) (hv : 0 ≤ v ∧ v ≤ 127) (k : AS → Option AR) : sB (CW c A J) a ci j (ii v) k = k (CW c (up A a (j : Int) v) J) := by
  refine (if_pos ⟨⟨h.1, by rw [show ax_H (CW c A J) a = c.2.1 a from rfl, h.2]⟩, b_i8 v hv⟩).trans ?_
  unfold ax_setI CW
  rw [show (IW A, J, c).1 = IW A from rfl, IW_up]
theorem u_initS (hB : okc c B 1 4) (h3 : A B 3 = 0) (w : Nat) (hw : 1000026 ≤ w ∧ w < 1000045) (hz : c.2.2.1 ≤ zB) : ∃ (c' : CC) (A' : AI) (J' : JI) (tv' cap' : Nat), fJ4_init_a7421 B w (CW c A J) = some (Sum.inl none, CW c' A' J') ∧ TG c' A' B tv' cap' (tS w tP0) ∧ NB B c c' A A' J J' ∧ cap' ≤ 23 ∧ c.2.2.1 ≤ tv' := by
  obtain ⟨⟨w7, -⟩, -⟩ := w_k45 w hw
  have hzB := zB_e
  obtain ⟨N, hN⟩ : ∃ N, N = wlen w + 16 := ⟨_, rfl⟩
  have hBz := hB.1
  have hA1 : okc c B 1 4 := hB
  have e3 : up A B 1 0 B 3 = 0 := by rw [up_n _ _ _ _ _ _ (by omega)]; exact h3
  obtain ⟨g1, ⟨z1, z2, z3⟩, g3, g4⟩ := u_newB (A := up A B 1 0) hB e3 (up_s _ _ _ _) N (by omega) hz
  obtain ⟨c', A', J', tv', cap', e1, e2, hL, hcb⟩ := u_appSB (J := nwJ c J) g1 w hw (by show (0 : Int) ≤ 2900; omega)
  have hcap : cap' ≤ N := by
    have hge := e2.2.2.1.2.2.1
    rcases hcb with x | x
    · exact x
    · have x' : (cap' : Int) ≤ 2 * (0 + (wlen w : Nat)) := x
      omega
  have hp0 : (ptC (nwC c 103 N) B 0 c.2.2.1).1 B 0 = some c.2.2.1 := ax_up2_s _ _ _ _
  have hnA : ∀ k, nA (CW c (up A B 1 0) J) 103 (ii ((N : Nat) : Int)) k = k c.2.2.1 (CW (nwC c 103 N) (nwA c (up A B 1 0)) (nwJ c J)) := fun k => k_nA k (by omega) ⟨by rw [ii_tn _ (by omega)]; omega, by rw [il0, ii_lt _ _ (by omega)]; omega, by omega⟩
  have hoB : okc (nwC c 103 N) B 1 4 := okc_x hB (exc.new _ _ _)
  have hV : ∀ (x : Option AR) (g : Option Value → AS → Option AR), cV (CW (ptC (nwC c 103 N) B 0 c.2.2.1) (nwA c (up A B 1 0)) (nwJ c J)) B 1 x g = cS (CW (ptC (nwC c 103 N) B 0 c.2.2.1) (nwA c (up A B 1 0)) (nwJ c J)) x g := fun x g => vbV g1.1 x g
  have h53 : fJ5_init_a7421_53 B w B c.2.2.1 (CW (nwC c 103 N) (nwA c (up A B 1 0)) (nwJ c J)) = some (Sum.inl none, CW c' A' J') := by
    rw [fJ5_init_a7421_53, k_sR hoB, hV, e1, k_Cl hL.1, q_R]
  have h24 : fJ5_init_a7421_24 B w (ii ((N : Nat) : Int)) (CW c A J) = some (Sum.inl none, CW c' A' J') := by
    rw [fJ5_init_a7421_24, w_cod2 w hw, k_sB hB 1 0 (by omega), if_pos (show ii 0 = (0 : Int32) from rfl)]
    exact (hnA _).trans h53
  have h5 : fJ5_init_a7421 B w (CW c A J) = some (Sum.inl none, CW c' A' J') := by
    rw [fJ5_init_a7421, w_len45 w hw, if_neg (by rw [show (2147483631 : Int32) = ii 2147483631 from rfl, ii_le _ _ (by omega)]; omega), show (16 : Int32) = ii 16 from rfl, ii_add, show ((wlen w : Nat) : Int) + 16 = (N : Nat) by omega]
    exact h24
  have hc : c.2.2.1 ≤ c'.2.2.1 ∧ c.2.2.2.1 ≤ c'.2.2.2.1 ∧ c.2.2.2.2 ≤ c'.2.2.2.2 := by
    have := hL.1
    omega
  have htv : c.2.2.1 ≤ tv' := by
    have x1 : c'.1 B 0 = some tv' := e2.1.2.1
    rcases hL.2.2.2.2.2 with x | ⟨t, ht, x⟩
    · rw [x1, hp0] at x
      cases x
      exact Nat.le_refl _
    · rw [x1] at x
      cases x
      omega
  refine ⟨c', A', J', tv', cap', ?_, e2, ⟨?_, ⟨fun a x => ?_, fun a j x y => ?_⟩, fun b z x y => ?_, fun b j x => ?_⟩, by omega, htv⟩
  · rw [fJ4_init_a7421, h5, k_Cl hc, q_V]
  · have h1 := hL.1
    have h2 := hL.2.1
    omega
  · rw [hL.2.2.1.1 a (by omega)]; exact g3 a x
  · rw [hL.2.2.1.2 a j (by omega) y]; exact g4 a j x y
  · rw [hL.2.2.2.1 b z (by omega) y (by rw [hp0]; intro e; cases e; omega)]
    show (if b = c.2.2.1 then 0 else up A B 1 0 b z) = _
    rw [if_neg (by omega), up_n _ _ _ _ _ _ (by omega)]
  · rw [hL.2.2.2.2.1 b j (by omega)]
    show (if b = c.2.2.1 then 0 else J b j) = _
    rw [if_neg (by omega)]
theorem u_init0 (hB : okc c B 1 4) (h3 : A B 3 = 0) (hz : c.2.2.1 ≤ zB) : ∃ (c' : CC) (A' : AI) (J' : JI) (tv' cap' : Nat), fJ4_init_da8c8 B (CW c A J) = some (Sum.inl none, CW c' A' J') ∧ TG c' A' B tv' cap' tP0 ∧ NB B c c' A A' J J' ∧ cap' ≤ 23 ∧ c.2.2.1 ≤ tv' := by
  have hzB := zB_e
  have hBz := hB.1
  have hnA : ∀ k, nA (CW c A J) 103 (ii 16) k = k c.2.2.1 (CW (nwC c 103 16) (nwA c A) (nwJ c J)) := fun k => k_nA k (by omega) ⟨by rw [ii_tn _ (by omega)]; rfl, by decide, by omega⟩
  have hoB : okc (nwC c 103 16) B 1 4 := okc_x hB (exc.new _ _ _)
  have hoB' : okc (ptC (nwC c 103 16) B 0 c.2.2.1) B 1 4 := hoB
  have h5 : fJ5_init_d00df B 16 (CW c A J) = some (Sum.inl none, CW (ptC (nwC c 103 16) B 0 c.2.2.1) (up (nwA c A) B 1 0) (nwJ c J)) := by
    rw [fJ5_init_d00df, if_neg (by decide), show (16 : Int32) = ii 16 from rfl, hnA, k_sR hoB, show (0 : Int32) = ii 0 from rfl, k_sB hoB' 1 0 (by omega)]
    rfl
  have hn : ∀ (b : Nat) (z : Int), b < c.2.2.1 → nwA c A b z = A b z := fun b z x => if_neg (by omega)
  have hP : ∀ a j, a ≠ B → (ptC (nwC c 103 16) B 0 c.2.2.1).1 a j = (nwC c 103 16).1 a j := fun a j x => by
    show ax_up2 (nwC c 103 16).1 B 0 (some c.2.2.1) a j = _
    exact ax_up2_a _ _ x
  have hb0 : ∀ k, up (nwA c A) B 1 0 c.2.2.1 k = 0 := fun k => by
    rw [up_n _ _ _ _ _ _ (by omega)]
    exact if_pos rfl
  refine ⟨ptC (nwC c 103 16) B 0 c.2.2.1, up (nwA c A) B 1 0, nwJ c J, c.2.2.1, 16, ?_, ⟨⟨hoB', ax_up2_s _ _ _ _, ⟨Nat.lt_succ_self _, if_pos rfl⟩, Nat.ne_of_gt hBz⟩, ⟨?_, up_s _ _ _ _⟩, ⟨Int.le_refl _, by show (0 : Int) ≤ 16; omega, by omega, by omega, by show c.2.2.1 + 1 ≤ zB + 16; omega⟩, fun k a b => absurd (show k < 0 from b) (by omega), fun k a b => by rw [hb0]; omega⟩, ⟨⟨rfl, rfl, Nat.le_add_right _ _, by show c.2.2.2.2 + 16 ≤ _; omega⟩, ⟨fun a x => (exc.new c 103 16).2.1 a x, fun a j x y => (hP a j y).trans ((exc.new c 103 16).2.2 a j x)⟩, fun b z x y => ?_, fun b j x => ?_⟩, by omega, Nat.le_refl _⟩
  · rw [fJ4_init_da8c8, h5, k_Cl (c := c) (c' := ptC (nwC c 103 16) B 0 c.2.2.1) ⟨Nat.le_succ _, Nat.le_succ _, Nat.le_add_right _ _⟩, q_V]
  · rw [up_n _ _ _ _ _ _ (by omega), hn _ _ hBz]; exact h3
  · rw [up_n _ _ _ _ _ _ (by omega)]; exact hn b z x
  · show (if b = c.2.2.1 then 0 else J b j) = _
    rw [if_neg (by omega)]
def clA (c : CC) (A : AI) (a : Nat) : AI := fun b y => if b = c.2.2.1 then A a y else A b y
theorem k_nCl {a m : Nat} (h : okc c a 103 m) (hz : c.2.2.1 < 1000000) (hb : ∀ i : Int, 0 ≤ i → i < m → 0 ≤ A a i ∧ A a i ≤ 127) (k : Nat → AS → Option AR) : nCl (CW c A J) a k = k c.2.2.1 (CW (nwC c 103 m) (clA c A a) (nwJ c J)) := by
  have h2 : (ax_H (CW c A J) a).2 = m := by rw [show ax_H (CW c A J) a = c.2.1 a from rfl, h.2]
  unfold nCl
  refine (if_pos ⟨hz, h.1, by rw [show ax_H (CW c A J) a = c.2.1 a from rfl, h.2], ?_⟩).trans ?_
  · show k c.2.2.1 (ax_newC (CW c A J) a) = _
    unfold ax_newC
    rw [h2, k_new]
    refine congrArg (k c.2.2.1) (Prod.ext (funext fun b => funext fun i => ?_) rfl)
    show (if b = c.2.2.1 then ii (A a (i : Int)) else ii (A b (i : Int))) = ii (if b = c.2.2.1 then A a (i : Int) else A b (i : Int))
    split <;> rfl
  · rw [h2, List.all_eq_true]
    intro i hi
    rw [List.mem_range] at hi
    exact fits_B (A a (i : Int)) (hb i (by omega) (by omega))
theorem u_len (hk : isSB c B tv cap) (L : Int) (h : A B 3 = L) : fJ4_length_8abf5 B (CW c A J) = some (Sum.inl (some (Value.int (ii (L)))), CW c A J) := by
  simp (disch := first | assumption | omega) only [fJ4_length_8abf5, fJ5_length_8abf5, vbV hk, vbI3 hk, k_C, h, ↓reduceIte, tr_lt, fa_lt, tr_le, fa_le, tr_eq, fa_eq, and_true, true_and, and_false, false_and, il0, il1, il2, il3, il4, il5, il6, il7, il8, il9, il10, il11, il12, il15, il16, il20, il24, il31, il32, il44, il45, il48, il50, il57, il58, il59, il63, il91, il93, il97, il99, il100, il109, il113, il119, il120, il122, il200, il255, il480, il500, il501, il512, il999, il4112, il41120, il1000000, il1000003, ii_add, ii_sub, ii_mul, ii_neg, ii_le, ii_lt, ii_eq, ii_div, q_I, q_V, q_R, lt_q, rZ_q, md_M, md_16, md_4, md_8, md_10, if_true, if_false, if_pos, if_neg]
theorem i_min (a b : Int) (h : (-2147483648 ≤ a ∧ a < 2147483648) ∧ -2147483648 ≤ b ∧ b < 2147483648) : (if ii a < ii b then ii a else ii b) = ii (if a < b then a else b) := by
  by_cases q : a < b
  · rw [if_pos q, if_pos (by rw [ii_lt _ _ (by omega)]; exact q)]
  · rw [if_neg q, if_neg (by rw [ii_lt _ _ (by omega)]; exact q)]
/-- the first bytes of a row, in a row of their own -/
theorem u_cor {a m : Nat} (h : okc c a 103 m) (hz : c.2.2.1 < 1000000) (hm : m ≤ 7000) (hb : ∀ i : Int, 0 ≤ i → i < m → 0 ≤ A a i ∧ A a i ≤ 127) (L : Int) (hL : 0 ≤ L ∧ L ≤ m) : ∃ (A' : AI) (J' : JI), fJ7_copyOfRange_39247 a (ii 0) (ii L) (CW c A J) = some (.inl (some (.ref c.2.2.1)), CW (nwC c 103 L.toNat) A' J') ∧ (∀ k, 0 ≤ k → k < L → A' c.2.2.1 k = A a k) ∧ (∀ (b : Nat) (z : Int), b < c.2.2.1 → A' b z = A b z) ∧ ∀ b j : Nat, b < c.2.2.1 → J' b j = J b j := by
  have haz := h.1
  have hJ : ∀ b j : Nat, b < c.2.2.1 → nwJ c J b j = J b j := fun b j q => by
    show (if b = c.2.2.1 then 0 else J b j) = _
    rw [if_neg (by omega)]
  by_cases q : L = m
  · refine ⟨clA c A a, nwJ c J, ?_, fun k _ _ => if_pos rfl, fun b z x => if_neg (by omega), hJ⟩
    rw [fJ7_copyOfRange_39247, if_pos (show ii 0 = (0 : Int32) from rfl), k_aL h, if_pos (by rw [q]), k_nCl h hz hb, q]
    rfl
  · have hL' : (L.toNat : Int) = L := by omega
    have o1 : okc (nwC c 103 L.toNat) a 103 m := okc_x h (exc.new _ _ _)
    have o2 : okc (nwC c 103 L.toNat) c.2.2.1 103 L.toNat := ⟨Nat.lt_succ_self _, if_pos rfl⟩
    have nA' : ∀ (b : Nat) (z : Int), b < c.2.2.1 → nwA c A b z = A b z := fun b z x => if_neg (by omega)
    have hby : fJ7_copyOfRangeByte_39247 a (ii 0) (ii L) (CW c A J) = some (.inl (some (.ref c.2.2.1)), CW (nwC c 103 L.toNat) (cpA (nwA c A) a c.2.2.1 L) (nwJ c J)) := by
      have hck : fJ7_checkLength_df160 (ii 0) (ii L) (CW c A J) = some (Sum.inl none, CW c A J) := by
        rw [fJ7_checkLength_df160, if_pos (by rw [ii_le _ _ (by omega)]; omega)]
      rw [fJ7_copyOfRangeByte_39247, hck, k_C, q_V, lt_q, ii_sub, show L - 0 = L by omega, k_nA (n := L.toNat) _ hz ⟨ii_tn _ (by omega), by rw [il0, ii_lt _ _ (by omega)]; omega, by omega⟩, k_aL o1, lt_q, ii_sub, show (m : Int) - 0 = m by omega, i_min _ _ (by omega), if_pos (by omega), show (0 : Int32) = ii 0 from rfl, k_cpB o1 o2 L (by omega) (fun i x y => by rw [nA' _ _ haz]; exact hb i x (by omega))]
    refine ⟨cpA (nwA c A) a c.2.2.1 L, nwJ c J, ?_, fun k x y => ?_, fun b z x => ?_, hJ⟩
    · rw [fJ7_copyOfRange_39247, if_pos (show ii 0 = (0 : Int32) from rfl), k_aL h, if_neg (by rw [ii_eq _ _ (by omega)]; exact q), fJ7_copyOfRange_39247_10, hby, k_Cl (c := c) (c' := nwC c 103 L.toNat) ⟨Nat.le_succ _, Nat.le_succ _, Nat.le_add_right _ _⟩, q_R]
    · rw [cpA_s _ _ _ _ _ ⟨x, y⟩]; exact nA' _ _ haz
    · rw [cpA_n _ _ _ _ _ _ (by omega)]; exact nA' b z x
/-- the text of a builder, as a String -/
theorem u_str (h : TG c A B tv cap p) (hz : c.2.2.1 + 2 < 1000000) (hp : ∀ k, 0 ≤ k → k < p.1 → 0 ≤ p.2 k ∧ p.2 k ≤ 127) : ∃ (c' : CC) (A' : AI) (J' : JI), fJ4_toString_0e30d B (CW c A J) = some (.inl (some (.ref c.2.2.1)), CW c' A' J') ∧ isStr c' A' c.2.2.1 p.1.toNat p.2 ∧ NC c c' A A' J J' ∧ c'.2.2.1 = c.2.2.1 + 2 ∧ c'.2.2.2.1 = c.2.2.2.1 + 2 ∧ c'.2.2.2.2 = c.2.2.2.2 + 4 + p.1.toNat := by
  obtain ⟨hk, ⟨a3, a1⟩, ⟨l0, l1, l2, l3, l4⟩, ht, hb⟩ := h
  have htz := hk.2.2.1.1
  have hBz := hk.1.1
  have e1 : exc c (nwC c 0 4) := exc.new _ _ _
  have hk1 : isSB (nwC c 0 4) B tv cap := hk.x e1
  have nA' : ∀ (b : Nat) (z : Int), b < c.2.2.1 → nwA c A b z = A b z := fun b z x => if_neg (by omega)
  have oq : okc (nwC c 0 4) c.2.2.1 0 4 := ⟨Nat.lt_succ_self _, if_pos rfl⟩
  have up1 : ∀ (b : Nat) (z : Int), b < c.2.2.1 → up (nwA c A) c.2.2.1 1 0 b z = A b z := fun b z x => by rw [up_n _ _ _ _ _ _ (by omega)]; exact nA' b z x
  obtain ⟨A2, J2, g1, g2, g3, g4⟩ := u_cor (c := nwC c 0 4) (A := up (nwA c A) c.2.2.1 1 0) (J := nwJ c J) hk1.2.2.1 (by show c.2.2.1 + 1 < 1000000; omega) l3 (fun i x y => by rw [up1 _ _ htz]; exact hb i x y) p.1 ⟨l0, l1⟩
  have hz1 : (nwC c 0 4).2.2.1 = c.2.2.1 + 1 := rfl
  rw [hz1] at g1 g2 g3 g4
  have e2 : exc (nwC c 0 4) (nwC (nwC c 0 4) 103 p.1.toNat) := exc.new _ _ _
  have oq2 : okc (nwC (nwC c 0 4) 103 p.1.toNat) c.2.2.1 0 4 := okc_x oq e2
  have hP : ∀ a j, a ≠ c.2.2.1 → (ptC (nwC (nwC c 0 4) 103 p.1.toNat) c.2.2.1 0 (c.2.2.1 + 1)).1 a j = (nwC (nwC c 0 4) 103 p.1.toNat).1 a j := fun a j x => by
    show ax_up2 (nwC (nwC c 0 4) 103 p.1.toNat).1 c.2.2.1 0 (some (c.2.2.1 + 1)) a j = _
    exact ax_up2_a _ _ x
  have q1 : (nwA c A) B 1 = 0 := by rw [nA' _ _ hBz]; exact a1
  have q3 : (nwA c A) B 3 = p.1 := by rw [nA' _ _ hBz]; exact a3
  have n1 : ¬ ii 1 = (0 : Int32) := by decide
  have hgv : ∀ W : JI, fJ5_getValue_6d5f1 B (CW (nwC c 0 4) (nwA c A) W) = some (.inl (some (.ref tv)), CW (nwC c 0 4) (nwA c A) W) := fun W => by rw [fJ5_getValue_6d5f1, vbR0 hk1]
  have hin : fJ0_init_db425 c.2.2.1 B (CW (nwC c 0 4) (nwA c A) (nwJ c J)) = some (Sum.inl none, CW (ptC (nwC (nwC c 0 4) 103 p.1.toNat) c.2.2.1 0 (c.2.2.1 + 1)) A2 J2) := by
    rw [fJ0_init_db425, vbV hk1, hgv, k_C, q_R, vbV hk1, u_len hk1 p.1 q3, k_C, q_I, vbV hk1, u_lat hk1 q1, k_C, q_I, if_neg n1, show (0 : Int32) = ii 0 from rfl, k_sB oq 1 0 (by omega)]
    rw [show (((1 : Nat) : Int)) = 1 from rfl, g1, k_Cl (c := nwC c 0 4) (c' := nwC (nwC c 0 4) 103 p.1.toNat) ⟨Nat.le_succ _, Nat.le_succ _, Nat.le_add_right _ _⟩, q_R, k_sR oq2]
  have h81 : fJ0_init_81219 c.2.2.1 B (CW (nwC c 0 4) (nwA c A) (nwJ c J)) = some (Sum.inl none, CW (ptC (nwC (nwC c 0 4) 103 p.1.toNat) c.2.2.1 0 (c.2.2.1 + 1)) A2 J2) := by
    rw [fJ0_init_81219, hin, k_Cl (c := nwC c 0 4) (c' := ptC (nwC (nwC c 0 4) 103 p.1.toNat) c.2.2.1 0 (c.2.2.1 + 1)) ⟨Nat.le_succ _, Nat.le_succ _, Nat.le_add_right _ _⟩, q_V]
  have ex : exc c (nwC (nwC c 0 4) 103 p.1.toNat) := e1.trans e2
  refine ⟨ptC (nwC (nwC c 0 4) 103 p.1.toNat) c.2.2.1 0 (c.2.2.1 + 1), A2, J2, ?_, ⟨⟨oq2, ax_up2_s _ _ _ _, ⟨Nat.lt_succ_self _, if_pos rfl⟩⟩, ⟨?_, by omega⟩, fun k x y => ⟨?_, hp k x (by omega)⟩⟩, ⟨⟨ex.1, ex.2.1, fun a j x => (hP a j (by omega)).trans (ex.2.2 a j x)⟩, ⟨?_, ?_⟩, fun b z x => ?_, fun b j x => ?_⟩, rfl, rfl, rfl⟩
  · rw [fJ4_toString_0e30d, k_nO _ (by omega), h81, k_Cl (c := nwC c 0 4) (c' := ptC (nwC (nwC c 0 4) 103 p.1.toNat) c.2.2.1 0 (c.2.2.1 + 1)) ⟨Nat.le_succ _, Nat.le_succ _, Nat.le_add_right _ _⟩, q_V]
  · rw [g3 _ _ (by omega), up_s]
  · rw [g2 k x (by omega), up1 _ _ htz]; exact ht k x (by omega)
  · exact Nat.le_add_right _ 2
  · show c.2.2.2.2 ≤ c.2.2.2.2 + 4 + p.1.toNat
    omega
  · rw [g3 b z (by omega)]; exact up1 b z x
  · rw [g4 b j (by omega)]
    show (if b = c.2.2.1 then 0 else J b j) = _
    rw [if_neg (by omega)]
/-! the Strings' own methods -/
theorem s_cod (h : isStr c A q n t) : fJ0_coder_7d493D q (CW c A J) = some (Sum.inl (some (Value.int (ii (0)))), CW c A J) := by
  rw [fJ0_coder_7d493D, if_neg (by decide), k_gI h.1.1, show A q ((1 : Nat) : Int) = 0 from h.2.1.1, rB, b_i8 0 (by omega)]
theorem s_len (h : isStr c A q n t) : fJ0_length_8abf5D q (CW c A J) = some (Sum.inl (some (Value.int (ii (n)))), CW c A J) := by
  have hn := h.2.1.2
  rw [fJ0_length_8abf5D, k_gR h.1.1 h.1.2.1, k_aL h.1.2.2, k_V h.1.1, s_cod h, k_C, q_I, il31, shr0]
theorem s_lat (h : isStr c A q n t) : fJ0_isLatin1_aae02D q (CW c A J) = some (Sum.inl (some (Value.int (ii (1)))), CW c A J) := by
  rw [fJ0_isLatin1_aae02D, if_neg (by decide), k_gI h.1.1, show A q ((1 : Nat) : Int) = 0 from h.2.1.1, if_pos (show ii 0 = (0 : Int32) from rfl)]
  rfl
theorem s_char (h : isStr c A q n t) (i : Int) (hi : 0 ≤ i ∧ i < n) : fJ0_charAt_5068eD q (ii i) (CW c A J) = some (Sum.inl (some (Value.int (ii (t i)))), CW c A J) := by
  have hn := h.2.1.2
  obtain ⟨e1, e2⟩ := h.2.2 i hi.1 hi.2
  have hch := b_ch _ e2
  have h1 : fJ3_checkIndex_8e157 (ii i) (ii (n : Int)) 4000000 (CW c A J) = some (Sum.inl (some (Value.int (ii (i)))), CW c A J) := by
    rw [fJ3_checkIndex_8e157, il0, if_neg (by rw [ii_lt _ _ (by omega)]; omega), if_pos (by rw [ii_lt _ _ (by omega)]; omega)]
  have h2 : fJ0_checkIndex_df160 (ii i) (ii (n : Int)) (CW c A J) = some (Sum.inl none, CW c A J) := by
    rw [fJ0_checkIndex_df160, h1, k_C, q_I]
  have h3 : fJ1_charAt_3b067D (q + 1) (ii i) (CW c A J) = some (Sum.inl (some (Value.int (ii (t i)))), CW c A J) := by
    rw [fJ1_charAt_3b067D, k_aL h.1.2.2, h2, k_C, q_V, k_aI h.1.2.2 i (by omega), e1, hch.1, rC, hch.2]
  rw [fJ0_charAt_5068eD, k_V h.1.1, s_lat h, k_C, q_I, if_neg (by decide), k_gR h.1.1 h.1.2.1, h3, k_C, q_I, rC, hch.2]
def cpO (A : AI) (a0 a : Nat) (sp n : Int) : AI := fun b y => if b = a ∧ 0 ≤ y ∧ y < n then A a0 (y + sp) else A b y
theorem k_cpBo {a0 a n0 n1 : Nat} (h0 : okc c a0 103 n0) (h : okc c a 103 n1) (sp n : Int) (hn : (0 ≤ sp ∧ 0 ≤ n) ∧ sp + n ≤ n0 ∧ n ≤ n1 ∧ sp + n < 2147483648) (hb : ∀ i, 0 ≤ i → i < n → 0 ≤ A a0 (i + sp) ∧ A a0 (i + sp) ≤ 127) (k : AS → Option AR) : cpI 103 .byte (CW c A J) a0 (ii sp) a (ii 0) (ii n) k = k (CW c (cpO A a0 a sp n) J) := by
  have e0 : (ii 0).toNatClampNeg = 0 := rfl
  have es : (ii sp).toNatClampNeg = sp.toNat := ii_tn _ (by omega)
  have en : (ii n).toNatClampNeg = n.toNat := ii_tn _ (by omega)
  have l1 : ¬ ii sp < (0 : Int32) := by rw [il0, ii_lt _ _ (by omega)]; omega
  have l2 : ¬ ii n < (0 : Int32) := by rw [il0, ii_lt _ _ (by omega)]; omega
  have H0 : ax_H (CW c A J) a0 = (103, n0) := h0.2
  have H1 : ax_H (CW c A J) a = (103, n1) := h.2
  unfold cpI
  rw [e0, es, en, H0, H1]
  refine (if_pos ⟨⟨h0.1, rfl, h.1, rfl⟩, ⟨l1, by decide, l2, by dsimp only; omega, by dsimp only; omega⟩, Or.inr ?_⟩).trans ?_
  · refine congrArg k (Prod.ext (funext fun b => funext fun i => ?_) rfl)
    show (if b = a then va_cpy (fun j => ii (A a0 (j : Int))) (fun j => ii (A a (j : Int))) sp.toNat 0 n.toNat i else ii (A b (i : Int))) = ii (if b = a ∧ 0 ≤ (i : Int) ∧ (i : Int) < n then A a0 ((i : Int) + sp) else A b (i : Int))
    unfold va_cpy
    by_cases q : b = a
    · subst q
      rw [if_pos rfl]
      by_cases w : 0 ≤ i ∧ i < 0 + n.toNat
      · rw [if_pos w, if_pos ⟨rfl, by omega, by omega⟩]
        dsimp only
        rw [show ((sp.toNat + (i - 0) : Nat) : Int) = (i : Int) + sp by omega]
      · rw [if_neg w, if_neg (fun z => w (by omega))]
    · rw [if_neg q, if_neg (fun z => q z.1)]
  · rw [List.all_eq_true]
    intro i hi
    rw [List.mem_range] at hi
    have := hb (i : Int) (by omega) (by omega)
    show fits .byte (.int (ii (A a0 ((sp.toNat + i : Nat) : Int)))) = true
    rw [show ((sp.toNat + i : Nat) : Int) = (i : Int) + sp by omega]
    exact fits_B _ this
/-- a String without its first byte -/
theorem s_sub (h : isStr c A q n t) (hn : 2 ≤ n) (hz : c.2.2.1 + 2 < 1000000) : ∃ (c' : CC) (A' : AI) (J' : JI), fJ0_substring_b52d3 q (ii 1) (CW c A J) = some (.inl (some (.ref c.2.2.1)), CW c' A' J') ∧ isStr c' A' c.2.2.1 (n - 1) (fun k => t (k + 1)) ∧ NC c c' A A' J J' ∧ c'.2.2.1 = c.2.2.1 + 2 ∧ c'.2.2.2.1 = c.2.2.2.1 + 2 ∧ c'.2.2.2.2 = c.2.2.2.2 + 4 + (n - 1) := by
  have hn7 := h.2.1.2
  have hqz := h.1.1.1
  have hbz := h.1.2.2.1
  have e1 : exc c (nwC c 0 4) := exc.new _ _ _
  have nA' : ∀ (b : Nat) (z : Int), b < c.2.2.1 → nwA c A b z = A b z := fun b z x => if_neg (by omega)
  have nA2 : ∀ (b : Nat) (z : Int), b < c.2.2.1 → nwA (nwC c 0 4) (nwA c A) b z = A b z := fun b z x => by
    show (if b = c.2.2.1 + 1 then 0 else nwA c A b z) = _
    rw [if_neg (by omega)]; exact nA' b z x
  have nA3 : ∀ z : Int, nwA (nwC c 0 4) (nwA c A) c.2.2.1 z = 0 := fun z => by
    show (if c.2.2.1 = c.2.2.1 + 1 then 0 else if c.2.2.1 = c.2.2.1 then 0 else A c.2.2.1 z) = _
    rw [if_neg (by omega), if_pos rfl]
  have oq : okc (nwC c 0 4) c.2.2.1 0 4 := ⟨Nat.lt_succ_self _, if_pos rfl⟩
  have ob : okc (nwC c 0 4) (q + 1) 103 n := okc_x h.1.2.2 e1
  have e2 : exc (nwC c 0 4) (nwC (nwC c 0 4) 103 (n - 1)) := exc.new _ _ _
  have ob2 : okc (nwC (nwC c 0 4) 103 (n - 1)) (q + 1) 103 n := okc_x ob e2
  have oz : okc (nwC (nwC c 0 4) 103 (n - 1)) (c.2.2.1 + 1) 103 (n - 1) := ⟨Nat.lt_succ_self _, if_pos rfl⟩
  have oq2 : okc (nwC (nwC c 0 4) 103 (n - 1)) c.2.2.1 0 4 := okc_x oq e2
  obtain ⟨c3, hc3⟩ : ∃ c3, c3 = ptC (nwC (nwC c 0 4) 103 (n - 1)) c.2.2.1 0 (c.2.2.1 + 1) := ⟨_, rfl⟩
  have oq3 : okc c3 c.2.2.1 0 4 := by rw [hc3]; exact oq2
  have hP : ∀ a j, a ≠ c.2.2.1 → c3.1 a j = (nwC (nwC c 0 4) 103 (n - 1)).1 a j := fun a j x => by
    rw [hc3]
    show ax_up2 (nwC (nwC c 0 4) 103 (n - 1)).1 c.2.2.1 0 (some (c.2.2.1 + 1)) a j = _
    exact ax_up2_a _ _ x
  obtain ⟨D, hD⟩ : ∃ D, D = cpO (nwA (nwC c 0 4) (nwA c A)) (q + 1) (c.2.2.1 + 1) 1 ((n - 1 : Nat) : Int) := ⟨_, rfl⟩
  have Dn : ∀ (b : Nat) (z : Int), b ≠ c.2.2.1 + 1 → D b z = nwA (nwC c 0 4) (nwA c A) b z := fun b z x => by rw [hD]; exact if_neg (fun y => x y.1)
  have Ds : ∀ z : Int, 0 ≤ z → z < (n - 1 : Nat) → D (c.2.2.1 + 1) z = A (q + 1) (z + 1) := fun z x y => by
    rw [hD]
    refine (if_pos ⟨rfl, x, y⟩).trans ?_
    exact nA2 _ _ hbz
  have hby : fJ7_copyOfRangeByte_39247 (q + 1) (ii 1) (ii n) (CW (nwC c 0 4) (nwA c A) (nwJ c J)) = some (.inl (some (.ref (c.2.2.1 + 1))), CW (nwC (nwC c 0 4) 103 (n - 1)) D (nwJ (nwC c 0 4) (nwJ c J))) := by
    have hck : ∀ W, fJ7_checkLength_df160 (ii 1) (ii n) W = some (Sum.inl none, W) := fun W => by
      rw [fJ7_checkLength_df160, if_pos (by rw [ii_le _ _ (by omega)]; omega)]
    rw [fJ7_copyOfRangeByte_39247, hck, k_C, q_V, lt_q, ii_sub, show (n : Int) - 1 = ((n - 1 : Nat) : Int) by omega, k_nA (n := n - 1) _ (by show c.2.2.1 + 1 < 1000000; omega) ⟨by rw [ii_tn _ (by omega)]; omega, by rw [il0, ii_lt _ _ (by omega)]; omega, by omega⟩, k_aL ob2, lt_q, ii_sub, show (n : Int) - 1 = ((n - 1 : Nat) : Int) by omega, i_min _ _ (by omega), if_neg (by omega), show (0 : Int32) = ii 0 from rfl]
    rw [show (nwC c 0 4).2.2.1 = c.2.2.1 + 1 from rfl, k_cpBo ob2 oz 1 _ (by omega) (fun i x y => by rw [nA2 _ _ hbz]; have := h.2.2 (i + 1) (by omega) (by omega); rw [this.1]; exact this.2), ← hD]
  have hi0 : fJ0_init_031fb c.2.2.1 (c.2.2.1 + 1) (ii 0) (CW (nwC (nwC c 0 4) 103 (n - 1)) D (nwJ (nwC c 0 4) (nwJ c J))) = some (Sum.inl none, CW c3 (up D c.2.2.1 1 0) (nwJ (nwC c 0 4) (nwJ c J))) := by
    rw [fJ0_init_031fb, k_sR oq2, ← hc3, k_sB oq3 1 0 (by omega)]
    rfl
  have hcor : fJ7_copyOfRange_39247 (q + 1) (ii 1) (ii n) (CW (nwC c 0 4) (nwA c A) (nwJ c J)) = some (.inl (some (.ref (c.2.2.1 + 1))), CW (nwC (nwC c 0 4) 103 (n - 1)) D (nwJ (nwC c 0 4) (nwJ c J))) := by
    rw [fJ7_copyOfRange_39247, if_neg (show ¬ ii 1 = (0 : Int32) by decide), fJ7_copyOfRange_39247_10, hby, k_Cl (c := nwC c 0 4) (c' := nwC (nwC c 0 4) 103 (n - 1)) ⟨Nat.le_succ _, Nat.le_succ _, Nat.le_add_right _ _⟩, q_R]
  have l13 : (nwC (nwC c 0 4) 103 (n - 1)).2.2.1 ≤ c3.2.2.1 ∧ (nwC (nwC c 0 4) 103 (n - 1)).2.2.2.1 ≤ c3.2.2.2.1 ∧ (nwC (nwC c 0 4) 103 (n - 1)).2.2.2.2 ≤ c3.2.2.2.2 := by rw [hc3]; exact ⟨Nat.le_refl _, Nat.le_refl _, Nat.le_refl _⟩
  have l3 : c.2.2.1 ≤ c3.2.2.1 ∧ c.2.2.2.1 ≤ c3.2.2.2.1 ∧ c.2.2.2.2 ≤ c3.2.2.2.2 := by rw [hc3]; exact ⟨Nat.le_add_right _ 2, Nat.le_add_right _ 2, by show c.2.2.2.2 ≤ c.2.2.2.2 + 4 + (n - 1); omega⟩
  have hnew : fJ1_newString_b4f7a (q + 1) (ii 1) (ii ((n - 1 : Nat) : Int)) (CW c A J) = some (.inl (some (.ref c.2.2.1)), CW c3 (up D c.2.2.1 1 0) (nwJ (nwC c 0 4) (nwJ c J))) := by
    rw [fJ1_newString_b4f7a, if_neg (show ¬ ii ((n - 1 : Nat) : Int) = (0 : Int32) by rw [il0, ii_eq _ _ (by omega)]; omega), k_nO _ (by omega), ii_add, show (1 : Int) + ((n - 1 : Nat) : Int) = n by omega, hcor, k_Cl (c := nwC c 0 4) (c' := nwC (nwC c 0 4) 103 (n - 1)) ⟨Nat.le_succ _, Nat.le_succ _, Nat.le_add_right _ _⟩, q_R, show (0 : Int32) = ii 0 from rfl, hi0, k_Cl l13, q_V]
  have hck : ∀ W, fJ0_checkBoundsBeginEnd_23922 (ii 1) (ii n) (ii n) W = some (Sum.inl none, W) := fun W => by
    have h3 : fJ3_checkFromToIndex_8c36e (ii 1) (ii n) (ii n) 4000000 W = some (Sum.inl (some (Value.int (ii (1)))), W) := by
      rw [fJ3_checkFromToIndex_8c36e, if_neg (show ¬ ii 1 < (0 : Int32) by decide), if_neg (by rw [ii_lt _ _ (by omega)]; omega), if_pos (Int32.le_refl _)]
    rw [fJ0_checkBoundsBeginEnd_23922, h3]
    exact if_pos (le_r W)
  have h37 : fJ0_substring_37a41 q (ii 1) (ii n) (CW c A J) = some (.inl (some (.ref c.2.2.1)), CW c3 (up D c.2.2.1 1 0) (nwJ (nwC c 0 4) (nwJ c J))) := by
    rw [fJ0_substring_37a41, k_V h.1.1, s_len h, k_C, q_I, hck, k_C, q_V, if_neg (show ¬ ii 1 = (0 : Int32) by decide), fJ0_substring_37a41_22, lt_q, ii_sub, show (n : Int) - 1 = ((n - 1 : Nat) : Int) by omega, k_V h.1.1, s_lat h, k_C, q_I, if_neg (show ¬ ii 1 = (0 : Int32) by decide), k_gR h.1.1 h.1.2.1, hnew, k_Cl l3, q_R]
  have ex : exc c (nwC (nwC c 0 4) 103 (n - 1)) := e1.trans e2
  refine ⟨c3, up D c.2.2.1 1 0, nwJ (nwC c 0 4) (nwJ c J), ?_, ⟨⟨oq3, ?_, ?_⟩, ⟨up_s _ _ _ _, by omega⟩, fun k x y => ?_⟩, ⟨⟨?_, fun a x => ?_, fun a j x => (hP a j (by omega)).trans (ex.2.2 a j x)⟩, ⟨l3.2.1, l3.2.2⟩, fun b z x => ?_, fun b j x => ?_⟩, by rw [hc3]; rfl, by rw [hc3]; rfl, by rw [hc3]; rfl⟩
  · rw [fJ0_substring_b52d3, k_V h.1.1, s_len h, k_C, q_I, k_V h.1.1, h37, k_Cl l3, q_R]
  · rw [hc3]; exact ax_up2_s _ _ _ _
  · rw [hc3]; exact oz
  · rw [up_n _ _ _ _ _ _ (by omega), Ds k x y]
    exact h.2.2 (k + 1) (by omega) (by omega)
  · exact l3.1
  · rw [hc3]; exact ex.2.1 a x
  · rw [up_n _ _ _ _ _ _ (by omega), Dn _ _ (by omega)]; exact nA2 b z x
  · show (if b = c.2.2.1 + 1 then 0 else if b = c.2.2.1 then 0 else J b j) = _
    rw [if_neg (by omega), if_neg (by omega)]
end STR
