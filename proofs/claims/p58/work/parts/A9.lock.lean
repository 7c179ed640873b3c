/-! THE LAW'S WORLD: locks -/
section LCK
variable {c : CC} {A A' D : AI} {J : JI} {w f : Nat} {M : AI} {o g : Int → Int} {r B : Int}
theorem WR.q (hR : WR w A M o g) (hG : GR g) (h8 : M 0 3 ≤ 8) (h9 : M 0 9 ≤ 10) (hr : 0 ≤ r ∧ r < M 0 3) (op : Int) (ho : op ≠ -1) (e15 : A' w 15 = g 0 - if cel g r 2 = -1 then 1 else 0) (e29 : A' (w + 29) r = op) (e30 : A' (w + 30) r = 0)
    (e : ∀ (b : Nat) (z : Int), ¬ (b = w ∧ z = 15) → ¬ (b = w + 29 ∧ z = r) → ¬ (b = w + 30 ∧ z = r) → A' b z = A b z) : WR w A' M o (gQ g r op) := by
  obtain ⟨⟨⟨s0, s1, s2, s3, s4, s5, s6⟩, sK, sQ⟩, hKd, ⟨c0, c1, c2, c3, c4⟩, hRo, hOr⟩ := id hR
  obtain ⟨⟨w27, w28, w29, w30, w31⟩, wB, wP⟩ := hRo r hr.1 hr.2
  have hgr := hG r hr.1 (by omega)
  have b0 := hgr.1
  have b1 := hgr.2.1
  have el : ∀ z, 0 < z → z < 16 → gQ g r op z = g z := fun z a b => by rw [lo_gQ _ _ _ _ ⟨hr.1, b⟩, if_neg (by omega)]
  have ec : ∀ (r2 z : Int), 0 ≤ r2 → 0 ≤ z → z < 512 → cel (gQ g r op) r2 z = _ := fun r2 z a b d => cel_gQ g r op r2 z ⟨⟨hr.1, a⟩, b, d⟩
  refine hR.upd hG h8 r (fun b z q => e b z (by omega) (by omega) (by omega)) ?_ (fun k a b => ?_) ⟨?_, ?_, ?_, ?_, ?_⟩ (fun r2 a b q => ⟨fun b p q2 => e _ _ (by omega) (by omega) (by omega), fun k => e _ _ (by omega) (by omega) (by omega), fun k => e _ _ (by omega) (by omega) (by omega)⟩) (fun r2 z a b q p x => ?_) (fun _ _ => ⟨⟨?_, ?_, ?_, fun q => ?_, ?_⟩, fun k a b => ?_, fun k a b => ?_⟩)
  · rw [lo_gQ _ _ _ _ ⟨hr.1, by omega⟩, e15]
    split <;> split <;> omega
  · rw [el _ (by omega) (by omega), e _ _ (by omega) (by omega) (by omega)]; exact (hKd k a b).2.2
  · rw [el _ (by omega) (by omega), e _ _ (by omega) (by omega) (by omega)]; exact c0
  · rw [el _ (by omega) (by omega), e _ _ (by omega) (by omega) (by omega)]; exact c1
  · rw [el _ (by omega) (by omega), e _ _ (by omega) (by omega) (by omega)]; exact c2
  · rw [el _ (by omega) (by omega), e _ _ (by omega) (by omega) (by omega)]; exact c3
  · rw [el _ (by omega) (by omega), e _ _ (by omega) (by omega) (by omega)]; exact c4
  · rw [ec r2 z a p x, if_neg (by omega), if_neg (by omega)]
  · rw [ec r 0 hr.1 (by omega) (by omega), if_neg (by omega), if_neg (by omega), e _ _ (by omega) (by omega) (by omega)]; exact w27
  · rw [ec r 1 hr.1 (by omega) (by omega), if_neg (by omega), if_neg (by omega), e _ _ (by omega) (by omega) (by omega)]; exact w28
  · rw [ec r 2 hr.1 (by omega) (by omega), if_neg (by omega), if_pos ⟨ho, rfl, rfl⟩]; exact e29
  · rw [ec r 3 hr.1 (by omega) (by omega), if_pos ⟨ho, rfl, rfl⟩]; exact e30
  · rw [ec r 4 hr.1 (by omega) (by omega), if_neg (by omega), if_neg (by omega), e _ _ (by omega) (by omega) (by omega)]; exact w31
  · rw [ec r 0 hr.1 (by omega) (by omega), if_neg (by omega), if_neg (by omega)] at b
    rw [ec r (5 + k) hr.1 (by omega) (by omega), if_neg (by omega), if_neg (by omega), e _ _ (by omega) (by omega) (by omega)]; exact wB k a b
  · rw [ec r 1 hr.1 (by omega) (by omega), if_neg (by omega), if_neg (by omega)] at b
    rw [ec r (11 + k) hr.1 (by omega) (by omega), if_neg (by omega), if_neg (by omega), e _ _ (by omega) (by omega) (by omega)]; exact wP k a b
/-- what a new filling is -/
theorem n_init (hz : c.2.2.1 + 40 < 1000000) : ∃ c' D J', nO (CW c A J) 12 4 (fun q1 s2 => cS s2 (fX18_init q1 s2) (qV (fun s3 => some (.inl (some (.ref q1)), s3)))) = some (.inl (some (.ref c.2.2.1)), CW c' D J') ∧ (∀ k : Nat → AS → Option AR, nO (CW c A J) 12 4 (fun q1 s2 => cS s2 (fX18_init q1 s2) (qV (fun s3 => k q1 s3))) = k c.2.2.1 (CW c' D J')) ∧ exc c c' ∧ isFil c' c.2.2.1 ∧ (c'.2.2.1 = c.2.2.1 + 2 ∧ c'.2.2.2.1 = c.2.2.2.1 + 2 ∧ c'.2.2.2.2 = c.2.2.2.2 + 8) ∧ ((∀ (b : Nat) (z : Int), b < c.2.2.1 → D b z = A b z) ∧ ∀ (b j : Nat), b < c.2.2.1 → J' b j = J b j) ∧ FS c.2.2.1 D D (1000000, -1, 0, 0, 0, 0) 0 := by
  obtain ⟨z, hzz⟩ : ∃ z, z = c.2.2.1 := ⟨_, rfl⟩
  have hc1 : (nwC c 12 4).2.2.1 = z + 1 := by rw [hzz]; rfl
  have hc2 : (nwC (nwC c 12 4) 100 4).2.2.1 = z + 2 := by rw [hzz]; rfl
  have e1 : exc c (nwC c 12 4) := exc.new _ _ _
  have e2 : exc (nwC c 12 4) (nwC (nwC c 12 4) 100 4) := exc.new _ _ _
  have o1 : okc (nwC (nwC c 12 4) 100 4) z 12 4 := okc_x (c := nwC c 12 4) ⟨by omega, by rw [hzz]; exact if_pos rfl⟩ e2
  have o2 : okc (nwC (nwC c 12 4) 100 4) (z + 1) 100 4 := ⟨by omega, by rw [← hc1]; exact if_pos rfl⟩
  have hP : ∀ a j, ¬ (a = z ∧ j = 0) → (ptC (nwC (nwC c 12 4) 100 4) z 0 (z + 1)).1 a j = (nwC (nwC c 12 4) 100 4).1 a j := fun a j q => by
    show ax_up2 (nwC (nwC c 12 4) 100 4).1 z 0 (some (z + 1)) a j = _
    unfold ax_up2
    exact if_neg q
  have o1' : okc (ptC (nwC (nwC c 12 4) 100 4) z 0 (z + 1)) z 12 4 := o1
  have hin : ∀ A1 J1, fX18_init z (CW (nwC c 12 4) A1 J1) = some (Sum.inl none, CW (ptC (nwC (nwC c 12 4) 100 4) z 0 (z + 1)) (up (up (nwA (nwC c 12 4) A1) z 1 1000000) z 2 (-1)) (nwJ (nwC c 12 4) J1)) := fun A1 J1 => by
    rw [fX18_init, show (4 : Int32) = ii 4 from rfl, k_nA (n := 4) _ (by omega) ⟨by rw [ii_tn 4 (by omega)]; rfl, by decide, by omega⟩, hc1, k_sR o1, show (1000000 : Int32) = ii 1000000 from rfl, k_sI o1', show ((-1) : Int32) = ii (-1) from rfl, k_sI o1']
    rfl
  have gen : ∀ k : Nat → AS → Option AR, nO (CW c A J) 12 4 (fun q1 s2 => cS s2 (fX18_init q1 s2) (qV (fun s3 => k q1 s3))) = k c.2.2.1 (CW (ptC (nwC (nwC c 12 4) 100 4) z 0 (z + 1)) (up (up (nwA (nwC c 12 4) (nwA c A)) z 1 1000000) z 2 (-1)) (nwJ (nwC c 12 4) (nwJ c J))) := fun k => by
    rw [k_nO _ (by omega), ← hzz, hin, k_Cl (c := nwC c 12 4) (c' := ptC (nwC (nwC c 12 4) 100 4) z 0 (z + 1)) ⟨Nat.le_succ _, Nat.le_succ _, Nat.le_add_right _ _⟩, q_V]
  have hn1 : ∀ (b : Nat) (y : Int), b < z → nwA (nwC c 12 4) (nwA c A) b y = A b y := fun b y q => by
    unfold nwA
    rw [hc1, if_neg (by omega), if_neg (by omega)]
  have hn2 : ∀ y : Int, nwA (nwC c 12 4) (nwA c A) z y = 0 := fun y => by
    unfold nwA
    rw [hc1, if_neg (by omega), if_pos (by omega)]
  have hn3 : ∀ y : Int, nwA (nwC c 12 4) (nwA c A) (z + 1) y = 0 := fun y => by
    unfold nwA
    rw [hc1, if_pos rfl]
  have ex : exc c (nwC (nwC c 12 4) 100 4) := e1.trans e2
  refine ⟨_, _, _, gen _, gen, ⟨?_, fun a q => ex.2.1 a q, fun a j q => (hP a j (by omega)).trans (ex.2.2 a j q)⟩, ?_, ⟨?_, rfl, ?_⟩, ⟨fun b y q => ?_, fun b j q => ?_⟩, ?_⟩
  · exact ex.1
  · rw [← hzz]
    exact ⟨o1', ax_up2_s _ _ _ _, o2⟩
  · show (nwC (nwC c 12 4) 100 4).2.2.1 = _
    omega
  · show c.2.2.2.2 + 4 + 4 = _
    omega
  · rw [up_n _ _ _ _ _ _ (by omega), up_n _ _ _ _ _ _ (by omega)]; exact hn1 b y (by omega)
  · show (if b = (nwC c 12 4).2.2.1 then 0 else if b = c.2.2.1 then 0 else J b j) = _
    rw [hc1, if_neg (by omega), if_neg (by omega)]
  · rw [← hzz]
    refine ⟨⟨?_, ?_, ?_⟩, ⟨?_, ?_, ?_, ?_⟩, by dsimp only; omega, fun _ _ _ _ => rfl⟩
    · rw [up_n _ _ _ _ _ _ (by omega), up_s]
    · rw [up_s]
    · rw [up_n _ _ _ _ _ _ (by omega), up_n _ _ _ _ _ _ (by omega)]; exact hn2 3
    · rw [up_n _ _ _ _ _ _ (by omega), up_n _ _ _ _ _ _ (by omega)]; exact hn3 _
    · rw [up_n _ _ _ _ _ _ (by omega), up_n _ _ _ _ _ _ (by omega)]; exact hn3 _
    · rw [up_n _ _ _ _ _ _ (by omega), up_n _ _ _ _ _ _ (by omega)]; exact hn3 _
    · rw [up_n _ _ _ _ _ _ (by omega), up_n _ _ _ _ _ _ (by omega)]; exact hn3 _
theorem chN_s2 (F : Int → Int) (rm : Int) (j : Nat) : chN F rm (j + 1) = if 0 ≤ rm - j ∧ F (rm - j) < (chN F rm j).1 then (F (rm - j), (j : Int)) else chN F rm j := rfl
/-- all fillings: the class's choice comes out -/
theorem n_fills (hW : isWorld c w) (hR : WR w A M o g) (hM : SA M) (hG : GC M g B) (h4 : M 0 9 ≤ 4) (h120 : M 0 2 ≤ 120) (hO : ordOK (M 1) (M 2) (M 0 9) o) (h37 : M 0 37 = -1) (hr : 0 ≤ r ∧ r < M 0 3) (hw : w + 32 ≤ c.2.2.1) (hz : c.2.2.1 + 40 < 1000000) :
    ∃ (c' : CC) (D : AI) (J' : JI) (S : SS) (ways : Int), fX19_fills w (ii r) (CW c A J) = some (.inl (some (.ref c.2.2.1)), CW c' D J') ∧ (exc c c' ∧ isFil c' c.2.2.1 ∧ c'.2.2.1 ≤ c.2.2.1 + 24 ∧ (c.2.2.2.1 ≤ c'.2.2.2.1 ∧ c'.2.2.2.1 ≤ c.2.2.2.1 + 24) ∧ c.2.2.2.2 ≤ c'.2.2.2.2 ∧ c'.2.2.2.2 ≤ c.2.2.2.2 + 120) ∧
      ((∀ (b : Nat) (z : Int), b < c.2.2.1 → D b z = A b z) ∧ ∀ (b j : Nat), b < c.2.2.1 → J' b j = J b j) ∧ FS c.2.2.1 D D S ways ∧ ways ≤ 40000000 ∧ (S.1, S.2.1) = chL M g o r ∧ (S.1 < 1000000 → S.2 = pA (M 0 9) o (M 2) (stM M g) S.2.1 (chS M g o r)) := by
  obtain ⟨c1, D1, J1, -, gen, ex, hFi, hzz, hfr, hFS⟩ := n_init (A := A) (J := J) hz
  have h8 := hM.1.2.1
  have hR1 : WR w D1 M o g := hR.fr (fun b z q => hfr.1 b z (by unfold inW at q; omega)) h8.2
  have hW1 := hW.x ex
  have hFO : FO c1 w c.2.2.1 M D1 o g r B := ⟨⟨hW1, hFi⟩, ⟨hR1, hM, hG⟩, ⟨h4, h120, hO, h37⟩, hr, hw, by omega, by omega⟩
  have hgr := hG.1.1 r hr.1 (by omega)
  have b2 := hgr.2.2.2.2.1
  have w29 := (hR1.2.2.2.1 r hr.1 hr.2).1.2.2.1
  have sQ := hR1.1.2.2
  have h0 := hG.h0
  have h5 := hM.1.2.2.2.1
  have h9 := hM.1.2.2.2.2.2.2.2
  have hk := kindsOK_of hM hG.GL hO
  have hneg : ∀ s, s < 0 → FW (M 0 9) o (M 2) (stM M g) 0 s = 1000000 := fun s q => by rw [← Gp_p _ _ _ _ 0 s h9.1]; exact Gp_neg _ _ _ _ hk 0 s (by omega) q
  by_cases y : canO g r
  · have hch : chL M g o r = chN (FW (M 0 9) o (M 2) (stM M g) 0) (needM M g r - M 0 4) (M 0 5 + 1).toNat := if_pos y
    obtain ⟨c', D', J', S', ways', q1, q2, q3, q4, q5, q6, q7⟩ := n_fQ hFO ⟨rfl, ex, hzz, hz⟩ hfr hFS 1 0 (M 0 5) (Or.inr ⟨rfl, rfl, rfl⟩) (fun i => chN (FW (M 0 9) o (M 2) (stM M g) 0) (needM M g r - M 0 4) i.toNat) rfl (fun i a b => by
      rw [show (i + 1).toNat = i.toNat + 1 by omega]
      have e : needM M g r - offO 1 M i = needM M g r - M 0 4 - i := by unfold offO; rw [if_neg (by decide)]; omega
      have hb := chN_b (FW (M 0 9) o (M 2) (stM M g) 0) (needM M g r - M 0 4) (fun z => (FW_b _ _ _ _ _ z).1) i.toNat
      rw [e, chN_s2, show ((i.toNat : Nat) : Int) = i by omega]
      by_cases u : 0 ≤ needM M g r - M 0 4 - i
      · by_cases v : FW (M 0 9) o (M 2) (stM M g) 0 (needM M g r - M 0 4 - i) < (chN (FW (M 0 9) o (M 2) (stM M g) 0) (needM M g r - M 0 4) i.toNat).1
        · rw [if_pos ⟨u, v⟩, if_pos v]
        · rw [if_neg (fun z => v z.2), if_neg v]
      · rw [if_neg (fun z => u z.1), if_neg (by rw [hneg _ (by omega)]; omega)])
    refine ⟨c', D', J', S', ways', ?_, q2, q3, q4, q5, q6.trans hch.symm, fun z => ?_⟩
    · have hx : fX19_fills w (ii r) (CW c A J) = fX19_fills_24 w (ii r) c.2.2.1 (CW c1 D1 J1) := by
        unfold fX19_fills
        rw [gen]
        by_cases u : cel g r 2 = -1
        · have u2 : ¬ g 0 ≤ 0 := by rcases y with v | v <;> omega
          simp (disch := first | assumption | omega) only [wdR1, wdR2, wdR3, wdR4, wdR5, wdR6, wdR7, wdR8, wdR9, wdR10, wdR11, wdR12, wdR13, wdI14, wdS14, wdI15, wdS15, wdA3, wdU3, wdA4, wdU4, wdA5, wdU5, wdA6, wdU6, wdA7, wdU7, wdA8, wdU8, wdA27, wdU27, wdA28, wdU28, wdA29, wdU29, wdA30, wdU30, wdA31, wdU31, wdB, wdP, wdAB, wdUB, wdAP, wdUP, wdV, drV, drR0, drI1, drS1, k_C, ↓reduceIte, tr_lt, fa_lt, tr_le, fa_le, tr_eq, fa_eq, and_true, true_and, and_false, false_and, il0, il1, il2, il3, il4, il5, il6, il7, il8, il9, il10, il11, il12, il15, il16, il20, il24, il31, il32, il44, il45, il48, il50, il57, il58, il59, il63, il91, il93, il97, il99, il100, il109, il113, il119, il120, il122, il200, il255, il480, il500, il501, il512, il999, il4112, il41120, il1000000, il1000003, ii_add, ii_sub, ii_mul, ii_neg, ii_le, ii_lt, ii_eq, ii_div, q_I, q_V, q_R, lt_q, rZ_q, md_M, md_16, md_4, md_8, md_10, if_true, if_false, if_pos, if_neg, w29, sQ]
        · simp (disch := first | assumption | omega) only [wdR1, wdR2, wdR3, wdR4, wdR5, wdR6, wdR7, wdR8, wdR9, wdR10, wdR11, wdR12, wdR13, wdI14, wdS14, wdI15, wdS15, wdA3, wdU3, wdA4, wdU4, wdA5, wdU5, wdA6, wdU6, wdA7, wdU7, wdA8, wdU8, wdA27, wdU27, wdA28, wdU28, wdA29, wdU29, wdA30, wdU30, wdA31, wdU31, wdB, wdP, wdAB, wdUB, wdAP, wdUP, wdV, drV, drR0, drI1, drS1, k_C, ↓reduceIte, tr_lt, fa_lt, tr_le, fa_le, tr_eq, fa_eq, and_true, true_and, and_false, false_and, il0, il1, il2, il3, il4, il5, il6, il7, il8, il9, il10, il11, il12, il15, il16, il20, il24, il31, il32, il44, il45, il48, il50, il57, il58, il59, il63, il91, il93, il97, il99, il100, il109, il113, il119, il120, il122, il200, il255, il480, il500, il501, il512, il999, il4112, il41120, il1000000, il1000003, ii_add, ii_sub, ii_mul, ii_neg, ii_le, ii_lt, ii_eq, ii_div, q_I, q_V, q_R, lt_q, rZ_q, md_M, md_16, md_4, md_8, md_10, if_true, if_false, if_pos, if_neg, w29, sQ]
      rw [hx, fX19_fills_24, fX19_fills_29, if_neg (by decide), fX19_fills_39]
      exact q1
    · have e1 : S'.1 = (chL M g o r).1 := by rw [hch]; exact congrArg Prod.fst q6
      have e2 : S'.2.1 = (chL M g o r).2 := by rw [hch]; exact congrArg Prod.snd q6
      have hb := (chL_b (o := o) hM (hG.need hM hr).1).2.2 (by omega)
      have h0 := hb.2.2.1 y
      have e4 : needM M g r - offO 1 M S'.2.1 = chS M g o r := by
        unfold offO chS
        rw [if_neg (by decide), if_neg (by omega), e2]
        omega
      rw [← e4]
      exact q7 z
  · have hch : chL M g o r = (FW (M 0 9) o (M 2) (stM M g) 0 (needM M g r), -1) := if_neg y
    have hb := FW_b (M 0 9) o (M 2) (stM M g) 0 (needM M g r)
    obtain ⟨c', D', J', S', ways', q1, q2, q3, q4, q5, q6, q7⟩ := n_fQ hFO ⟨rfl, ex, hzz, hz⟩ hfr hFS 0 (-1) (-1) (Or.inl ⟨rfl, rfl, rfl⟩) (fun i => if i = -1 then (1000000, -1) else (if FW (M 0 9) o (M 2) (stM M g) 0 (needM M g r) < 1000000 then (FW (M 0 9) o (M 2) (stM M g) 0 (needM M g r), -1) else (1000000, -1))) (if_pos rfl) (fun i a b => by
      have e : needM M g r - offO 0 M i = needM M g r := by unfold offO; rw [if_pos rfl]; omega
      obtain rfl : i = -1 := by omega
      rw [e]
      show (if (-1 : Int) + 1 = -1 then _ else _) = if _ < (if (-1 : Int) = -1 then _ else _ : Int × Int).1 then _ else (if (-1 : Int) = -1 then _ else _)
      rw [if_neg (by decide), if_pos rfl])
    have q6' : (S'.1, S'.2.1) = chL M g o r := by
      rw [q6.trans (if_neg (by decide)), hch]
      by_cases u : FW (M 0 9) o (M 2) (stM M g) 0 (needM M g r) < 1000000
      · rw [if_pos u]
      · rw [if_neg u]
        exact Prod.ext (by dsimp only; omega) rfl
    refine ⟨c', D', J', S', ways', ?_, q2, q3, q4, q5, q6', fun z => ?_⟩
    · have hx : fX19_fills w (ii r) (CW c A J) = fX19_fills_29 w (ii r) c.2.2.1 0 (CW c1 D1 J1) := by
        unfold fX19_fills
        rw [gen]
        have u : cel g r 2 = -1 := by
          apply Classical.byContradiction
          intro u
          exact y (Or.inl u)
        have u2 : g 0 ≤ 0 := by
          apply Classical.byContradiction
          intro u
          exact y (Or.inr (by omega))
        simp (disch := first | assumption | omega) only [wdR1, wdR2, wdR3, wdR4, wdR5, wdR6, wdR7, wdR8, wdR9, wdR10, wdR11, wdR12, wdR13, wdI14, wdS14, wdI15, wdS15, wdA3, wdU3, wdA4, wdU4, wdA5, wdU5, wdA6, wdU6, wdA7, wdU7, wdA8, wdU8, wdA27, wdU27, wdA28, wdU28, wdA29, wdU29, wdA30, wdU30, wdA31, wdU31, wdB, wdP, wdAB, wdUB, wdAP, wdUP, wdV, drV, drR0, drI1, drS1, k_C, ↓reduceIte, tr_lt, fa_lt, tr_le, fa_le, tr_eq, fa_eq, and_true, true_and, and_false, false_and, il0, il1, il2, il3, il4, il5, il6, il7, il8, il9, il10, il11, il12, il15, il16, il20, il24, il31, il32, il44, il45, il48, il50, il57, il58, il59, il63, il91, il93, il97, il99, il100, il109, il113, il119, il120, il122, il200, il255, il480, il500, il501, il512, il999, il4112, il41120, il1000000, il1000003, ii_add, ii_sub, ii_mul, ii_neg, ii_le, ii_lt, ii_eq, ii_div, q_I, q_V, q_R, lt_q, rZ_q, md_M, md_16, md_4, md_8, md_10, if_true, if_false, if_pos, if_neg, w29, sQ]
      rw [hx, fX19_fills_29, if_pos rfl, fX19_fills_39]
      exact q1
    · have e2 : S'.2.1 = -1 := by
        have := congrArg Prod.snd q6'
        rw [hch] at this
        exact this
      have e4 : needM M g r - offO 0 M S'.2.1 = chS M g o r := by
        unfold offO chS
        rw [if_pos rfl, hch, if_pos rfl]
        omega
      rw [← e4]
      exact q7 z
end LCK
