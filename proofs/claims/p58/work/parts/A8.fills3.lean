/-! THE LAW'S WORLD: all fillings, from the first opening to the last -/
section FLQ
variable {c c' : CC} {A D : AI} {J : JI} {w f q : Nat} {n : Int} {o len st : Int → Int} {S : SS} {ways : Int}
theorem isWorld.x (h : isWorld c w) (e : exc c c') : isWorld c' w := by
  obtain ⟨⟨a1, a2, a3, a4, a5, a6, a7, a8, a9, a10, a11, a12, a13, a14⟩, ⟨b1, b2, b3, b4, b5, b6, b7, b8, b9, b10, b11, b12, b13⟩, h3⟩ := h
  exact ⟨⟨okc_x a1 e, okc_x a2 e, okc_x a3 e, okc_x a4 e, okc_x a5 e, okc_x a6 e, okc_x a7 e, okc_x a8 e, okc_x a9 e, okc_x a10 e, okc_x a11 e, okc_x a12 e, okc_x a13 e, okc_x a14 e⟩, ⟨ptr_x a1 b1 e, ptr_x a1 b2 e, ptr_x a1 b3 e, ptr_x a1 b4 e, ptr_x a1 b5 e, ptr_x a1 b6 e, ptr_x a1 b7 e, ptr_x a1 b8 e, ptr_x a1 b9 e, ptr_x a1 b10 e, ptr_x a1 b11 e, ptr_x a1 b12 e, ptr_x a1 b13 e⟩, fun r x y => ⟨⟨ptr_x a8 (h3 r x y).1.1 e, okc_x (h3 r x y).1.2 e⟩, ptr_x a9 (h3 r x y).2.1 e, okc_x (h3 r x y).2.2 e⟩⟩
theorem isFil.x (h : isFil c f) (e : exc c c') : isFil c' f := ⟨okc_x h.1 e, ptr_x h.1 h.2.1 e, okc_x h.2.2 e⟩
theorem isDraws.x {d : Nat} (h : isDraws c d) (e : exc c c') : isDraws c' d := ⟨okc_x h.1 e, ptr_x h.1 h.2 e⟩
/-- the stock, in the order of choosing -/
theorem n_top (hW : isWorld c w) (hq : okc c q 100 4) (hqw : q < w ∨ w + 32 ≤ q) (h4 : 0 ≤ n ∧ n ≤ 4) (hn : D w 14 = n) (ho : ∀ p, 0 ≤ p → p < n → (0 ≤ o p ∧ o p < 4) ∧ D (w + 6) p = o p ∧ D (w + 5) (o p) = st (o p)) (x1 x3 x4 x5 : Int32) (r41 : _) :
    ∃ D', fX19_fills_93 r41 FU w x1 f x3 x4 x5 q 0 (CW c D J) = fX19_fills_135 r41 w x1 f x3 x4 x5 q (CW c D' J) ∧ (∀ p, 0 ≤ p → p < 4 → D' q p = Tp n o st p) ∧ ∀ (b : Nat) (z : Int), b ≠ q → D' b z = D b z := by
  rw [show (0 : Int32) = ii 0 from rfl]
  refine lp (fun m i (s : AI) => fX19_fills_93 r41 m w x1 f x3 x4 x5 q (ii i) (CW c s J)) (fun x => ∃ D', x = fX19_fills_135 r41 w x1 f x3 x4 x5 q (CW c D' J) ∧ (∀ p, 0 ≤ p → p < 4 → D' q p = Tp n o st p) ∧ ∀ (b : Nat) (z : Int), b ≠ q → D' b z = D b z)
    (fun i s => 0 ≤ i ∧ (∀ p, 0 ≤ p → p < i → s q p = Tp n o st p) ∧ ∀ (b : Nat) (z : Int), b ≠ q → s b z = D b z) 4 ?_ ?_ FU 0 D (by omega) ⟨by omega, fun p a b => by omega, fun _ _ _ => rfl⟩ (by have := FU_e; omega)
  · rintro m i s hi ⟨hI, h1, h2⟩
    have sn : s w 14 = n := by rw [h2 _ _ (by omega)]; exact hn
    have hu : ∀ k, uI (CW c s J) q (ii i) (ii (Tp n o st i)) k = k (CW c (up s q i (Tp n o st i)) J) := fun k => k_uI hq i _ (by omega) k
    refine Or.inr ⟨up s q i (Tp n o st i), ⟨by omega, fun p a b => ?_, fun b z e => ?_⟩, ?_⟩
    · by_cases e : p = i
      · rw [e, up_s]
      · rw [up_n _ _ _ _ _ _ (by omega)]; exact h1 p a (by omega)
    · rw [up_n _ _ _ _ _ _ (by omega)]; exact h2 b z e
    · by_cases y : n ≤ i
      · have e : Tp n o st i = 0 := if_neg (by omega)
        rw [e] at hu ⊢
        simp (disch := first | assumption | omega) only [fX19_fills_93, fX19_fills_128, wdR1, wdR2, wdR3, wdR4, wdR5, wdR6, wdR7, wdR8, wdR9, wdR10, wdR11, wdR12, wdR13, wdI14, wdS14, wdI15, wdS15, wdA3, wdU3, wdA4, wdU4, wdA5, wdU5, wdA6, wdU6, wdA7, wdU7, wdA8, wdU8, wdA27, wdU27, wdA28, wdU28, wdA29, wdU29, wdA30, wdU30, wdA31, wdU31, wdB, wdP, wdAB, wdUB, wdAP, wdUP, wdV, drV, drR0, drI1, drS1, k_C, ↓reduceIte, tr_lt, fa_lt, tr_le, fa_le, tr_eq, fa_eq, and_true, true_and, and_false, false_and, il0, il1, il2, il3, il4, il5, il6, il7, il8, il9, il10, il11, il12, il15, il16, il20, il24, il31, il32, il44, il45, il48, il50, il57, il58, il59, il63, il91, il93, il97, il99, il100, il109, il113, il119, il120, il122, il200, il255, il480, il500, il501, il512, il999, il4112, il41120, il1000000, il1000003, ii_add, ii_sub, ii_mul, ii_neg, ii_le, ii_lt, ii_eq, ii_div, q_I, q_V, q_R, lt_q, rZ_q, md_M, md_16, md_4, md_8, md_10, if_true, if_false, if_pos, if_neg, sn, hu]
      · obtain ⟨p0, p1, p2⟩ := ho i hI (by omega)
        have e : Tp n o st i = st (o i) := if_pos (by omega)
        have p1' : s (w + 6) i = o i := by rw [h2 _ _ (by omega)]; exact p1
        have p2' : s (w + 5) (o i) = st (o i) := by rw [h2 _ _ (by omega)]; exact p2
        rw [e] at hu ⊢
        simp (disch := first | assumption | omega) only [fX19_fills_93, fX19_fills_128, wdR1, wdR2, wdR3, wdR4, wdR5, wdR6, wdR7, wdR8, wdR9, wdR10, wdR11, wdR12, wdR13, wdI14, wdS14, wdI15, wdS15, wdA3, wdU3, wdA4, wdU4, wdA5, wdU5, wdA6, wdU6, wdA7, wdU7, wdA8, wdU8, wdA27, wdU27, wdA28, wdU28, wdA29, wdU29, wdA30, wdU30, wdA31, wdU31, wdB, wdP, wdAB, wdUB, wdAP, wdUP, wdV, drV, drR0, drI1, drS1, k_C, ↓reduceIte, tr_lt, fa_lt, tr_le, fa_le, tr_eq, fa_eq, and_true, true_and, and_false, false_and, il0, il1, il2, il3, il4, il5, il6, il7, il8, il9, il10, il11, il12, il15, il16, il20, il24, il31, il32, il44, il45, il48, il50, il57, il58, il59, il63, il91, il93, il97, il99, il100, il109, il113, il119, il120, il122, il200, il255, il480, il500, il501, il512, il999, il4112, il41120, il1000000, il1000003, ii_add, ii_sub, ii_mul, ii_neg, ii_le, ii_lt, ii_eq, ii_div, q_I, q_V, q_R, lt_q, rZ_q, md_M, md_16, md_4, md_8, md_10, if_true, if_false, if_pos, if_neg, sn, p1', p2', hu]
  · rintro m s ⟨hI, h1, h2⟩
    refine ⟨s, ?_, h1, h2⟩
    simp (disch := first | assumption | omega) only [fX19_fills_93, ↓reduceIte, tr_lt, fa_lt, tr_le, fa_le, tr_eq, fa_eq, and_true, true_and, and_false, false_and, il0, il1, il2, il3, il4, il5, il6, il7, il8, il9, il10, il11, il12, il15, il16, il20, il24, il31, il32, il44, il45, il48, il50, il57, il58, il59, il63, il91, il93, il97, il99, il100, il109, il113, il119, il120, il122, il200, il255, il480, il500, il501, il512, il999, il4112, il41120, il1000000, il1000003, ii_add, ii_sub, ii_mul, ii_neg, ii_le, ii_lt, ii_eq, ii_div, q_I, q_V, q_R, lt_q, rZ_q, md_M, md_16, md_4, md_8, md_10, if_true, if_false, if_pos, if_neg]
end FLQ
section FLR
variable {c : CC} {A D : AI} {J : JI} {w f : Nat} {S : SS} {ways : Int} {M : AI} {o g : Int → Int} {r B : Int}
theorem needM_e (M : AI) (g : Int → Int) (r : Int) : M 0 2 - suB g r - suP (M 2) g r = needM M g r := by unfold needM gapM; omega
def offO (x : Int) (M : AI) (i : Int) : Int := if x = 0 then 0 else M 0 4 + i
/-- what all openings have in common -/
abbrev FO (c : CC) (w f : Nat) (M D : AI) (o g : Int → Int) (r B : Int) : Prop := (isWorld c w ∧ isFil c f) ∧ (WR w D M o g ∧ SA M ∧ GC M g B) ∧ (M 0 9 ≤ 4 ∧ M 0 2 ≤ 120 ∧ ordOK (M 1) (M 2) (M 0 9) o ∧ M 0 37 = -1) ∧ (0 ≤ r ∧ r < M 0 3) ∧ (w + 32 ≤ f ∧ f + 1 < c.2.2.1 ∧ c.2.2.1 < 1000000)
theorem n_fO (h : FO c w f M D o g r B) (hD : FS f D D S ways) (op x last : Int) (ho : op ≤ last ∧ -1 ≤ op ∧ last ≤ 20) (hx : x = 0 ∧ op = -1 ∨ x = 1 ∧ 0 ≤ op) (hw : ways < 1700000000) (r41 : _) :
    ∃ c' D' J' ways', fX19_fills_57 r41 w (ii r) f (ii x) (ii op) (ii op) (ii last) (CW c D J) = fX19_fills_430 r41 w (ii r) f (ii x) (ii op) (CW c' D' J') ∧
      FS f D' D' (sup S (FW (M 0 9) o (M 2) (stM M g) 0 (needM M g r - offO x M op)) (pA (M 0 9) o (M 2) (stM M g) op (needM M g r - offO x M op))) ways' ∧ (ways ≤ ways' ∧ ways' ≤ ways + 1771561) ∧
      (exc c c' ∧ c' = nwC c 100 4) ∧ (∀ (b : Nat) (z : Int), b < c.2.2.1 → b ≠ f → b ≠ f + 1 → D' b z = D b z) ∧ ∀ (b j : Nat), b < c.2.2.1 → J' b j = J b j := by
  obtain ⟨⟨hW, hF⟩, ⟨hR, hM, hG⟩, ⟨h4, h120, hO, h37⟩, hr, hwf, hfz, hz⟩ := h
  have hne := n_need (J := J) hW hR hM hG h4 hr
  rw [needM_e] at hne
  have hN := (hG.need hM hr).1
  have hm4 := hM.1.2.2.1
  have h9 := hM.1.2.2.2.2.2.2.2
  have hk := kindsOK_of hM hG.GL hO
  obtain ⟨n, hn⟩ : ∃ n, n = M 0 9 := ⟨_, rfl⟩
  have hq : okc (nwC c 100 4) c.2.2.1 100 4 := ⟨Nat.lt_succ_self _, if_pos rfl⟩
  have e1 : exc c (nwC c 100 4) := exc.new c 100 4
  have hnA : ∀ k, nA (CW c D J) 100 (ii 4) k = k c.2.2.1 (CW (nwC c 100 4) (nwA c D) (nwJ c J)) := fun k => k_nA k hz ⟨by rw [ii_tn 4 (by omega)]; rfl, by decide, by omega⟩
  have dn : ∀ (b : Nat) (z : Int), b < c.2.2.1 → nwA c D b z = D b z := fun b z q => if_neg (by omega)
  have hst : ∀ k, 0 ≤ k → stM M g k = g (6 + k) := fun k a => by unfold stM; rw [if_neg (by omega)]; omega
  obtain ⟨sum, hs⟩ : ∃ sum, sum = needM M g r - offO x M op := ⟨_, rfl⟩
  have hsb : -300 ≤ sum ∧ sum ≤ 120 := by
    have : needM M g r ≤ M 0 2 := by
      have b1 := suB_b (hG.1.1 r hr.1 (by have := hM.1.2.1; omega))
      have b2 := suP_b hM (hG.1.1 r hr.1 (by have := hM.1.2.1; omega))
      rw [← needM_e]
      omega
    rw [hs]
    unfold offO
    split <;> omega
  rw [← hs]
  unfold offO at hs
  have h57 : fX19_fills_57 r41 w (ii r) f (ii x) (ii op) (ii op) (ii last) (CW c D J) = fX19_fills_93 r41 FU w (ii r) f (ii x) (ii op) (ii sum) c.2.2.1 0 (CW (nwC c 100 4) (nwA c D) (nwJ c J)) := by
    have s2 := hR.1.1.2.2.1
    rcases hx with ⟨x0, x1⟩ | ⟨x0, x1⟩
    · rw [if_pos x0] at hs
      rw [x0]
      have e : needM M g r - 0 = sum := hs.symm
      simp (disch := first | assumption | omega) only [fX19_fills_57, fX19_fills_82, wdR1, wdR2, wdR3, wdR4, wdR5, wdR6, wdR7, wdR8, wdR9, wdR10, wdR11, wdR12, wdR13, wdI14, wdS14, wdI15, wdS15, wdA3, wdU3, wdA4, wdU4, wdA5, wdU5, wdA6, wdU6, wdA7, wdU7, wdA8, wdU8, wdA27, wdU27, wdA28, wdU28, wdA29, wdU29, wdA30, wdU30, wdA31, wdU31, wdB, wdP, wdAB, wdUB, wdAP, wdUP, wdV, drV, drR0, drI1, drS1, k_C, ↓reduceIte, tr_lt, fa_lt, tr_le, fa_le, tr_eq, fa_eq, and_true, true_and, and_false, false_and, il0, il1, il2, il3, il4, il5, il6, il7, il8, il9, il10, il11, il12, il15, il16, il20, il24, il31, il32, il44, il45, il48, il50, il57, il58, il59, il63, il91, il93, il97, il99, il100, il109, il113, il119, il120, il122, il200, il255, il480, il500, il501, il512, il999, il4112, il41120, il1000000, il1000003, ii_add, ii_sub, ii_mul, ii_neg, ii_le, ii_lt, ii_eq, ii_div, q_I, q_V, q_R, lt_q, rZ_q, md_M, md_16, md_4, md_8, md_10, if_true, if_false, if_pos, if_neg, hne, hnA, e]
    · rw [if_neg (by omega)] at hs
      rw [x0]
      have e : needM M g r - (M 0 4 + op) = sum := hs.symm
      simp (disch := first | assumption | omega) only [fX19_fills_57, fX19_fills_82, wdR1, wdR2, wdR3, wdR4, wdR5, wdR6, wdR7, wdR8, wdR9, wdR10, wdR11, wdR12, wdR13, wdI14, wdS14, wdI15, wdS15, wdA3, wdU3, wdA4, wdU4, wdA5, wdU5, wdA6, wdU6, wdA7, wdU7, wdA8, wdU8, wdA27, wdU27, wdA28, wdU28, wdA29, wdU29, wdA30, wdU30, wdA31, wdU31, wdB, wdP, wdAB, wdUB, wdAP, wdUP, wdV, drV, drR0, drI1, drS1, k_C, ↓reduceIte, tr_lt, fa_lt, tr_le, fa_le, tr_eq, fa_eq, and_true, true_and, and_false, false_and, il0, il1, il2, il3, il4, il5, il6, il7, il8, il9, il10, il11, il12, il15, il16, il20, il24, il31, il32, il44, il45, il48, il50, il57, il58, il59, il63, il91, il93, il97, il99, il100, il109, il113, il119, il120, il122, il200, il255, il480, il500, il501, il512, il999, il4112, il41120, il1000000, il1000003, ii_add, ii_sub, ii_mul, ii_neg, ii_le, ii_lt, ii_eq, ii_div, q_I, q_V, q_R, lt_q, rZ_q, md_M, md_16, md_4, md_8, md_10, if_true, if_false, if_pos, if_neg, hne, hnA, s2, e]
  obtain ⟨E, t1, t2, t3⟩ := n_top (n := M 0 9) (o := o) (st := stM M g) (D := nwA c D) (J := nwJ c J) (f := f) (hW.x e1) hq (by omega) ⟨h9.1, h4⟩ (by rw [dn _ _ (by omega)]; exact hR.1.2.1) (fun p a b => by
    obtain ⟨k1, k2, k3⟩ := hk p a b
    rw [dn _ _ (by omega), dn _ _ (by omega), hst _ k1.1]
    exact ⟨⟨k1.1, by omega⟩, hR.2.2.2.2.1 p a b, (hR.2.1 _ k1.1 k1.2).2.2⟩) (ii r) (ii x) (ii op) (ii sum) r41
  have dE : ∀ (b : Nat) (z : Int), b < c.2.2.1 → E b z = D b z := fun b z q => (t3 b z (by omega)).trans (dn b z q)
  have hX : FX (nwC c 100 4) E w f c.2.2.1 (M 0 9) o (M 2) (stM M g) := by
    refine ⟨⟨hW.x e1, hF.x e1, hq⟩, Or.inr (by omega), ⟨by omega, by omega⟩, ⟨h9.1, h4⟩, ⟨hk, fun p a b => ?_⟩, by rw [dE _ _ (by omega)]; exact hR.1.2.1, fun p a b => ?_, t2⟩
    · obtain ⟨k1, k2, k3⟩ := hk p a b
      exact ⟨by omega, (hM.2.2.1 (o p) k1.1 (by omega)).2, (stM_b hG.GL (o p) ⟨k1.1, by omega⟩).2⟩
    · obtain ⟨k1, k2, k3⟩ := hk p a b
      rw [dE _ _ (by omega), dE _ _ (by omega)]
      exact ⟨hR.2.2.2.2.1 p a b, (hR.2.1 _ k1.1 k1.2).1⟩
  have hD2 : FS f E E S ways := by
    obtain ⟨⟨d1, d2, d3⟩, ⟨m0, m1, m2, m3⟩, hb, -⟩ := hD
    have e : ∀ z, E f z = D f z := fun z => dE _ _ (by omega)
    have e' : ∀ z, E (f + 1) z = D (f + 1) z := fun z => dE _ _ (by omega)
    exact ⟨⟨by rw [e]; exact d1, by rw [e]; exact d2, by rw [e]; exact d3⟩, ⟨by rw [e']; exact m0, by rw [e']; exact m1, by rw [e']; exact m2, by rw [e']; exact m3⟩, hb, fun _ _ _ _ => rfl⟩
  obtain ⟨D', ways', f1, f2, f3⟩ := n_fA (J := nwJ c J) (r41 := r41) hX hD2 op sum hsb hw (ii r) (ii x)
  rw [Gp_p _ _ _ _ 0 sum h9.1] at f2
  refine ⟨nwC c 100 4, D', nwJ c J, ways', ?_, ⟨f2.1, f2.2.1, f2.2.2.1, fun _ _ _ _ => rfl⟩, f3, ⟨e1, rfl⟩, fun b z q a1 a2 => ?_, fun b j q => if_neg (by omega)⟩
  · have te := t2 0 (by omega) (by omega)
    rw [h57, t1, ← f1]
    simp (disch := first | assumption | omega) only [fX19_fills_135, fiT hq, ↓reduceIte, tr_lt, fa_lt, tr_le, fa_le, tr_eq, fa_eq, and_true, true_and, and_false, false_and, il0, il1, il2, il3, il4, il5, il6, il7, il8, il9, il10, il11, il12, il15, il16, il20, il24, il31, il32, il44, il45, il48, il50, il57, il58, il59, il63, il91, il93, il97, il99, il100, il109, il113, il119, il120, il122, il200, il255, il480, il500, il501, il512, il999, il4112, il41120, il1000000, il1000003, ii_add, ii_sub, ii_mul, ii_neg, ii_le, ii_lt, ii_eq, ii_div, q_I, q_V, q_R, lt_q, rZ_q, md_M, md_16, md_4, md_8, md_10, if_true, if_false, if_pos, if_neg, te]
  · rw [f2.2.2.2 b z a1 a2, dE b z q]
/-- from the first opening to the last -/
theorem n_fQ {c0 : CC} {A : AI} {J0 : JI} (h : FO c w f M D o g r B) (hF : c0.2.2.1 = f ∧ exc c0 c ∧ (c.2.2.1 = f + 2 ∧ c.2.2.2.1 = c0.2.2.2.1 + 2 ∧ c.2.2.2.2 = c0.2.2.2.2 + 8) ∧ f + 40 < 1000000) (hA : (∀ (b : Nat) (z : Int), b < f → D b z = A b z) ∧ ∀ (b j : Nat), b < f → J b j = J0 b j) (hD : FS f D D (1000000, -1, 0, 0, 0, 0) 0) (x fst last : Int) (hx : x = 0 ∧ fst = -1 ∧ last = -1 ∨ x = 1 ∧ fst = 0 ∧ last = M 0 5) (Q : Int → Int × Int) (hQ0 : Q fst = (1000000, -1)) (hQ : ∀ i, fst ≤ i → i ≤ last → Q (i + 1) = if FW (M 0 9) o (M 2) (stM M g) 0 (needM M g r - offO x M i) < (Q i).1 then (FW (M 0 9) o (M 2) (stM M g) 0 (needM M g r - offO x M i), i) else Q i) :
    ∃ (c' : CC) (D' : AI) (J' : JI) (S' : SS) (ways' : Int), fX19_fills_41 FU w (ii r) f (ii x) (ii fst) (CW c D J) = some (.inl (some (.ref f)), CW c' D' J') ∧ (exc c0 c' ∧ isFil c' f ∧ c'.2.2.1 ≤ f + 24 ∧ (c0.2.2.2.1 ≤ c'.2.2.2.1 ∧ c'.2.2.2.1 ≤ c0.2.2.2.1 + 24) ∧ c0.2.2.2.2 ≤ c'.2.2.2.2 ∧ c'.2.2.2.2 ≤ c0.2.2.2.2 + 120) ∧
      ((∀ (b : Nat) (z : Int), b < f → D' b z = A b z) ∧ ∀ (b j : Nat), b < f → J' b j = J0 b j) ∧ FS f D' D' S' ways' ∧ ways' ≤ 40000000 ∧ (S'.1, S'.2.1) = Q (last + 1) ∧ (S'.1 < 1000000 → S'.2 = pA (M 0 9) o (M 2) (stM M g) S'.2.1 (needM M g r - offO x M S'.2.1)) := by
  obtain ⟨⟨hW, hFi⟩, ⟨hR, hM, hG⟩, hn, hr, hwf, hfz, hz⟩ := h
  have h5 := hM.1.2.2.2.1
  have h38 := hM.1.2.1
  refine lp (fun m i (s : CC × AI × JI × SS × Int) => fX19_fills_41 m w (ii r) f (ii x) (ii i) (CW s.1 s.2.1 s.2.2.1)) (fun y => ∃ (c' : CC) (D' : AI) (J' : JI) (S' : SS) (ways' : Int), y = some (.inl (some (.ref f)), CW c' D' J') ∧ (exc c0 c' ∧ isFil c' f ∧ c'.2.2.1 ≤ f + 24 ∧ (c0.2.2.2.1 ≤ c'.2.2.2.1 ∧ c'.2.2.2.1 ≤ c0.2.2.2.1 + 24) ∧ c0.2.2.2.2 ≤ c'.2.2.2.2 ∧ c'.2.2.2.2 ≤ c0.2.2.2.2 + 120) ∧
      ((∀ (b : Nat) (z : Int), b < f → D' b z = A b z) ∧ ∀ (b j : Nat), b < f → J' b j = J0 b j) ∧ FS f D' D' S' ways' ∧ ways' ≤ 40000000 ∧ (S'.1, S'.2.1) = Q (last + 1) ∧ (S'.1 < 1000000 → S'.2 = pA (M 0 9) o (M 2) (stM M g) S'.2.1 (needM M g r - offO x M S'.2.1)))
    (fun i s => (fst ≤ i ∧ exc c s.1 ∧ ((s.1.2.2.1 : Int) = f + 2 + (i - fst) ∧ (s.1.2.2.2.1 : Int) = c0.2.2.2.1 + 2 + (i - fst) ∧ (s.1.2.2.2.2 : Int) = c0.2.2.2.2 + 8 + 4 * (i - fst))) ∧ ((∀ (b : Nat) (z : Int), b < f → s.2.1 b z = D b z) ∧ ∀ (b j : Nat), b < f → s.2.2.1 b j = J b j) ∧ FS f s.2.1 s.2.1 s.2.2.2.1 s.2.2.2.2 ∧ s.2.2.2.2 ≤ 1771561 * (i - fst) ∧ (s.2.2.2.1.1, s.2.2.2.1.2.1) = Q i ∧ (s.2.2.2.1.1 < 1000000 → s.2.2.2.1.2 = pA (M 0 9) o (M 2) (stM M g) s.2.2.2.1.2.1 (needM M g r - offO x M s.2.2.2.1.2.1))) (last + 1) ?_ ?_ FU fst (c, D, J, (1000000, -1, 0, 0, 0, 0), 0) (by omega) ⟨⟨Int.le_refl _, exc.refl c, by dsimp only; omega⟩, ⟨fun _ _ _ => rfl, fun _ _ _ => rfl⟩, hD, by dsimp only; omega, hQ0.symm, fun y => by dsimp only at y; omega⟩ (by have := FU_e; omega)
  · rintro m i ⟨c1, D1, J1, S1, w1⟩ hi ⟨⟨hI, hE, hzz⟩, ⟨hfA, hfJ⟩, hFS, hww, hSQ, hpA⟩
    dsimp only at hE hzz hfA hfJ hFS hww hSQ hpA ⊢
    have hFO : FO c1 w f M D1 o g r B := ⟨⟨hW.x hE, hFi.x hE⟩, ⟨hR.fr (fun b z q => hfA b z (by unfold inW at q; omega)) (by omega), hM, hG⟩, hn, hr, hwf, by omega, by omega⟩
    obtain ⟨c2, D2, J2, w2, g1, g2, g3, ⟨g4, g5⟩, g6, g7⟩ := n_fO (J := J1) hFO hFS i x last (by omega) (by omega) (by omega) (fX19_fills_41 m)
    have z2 : c2.2.2.1 = c1.2.2.1 + 1 := by rw [g5]; rfl
    have z3 : c2.2.2.2.1 = c1.2.2.2.1 + 1 := by rw [g5]; rfl
    have z4 : c2.2.2.2.2 = c1.2.2.2.2 + 4 := by rw [g5]; rfl
    have e1 : S1.1 = (Q i).1 := congrArg Prod.fst hSQ
    have e2 : S1.2.1 = (Q i).2 := congrArg Prod.snd hSQ
    have hq := hQ i hI (by omega)
    refine Or.inr ⟨(c2, D2, J2, sup S1 (FW (M 0 9) o (M 2) (stM M g) 0 (needM M g r - offO x M i)) (pA (M 0 9) o (M 2) (stM M g) i (needM M g r - offO x M i)), w2), ⟨⟨by omega, hE.trans g4, by dsimp only; omega⟩, ⟨fun b z q => (g6 b z (by omega) (by omega) (by omega)).trans (hfA b z q), fun b j q => (g7 b j (by omega)).trans (hfJ b j q)⟩, g2, by dsimp only; omega, ?_, ?_⟩, ?_⟩
    · dsimp only
      rw [hq]
      unfold sup
      rw [← e1]
      have hpo := (pA_tk (M 0 9) o (M 2) (stM M g) i (needM M g r - offO x M i)).1
      by_cases y : FW (M 0 9) o (M 2) (stM M g) 0 (needM M g r - offO x M i) < S1.1
      · rw [if_pos y, if_pos y]
        dsimp only
        rw [hpo]
      · rw [if_neg y, if_neg y]
        exact hSQ
    · dsimp only
      unfold sup
      have hpo := (pA_tk (M 0 9) o (M 2) (stM M g) i (needM M g r - offO x M i)).1
      by_cases y : FW (M 0 9) o (M 2) (stM M g) 0 (needM M g r - offO x M i) < S1.1
      · rw [if_pos y]
        intro _
        dsimp only
        rw [hpo]
      · rw [if_neg y]
        exact hpA
    · have s3 := hFO.2.1.1.1.1.2.2.2.1
      have h41 : fX19_fills_41 (m + 1) w (ii r) f (ii x) (ii i) (CW c1 D1 J1) = fX19_fills_57 (fX19_fills_41 m) w (ii r) f (ii x) (ii i) (ii i) (ii last) (CW c1 D1 J1) := by
        have hW1 := hFO.1.1
        rcases hx with ⟨x0, x1, x2⟩ | ⟨x0, x1, x2⟩
        · rw [x0, x2]
          simp (disch := first | assumption | omega) only [fX19_fills_41, wdR1, wdR2, wdR3, wdR4, wdR5, wdR6, wdR7, wdR8, wdR9, wdR10, wdR11, wdR12, wdR13, wdI14, wdS14, wdI15, wdS15, wdA3, wdU3, wdA4, wdU4, wdA5, wdU5, wdA6, wdU6, wdA7, wdU7, wdA8, wdU8, wdA27, wdU27, wdA28, wdU28, wdA29, wdU29, wdA30, wdU30, wdA31, wdU31, wdB, wdP, wdAB, wdUB, wdAP, wdUP, wdV, drV, drR0, drI1, drS1, k_C, ↓reduceIte, tr_lt, fa_lt, tr_le, fa_le, tr_eq, fa_eq, and_true, true_and, and_false, false_and, il0, il1, il2, il3, il4, il5, il6, il7, il8, il9, il10, il11, il12, il15, il16, il20, il24, il31, il32, il44, il45, il48, il50, il57, il58, il59, il63, il91, il93, il97, il99, il100, il109, il113, il119, il120, il122, il200, il255, il480, il500, il501, il512, il999, il4112, il41120, il1000000, il1000003, ii_add, ii_sub, ii_mul, ii_neg, ii_le, ii_lt, ii_eq, ii_div, q_I, q_V, q_R, lt_q, rZ_q, md_M, md_16, md_4, md_8, md_10, if_true, if_false, if_pos, if_neg]
        · rw [x0, x2]
          simp (disch := first | assumption | omega) only [fX19_fills_41, wdR1, wdR2, wdR3, wdR4, wdR5, wdR6, wdR7, wdR8, wdR9, wdR10, wdR11, wdR12, wdR13, wdI14, wdS14, wdI15, wdS15, wdA3, wdU3, wdA4, wdU4, wdA5, wdU5, wdA6, wdU6, wdA7, wdU7, wdA8, wdU8, wdA27, wdU27, wdA28, wdU28, wdA29, wdU29, wdA30, wdU30, wdA31, wdU31, wdB, wdP, wdAB, wdUB, wdAP, wdUP, wdV, drV, drR0, drI1, drS1, k_C, ↓reduceIte, tr_lt, fa_lt, tr_le, fa_le, tr_eq, fa_eq, and_true, true_and, and_false, false_and, il0, il1, il2, il3, il4, il5, il6, il7, il8, il9, il10, il11, il12, il15, il16, il20, il24, il31, il32, il44, il45, il48, il50, il57, il58, il59, il63, il91, il93, il97, il99, il100, il109, il113, il119, il120, il122, il200, il255, il480, il500, il501, il512, il999, il4112, il41120, il1000000, il1000003, ii_add, ii_sub, ii_mul, ii_neg, ii_le, ii_lt, ii_eq, ii_div, q_I, q_V, q_R, lt_q, rZ_q, md_M, md_16, md_4, md_8, md_10, if_true, if_false, if_pos, if_neg, s3]
      rw [h41, g1]
      simp (disch := first | assumption | omega) only [fX19_fills_430, ↓reduceIte, tr_lt, fa_lt, tr_le, fa_le, tr_eq, fa_eq, and_true, true_and, and_false, false_and, il0, il1, il2, il3, il4, il5, il6, il7, il8, il9, il10, il11, il12, il15, il16, il20, il24, il31, il32, il44, il45, il48, il50, il57, il58, il59, il63, il91, il93, il97, il99, il100, il109, il113, il119, il120, il122, il200, il255, il480, il500, il501, il512, il999, il4112, il41120, il1000000, il1000003, ii_add, ii_sub, ii_mul, ii_neg, ii_le, ii_lt, ii_eq, ii_div, q_I, q_V, q_R, lt_q, rZ_q, md_M, md_16, md_4, md_8, md_10, if_true, if_false, if_pos, if_neg]
  · rintro m ⟨c1, D1, J1, S1, w1⟩ ⟨⟨hI, hE, hzz⟩, ⟨hfA, hfJ⟩, hFS, hww, hSQ, hpA⟩
    dsimp only at hE hzz hfA hfJ hFS hww hSQ hpA ⊢
    refine ⟨c1, D1, J1, S1, w1, ?_, ⟨hF.2.1.trans hE, hFi.x hE, by omega, by omega, by omega, by omega⟩, ⟨fun b z q => (hfA b z q).trans (hA.1 b z q), fun b j q => (hfJ b j q).trans (hA.2 b j q)⟩, hFS, by omega, hSQ, hpA⟩
    have hR1 : WR w D1 M o g := hR.fr (fun b z q => hfA b z (by unfold inW at q; omega)) (by omega)
    have s3 := hR1.1.1.2.2.2.1
    have hW1 := hW.x hE
    rcases hx with ⟨x0, x1, x2⟩ | ⟨x0, x1, x2⟩
    · rw [x0, x2]
      simp (disch := first | assumption | omega) only [fX19_fills_41, fX19_fills_57, wdR1, wdR2, wdR3, wdR4, wdR5, wdR6, wdR7, wdR8, wdR9, wdR10, wdR11, wdR12, wdR13, wdI14, wdS14, wdI15, wdS15, wdA3, wdU3, wdA4, wdU4, wdA5, wdU5, wdA6, wdU6, wdA7, wdU7, wdA8, wdU8, wdA27, wdU27, wdA28, wdU28, wdA29, wdU29, wdA30, wdU30, wdA31, wdU31, wdB, wdP, wdAB, wdUB, wdAP, wdUP, wdV, drV, drR0, drI1, drS1, k_C, ↓reduceIte, tr_lt, fa_lt, tr_le, fa_le, tr_eq, fa_eq, and_true, true_and, and_false, false_and, il0, il1, il2, il3, il4, il5, il6, il7, il8, il9, il10, il11, il12, il15, il16, il20, il24, il31, il32, il44, il45, il48, il50, il57, il58, il59, il63, il91, il93, il97, il99, il100, il109, il113, il119, il120, il122, il200, il255, il480, il500, il501, il512, il999, il4112, il41120, il1000000, il1000003, ii_add, ii_sub, ii_mul, ii_neg, ii_le, ii_lt, ii_eq, ii_div, q_I, q_V, q_R, lt_q, rZ_q, md_M, md_16, md_4, md_8, md_10, if_true, if_false, if_pos, if_neg]
    · rw [x0, x2]
      simp (disch := first | assumption | omega) only [fX19_fills_41, fX19_fills_57, wdR1, wdR2, wdR3, wdR4, wdR5, wdR6, wdR7, wdR8, wdR9, wdR10, wdR11, wdR12, wdR13, wdI14, wdS14, wdI15, wdS15, wdA3, wdU3, wdA4, wdU4, wdA5, wdU5, wdA6, wdU6, wdA7, wdU7, wdA8, wdU8, wdA27, wdU27, wdA28, wdU28, wdA29, wdU29, wdA30, wdU30, wdA31, wdU31, wdB, wdP, wdAB, wdUB, wdAP, wdUP, wdV, drV, drR0, drI1, drS1, k_C, ↓reduceIte, tr_lt, fa_lt, tr_le, fa_le, tr_eq, fa_eq, and_true, true_and, and_false, false_and, il0, il1, il2, il3, il4, il5, il6, il7, il8, il9, il10, il11, il12, il15, il16, il20, il24, il31, il32, il44, il45, il48, il50, il57, il58, il59, il63, il91, il93, il97, il99, il100, il109, il113, il119, il120, il122, il200, il255, il480, il500, il501, il512, il999, il4112, il41120, il1000000, il1000003, ii_add, ii_sub, ii_mul, ii_neg, ii_le, ii_lt, ii_eq, ii_div, q_I, q_V, q_R, lt_q, rZ_q, md_M, md_16, md_4, md_8, md_10, if_true, if_false, if_pos, if_neg, s3]
end FLR
