/-! THE LAW'S WORLD: a row is locked -/
section LC2
variable {c : CC} {A A' D : AI} {J : JI} {w f : Nat} {M : AI} {o g G : Int → Int} {r B : Int}
theorem GR.put1 (hG : GR G) (hr : 0 ≤ r ∧ r < 8) (d : Int) (hd : 0 ≤ d ∧ d < 10) (h5 : cel G r 1 < 500) : GR (gPut G r d) ∧ cel (gPut G r d) r 1 = cel G r 1 + 1 := by
  have h1 := (hG r hr.1 hr.2).2.1
  refine ⟨fun r2 a b => RG.put ⟨hr.1, a⟩ ⟨h1.1, h5⟩ hd (hG r2 a b), ?_⟩
  rw [cel_gPut _ _ _ _ _ ⟨⟨⟨hr.1, hr.1⟩, by omega⟩, h1, hd⟩, if_pos (by omega)]
/-- the pieces of a choice go in -/
theorem n_fill (hW : isWorld c w) (hF : isFil c f) (hwf : w + 32 ≤ f) (hR : WR w D M o G) (hG : GR G) (hM : SA M) (h4 : M 0 9 ≤ 4) (hO : ordOK (M 1) (M 2) (M 0 9) o) (hr : 0 ≤ r ∧ r < M 0 3) (ch : Int → Int) (hch : ∀ p, 0 ≤ p → p < M 0 9 → D (f + 1) p = ch p) (hc : ∀ p, 0 ≤ p → p < M 0 9 → 0 ≤ ch p ∧ ch p ≤ 500) (hrm : ∀ p, 0 ≤ p → p ≤ M 0 9 → cel G r 1 + sm ch p ≤ 500) :
    ∃ D', fX19_lock_65 w (ii r) f (CW c D J) = some (Sum.inl (some (Value.int (ii (1)))), CW c D' J) ∧ WR w D' M o (gpu (plN G r o ch (M 0 9).toNat) r 4 0) ∧ ∀ (b : Nat) (z : Int), ¬ inW w b → D' b z = D b z := by
  have h9 := hM.1.2.2.2.2.2.2.2
  have h38 := hM.1.2.1
  have hr8 : 0 ≤ r ∧ r < 8 := by omega
  have nW : ¬ inW w (f + 1) := fun z => by unfold inW at z; omega
  rw [fX19_lock_65, show (0 : Int32) = ii 0 from rfl]
  refine lp (fun n i (t : AI × (Int → Int)) => fX19_lock_67 n w (ii r) f (ii i) (CW c t.1 J)) (fun x => ∃ D', x = some (Sum.inl (some (Value.int (ii (1)))), CW c D' J) ∧ WR w D' M o (gpu (plN G r o ch (M 0 9).toNat) r 4 0) ∧ ∀ (b : Nat) (z : Int), ¬ inW w b → D' b z = D b z)
    (fun i t => (0 ≤ i ∧ t.2 = plN G r o ch i.toNat) ∧ (WR w t.1 M o t.2 ∧ ∀ (b : Nat) (z : Int), ¬ inW w b → t.1 b z = D b z) ∧ GR t.2 ∧ cel t.2 r 1 = cel G r 1 + sm ch i) (M 0 9) ?_ ?_ FU 0 (D, G) (by omega) ⟨⟨by omega, rfl⟩, ⟨hR, fun _ _ _ => rfl⟩, hG, by dsimp only; rw [sm_0]; omega⟩ (by have := FU_e; omega)
  · rintro n i ⟨D1, G1⟩ hi ⟨⟨hI, hG1⟩, ⟨hR1, hF1⟩, hgG, hn⟩
    dsimp only at hG1 hR1 hF1 hgG hn ⊢
    have hoi := hO.1 i hI hi
    have hci := hc i hI hi
    have hrm1 := hrm (i + 1) (by omega) (by omega)
    rw [sm_s _ _ hI] at hrm1
    have wK := hR1.1.2.1
    have inner : ∃ D' G', fX19_lock_78 (fX19_lock_67 n) FU w (ii r) f (ii i) (ii 0) (CW c D1 J) = fX19_lock_106 (fX19_lock_67 n) w (ii r) f (ii i) (CW c D' J) ∧ (G' = pcN G1 r (o i) (ch i).toNat ∧ WR w D' M o G' ∧ ∀ (b : Nat) (z : Int), ¬ inW w b → D' b z = D b z) ∧ GR G' ∧ cel G' r 1 = cel G1 r 1 + ch i := by
      refine lp (fun m j (t : AI × (Int → Int)) => fX19_lock_78 (fX19_lock_67 n) m w (ii r) f (ii i) (ii j) (CW c t.1 J)) (fun x => ∃ D' G', x = fX19_lock_106 (fX19_lock_67 n) w (ii r) f (ii i) (CW c D' J) ∧ (G' = pcN G1 r (o i) (ch i).toNat ∧ WR w D' M o G' ∧ ∀ (b : Nat) (z : Int), ¬ inW w b → D' b z = D b z) ∧ GR G' ∧ cel G' r 1 = cel G1 r 1 + ch i)
        (fun j t => (0 ≤ j ∧ t.2 = pcN G1 r (o i) j.toNat) ∧ (WR w t.1 M o t.2 ∧ ∀ (b : Nat) (z : Int), ¬ inW w b → t.1 b z = D b z) ∧ GR t.2 ∧ cel t.2 r 1 = cel G1 r 1 + j) (ch i) ?_ ?_ FU 0 (D1, G1) (by omega) ⟨⟨by omega, rfl⟩, ⟨hR1, hF1⟩, hgG, by dsimp only; omega⟩ (by have := FU_e; omega)
      · rintro m j ⟨D2, T⟩ hj ⟨⟨hJ, hT⟩, ⟨hR2, hF2⟩, hgT, hnT⟩
        dsimp only at hT hR2 hF2 hgT hnT ⊢
        have v1 : D2 (f + 1) i = ch i := by rw [hF2 _ _ nW]; exact hch i hI hi
        have v2 : D2 (w + 6) i = o i := hR2.2.2.2.2.1 i hI hi
        obtain ⟨E, e1, e2, e3⟩ := n_putsR (J := J) hW hR2 hM ⟨⟨hgT, trivial⟩, trivial⟩ h4 hr (o i) hoi (by omega)
        obtain ⟨g1, g2⟩ := hgT.put1 hr8 (o i) (by omega) (by omega)
        refine Or.inr ⟨(E, gPut T r (o i)), ⟨⟨by omega, ?_⟩, ⟨e2, fun b z q => (e3 b z q).trans (hF2 b z q)⟩, g1, by dsimp only; omega⟩, ?_⟩
        · rw [show (j + 1).toNat = j.toNat + 1 by omega, hT]; rfl
        · simp (disch := first | assumption | omega) only [fX19_lock_78, fiR0, fiA, wdR1, wdR2, wdR3, wdR4, wdR5, wdR6, wdR7, wdR8, wdR9, wdR10, wdR11, wdR12, wdR13, wdI14, wdS14, wdI15, wdS15, wdA3, wdU3, wdA4, wdU4, wdA5, wdU5, wdA6, wdU6, wdA7, wdU7, wdA8, wdU8, wdA27, wdU27, wdA28, wdU28, wdA29, wdU29, wdA30, wdU30, wdA31, wdU31, wdB, wdP, wdAB, wdUB, wdAP, wdUP, wdV, drV, drR0, drI1, drS1, k_C, ↓reduceIte, tr_lt, fa_lt, tr_le, fa_le, tr_eq, fa_eq, and_true, true_and, and_false, false_and, il0, il1, il2, il3, il4, il5, il6, il7, il8, il9, il10, il11, il12, il15, il16, il20, il24, il31, il32, il44, il45, il48, il50, il57, il58, il59, il63, il91, il93, il97, il99, il100, il109, il113, il119, il120, il122, il200, il255, il480, il500, il501, il512, il999, il4112, il41120, il1000000, il1000003, ii_add, ii_sub, ii_mul, ii_neg, ii_le, ii_lt, ii_eq, ii_div, q_I, q_V, q_R, lt_q, rZ_q, md_M, md_16, md_4, md_8, md_10, if_true, if_false, if_pos, if_neg, v1, v2, e1]
      · rintro m ⟨D2, T⟩ ⟨⟨hJ, hT⟩, ⟨hR2, hF2⟩, hgT, hnT⟩
        dsimp only at hT hR2 hF2 hgT hnT ⊢
        have v1 : D2 (f + 1) i = ch i := by rw [hF2 _ _ nW]; exact hch i hI hi
        refine ⟨D2, T, ?_, ⟨hT, hR2, hF2⟩, hgT, hnT⟩
        simp (disch := first | assumption | omega) only [fX19_lock_78, fiR0, fiA, wdR1, wdR2, wdR3, wdR4, wdR5, wdR6, wdR7, wdR8, wdR9, wdR10, wdR11, wdR12, wdR13, wdI14, wdS14, wdI15, wdS15, wdA3, wdU3, wdA4, wdU4, wdA5, wdU5, wdA6, wdU6, wdA7, wdU7, wdA8, wdU8, wdA27, wdU27, wdA28, wdU28, wdA29, wdU29, wdA30, wdU30, wdA31, wdU31, wdB, wdP, wdAB, wdUB, wdAP, wdUP, wdV, drV, drR0, drI1, drS1, k_C, ↓reduceIte, tr_lt, fa_lt, tr_le, fa_le, tr_eq, fa_eq, and_true, true_and, and_false, false_and, il0, il1, il2, il3, il4, il5, il6, il7, il8, il9, il10, il11, il12, il15, il16, il20, il24, il31, il32, il44, il45, il48, il50, il57, il58, il59, il63, il91, il93, il97, il99, il100, il109, il113, il119, il120, il122, il200, il255, il480, il500, il501, il512, il999, il4112, il41120, il1000000, il1000003, ii_add, ii_sub, ii_mul, ii_neg, ii_le, ii_lt, ii_eq, ii_div, q_I, q_V, q_R, lt_q, rZ_q, md_M, md_16, md_4, md_8, md_10, if_true, if_false, if_pos, if_neg, v1]
    obtain ⟨D2, G2, e1, ⟨e2, e3, e4⟩, e5, e6⟩ := inner
    refine Or.inr ⟨(D2, G2), ⟨⟨by omega, ?_⟩, ⟨e3, e4⟩, e5, by dsimp only; rw [sm_s _ _ hI]; omega⟩, ?_⟩
    · dsimp only
      rw [show (i + 1).toNat = i.toNat + 1 by omega]
      show G2 = pcN (plN G r o ch i.toNat) r (o ((i.toNat : Nat) : Int)) (ch ((i.toNat : Nat) : Int)).toNat
      rw [show ((i.toNat : Nat) : Int) = i by omega, e2, hG1]
    · simp (disch := first | assumption | omega) only [fX19_lock_67, wdR1, wdR2, wdR3, wdR4, wdR5, wdR6, wdR7, wdR8, wdR9, wdR10, wdR11, wdR12, wdR13, wdI14, wdS14, wdI15, wdS15, wdA3, wdU3, wdA4, wdU4, wdA5, wdU5, wdA6, wdU6, wdA7, wdU7, wdA8, wdU8, wdA27, wdU27, wdA28, wdU28, wdA29, wdU29, wdA30, wdU30, wdA31, wdU31, wdB, wdP, wdAB, wdUB, wdAP, wdUP, wdV, drV, drR0, drI1, drS1, k_C, ↓reduceIte, tr_lt, fa_lt, tr_le, fa_le, tr_eq, fa_eq, and_true, true_and, and_false, false_and, il0, il1, il2, il3, il4, il5, il6, il7, il8, il9, il10, il11, il12, il15, il16, il20, il24, il31, il32, il44, il45, il48, il50, il57, il58, il59, il63, il91, il93, il97, il99, il100, il109, il113, il119, il120, il122, il200, il255, il480, il500, il501, il512, il999, il4112, il41120, il1000000, il1000003, ii_add, ii_sub, ii_mul, ii_neg, ii_le, ii_lt, ii_eq, ii_div, q_I, q_V, q_R, lt_q, rZ_q, md_M, md_16, md_4, md_8, md_10, if_true, if_false, if_pos, if_neg, wK]
      rw [e1]
      simp (disch := first | assumption | omega) only [fX19_lock_106, ↓reduceIte, tr_lt, fa_lt, tr_le, fa_le, tr_eq, fa_eq, and_true, true_and, and_false, false_and, il0, il1, il2, il3, il4, il5, il6, il7, il8, il9, il10, il11, il12, il15, il16, il20, il24, il31, il32, il44, il45, il48, il50, il57, il58, il59, il63, il91, il93, il97, il99, il100, il109, il113, il119, il120, il122, il200, il255, il480, il500, il501, il512, il999, il4112, il41120, il1000000, il1000003, ii_add, ii_sub, ii_mul, ii_neg, ii_le, ii_lt, ii_eq, ii_div, q_I, q_V, q_R, lt_q, rZ_q, md_M, md_16, md_4, md_8, md_10, if_true, if_false, if_pos, if_neg]
  · rintro n ⟨D1, G1⟩ ⟨⟨hI, hG1⟩, ⟨hR1, hF1⟩, hgG, hn⟩
    dsimp only at hG1 hR1 hF1 hgG hn ⊢
    have wK := hR1.1.2.1
    refine ⟨up D1 (w + 31) r 0, ?_, ?_, fun b z q => ?_⟩
    · simp (disch := first | assumption | omega) only [fX19_lock_67, fX19_lock_112, wdR1, wdR2, wdR3, wdR4, wdR5, wdR6, wdR7, wdR8, wdR9, wdR10, wdR11, wdR12, wdR13, wdI14, wdS14, wdI15, wdS15, wdA3, wdU3, wdA4, wdU4, wdA5, wdU5, wdA6, wdU6, wdA7, wdU7, wdA8, wdU8, wdA27, wdU27, wdA28, wdU28, wdA29, wdU29, wdA30, wdU30, wdA31, wdU31, wdB, wdP, wdAB, wdUB, wdAP, wdUP, wdV, drV, drR0, drI1, drS1, k_C, ↓reduceIte, tr_lt, fa_lt, tr_le, fa_le, tr_eq, fa_eq, and_true, true_and, and_false, false_and, il0, il1, il2, il3, il4, il5, il6, il7, il8, il9, il10, il11, il12, il15, il16, il20, il24, il31, il32, il44, il45, il48, il50, il57, il58, il59, il63, il91, il93, il97, il99, il100, il109, il113, il119, il120, il122, il200, il255, il480, il500, il501, il512, il999, il4112, il41120, il1000000, il1000003, ii_add, ii_sub, ii_mul, ii_neg, ii_le, ii_lt, ii_eq, ii_div, q_I, q_V, q_R, lt_q, rZ_q, md_M, md_16, md_4, md_8, md_10, if_true, if_false, if_pos, if_neg, wK]
    · rw [← hG1]
      exact hR1.s4 hgG h38.2 hr (by omega) 0
    · have q' := q
      unfold inW at q'
      rw [up_n _ _ _ _ _ _ (by omega)]; exact hF1 b z q
theorem n_lock (hW : isWorld c w) (hR : WR w A M o g) (hM : SA M) (hG : GC M g B) (h4 : M 0 9 ≤ 4) (h120 : M 0 2 ≤ 120) (hO : ordOK (M 1) (M 2) (M 0 9) o) (h37 : M 0 37 = -1) (hr : 0 ≤ r ∧ r < M 0 3) (hw : w + 32 ≤ c.2.2.1) (hz : c.2.2.1 + 40 < 1000000) :
    ∃ (c' : CC) (D : AI) (J' : JI), fX19_lock w (ii r) (CW c A J) = some (Sum.inl (some (Value.int (ii (if (chL M g o r).1 < 1000000 then 1 else 0)))), CW c' D J') ∧ (exc c c' ∧ c'.2.2.1 ≤ c.2.2.1 + 24 ∧ (c.2.2.2.1 ≤ c'.2.2.2.1 ∧ c'.2.2.2.1 ≤ c.2.2.2.1 + 24) ∧ c.2.2.2.2 ≤ c'.2.2.2.2 ∧ c'.2.2.2.2 ≤ c.2.2.2.2 + 120) ∧
      ((∀ (b : Nat) (z : Int), b < c.2.2.1 → ¬ inW w b → D b z = A b z) ∧ ∀ (b j : Nat), b < c.2.2.1 → J' b j = J b j) ∧ (¬ (chL M g o r).1 < 1000000 → ∀ (b : Nat) (z : Int), b < c.2.2.1 → D b z = A b z) ∧
      ((chL M g o r).1 < 1000000 → WR w D M o (gLock g r o (tk (M 0 9) o (M 2) (stM M g) (chS M g o r)) (M 0 9) (chL M g o r).2)) := by
  obtain ⟨c1, D1, J1, S, ways, q1, ⟨ex, hF, room⟩, ⟨fA, fJ⟩, hFS, hwb, hS, hpA⟩ := n_fills (J := J) hW hR hM hG h4 h120 hO h37 hr hw hz
  have hW1 := hW.x ex
  have h38 := hM.1.2.1
  have h9 := hM.1.2.2.2.2.2.2.2
  have hr8 : 0 ≤ r ∧ r < 8 := by omega
  have hR1 : WR w D1 M o g := hR.fr (fun b z q => fA b z (by unfold inW at q; omega)) h38.2
  have s1 : S.1 = (chL M g o r).1 := congrArg Prod.fst hS
  have s2 : S.2.1 = (chL M g o r).2 := congrArg Prod.snd hS
  obtain ⟨⟨d1, d2, d3⟩, ⟨m0, m1, m2, m3⟩, ⟨b1, b2, b3, b4⟩, -⟩ := hFS
  have hcl : ∀ (v : Option Value) (k : Option Value → AS → Option AR), cV (CW c A J) w 13 (some (.inl v, CW c1 D1 J1)) k = k v (CW c1 D1 J1) := fun v k => by rw [wdV hW, k_Cl ⟨ex.1, room.2.1.1, room.2.2.1⟩]
  by_cases y : (chL M g o r).1 < 1000000
  · have hb := (chL_b (o := o) hM (hG.need hM hr).1)
    have hop := hb.2.1
    have h5 := hM.1.2.2.2.1
    have hcan := (hb.2.2 y).2.2
    obtain ⟨lb1, lb2⟩ := hG.lockB hM hO hr y
    have hw0 : ways ≠ 0 := fun z => by have := b4.mp z; omega
    have hch : ∀ p, 0 ≤ p → p < M 0 9 → D1 (c.2.2.1 + 1) p = tk (M 0 9) o (M 2) (stM M g) (chS M g o r) p := fun p a b => by
      obtain ⟨-, p0, p1, p2, p3⟩ := pA_tk (M 0 9) o (M 2) (stM M g) S.2.1 (chS M g o r)
      rw [← hpA (by omega)] at p0 p1 p2 p3
      rcases (show p = 0 ∨ p = 1 ∨ p = 2 ∨ p = 3 by omega) with rfl | rfl | rfl | rfl
      · rw [m0]; exact p0 (by omega)
      · rw [m1]; exact p1 (by omega)
      · rw [m2]; exact p2 (by omega)
      · rw [m3]; exact p3 (by omega)
    have hgr := hG.1.1 r hr.1 hr8.2
    have c2b := hgr.2.2.2.2.1
    have w29 := (hR1.2.2.2.1 r hr.1 hr.2).1.2.2.1
    have sQ := hR1.1.2.2
    have d2' : D1 c.2.2.1 2 = (chL M g o r).2 := d2.trans s2
    obtain ⟨op, hope⟩ : ∃ op, op = (chL M g o r).2 := ⟨_, rfl⟩
    rw [← hope] at hop hcan d2' ⊢
    have fin : ∀ E : AI, WR w E M o (gQ g r op) → (∀ (b : Nat) (z : Int), ¬ inW w b → E b z = D1 b z) → fX19_lock w (ii r) (CW c A J) = fX19_lock_65 w (ii r) c.2.2.1 (CW c1 E J1) →
        ∃ (c' : CC) (D : AI) (J' : JI), fX19_lock w (ii r) (CW c A J) = some (Sum.inl (some (Value.int (ii (if (chL M g o r).1 < 1000000 then 1 else 0)))), CW c' D J') ∧ (exc c c' ∧ c'.2.2.1 ≤ c.2.2.1 + 24 ∧ (c.2.2.2.1 ≤ c'.2.2.2.1 ∧ c'.2.2.2.1 ≤ c.2.2.2.1 + 24) ∧ c.2.2.2.2 ≤ c'.2.2.2.2 ∧ c'.2.2.2.2 ≤ c.2.2.2.2 + 120) ∧
      ((∀ (b : Nat) (z : Int), b < c.2.2.1 → ¬ inW w b → D b z = A b z) ∧ ∀ (b j : Nat), b < c.2.2.1 → J' b j = J b j) ∧ (¬ (chL M g o r).1 < 1000000 → ∀ (b : Nat) (z : Int), b < c.2.2.1 → D b z = A b z) ∧
      ((chL M g o r).1 < 1000000 → WR w D M o (gLock g r o (tk (M 0 9) o (M 2) (stM M g) (chS M g o r)) (M 0 9) op)) := by
      intro E hE fE hx
      have hGq : GR (gQ g r op) := fun r2 a b => RG.q ⟨hr.1, a⟩ (by have := hM.1.2.2.2.1; omega) (hG.1.1 r2 a b)
      have c1q : cel (gQ g r op) r 1 = cel g r 1 := by rw [cel_gQ _ _ _ _ _ ⟨⟨hr.1, hr.1⟩, by omega⟩, if_neg (by omega), if_neg (by omega)]
      have nW : ¬ inW w (c.2.2.1 + 1) := fun z => by unfold inW at z; omega
      obtain ⟨D', e1, e2, e3⟩ := n_fill (J := J1) hW1 hF (by omega) hE hGq hM h4 hO hr (tk (M 0 9) o (M 2) (stM M g) (chS M g o r)) (fun p a b => by rw [fE _ _ nW]; exact hch p a b) lb1 (fun p a b => by rw [c1q]; exact lb2 p a b)
      refine ⟨c1, D', J1, ?_, ⟨ex, room⟩, ⟨fun b z a q => (e3 b z q).trans ((fE b z q).trans (fA b z a)), fJ⟩, fun q => absurd y q, fun _ => e2⟩
      rw [hx, e1, if_pos y]
    by_cases u : op = -1
    · refine fin D1 ?_ (fun _ _ _ => rfl) ?_
      · rw [show gQ g r op = g from if_pos u]; exact hR1
      · have d2'' : D1 c.2.2.1 2 = -1 := d2'.trans u
        rw [fX19_lock, q1, hcl, q_R]
        simp (disch := first | assumption | omega) only [fX19_lock_41, fiI2 hF, fiI3 hF, ↓reduceIte, tr_lt, fa_lt, tr_le, fa_le, tr_eq, fa_eq, and_true, true_and, and_false, false_and, il0, il1, il2, il3, il4, il5, il6, il7, il8, il9, il10, il11, il12, il15, il16, il20, il24, il31, il32, il44, il45, il48, il50, il57, il58, il59, il63, il91, il93, il97, il99, il100, il109, il113, il119, il120, il122, il200, il255, il480, il500, il501, il512, il999, il4112, il41120, il1000000, il1000003, ii_add, ii_sub, ii_mul, ii_neg, ii_le, ii_lt, ii_eq, ii_div, q_I, q_V, q_R, lt_q, rZ_q, md_M, md_16, md_4, md_8, md_10, if_true, if_false, if_pos, if_neg, d3, d2'']
    · by_cases v : cel g r 2 = -1
      · refine fin (up (up (up D1 w 15 (g 0 - 1)) (w + 29) r op) (w + 30) r 0) (hR1.q hG.1.1 h38.2 (by omega) hr op u ?_ ?_ (up_s _ _ _ _) (fun b z p1 p2 p3 => ?_)) (fun b z q => ?_) ?_
        · rw [up_n _ _ _ _ _ _ (by omega), up_n _ _ _ _ _ _ (by omega), up_s, if_pos v]
        · rw [up_n _ _ _ _ _ _ (by omega), up_s]
        · rw [up_n _ _ _ _ _ _ p3, up_n _ _ _ _ _ _ p2, up_n _ _ _ _ _ _ p1]
        · unfold inW at q
          rw [up_n _ _ _ _ _ _ (by omega), up_n _ _ _ _ _ _ (by omega), up_n _ _ _ _ _ _ (by omega)]
        · rw [fX19_lock, q1, hcl, q_R]
          simp (disch := first | assumption | omega) only [fX19_lock_41, fiI2 hF, fiI3 hF, wdR1, wdR2, wdR3, wdR4, wdR5, wdR6, wdR7, wdR8, wdR9, wdR10, wdR11, wdR12, wdR13, wdI14, wdS14, wdI15, wdS15, wdA3, wdU3, wdA4, wdU4, wdA5, wdU5, wdA6, wdU6, wdA7, wdU7, wdA8, wdU8, wdA27, wdU27, wdA28, wdU28, wdA29, wdU29, wdA30, wdU30, wdA31, wdU31, wdB, wdP, wdAB, wdUB, wdAP, wdUP, wdV, drV, drR0, drI1, drS1, k_C, ↓reduceIte, tr_lt, fa_lt, tr_le, fa_le, tr_eq, fa_eq, and_true, true_and, and_false, false_and, il0, il1, il2, il3, il4, il5, il6, il7, il8, il9, il10, il11, il12, il15, il16, il20, il24, il31, il32, il44, il45, il48, il50, il57, il58, il59, il63, il91, il93, il97, il99, il100, il109, il113, il119, il120, il122, il200, il255, il480, il500, il501, il512, il999, il4112, il41120, il1000000, il1000003, ii_add, ii_sub, ii_mul, ii_neg, ii_le, ii_lt, ii_eq, ii_div, q_I, q_V, q_R, lt_q, rZ_q, md_M, md_16, md_4, md_8, md_10, if_true, if_false, if_pos, if_neg, d3, d2', w29, sQ, v, up_n]
      · refine fin (up (up D1 (w + 29) r op) (w + 30) r 0) (hR1.q hG.1.1 h38.2 (by omega) hr op u ?_ ?_ (up_s _ _ _ _) (fun b z p1 p2 p3 => ?_)) (fun b z q => ?_) ?_
        · rw [up_n _ _ _ _ _ _ (by omega), up_n _ _ _ _ _ _ (by omega), if_neg v, sQ]; omega
        · rw [up_n _ _ _ _ _ _ (by omega), up_s]
        · rw [up_n _ _ _ _ _ _ p3, up_n _ _ _ _ _ _ p2]
        · unfold inW at q
          rw [up_n _ _ _ _ _ _ (by omega), up_n _ _ _ _ _ _ (by omega)]
        · rw [fX19_lock, q1, hcl, q_R]
          simp (disch := first | assumption | omega) only [fX19_lock_41, fiI2 hF, fiI3 hF, wdR1, wdR2, wdR3, wdR4, wdR5, wdR6, wdR7, wdR8, wdR9, wdR10, wdR11, wdR12, wdR13, wdI14, wdS14, wdI15, wdS15, wdA3, wdU3, wdA4, wdU4, wdA5, wdU5, wdA6, wdU6, wdA7, wdU7, wdA8, wdU8, wdA27, wdU27, wdA28, wdU28, wdA29, wdU29, wdA30, wdU30, wdA31, wdU31, wdB, wdP, wdAB, wdUB, wdAP, wdUP, wdV, drV, drR0, drI1, drS1, k_C, ↓reduceIte, tr_lt, fa_lt, tr_le, fa_le, tr_eq, fa_eq, and_true, true_and, and_false, false_and, il0, il1, il2, il3, il4, il5, il6, il7, il8, il9, il10, il11, il12, il15, il16, il20, il24, il31, il32, il44, il45, il48, il50, il57, il58, il59, il63, il91, il93, il97, il99, il100, il109, il113, il119, il120, il122, il200, il255, il480, il500, il501, il512, il999, il4112, il41120, il1000000, il1000003, ii_add, ii_sub, ii_mul, ii_neg, ii_le, ii_lt, ii_eq, ii_div, q_I, q_V, q_R, lt_q, rZ_q, md_M, md_16, md_4, md_8, md_10, if_true, if_false, if_pos, if_neg, d3, d2', w29, up_n]
  · have hw0 : ways = 0 := b4.mpr (by omega)
    refine ⟨c1, D1, J1, ?_, ⟨ex, room⟩, ⟨fun b z a _ => fA b z a, fJ⟩, fun _ => fA, fun q => absurd q y⟩
    rw [fX19_lock, q1, hcl, q_R, if_neg y]
    simp (disch := first | assumption | omega) only [fiI3 hF, ↓reduceIte, tr_lt, fa_lt, tr_le, fa_le, tr_eq, fa_eq, and_true, true_and, and_false, false_and, il0, il1, il2, il3, il4, il5, il6, il7, il8, il9, il10, il11, il12, il15, il16, il20, il24, il31, il32, il44, il45, il48, il50, il57, il58, il59, il63, il91, il93, il97, il99, il100, il109, il113, il119, il120, il122, il200, il255, il480, il500, il501, il512, il999, il4112, il41120, il1000000, il1000003, ii_add, ii_sub, ii_mul, ii_neg, ii_le, ii_lt, ii_eq, ii_div, q_I, q_V, q_R, lt_q, rZ_q, md_M, md_16, md_4, md_8, md_10, if_true, if_false, if_pos, if_neg, d3, hw0]
end LC2
