/-! THE CLASS'S STATES: fillings, copies, many impressions -/
theorem gQ_put (g : Int → Int) (r op d : Int) (hr : 0 ≤ r) (hp : 0 ≤ cel g r 1) (hd : 0 ≤ d) (hd2 : d < 10) : gQ (gPut g r d) r op = gPut (gQ g r op) r d := by
  unfold gQ
  by_cases q : op = -1
  · rw [if_pos q, if_pos q]
  · rw [if_neg q, if_neg q]
    have e0 : gPut g r d 0 = g 0 := by
      unfold gPut
      rw [gu_n _ _ _ _ (by omega), gpu_lo _ _ _ _ _ (by omega), gpu_lo _ _ _ _ _ (by omega)]
    have e2 : cel (gPut g r d) r 2 = cel g r 2 := by
      unfold gPut
      rw [cel_gu _ _ _ _ _ (by omega)]
      unfold cel gpu
      rw [gu_n _ _ _ _ (by omega), gu_n _ _ _ _ (by unfold cel at hp; omega)]
    rw [e0, e2]
    generalize hv : g 0 - (if cel g r 2 = -1 then 1 else 0) = v
    have f1 : cel (gpu (gpu (gu g 0 v) r 2 op) r 3 0) r 1 = cel g r 1 := by
      rw [cel_pu_n _ _ _ _ _ _ (by omega), cel_pu_n _ _ _ _ _ _ (by omega), cel_gu _ _ _ _ _ (by omega)]
    have f6 : gpu (gpu (gu g 0 v) r 2 op) r 3 0 (6 + d) = g (6 + d) := by
      rw [gpu_lo _ _ _ _ _ (by omega), gpu_lo _ _ _ _ _ (by omega), gu_n _ _ _ _ (by omega)]
    unfold gPut
    rw [f1, f6]
    funext y
    unfold gpu gu
    by_cases c0 : y = 0
    · rw [if_neg (by omega), if_neg (by omega), if_pos c0, if_neg (by omega), if_neg (by omega), if_neg (by omega), if_neg (by omega), if_neg (by omega), if_pos c0]
    · by_cases c2 : y = 16 + 512 * r + 2
      · rw [if_neg (by omega), if_pos c2, if_neg (by omega), if_neg (by omega), if_neg (by omega), if_neg (by omega), if_pos c2]
      · by_cases c3 : y = 16 + 512 * r + 3
        · rw [if_pos c3, if_neg (by omega), if_neg (by omega), if_neg (by omega), if_pos c3]
        · rw [if_neg c3, if_neg c2, if_neg c0]
          by_cases c6 : y = 6 + d
          · rw [if_pos c6, if_pos c6]
          · rw [if_neg c6, if_neg c6]
            by_cases c1 : y = 16 + 512 * r + 1
            · rw [if_pos c1, if_pos c1]
            · rw [if_neg c1, if_neg c1]
              by_cases c7 : y = 16 + 512 * r + (11 + cel g r 1)
              · rw [if_pos c7, if_pos c7]
              · rw [if_neg c7, if_neg c7, if_neg c3, if_neg c2, if_neg c0]
theorem pcN_1 (g : Int → Int) (r d : Int) (hr : 0 ≤ r) (hg : RG g r) (hd : 0 ≤ d ∧ d < 10) : ∀ n : Nat, cel g r 1 + n ≤ 500 → cel (pcN g r d n) r 1 = cel g r 1 + n ∧ RG (pcN g r d n) r
  | 0, _ => ⟨by show cel g r 1 = _; omega, hg⟩
  | n + 1, h => by
    obtain ⟨h1, h2⟩ := pcN_1 g r d hr hg hd n (by omega)
    have h3 := h2.2.1
    refine ⟨?_, RG.put ⟨hr, hr⟩ (by omega) hd h2⟩
    show cel (gPut (pcN g r d n) r d) r 1 = _
    rw [cel_gPut _ _ _ _ _ ⟨⟨⟨hr, hr⟩, by omega⟩, h3, hd⟩, if_pos ⟨rfl, rfl⟩, h1]
    omega
theorem gQ_pcN (g : Int → Int) (r op d : Int) (hr : 0 ≤ r) (hg : RG g r) (hd : 0 ≤ d ∧ d < 10) : ∀ n : Nat, cel g r 1 + n ≤ 500 → gQ (pcN g r d n) r op = pcN (gQ g r op) r d n
  | 0, _ => rfl
  | n + 1, h => by
    have h1 := (pcN_1 g r d hr hg hd n (by omega)).2.2.1
    show gQ (gPut (pcN g r d n) r d) r op = gPut (pcN (gQ g r op) r d n) r d
    rw [gQ_put _ _ _ _ hr h1.1 hd.1 hd.2, gQ_pcN g r op d hr hg hd n (by omega)]
theorem plN_1 (g : Int → Int) (r : Int) (o c : Int → Int) (hr : 0 ≤ r) (hg : RG g r) : ∀ p : Nat, (∀ q : Int, 0 ≤ q → q < p → (0 ≤ o q ∧ o q < 10) ∧ 0 ≤ c q) → (∀ q : Int, 0 ≤ q → q ≤ p → cel g r 1 + sm c q ≤ 500) → cel (plN g r o c p) r 1 = cel g r 1 + sm c p ∧ RG (plN g r o c p) r
  | 0, _, _ => ⟨by show cel g r 1 = _ + 0; omega, hg⟩
  | p + 1, h, hs => by
    obtain ⟨h1, h2⟩ := plN_1 g r o c hr hg p (fun q a b => h q a (by omega)) (fun q a b => hs q a (by omega))
    have hp := h p (by omega) (by omega)
    have hp1 := hs ((p : Int) + 1) (by omega) (by omega)
    rw [sm_s _ _ (by omega)] at hp1
    have h3 := pcN_1 (plN g r o c p) r (o p) hr h2 hp.1 (c p).toNat (by omega)
    refine ⟨?_, h3.2⟩
    show cel (pcN (plN g r o c p) r (o p) (c p).toNat) r 1 = _
    rw [h3.1, h1, show ((p + 1 : Nat) : Int) = (p : Int) + 1 by omega, sm_s _ _ (by omega)]
    omega
theorem gQ_plN (g : Int → Int) (r op : Int) (o c : Int → Int) (hr : 0 ≤ r) (hg : RG g r) : ∀ p : Nat, (∀ q : Int, 0 ≤ q → q < p → (0 ≤ o q ∧ o q < 10) ∧ 0 ≤ c q) → (∀ q : Int, 0 ≤ q → q ≤ p → cel g r 1 + sm c q ≤ 500) → gQ (plN g r o c p) r op = plN (gQ g r op) r o c p
  | 0, _, _ => rfl
  | p + 1, h, hs => by
    obtain ⟨h1, h2⟩ := plN_1 g r o c hr hg p (fun q a b => h q a (by omega)) (fun q a b => hs q a (by omega))
    have hp := h p (by omega) (by omega)
    have hp1 := hs ((p : Int) + 1) (by omega) (by omega)
    rw [sm_s _ _ (by omega)] at hp1
    show gQ (pcN (plN g r o c p) r (o p) (c p).toNat) r op = pcN (plN (gQ g r op) r o c p) r (o p) (c p).toNat
    rw [gQ_pcN _ r op (o p) hr h2 hp.1 _ (by omega), gQ_plN g r op o c hr hg p (fun q a b => h q a (by omega)) (fun q a b => hs q a (by omega))]
theorem pcN_oth (g : Int → Int) (r d : Int) (hr : 0 ≤ r) (hg : RG g r) (hd : 0 ≤ d ∧ d < 10) (r2 : Int) (h2 : 0 ≤ r2 ∧ r2 ≠ r) (hg2 : RG g r2) : ∀ n : Nat, cel g r 1 + n ≤ 500 → RG (pcN g r d n) r2
  | 0, _ => hg2
  | n + 1, h => by
    have h1 := pcN_1 g r d hr hg hd n (by omega)
    have h3 := h1.2.2.1
    exact RG.put ⟨hr, h2.1⟩ (by omega) hd (pcN_oth g r d hr hg hd r2 h2 hg2 n (by omega))
section CST5
variable {c : CC} {A : AI} {J : JI} {S S2 Q V : Nat} {M : AI} {len g : Int → Int} {f : Int}
theorem s_fill (hS : isState c S) (hQ : isPlan c Q) (hV : isSolver c V) (ha : apQ Q S) (haV : V + 17 ≤ S ∨ S + 35 ≤ V) (h : SR A J S (M 2) g f) (hg : GR g) (hM : SA M) (hP : PR A Q M) (r op : Int) (hr : 0 ≤ r ∧ r < 8) (ho : -1 ≤ op ∧ op ≤ 20) (ch : Int → Int)
    (h7 : A V 7 = op) (h16 : ∀ p, 0 ≤ p → p < M 0 9 → A (V + 16) (A (Q + 3) p) = ch p) (hc : ∀ p, 0 ≤ p → p < M 0 9 → 0 ≤ ch p ∧ ch p ≤ 500) (hrm : ∀ p, 0 ≤ p → p ≤ M 0 9 → cel g r 1 + sm ch p ≤ 500) :
    ∃ A' J', fX5_fill S Q (ii r) V (CW c A J) = some (Sum.inl none, CW c A' J') ∧ SR A' J' S (M 2) (gLock g r (A (Q + 3)) ch (M 0 9) op) f ∧ frm (inS S) A A' J J' := by
  have h9 := hM.1.2.2.2.2.2.2.2
  have hR := hS.row r hr
  have e97 := hP.1.2.2.2.2.2.2.2
  have hQS : ∀ b : Nat, Q ≤ b → b < Q + 4 → ¬ inS S b := fun b p q z => by unfold inS at z; omega
  have hVS : ∀ b : Nat, V ≤ b → b < V + 17 → ¬ inS S b := fun b p q z => by unfold inS at z; omega
  have hO := hP.2.2
  simp (disch := first | assumption | omega) only [fX5_fill, rwI1, rwS1, rwI2, rwS2, rwI4, rwS4, rwI5, rwS5, rwI7, rwS7, rwI8, rwS8, rwI9, rwS9, rwR0, rwR3, rwR6, rwA1, rwU1, rwA3, rwU3, rwV, rwJ, rwUJ, plI0, plS0, plI1, plS1, plI2, plS2, plI3, plS3, plI4, plS4, plI5, plS5, plI6, plS6, plI7, plS7, plR8, plR9, plR10, plA1, plU1, plA2, plU2, plA3, plU3, plV, stI2, stS2, stI3, stS3, stI4, stS4, stI5, stS5, stI6, stS6, stI7, stS7, stR0, stR1, stA2, stU2, stV, stRow, svI5, svS5, svI6, svS6, svI7, svS7, svR0, svR1, svR2, svR3, svR4, svA13, svU13, svA14, svU14, svA15, svU15, svA16, svU16, svV, svRow, svF, svUF, hiI1, hiS1, hiI2, hiS2, hiR0, hiV, hiRow, rdI2, rdS2, rdI3, rdS3, rdI4, rdS4, rdI5, rdS5, rdI6, rdS6, rdI7, rdS7, rdI8, rdS8, rdR0, rdR1, rdA1, rdU1, rdA2, rdU2, rdV, k_C, il0, il1, il2, il3, il4, il5, il6, il7, il8, il9, il10, il11, il12, il15, il16, il20, il24, il31, il32, il44, il45, il48, il50, il57, il58, il59, il63, il91, il93, il97, il99, il100, il109, il113, il119, il120, il122, il200, il255, il480, il500, il501, il512, il999, il4112, il41120, il1000000, il1000003, ii_add, ii_sub, ii_mul, ii_neg, ii_le, ii_lt, ii_eq, ii_div, q_I, q_V, q_R, lt_q, rZ_q, md_M, md_16, md_4, md_8, md_10, if_true, if_false, if_pos, if_neg]
  refine lp (fun n i (t : (AI × JI) × (Int → Int)) => fX5_fill_22 n S Q V (rc S r) (ii i) (CW c t.1.1 t.1.2)) (fun x => ∃ A' J', x = some (Sum.inl none, CW c A' J') ∧ SR A' J' S (M 2) (gLock g r (A (Q + 3)) ch (M 0 9) op) f ∧ frm (inS S) A A' J J')
    (fun i t => (0 ≤ i ∧ t.2 = plN g r (A (Q + 3)) ch i.toNat) ∧ (SR t.1.1 t.1.2 S (M 2) t.2 f ∧ frm (inS S) A t.1.1 J t.1.2) ∧ GR t.2 ∧ cel t.2 r 1 = cel g r 1 + sm ch i) (M 0 9) ?_ ?_ FU 0 ((A, J), g) (by omega) ⟨⟨by omega, rfl⟩, ⟨h, frm.refl _ _ _⟩, hg, by show cel g r 1 = _ + 0; omega⟩ (by have := FU_e; omega)
  · rintro n i ⟨⟨A1, J1⟩, G⟩ hi ⟨⟨hI, hG⟩, ⟨hs, hf⟩, hgG, hn⟩
    dsimp only at hG hs hf hgG hn ⊢
    have hoi := hO.1 i hI hi
    have hci := hc i hI hi
    have hrm1 := hrm (i + 1) (by omega) (by omega)
    rw [sm_s _ _ hI] at hrm1
    have q7 : A1 Q 7 = M 0 9 := by rw [hf.1 _ _ (hQS Q (by omega) (by omega))]; exact e97
    have q3 : A1 (Q + 3) i = A (Q + 3) i := hf.1 _ _ (hQS _ (by omega) (by omega))
    have inner : ∃ A' J' G', fX5_fill_43 (fX5_fill_22 n) FU S Q V (rc S r) (ii i) (ii (A (Q + 3) i)) (ii 0) (CW c A1 J1) = fX5_fill_22 n S Q V (rc S r) (ii (i + 1)) (CW c A' J') ∧ (G' = pcN G r (A (Q + 3) i) (ch i).toNat ∧ SR A' J' S (M 2) G' f ∧ frm (inS S) A A' J J') ∧ GR G' ∧ cel G' r 1 = cel G r 1 + ch i := by
      refine lp (fun m j (t : (AI × JI) × (Int → Int)) => fX5_fill_43 (fX5_fill_22 n) m S Q V (rc S r) (ii i) (ii (A (Q + 3) i)) (ii j) (CW c t.1.1 t.1.2)) (fun x => ∃ A' J' G', x = fX5_fill_22 n S Q V (rc S r) (ii (i + 1)) (CW c A' J') ∧ (G' = pcN G r (A (Q + 3) i) (ch i).toNat ∧ SR A' J' S (M 2) G' f ∧ frm (inS S) A A' J J') ∧ GR G' ∧ cel G' r 1 = cel G r 1 + ch i)
        (fun j t => (0 ≤ j ∧ t.2 = pcN G r (A (Q + 3) i) j.toNat) ∧ (SR t.1.1 t.1.2 S (M 2) t.2 f ∧ frm (inS S) A t.1.1 J t.1.2) ∧ GR t.2 ∧ cel t.2 r 1 = cel G r 1 + j) (ch i) ?_ ?_ FU 0 ((A1, J1), G) (by omega) ⟨⟨by omega, rfl⟩, ⟨hs, hf⟩, hgG, by dsimp only; omega⟩ (by have := FU_e; omega)
      · rintro m j ⟨⟨A2, J2⟩, T⟩ hj ⟨⟨hJ, hT⟩, ⟨hs2, hf2⟩, hgT, hnT⟩
        dsimp only at hT hs2 hf2 hgT hnT ⊢
        have v16 : A2 (V + 16) (A (Q + 3) i) = ch i := by rw [hf2.1 _ _ (hVS _ (by omega) (by omega))]; exact h16 i hI hi
        have ql : A2 (Q + 2) (A (Q + 3) i) = M 2 (A (Q + 3) i) := by rw [hf2.1 _ _ (hQS _ (by omega) (by omega))]; exact (hP.2.1 _ hoi.1 hoi.2).2
        obtain ⟨A3, J3, e3, s3, f3⟩ := s_moveIn (c := c) hS hQ ha hs2 hgT r (A (Q + 3) i) hr (by omega) ql (by omega)
        have hgr := (hgT r hr.1 hr.2).2.1
        refine Or.inr ⟨((A3, J3), gPut T r (A (Q + 3) i)), ⟨⟨by omega, ?_⟩, ⟨s3, hf2.trans f3⟩, fun r2 a b => RG.put ⟨hr.1, a⟩ (by omega) (by omega) (hgT r2 a b), ?_⟩, ?_⟩
        · dsimp only
          rw [show (j + 1).toNat = j.toNat + 1 by omega, hT]; rfl
        · dsimp only
          rw [cel_gPut _ _ _ _ _ (by omega), if_pos (by omega)]; omega
        · simp (disch := first | assumption | omega) only [fX5_fill_43, rwI1, rwS1, rwI2, rwS2, rwI4, rwS4, rwI5, rwS5, rwI7, rwS7, rwI8, rwS8, rwI9, rwS9, rwR0, rwR3, rwR6, rwA1, rwU1, rwA3, rwU3, rwV, rwJ, rwUJ, plI0, plS0, plI1, plS1, plI2, plS2, plI3, plS3, plI4, plS4, plI5, plS5, plI6, plS6, plI7, plS7, plR8, plR9, plR10, plA1, plU1, plA2, plU2, plA3, plU3, plV, stI2, stS2, stI3, stS3, stI4, stS4, stI5, stS5, stI6, stS6, stI7, stS7, stR0, stR1, stA2, stU2, stV, stRow, svI5, svS5, svI6, svS6, svI7, svS7, svR0, svR1, svR2, svR3, svR4, svA13, svU13, svA14, svU14, svA15, svU15, svA16, svU16, svV, svRow, svF, svUF, hiI1, hiS1, hiI2, hiS2, hiR0, hiV, hiRow, rdI2, rdS2, rdI3, rdS3, rdI4, rdS4, rdI5, rdS5, rdI6, rdS6, rdI7, rdS7, rdI8, rdS8, rdR0, rdR1, rdA1, rdU1, rdA2, rdU2, rdV, k_C, il0, il1, il2, il3, il4, il5, il6, il7, il8, il9, il10, il11, il12, il15, il16, il20, il24, il31, il32, il44, il45, il48, il50, il57, il58, il59, il63, il91, il93, il97, il99, il100, il109, il113, il119, il120, il122, il200, il255, il480, il500, il501, il512, il999, il4112, il41120, il1000000, il1000003, ii_add, ii_sub, ii_mul, ii_neg, ii_le, ii_lt, ii_eq, ii_div, q_I, q_V, q_R, lt_q, rZ_q, md_M, md_16, md_4, md_8, md_10, if_true, if_false, if_pos, if_neg, v16, e3]
      · rintro m ⟨⟨A2, J2⟩, T⟩ ⟨⟨hJ, hT⟩, ⟨hs2, hf2⟩, hgT, hnT⟩
        dsimp only at hT hs2 hf2 hgT hnT ⊢
        have v16 : A2 (V + 16) (A (Q + 3) i) = ch i := by rw [hf2.1 _ _ (hVS _ (by omega) (by omega))]; exact h16 i hI hi
        refine ⟨A2, J2, T, ?_, ⟨hT, hs2, hf2⟩, hgT, hnT⟩
        simp (disch := first | assumption | omega) only [fX5_fill_43, fX5_fill_70, rwI1, rwS1, rwI2, rwS2, rwI4, rwS4, rwI5, rwS5, rwI7, rwS7, rwI8, rwS8, rwI9, rwS9, rwR0, rwR3, rwR6, rwA1, rwU1, rwA3, rwU3, rwV, rwJ, rwUJ, plI0, plS0, plI1, plS1, plI2, plS2, plI3, plS3, plI4, plS4, plI5, plS5, plI6, plS6, plI7, plS7, plR8, plR9, plR10, plA1, plU1, plA2, plU2, plA3, plU3, plV, stI2, stS2, stI3, stS3, stI4, stS4, stI5, stS5, stI6, stS6, stI7, stS7, stR0, stR1, stA2, stU2, stV, stRow, svI5, svS5, svI6, svS6, svI7, svS7, svR0, svR1, svR2, svR3, svR4, svA13, svU13, svA14, svU14, svA15, svU15, svA16, svU16, svV, svRow, svF, svUF, hiI1, hiS1, hiI2, hiS2, hiR0, hiV, hiRow, rdI2, rdS2, rdI3, rdS3, rdI4, rdS4, rdI5, rdS5, rdI6, rdS6, rdI7, rdS7, rdI8, rdS8, rdR0, rdR1, rdA1, rdU1, rdA2, rdU2, rdV, k_C, il0, il1, il2, il3, il4, il5, il6, il7, il8, il9, il10, il11, il12, il15, il16, il20, il24, il31, il32, il44, il45, il48, il50, il57, il58, il59, il63, il91, il93, il97, il99, il100, il109, il113, il119, il120, il122, il200, il255, il480, il500, il501, il512, il999, il4112, il41120, il1000000, il1000003, ii_add, ii_sub, ii_mul, ii_neg, ii_le, ii_lt, ii_eq, ii_div, q_I, q_V, q_R, lt_q, rZ_q, md_M, md_16, md_4, md_8, md_10, if_true, if_false, if_pos, if_neg, v16]
    obtain ⟨A', J', G', i1, ⟨i2, i3, i4⟩, i5, i6⟩ := inner
    refine Or.inr ⟨((A', J'), G'), ⟨⟨by omega, ?_⟩, ⟨i3, i4⟩, i5, by dsimp only; rw [sm_s _ _ hI]; omega⟩, ?_⟩
    · dsimp only
      rw [show (i + 1).toNat = i.toNat + 1 by omega, i2, hG]
      show _ = pcN (plN g r (A (Q + 3)) ch i.toNat) r (A (Q + 3) ((i.toNat : Nat) : Int)) (ch ((i.toNat : Nat) : Int)).toNat
      rw [show ((i.toNat : Nat) : Int) = i by omega]
    · dsimp only
      rw [← i1, fX5_fill_22, plI7 hQ, if_neg (show ¬ ii (A1 Q 7) ≤ ii i by rw [q7, ii_le _ _ (by omega)]; omega), plR10 hQ, plA3 hQ _ _ (by omega), q3]
      rfl
  · rintro n ⟨⟨A1, J1⟩, G⟩ ⟨⟨hI, hG⟩, ⟨hs, hf⟩, hgG, hn⟩
    dsimp only at hG hs hf hgG hn ⊢
    have q7 : A1 Q 7 = M 0 9 := by rw [hf.1 _ _ (hQS Q (by omega) (by omega))]; exact e97
    have v7 : A1 V 7 = op := by rw [hf.1 _ _ (hVS V (by omega) (by omega))]; exact h7
    have iR : inR (rc S r) (rc S r) := by unfold inR; omega
    have iS := (rc_in hr iR).1
    rw [fX5_fill_22, plI7 hQ, if_pos (show ii (A1 Q 7) ≤ ii (M 0 9) by rw [q7]; exact Int32.le_refl _)]
    have hcom : gQ G r op = plN (gQ g r op) r (A (Q + 3)) ch (M 0 9).toNat := by
      rw [hG]
      exact gQ_plN g r op (A (Q + 3)) ch hr.1 (hg r hr.1 hr.2) (M 0 9).toNat (fun q a b => by have := hO.1 q a (by omega); exact ⟨by omega, (hc q a (by omega)).1⟩) (fun q a b => hrm q a (by omega))
    unfold gLock
    rw [← hcom]
    by_cases q : op = -1
    · have eq : gQ G r op = G := if_pos q
      rw [eq]
      refine ⟨up A1 (rc S r) 9 0, J1, ?_, s_slack hs hgG r 0 hr, frm_up hf _ _ _ iS.1⟩
      simp (disch := first | assumption | omega) only [fX5_fill_76, fX5_fill_94, rwI1, rwS1, rwI2, rwS2, rwI4, rwS4, rwI5, rwS5, rwI7, rwS7, rwI8, rwS8, rwI9, rwS9, rwR0, rwR3, rwR6, rwA1, rwU1, rwA3, rwU3, rwV, rwJ, rwUJ, plI0, plS0, plI1, plS1, plI2, plS2, plI3, plS3, plI4, plS4, plI5, plS5, plI6, plS6, plI7, plS7, plR8, plR9, plR10, plA1, plU1, plA2, plU2, plA3, plU3, plV, stI2, stS2, stI3, stS3, stI4, stS4, stI5, stS5, stI6, stS6, stI7, stS7, stR0, stR1, stA2, stU2, stV, stRow, svI5, svS5, svI6, svS6, svI7, svS7, svR0, svR1, svR2, svR3, svR4, svA13, svU13, svA14, svU14, svA15, svU15, svA16, svU16, svV, svRow, svF, svUF, hiI1, hiS1, hiI2, hiS2, hiR0, hiV, hiRow, rdI2, rdS2, rdI3, rdS3, rdI4, rdS4, rdI5, rdS5, rdI6, rdS6, rdI7, rdS7, rdI8, rdS8, rdR0, rdR1, rdA1, rdU1, rdA2, rdU2, rdV, k_C, il0, il1, il2, il3, il4, il5, il6, il7, il8, il9, il10, il11, il12, il15, il16, il20, il24, il31, il32, il44, il45, il48, il50, il57, il58, il59, il63, il91, il93, il97, il99, il100, il109, il113, il119, il120, il122, il200, il255, il480, il500, il501, il512, il999, il4112, il41120, il1000000, il1000003, ii_add, ii_sub, ii_mul, ii_neg, ii_le, ii_lt, ii_eq, ii_div, q_I, q_V, q_R, lt_q, rZ_q, md_M, md_16, md_4, md_8, md_10, if_true, if_false, if_pos, if_neg, v7]
    · obtain ⟨A2, e2, s2, f2⟩ := s_setQuoin (c := c) hS hs hgG r op hr (by omega)
      refine ⟨up A2 (rc S r) 9 0, J1, ?_, s_slack s2 (fun r2 a b => RG.q ⟨hr.1, a⟩ ho (hgG r2 a b)) r 0 hr, frm_up (hf.trans f2) _ _ _ iS.1⟩
      simp (disch := first | assumption | omega) only [fX5_fill_76, fX5_fill_94, rwI1, rwS1, rwI2, rwS2, rwI4, rwS4, rwI5, rwS5, rwI7, rwS7, rwI8, rwS8, rwI9, rwS9, rwR0, rwR3, rwR6, rwA1, rwU1, rwA3, rwU3, rwV, rwJ, rwUJ, plI0, plS0, plI1, plS1, plI2, plS2, plI3, plS3, plI4, plS4, plI5, plS5, plI6, plS6, plI7, plS7, plR8, plR9, plR10, plA1, plU1, plA2, plU2, plA3, plU3, plV, stI2, stS2, stI3, stS3, stI4, stS4, stI5, stS5, stI6, stS6, stI7, stS7, stR0, stR1, stA2, stU2, stV, stRow, svI5, svS5, svI6, svS6, svI7, svS7, svR0, svR1, svR2, svR3, svR4, svA13, svU13, svA14, svU14, svA15, svU15, svA16, svU16, svV, svRow, svF, svUF, hiI1, hiS1, hiI2, hiS2, hiR0, hiV, hiRow, rdI2, rdS2, rdI3, rdS3, rdI4, rdS4, rdI5, rdS5, rdI6, rdS6, rdI7, rdS7, rdI8, rdS8, rdR0, rdR1, rdA1, rdU1, rdA2, rdU2, rdV, k_C, il0, il1, il2, il3, il4, il5, il6, il7, il8, il9, il10, il11, il12, il15, il16, il20, il24, il31, il32, il44, il45, il48, il50, il57, il58, il59, il63, il91, il93, il97, il99, il100, il109, il113, il119, il120, il122, il200, il255, il480, il500, il501, il512, il999, il4112, il41120, il1000000, il1000003, ii_add, ii_sub, ii_mul, ii_neg, ii_le, ii_lt, ii_eq, ii_div, q_I, q_V, q_R, lt_q, rZ_q, md_M, md_16, md_4, md_8, md_10, if_true, if_false, if_pos, if_neg, v7, e2]
theorem stCp2 (h2 : isState c S2) (h : isState c S) (k : AS → Option AR) : cpI 100 .int (CW c A J) (S2 + 2) (ii 0) (S + 2) (ii 0) (ii 10) k = k (CW c (cpA A (S2 + 2) (S + 2) 10) J) := k_cp h2.1.2.2 h.1.2.2 10 (by omega) k
theorem s_copy (hS : isState c S) (hS2 : isState c S2) (hd : S + 35 ≤ S2 ∨ S2 + 35 ≤ S) (h : SR A J S2 len g f) (hg : GR g) : ∃ A' J', fX5_copyFrom S S2 (CW c A J) = some (Sum.inl none, CW c A' J') ∧ SR A' J' S len g f ∧ frm (inS S) A A' J J' := by
  have i0 : inS S S := by unfold inS; omega
  have i2 : inS S (S + 2) := by unfold inS; omega
  simp only [fX5_copyFrom, il0]
  refine lp (fun n i (t : AI × JI) => fX5_copyFrom_2 n S S2 (ii i) (CW c t.1 t.2)) (fun x => ∃ A' J', x = some (Sum.inl none, CW c A' J') ∧ SR A' J' S len g f ∧ frm (inS S) A A' J J')
    (fun i t => (0 ≤ i ∧ frm (inS S) A t.1 J t.2) ∧ ∀ r, 0 ≤ r → r < i → RR t.1 t.2 (rc S r) len g r) 8 ?_ ?_ FU 0 (A, J) (by omega) ⟨⟨by omega, frm.refl _ _ _⟩, fun r a b => by omega⟩ (by have := FU_e; omega)
  · rintro n i ⟨A1, J1⟩ hi ⟨⟨hI, hf⟩, hr⟩
    dsimp only at hf hr ⊢
    have hR := hS.row i ⟨hI, hi⟩
    have hR2 := hS2.row i ⟨hI, hi⟩
    have hin : ∀ b, inR (rc S2 i) b → ¬ inS S b := fun b hb z => by
      have := (rc_in ⟨hI, hi⟩ hb).1.1
      unfold inS at this z
      omega
    have hrr : RR A1 J1 (rc S2 i) len g i := RR.frame (h.2 i hI hi) (hg i hI hi) (fun b z hb => hf.1 b z (hin b hb)) (fun b z hb => hf.2 b z (hin b hb)) (fun _ _ _ => rfl)
    obtain ⟨A2, J2, e2, r2, f2⟩ := c_copyRow (c := c) hR hR2 hrr (hg i hI hi) (by unfold rc; omega)
    refine Or.inr ⟨(A2, J2), ⟨⟨by omega, hf.trans (f2.mono fun b hb => (rc_in ⟨hI, hi⟩ hb).1.1)⟩, fun r a b => ?_⟩, ?_⟩
    · by_cases q : r = i
      · rw [q]; exact r2
      · exact RR.frame (hr r a (by omega)) (hg r a (by omega)) (fun b z hb => f2.1 b z (rc_ne ⟨hI, hi⟩ ⟨a, by omega⟩ q hb)) (fun b z hb => f2.2 b z (rc_ne ⟨hI, hi⟩ ⟨a, by omega⟩ q hb)) (fun _ _ _ => rfl)
    · simp (disch := first | assumption | omega) only [fX5_copyFrom_2, rwI1, rwS1, rwI2, rwS2, rwI4, rwS4, rwI5, rwS5, rwI7, rwS7, rwI8, rwS8, rwI9, rwS9, rwR0, rwR3, rwR6, rwA1, rwU1, rwA3, rwU3, rwV, rwJ, rwUJ, plI0, plS0, plI1, plS1, plI2, plS2, plI3, plS3, plI4, plS4, plI5, plS5, plI6, plS6, plI7, plS7, plR8, plR9, plR10, plA1, plU1, plA2, plU2, plA3, plU3, plV, stI2, stS2, stI3, stS3, stI4, stS4, stI5, stS5, stI6, stS6, stI7, stS7, stR0, stR1, stA2, stU2, stV, stRow, svI5, svS5, svI6, svS6, svI7, svS7, svR0, svR1, svR2, svR3, svR4, svA13, svU13, svA14, svU14, svA15, svU15, svA16, svU16, svV, svRow, svF, svUF, hiI1, hiS1, hiI2, hiS2, hiR0, hiV, hiRow, rdI2, rdS2, rdI3, rdS3, rdI4, rdS4, rdI5, rdS5, rdI6, rdS6, rdI7, rdS7, rdI8, rdS8, rdR0, rdR1, rdA1, rdU1, rdA2, rdU2, rdV, k_C, il0, il1, il2, il3, il4, il5, il6, il7, il8, il9, il10, il11, il12, il15, il16, il20, il24, il31, il32, il44, il45, il48, il50, il57, il58, il59, il63, il91, il93, il97, il99, il100, il109, il113, il119, il120, il122, il200, il255, il480, il500, il501, il512, il999, il4112, il41120, il1000000, il1000003, ii_add, ii_sub, ii_mul, ii_neg, ii_le, ii_lt, ii_eq, ii_div, q_I, q_V, q_R, lt_q, rZ_q, md_M, md_16, md_4, md_8, md_10, if_true, if_false, if_pos, if_neg, e2]
  · rintro n ⟨A1, J1⟩ ⟨⟨hI, hf⟩, hr⟩
    dsimp only at hf hr ⊢
    have n2 : ∀ b, inS S2 b → ¬ inS S b := fun b hb z => by unfold inS at hb z; omega
    have s0 : inS S2 S2 := by unfold inS; omega
    have s2 : inS S2 (S2 + 2) := by unfold inS; omega
    obtain ⟨⟨a0, a1, a2, a3, a4, a5⟩, a6⟩ := h.1
    have b2 := hf.1 S2 2 (n2 _ s0)
    have b3 := hf.1 S2 3 (n2 _ s0)
    have b4 := hf.1 S2 4 (n2 _ s0)
    have b5 := hf.1 S2 5 (n2 _ s0)
    have b6 := hf.1 S2 6 (n2 _ s0)
    have b7 := hf.1 S2 7 (n2 _ s0)
    rw [a0] at b2; rw [a1] at b3; rw [a2] at b4; rw [a3] at b5; rw [a4] at b6; rw [a5] at b7
    refine ⟨up (up (up (up (up (up (cpA A1 (S2 + 2) (S + 2) 10) S 2 (g 0)) S 3 (g 1)) S 4 (g 2)) S 5 (g 3)) S 6 (g 4)) S 7 f, J1, ?_, ⟨⟨?_, fun k a b => ?_⟩, fun r a b => ?_⟩, frm_up (frm_up (frm_up (frm_up (frm_up (frm_up (frm_cp hf _ _ _ i2) _ _ _ i0) _ _ _ i0) _ _ _ i0) _ _ _ i0) _ _ _ i0) _ _ _ i0⟩
    · simp (disch := first | assumption | omega) only [fX5_copyFrom_2, fX5_copyFrom_29, rwI1, rwS1, rwI2, rwS2, rwI4, rwS4, rwI5, rwS5, rwI7, rwS7, rwI8, rwS8, rwI9, rwS9, rwR0, rwR3, rwR6, rwA1, rwU1, rwA3, rwU3, rwV, rwJ, rwUJ, plI0, plS0, plI1, plS1, plI2, plS2, plI3, plS3, plI4, plS4, plI5, plS5, plI6, plS6, plI7, plS7, plR8, plR9, plR10, plA1, plU1, plA2, plU2, plA3, plU3, plV, stI2, stS2, stI3, stS3, stI4, stS4, stI5, stS5, stI6, stS6, stI7, stS7, stR0, stR1, stA2, stU2, stV, stRow, svI5, svS5, svI6, svS6, svI7, svS7, svR0, svR1, svR2, svR3, svR4, svA13, svU13, svA14, svU14, svA15, svU15, svA16, svU16, svV, svRow, svF, svUF, hiI1, hiS1, hiI2, hiS2, hiR0, hiV, hiRow, rdI2, rdS2, rdI3, rdS3, rdI4, rdS4, rdI5, rdS5, rdI6, rdS6, rdI7, rdS7, rdI8, rdS8, rdR0, rdR1, rdA1, rdU1, rdA2, rdU2, rdV, k_C, il0, il1, il2, il3, il4, il5, il6, il7, il8, il9, il10, il11, il12, il15, il16, il20, il24, il31, il32, il44, il45, il48, il50, il57, il58, il59, il63, il91, il93, il97, il99, il100, il109, il113, il119, il120, il122, il200, il255, il480, il500, il501, il512, il999, il4112, il41120, il1000000, il1000003, ii_add, ii_sub, ii_mul, ii_neg, ii_le, ii_lt, ii_eq, ii_div, q_I, q_V, q_R, lt_q, rZ_q, md_M, md_16, md_4, md_8, md_10, if_true, if_false, if_pos, if_neg, stCp2, up_n, cpA_n, b2, b3, b4, b5, b6, b7]
    · simp (disch := first | assumption | omega) only [up_s, up_n]
      exact ⟨trivial, trivial, trivial, trivial, trivial, trivial⟩
    · rw [← a6 k a b, ← hf.1 (S2 + 2) k (n2 _ s2)]
      simp (disch := first | assumption | omega) only [up_n, cpA_s]
    · refine RR.frame (hr r a b) (hg r a b) (fun x z hx => ?_) (fun _ _ _ => rfl) (fun _ _ _ => rfl)
      have hx2 := (rc_in ⟨a, b⟩ hx).1.2
      simp (disch := first | assumption | omega) only [up_n, cpA_n]
theorem s_often (hS : isState c S) (hQ : isPlan c Q) (ha : apQ Q S) (h : SR A J S (M 2) g (g 5)) (hM : SA M) (hP : PR A Q M) {B : Int} (hI : GI M g B) (m : Int) (hm : 0 ≤ m ∧ m ≤ 200) (hB : 0 ≤ B ∧ B + 54 * 200 ≤ 500000000) :
    ∃ A', fX5_impressOften S Q (ii m) (CW c A J) = some (Sum.inl (some (Value.int (ii (prN M g m.toNat 2 - g 2)))), CW c A' J) ∧ SR A' J S (M 2) (prN M g m.toNat) (prN M g m.toNat 5) ∧ frm (inS S) A A' J J := by
  have e4 := h.1.1.2.2.1
  simp (disch := first | assumption | omega) only [fX5_impressOften, rwI1, rwS1, rwI2, rwS2, rwI4, rwS4, rwI5, rwS5, rwI7, rwS7, rwI8, rwS8, rwI9, rwS9, rwR0, rwR3, rwR6, rwA1, rwU1, rwA3, rwU3, rwV, rwJ, rwUJ, plI0, plS0, plI1, plS1, plI2, plS2, plI3, plS3, plI4, plS4, plI5, plS5, plI6, plS6, plI7, plS7, plR8, plR9, plR10, plA1, plU1, plA2, plU2, plA3, plU3, plV, stI2, stS2, stI3, stS3, stI4, stS4, stI5, stS5, stI6, stS6, stI7, stS7, stR0, stR1, stA2, stU2, stV, stRow, svI5, svS5, svI6, svS6, svI7, svS7, svR0, svR1, svR2, svR3, svR4, svA13, svU13, svA14, svU14, svA15, svU15, svA16, svU16, svV, svRow, svF, svUF, hiI1, hiS1, hiI2, hiS2, hiR0, hiV, hiRow, rdI2, rdS2, rdI3, rdS3, rdI4, rdS4, rdI5, rdS5, rdI6, rdS6, rdI7, rdS7, rdI8, rdS8, rdR0, rdR1, rdA1, rdU1, rdA2, rdU2, rdV, k_C, il0, il1, il2, il3, il4, il5, il6, il7, il8, il9, il10, il11, il12, il15, il16, il20, il24, il31, il32, il44, il45, il48, il50, il57, il58, il59, il63, il91, il93, il97, il99, il100, il109, il113, il119, il120, il122, il200, il255, il480, il500, il501, il512, il999, il4112, il41120, il1000000, il1000003, ii_add, ii_sub, ii_mul, ii_neg, ii_le, ii_lt, ii_eq, ii_div, q_I, q_V, q_R, lt_q, rZ_q, md_M, md_16, md_4, md_8, md_10, if_true, if_false, if_pos, if_neg, e4]
  refine lp (fun n i (s : AI) => fX5_impressOften_8 n S Q (ii m) (ii (g 2)) (ii i) (CW c s J)) (fun x => ∃ A', x = some (Sum.inl (some (Value.int (ii (prN M g m.toNat 2 - g 2)))), CW c A' J) ∧ SR A' J S (M 2) (prN M g m.toNat) (prN M g m.toNat 5) ∧ frm (inS S) A A' J J)
    (fun i s => (0 ≤ i ∧ SR s J S (M 2) (prN M g i.toNat) (prN M g i.toNat 5)) ∧ frm (inS S) A s J J ∧ GI M (prN M g i.toNat) (B + 54 * i)) m ?_ ?_ FU 0 A (by omega) ⟨⟨by omega, h⟩, frm.refl _ _ _, by rw [show B + 54 * 0 = B by omega]; exact hI⟩ (by have := FU_e; omega)
  · rintro n i s hi ⟨⟨h0, hs⟩, hf, hg⟩
    have hgs : GS (prN M g i.toNat) 500000000 := fun r a b => by have := hg.2.2.2.2 r a b; omega
    obtain ⟨A2, e2, s2, f2⟩ := s_impress (c := c) hS hQ ha hs hg.1 hg.2.1 hgs hM (PR_S hP ha hf) hg.2.2.1
    refine Or.inr ⟨A2, ⟨⟨by omega, by rw [show (i + 1).toNat = i.toNat + 1 by omega]; exact s2⟩, hf.trans f2, ?_⟩, ?_⟩
    · rw [show (i + 1).toNat = i.toNat + 1 by omega, show B + 54 * (i + 1) = B + 54 * i + 54 by omega]
      exact hg.pr hM (by omega)
    · simp (disch := first | assumption | omega) only [fX5_impressOften_8, rwI1, rwS1, rwI2, rwS2, rwI4, rwS4, rwI5, rwS5, rwI7, rwS7, rwI8, rwS8, rwI9, rwS9, rwR0, rwR3, rwR6, rwA1, rwU1, rwA3, rwU3, rwV, rwJ, rwUJ, plI0, plS0, plI1, plS1, plI2, plS2, plI3, plS3, plI4, plS4, plI5, plS5, plI6, plS6, plI7, plS7, plR8, plR9, plR10, plA1, plU1, plA2, plU2, plA3, plU3, plV, stI2, stS2, stI3, stS3, stI4, stS4, stI5, stS5, stI6, stS6, stI7, stS7, stR0, stR1, stA2, stU2, stV, stRow, svI5, svS5, svI6, svS6, svI7, svS7, svR0, svR1, svR2, svR3, svR4, svA13, svU13, svA14, svU14, svA15, svU15, svA16, svU16, svV, svRow, svF, svUF, hiI1, hiS1, hiI2, hiS2, hiR0, hiV, hiRow, rdI2, rdS2, rdI3, rdS3, rdI4, rdS4, rdI5, rdS5, rdI6, rdS6, rdI7, rdS7, rdI8, rdS8, rdR0, rdR1, rdA1, rdU1, rdA2, rdU2, rdV, k_C, il0, il1, il2, il3, il4, il5, il6, il7, il8, il9, il10, il11, il12, il15, il16, il20, il24, il31, il32, il44, il45, il48, il50, il57, il58, il59, il63, il91, il93, il97, il99, il100, il109, il113, il119, il120, il122, il200, il255, il480, il500, il501, il512, il999, il4112, il41120, il1000000, il1000003, ii_add, ii_sub, ii_mul, ii_neg, ii_le, ii_lt, ii_eq, ii_div, q_I, q_V, q_R, lt_q, rZ_q, md_M, md_16, md_4, md_8, md_10, if_true, if_false, if_pos, if_neg, e2]
  · rintro n s ⟨⟨h0, hs⟩, hf, hg⟩
    have e4' := hs.1.1.2.2.1
    refine ⟨s, ?_, hs, hf⟩
    simp (disch := first | assumption | omega) only [fX5_impressOften_8, rwI1, rwS1, rwI2, rwS2, rwI4, rwS4, rwI5, rwS5, rwI7, rwS7, rwI8, rwS8, rwI9, rwS9, rwR0, rwR3, rwR6, rwA1, rwU1, rwA3, rwU3, rwV, rwJ, rwUJ, plI0, plS0, plI1, plS1, plI2, plS2, plI3, plS3, plI4, plS4, plI5, plS5, plI6, plS6, plI7, plS7, plR8, plR9, plR10, plA1, plU1, plA2, plU2, plA3, plU3, plV, stI2, stS2, stI3, stS3, stI4, stS4, stI5, stS5, stI6, stS6, stI7, stS7, stR0, stR1, stA2, stU2, stV, stRow, svI5, svS5, svI6, svS6, svI7, svS7, svR0, svR1, svR2, svR3, svR4, svA13, svU13, svA14, svU14, svA15, svU15, svA16, svU16, svV, svRow, svF, svUF, hiI1, hiS1, hiI2, hiS2, hiR0, hiV, hiRow, rdI2, rdS2, rdI3, rdS3, rdI4, rdS4, rdI5, rdS5, rdI6, rdS6, rdI7, rdS7, rdI8, rdS8, rdR0, rdR1, rdA1, rdU1, rdA2, rdU2, rdV, k_C, il0, il1, il2, il3, il4, il5, il6, il7, il8, il9, il10, il11, il12, il15, il16, il20, il24, il31, il32, il44, il45, il48, il50, il57, il58, il59, il63, il91, il93, il97, il99, il100, il109, il113, il119, il120, il122, il200, il255, il480, il500, il501, il512, il999, il4112, il41120, il1000000, il1000003, ii_add, ii_sub, ii_mul, ii_neg, ii_le, ii_lt, ii_eq, ii_div, q_I, q_V, q_R, lt_q, rZ_q, md_M, md_16, md_4, md_8, md_10, if_true, if_false, if_pos, if_neg, e4']
end CST5
