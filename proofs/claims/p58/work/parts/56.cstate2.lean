/-! THE CLASS'S STATES: rows emptied, rows that fall, impressions, days -/
theorem gu_comm (g : Int → Int) (z v z2 v2 : Int) (h : z ≠ z2) : gu (gu g z v) z2 v2 = gu (gu g z2 v2) z v := by
  funext y
  unfold gu
  by_cases q : y = z2
  · rw [if_pos q, if_neg (by omega), if_pos q]
  · rw [if_neg q]
    split
    · rfl
    · rfl
theorem lkN_s (M : AI) (g : Int → Int) (n : Nat) : lkN M g (n + 1) = if 0 < cel (lkN M g n).2 n 0 ∧ M 0 8 < cel (lkN M g n).2 n 4 + 10 * gapM M (lkN M g n).2 n then ((lkN M g n).1 + 2 ^ n, gFall (lkN M g n).2 n) else lkN M g n := rfl
theorem gdN_s (M : AI) (g : Int → Int) (n : Nat) : gdN M g (n + 1) = if gdN M g n = 1 ∧ (cel g n 0 = 0 ∨ gapM M g n = 0 ∧ cel g n 4 < 10) then 1 else 0 := rfl
theorem RG.noq {g : Int → Int} {r r2 : Int} (hr : 0 ≤ r ∧ 0 ≤ r2) (hg : RG g r2) : RG (gNoQ g r) r2 := by
  have en := fun (w : Int) (c : 0 ≤ w) (d : w < 512) => cel_gNoQ g r r2 w ⟨hr, c, d⟩
  obtain ⟨h1, h2, h3, h4, h5, h6, h7⟩ := hg
  unfold RG
  rw [en 0 (by omega) (by omega), if_neg (by omega), if_neg (by omega), en 1 (by omega) (by omega), if_neg (by omega), if_neg (by omega), en 4 (by omega) (by omega), if_neg (by omega), if_neg (by omega), en 2 (by omega) (by omega), en 3 (by omega) (by omega)]
  refine ⟨h1, h2, fun k p q => by rw [en _ (by omega) (by omega), if_neg (by omega), if_neg (by omega)]; exact h3 k p q, fun k p q => by rw [en _ (by omega) (by omega), if_neg (by omega), if_neg (by omega)]; exact h4 k p q, ?_, ?_, h7⟩
  · split <;> (try split) <;> omega
  · split <;> (try split) <;> omega
theorem gNoQ_s4 (g : Int → Int) (r v : Int) (h : 0 ≤ r) : gpu (gNoQ g r) r 4 v = gNoQ (gpu g r 4 v) r := by
  unfold gNoQ
  rw [cel_pu_n _ _ _ _ _ _ (by omega), gpu_lo _ _ _ _ _ (by omega)]
  by_cases q : cel g r 2 = -1
  · rw [if_pos q, if_pos q]
  · rw [if_neg q, if_neg q]
    unfold gpu
    rw [gu_comm _ 0 _ _ _ (by omega), gu_comm _ (16 + 512 * r + 3) _ (16 + 512 * r + 4) _ (by omega), gu_comm _ (16 + 512 * r + 2) _ (16 + 512 * r + 4) _ (by omega)]
theorem QZ.emp {g : Int → Int} {r : Int} (hr : 0 ≤ r) (h : QZ g) : QZ (gEmp g r) := by
  intro r2 a b q
  rw [cel_gEmp _ _ _ _ ⟨⟨hr, a⟩, by omega⟩] at q ⊢
  rw [if_neg (by omega)] at q ⊢
  by_cases e : r2 = r
  · rw [if_neg (by omega)]
    by_cases d : cel g r 2 = -1
    · rw [if_neg (fun z => z.2.2 d), e]; exact h r hr (by omega) d
    · rw [if_pos ⟨e, rfl, d⟩]
  · rw [if_neg (by omega)] at q
    rw [if_neg (by omega), if_neg (by omega)]
    rw [if_neg (by omega)] at q
    exact h r2 a b q
theorem QZ.cong {g h : Int → Int} (e : ∀ r w, 0 ≤ r → r < 8 → (w = 2 ∨ w = 3) → cel h r w = cel g r w) (hz : QZ g) : QZ h := by
  intro r a b q
  rw [e r 3 a b (Or.inr rfl)]
  rw [e r 2 a b (Or.inl rfl)] at q
  exact hz r a b q
theorem QZ.fall {g : Int → Int} {r : Int} (hr : 0 ≤ r) (h : QZ g) : QZ (gFall g r) := by
  refine QZ.emp hr (QZ.cong (g := g) (fun r2 w a b c => ?_) h)
  rw [cel_pu_n _ _ _ _ _ _ (by omega), cel_gu _ _ _ _ _ (by omega), cel_gu _ _ _ _ _ (by omega)]
theorem lkN_QZ {M : AI} {g : Int → Int} (h : QZ g) : ∀ n : Nat, QZ (lkN M g n).2
  | 0 => h
  | n + 1 => by
    unfold lkN
    split
    · exact QZ.fall (by omega) (lkN_QZ h n)
    · exact lkN_QZ h n
theorem cel_lkN {M : AI} {g : Int → Int} (r w : Int) (hw : 0 ≤ w ∧ w < 512) : ∀ n : Nat, (n : Int) ≤ r → cel (lkN M g n).2 r w = cel g r w
  | 0, _ => rfl
  | n + 1, h => by
    unfold lkN
    split
    · dsimp only
      rw [cel_gFall _ _ _ _ ⟨⟨by omega, by omega⟩, hw⟩, if_neg (by omega), if_neg (by omega), if_neg (by omega)]
      exact cel_lkN r w hw n (by omega)
    · exact cel_lkN r w hw n (by omega)
theorem lkN_tail {M : AI} {g : Int → Int} (n : Nat) (hz : ∀ r, (n : Int) ≤ r → r < 8 → cel g r 0 = 0) : ∀ j : Nat, n + j ≤ 8 → lkN M g (n + j) = lkN M g n
  | 0, _ => rfl
  | j + 1, h => by
    have ih := lkN_tail (M := M) n hz j (by omega)
    rw [show n + (j + 1) = (n + j) + 1 by omega, lkN_s, if_neg (fun q => ?_)]
    · exact ih
    · have h1 := q.1
      rw [cel_lkN _ 0 (by omega) (n + j) (by omega), hz _ (by omega) (by omega)] at h1
      omega
theorem lkN_5 (M : AI) (g : Int → Int) : ∀ n : Nat, 0 ≤ (lkN M g n).1 ∧ g 5 ≤ (lkN M g n).2 5 ∧ ((lkN M g n).1 = 0 ↔ (lkN M g n).2 5 = g 5)
  | 0 => by show (0 : Int) ≤ 0 ∧ g 5 ≤ g 5 ∧ ((0 : Int) = 0 ↔ g 5 = g 5); exact ⟨Int.le_refl _, Int.le_refl _, ⟨fun _ => rfl, fun _ => rfl⟩⟩
  | n + 1 => by
    have ih := lkN_5 M g n
    have h2 : (0 : Int) < 2 ^ n := Int.pow_pos (by decide)
    unfold lkN
    split
    · dsimp only
      have e : gFall (lkN M g n).2 n 5 = (lkN M g n).2 5 + 1 := by
        unfold gFall
        rw [lo_gEmp _ _ _ (by omega), if_neg (by omega), if_neg (by omega), gpu_lo _ _ _ _ _ (by omega), gu_s]
      rw [e]
      omega
    · exact ih
theorem lkN_GS {M : AI} {g : Int → Int} {B : Int} (hB : 0 ≤ B) (h : GS g B) : ∀ n : Nat, GS (lkN M g n).2 B
  | 0 => h
  | n + 1 => by
    have ih := lkN_GS (M := M) hB h n
    unfold lkN
    split
    · intro r a b
      dsimp only
      rw [cel_gFall _ _ _ _ ⟨⟨by omega, a⟩, by omega⟩]
      by_cases q : r = n
      · rw [if_pos (by omega)]; exact hB
      · rw [if_neg (by omega), if_neg (by omega), if_neg (by omega)]; exact ih r a b
    · exact ih
theorem gdN_0 (M : AI) (g : Int → Int) (n : Nat) (h : gdN M g n = 0) : ∀ j : Nat, gdN M g (n + j) = 0
  | 0 => h
  | j + 1 => by
    have ih := gdN_0 M g n h j
    rw [show n + (j + 1) = (n + j) + 1 by omega, gdN_s, if_neg (fun q => by have := q.1; omega)]
theorem gdN_tail {M : AI} {g : Int → Int} (n : Nat) (hz : ∀ r, (n : Int) ≤ r → r < 8 → cel g r 0 = 0) : ∀ j : Nat, n + j ≤ 8 → gdN M g (n + j) = gdN M g n
  | 0, _ => rfl
  | j + 1, h => by
    have ih := gdN_tail (M := M) n hz j (by omega)
    have hb := gdN_b M g n
    rw [show n + (j + 1) = (n + j) + 1 by omega, gdN_s, ih]
    by_cases q : gdN M g n = 1
    · rw [if_pos ⟨q, Or.inl (hz _ (by omega) (by omega))⟩, q]
    · rw [if_neg (fun z => q z.1)]; omega
/-- the rows that the chase does not have are clear -/
abbrev ZR (M : AI) (g : Int → Int) : Prop := ∀ r, M 0 3 ≤ r → r < 8 → cel g r 0 = 0 ∧ cel g r 1 = 0 ∧ cel g r 2 = -1 ∧ cel g r 3 = 0 ∧ cel g r 4 = 0
abbrev KB (M : AI) (g : Int → Int) : Prop := ∀ r, 0 ≤ r → r < 8 → ∀ k, 0 ≤ k → k < cel g r 1 → cel g r (11 + k) < M 0 9
section CST2
variable {c : CC} {A : AI} {J : JI} {S Q : Nat} {M : AI} {len g : Int → Int} {f : Int}
theorem s_slack (h : SR A J S len g f) (hg : GR g) (r v : Int) (hr : 0 ≤ r ∧ r < 8) : SR (up A (rc S r) 9 v) J S len (gpu g r 4 v) f := by
  have hrr := h.2 r hr.1 hr.2
  have iR : inR (rc S r) (rc S r) := by unfold inR; omega
  have hne := (rc_in hr iR).1.2
  have ec := fun (r2 w : Int) (a : 0 ≤ r2) (b : 0 ≤ w ∧ w < 512) => cel_pu g r 4 v r2 w ⟨by omega, b⟩
  refine SR_upd h hg r hr ?_ ⟨?_, fun k a b => ?_⟩ (fun b z p q s _ => by rw [up_n _ _ _ _ _ _ (fun e => s (by rw [e.1]; exact iR))]) (fun _ _ _ _ => rfl) (fun r2 w a b p d e => by rw [ec r2 w a ⟨d, e⟩, if_neg (by omega)])
  · refine RR.s234 hrr (hg r hr.1 hr.2) (fun w a b p q s => by rw [ec r w hr.1 ⟨a, b⟩, if_neg (by omega)]) (fun z p q s => by rw [up_n _ _ _ _ _ _ (by omega)]) (fun b z p => ?_) ?_ ?_ ?_
    · rw [up_n _ _ _ _ _ _ (by omega)]
    · rw [ec r 2 hr.1 (by omega), if_neg (by omega), up_n _ _ _ _ _ _ (by omega)]; exact hrr.1.2.2.2.2.1
    · rw [ec r 3 hr.1 (by omega), if_neg (by omega), up_n _ _ _ _ _ _ (by omega)]; exact hrr.1.2.2.2.2.2.1
    · rw [ec r 4 hr.1 (by omega), if_pos (by omega), up_s]
  · rw [gpu_lo _ _ _ _ _ (by omega), gpu_lo _ _ _ _ _ (by omega), gpu_lo _ _ _ _ _ (by omega), gpu_lo _ _ _ _ _ (by omega), gpu_lo _ _ _ _ _ (by omega)]
    simp (disch := first | assumption | omega) only [up_n]
    exact h.1.1
  · rw [gpu_lo _ _ _ _ _ (by omega), up_n _ _ _ _ _ _ (by omega)]; exact h.1.2 k a b
theorem s_empty (hS : isState c S) (h : SR A J S len g f) (hg : GR g) (hz : QZ g) (r : Int) (hr : 0 ≤ r ∧ r < 8) : ∃ A', fX5_empty S (ii r) (CW c A J) = some (Sum.inl none, CW c A' J) ∧ SR A' J S len (gEmp g r) f ∧ frm (inS S) A A' J J := by
  have hR := hS.row r hr
  have hrr := h.2 r hr.1 hr.2
  have hgr := hg r hr.1 hr.2
  have iR : inR (rc S r) (rc S r) := by unfold inR; omega
  have i3 : inR (rc S r) (rc S r + 3) := by unfold inR; omega
  have j2 : inS S (S + 2) := by unfold inS; omega
  have n0 := (rc_in hr iR).1.2
  have n3 := (rc_in hr i3).1.2
  simp (disch := first | assumption | omega) only [fX5_empty, rwI1, rwS1, rwI2, rwS2, rwI4, rwS4, rwI5, rwS5, rwI7, rwS7, rwI8, rwS8, rwI9, rwS9, rwR0, rwR3, rwR6, rwA1, rwU1, rwA3, rwU3, rwV, rwJ, rwUJ, plI0, plS0, plI1, plS1, plI2, plS2, plI3, plS3, plI4, plS4, plI5, plS5, plI6, plS6, plI7, plS7, plR8, plR9, plR10, plA1, plU1, plA2, plU2, plA3, plU3, plV, stI2, stS2, stI3, stS3, stI4, stS4, stI5, stS5, stI6, stS6, stI7, stS7, stR0, stR1, stA2, stU2, stV, stRow, svI5, svS5, svI6, svS6, svI7, svS7, svR0, svR1, svR2, svR3, svR4, svA13, svU13, svA14, svU14, svA15, svU15, svA16, svU16, svV, svRow, svF, svUF, hiI1, hiS1, hiI2, hiS2, hiR0, hiV, hiRow, rdI2, rdS2, rdI3, rdS3, rdI4, rdS4, rdI5, rdS5, rdI6, rdS6, rdI7, rdS7, rdI8, rdS8, rdR0, rdR1, rdA1, rdU1, rdA2, rdU2, rdV, k_C, il0, il1, il2, il3, il4, il5, il6, il7, il8, il9, il10, il11, il12, il15, il16, il20, il24, il31, il32, il44, il45, il48, il50, il57, il58, il59, il63, il91, il93, il97, il99, il100, il109, il113, il119, il120, il122, il200, il255, il480, il500, il501, il512, il999, il4112, il41120, il1000000, il1000003, ii_add, ii_sub, ii_mul, ii_neg, ii_le, ii_lt, ii_eq, ii_div, q_I, q_V, q_R, lt_q, rZ_q, md_M, md_16, md_4, md_8, md_10, if_true, if_false, if_pos, if_neg]
  refine lp (fun n i (s : AI) => fX5_empty_20 n S (rc S r) (ii i) (CW c s J)) (fun x => ∃ A', x = some (Sum.inl none, CW c A' J) ∧ SR A' J S len (gEmp g r) f ∧ frm (inS S) A A' J J)
    (fun i s => (0 ≤ i ∧ ∀ (b : Nat) (z : Int), b ≠ S + 2 → s b z = A b z) ∧ (∀ k, 0 ≤ k → k < i → s (S + 2) k = g (6 + k) + cnt g r k) ∧ ∀ k, i ≤ k → k < 10 → s (S + 2) k = g (6 + k)) 10 ?_ ?_ FU 0 A (by omega) ⟨⟨by omega, fun _ _ _ => rfl⟩, fun k a b => by omega, fun k a b => h.1.2 k a b⟩ (by have := FU_e; omega)
  · rintro n i s hi ⟨⟨hI, k0⟩, k1, k2⟩
    have e1 := k2 i (by omega) hi
    have e2 : s (rc S r + 3) i = cnt g r i := by rw [k0 _ _ n3.2]; exact hrr.2.2.2 i hI hi
    refine Or.inr ⟨up s (S + 2) i (g (6 + i) + cnt g r i), ⟨⟨by omega, fun b z q => by rw [up_n _ _ _ _ _ _ (by omega)]; exact k0 b z q⟩, fun k a b => ?_, fun k a b => by rw [up_n _ _ _ _ _ _ (by omega)]; exact k2 k (by omega) b⟩, ?_⟩
    · by_cases q : k = i
      · rw [q, up_s]
      · rw [up_n _ _ _ _ _ _ (by omega)]; exact k1 k a (by omega)
    · simp (disch := first | assumption | omega) only [fX5_empty_20, rwI1, rwS1, rwI2, rwS2, rwI4, rwS4, rwI5, rwS5, rwI7, rwS7, rwI8, rwS8, rwI9, rwS9, rwR0, rwR3, rwR6, rwA1, rwU1, rwA3, rwU3, rwV, rwJ, rwUJ, plI0, plS0, plI1, plS1, plI2, plS2, plI3, plS3, plI4, plS4, plI5, plS5, plI6, plS6, plI7, plS7, plR8, plR9, plR10, plA1, plU1, plA2, plU2, plA3, plU3, plV, stI2, stS2, stI3, stS3, stI4, stS4, stI5, stS5, stI6, stS6, stI7, stS7, stR0, stR1, stA2, stU2, stV, stRow, svI5, svS5, svI6, svS6, svI7, svS7, svR0, svR1, svR2, svR3, svR4, svA13, svU13, svA14, svU14, svA15, svU15, svA16, svU16, svV, svRow, svF, svUF, hiI1, hiS1, hiI2, hiS2, hiR0, hiV, hiRow, rdI2, rdS2, rdI3, rdS3, rdI4, rdS4, rdI5, rdS5, rdI6, rdS6, rdI7, rdS7, rdI8, rdS8, rdR0, rdR1, rdA1, rdU1, rdA2, rdU2, rdV, k_C, il0, il1, il2, il3, il4, il5, il6, il7, il8, il9, il10, il11, il12, il15, il16, il20, il24, il31, il32, il44, il45, il48, il50, il57, il58, il59, il63, il91, il93, il97, il99, il100, il109, il113, il119, il120, il122, il200, il255, il480, il500, il501, il512, il999, il4112, il41120, il1000000, il1000003, ii_add, ii_sub, ii_mul, ii_neg, ii_le, ii_lt, ii_eq, ii_div, q_I, q_V, q_R, lt_q, rZ_q, md_M, md_16, md_4, md_8, md_10, if_true, if_false, if_pos, if_neg, e1, e2]
  · rintro n s ⟨⟨hI, k0⟩, k1, k2⟩
    obtain ⟨A2, e2, ⟨d1, d2, d3⟩, d4, d5⟩ := c_dropPieces (A := s) (J := J) hR
    have ec := fun (r2 w : Int) (a : 0 ≤ r2) (b : 0 ≤ w ∧ w < 512) => cel_pu (gLeft g r (cel g r 1)) r 1 0 r2 w ⟨by omega, b⟩
    have ecl := fun (r2 w : Int) (a : 0 ≤ r2 ∧ 0 ≤ w) => cel_gLeft g r (cel g r 1) r2 w a
    have s1 : SR A2 J S len (gpu (gLeft g r (cel g r 1)) r 1 0) f := by
      refine SR_upd h hg r hr ?_ ⟨?_, fun k a b => ?_⟩ (fun b z p q s _ => by rw [d5 b z (fun e => s (e ▸ iR)) (fun e => s (e ▸ i3)), k0 b z q]) (fun _ _ _ _ => rfl) (fun r2 w a b p d e => by rw [ec r2 w a ⟨d, e⟩, if_neg (by omega), ecl r2 w ⟨a, d⟩])
      · refine RR.drop hrr hgr _ (fun w a b p q s t => by rw [ec r w hr.1 ⟨a, b⟩, if_neg (by omega), ecl r w ⟨hr.1, a⟩]) (by rw [ec r 1 hr.1 (by omega), if_pos (by omega)]) (fun z p => by rw [d4 z (by omega) (by omega), k0 _ _ n0.2]) (fun z => ?_) d1 d2 d3 ?_ ?_ ?_
        · have hb := (rc_in (S := S) hr (b := rc S r + 1) (by unfold inR; omega)).1.2
          rw [d5 _ _ (by omega) (by omega), k0 _ _ hb.2]
        · rw [d4 7 (by omega) (by omega), k0 _ _ n0.2, ec r 2 hr.1 (by omega), if_neg (by omega), ecl r 2 (by omega)]; exact hrr.1.2.2.2.2.1
        · rw [d4 8 (by omega) (by omega), k0 _ _ n0.2, ec r 3 hr.1 (by omega), if_neg (by omega), ecl r 3 (by omega)]; exact hrr.1.2.2.2.2.2.1
        · rw [d4 9 (by omega) (by omega), k0 _ _ n0.2, ec r 4 hr.1 (by omega), if_neg (by omega), ecl r 4 (by omega)]; exact hrr.1.2.2.2.2.2.2
      · have hlo : ∀ z, z < 6 → gpu (gLeft g r (cel g r 1)) r 1 0 z = g z := fun z q => by rw [gpu_lo _ _ _ _ _ (by omega)]; exact if_neg (by omega)
        rw [hlo 0 (by omega), hlo 1 (by omega), hlo 2 (by omega), hlo 3 (by omega), hlo 4 (by omega)]
        rw [d5 S 2 (by omega) (by omega), d5 S 3 (by omega) (by omega), d5 S 4 (by omega) (by omega), d5 S 5 (by omega) (by omega), d5 S 6 (by omega) (by omega), d5 S 7 (by omega) (by omega), k0 _ _ (by omega), k0 _ _ (by omega), k0 _ _ (by omega), k0 _ _ (by omega), k0 _ _ (by omega), k0 _ _ (by omega)]
        exact h.1.1
      · rw [d5 _ _ (by omega) (by omega), k1 k a b, gpu_lo _ _ _ _ _ (by omega)]
        unfold gLeft
        rw [if_pos (by omega), show 6 + k - 6 = k by omega]
        rfl
    have g1 : GR (gpu (gLeft g r (cel g r 1)) r 1 0) := fun r2 a b => RG.z1 (RG.left a (hg r2 a b))
    have z1 : QZ (gpu (gLeft g r (cel g r 1)) r 1 0) := QZ.cong (fun r2 w a b p => by rw [ec r2 w a (by omega), if_neg (by omega), ecl r2 w (by omega)]) hz
    obtain ⟨A3, e3, s3, f3⟩ := s_removeQuoin hS s1 g1 z1 r hr
    have g3 : GR (gNoQ (gpu (gLeft g r (cel g r 1)) r 1 0) r) := fun r2 a b => RG.noq ⟨hr.1, a⟩ (g1 r2 a b)
    refine ⟨up A3 (rc S r) 9 0, ?_, ?_, ?_⟩
    · simp (disch := first | assumption | omega) only [fX5_empty_20, fX5_empty_47, rwI1, rwS1, rwI2, rwS2, rwI4, rwS4, rwI5, rwS5, rwI7, rwS7, rwI8, rwS8, rwI9, rwS9, rwR0, rwR3, rwR6, rwA1, rwU1, rwA3, rwU3, rwV, rwJ, rwUJ, plI0, plS0, plI1, plS1, plI2, plS2, plI3, plS3, plI4, plS4, plI5, plS5, plI6, plS6, plI7, plS7, plR8, plR9, plR10, plA1, plU1, plA2, plU2, plA3, plU3, plV, stI2, stS2, stI3, stS3, stI4, stS4, stI5, stS5, stI6, stS6, stI7, stS7, stR0, stR1, stA2, stU2, stV, stRow, svI5, svS5, svI6, svS6, svI7, svS7, svR0, svR1, svR2, svR3, svR4, svA13, svU13, svA14, svU14, svA15, svU15, svA16, svU16, svV, svRow, svF, svUF, hiI1, hiS1, hiI2, hiS2, hiR0, hiV, hiRow, rdI2, rdS2, rdI3, rdS3, rdI4, rdS4, rdI5, rdS5, rdI6, rdS6, rdI7, rdS7, rdI8, rdS8, rdR0, rdR1, rdA1, rdU1, rdA2, rdU2, rdV, k_C, il0, il1, il2, il3, il4, il5, il6, il7, il8, il9, il10, il11, il12, il15, il16, il20, il24, il31, il32, il44, il45, il48, il50, il57, il58, il59, il63, il91, il93, il97, il99, il100, il109, il113, il119, il120, il122, il200, il255, il480, il500, il501, il512, il999, il4112, il41120, il1000000, il1000003, ii_add, ii_sub, ii_mul, ii_neg, ii_le, ii_lt, ii_eq, ii_div, q_I, q_V, q_R, lt_q, rZ_q, md_M, md_16, md_4, md_8, md_10, if_true, if_false, if_pos, if_neg, e2, e3]
    · have s4 := s_slack s3 g3 r 0 hr
      rw [gNoQ_s4 _ _ _ hr.1] at s4
      exact s4
    · have f2 : frm (inS S) A A2 J J := ⟨fun b z q => by
        rw [d5 b z (fun e => q (e ▸ (rc_in hr iR).1.1)) (fun e => q (e ▸ (rc_in hr i3).1.1)), k0 b z (fun e => q (e ▸ j2))], fun _ _ _ => rfl⟩
      exact frm_up (f2.trans f3) _ _ _ (rc_in hr iR).1.1
end CST2
