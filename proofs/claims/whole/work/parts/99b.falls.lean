/-! A CALL THAT LETS TIME PASS AS IF: fallsIn -/
section FAL
variable {K : Nat × Nat} {c : CC} {A : AI} {J : JI} {M : AI} {g h : Int → Int} {r B : Int} {pl sp tv cap : Nat}
abbrev isF (P : Int → Prop) (v : Int) : Prop := (v = -1 ∧ ∀ i, 1 ≤ i → i ≤ 200 → ¬ P i) ∨ ((1 ≤ v ∧ v ≤ 200) ∧ P v ∧ ∀ i, 1 ≤ i → i < v → ¬ P i)
theorem isF_u {P : Int → Prop} {v w : Int} (h1 : isF P v) (h2 : isF P w) : v = w := by
  rcases h1 with ⟨a, b⟩ | ⟨a, b, d⟩
  · rcases h2 with ⟨e, f⟩ | ⟨e, f, k⟩
    · rw [a, e]
    · exact absurd f (b w e.1 e.2)
  · rcases h2 with ⟨e, f⟩ | ⟨e, f, k⟩
    · exact absurd b (f v a.1 a.2)
    · by_cases q : v < w
      · exact absurd b (k v a.1 q)
      · by_cases q2 : w < v
        · exact absurd f (d w e.1 q2)
        · omega
theorem bit_add (s : Int) (n : Nat) (r : Int) (hr : 0 ≤ r ∧ r < n) (hs : 0 ≤ s) : (s + 2 ^ n) / 2 ^ r.toNat % 2 = s / 2 ^ r.toNat % 2 := by
  have e : (2 : Int) ^ n = 2 ^ r.toNat * (2 * 2 ^ (n - r.toNat - 1)) := by
    rw [← Int.mul_assoc, ← Int.pow_succ, ← Int.pow_add]
    congr 1
    omega
  have hp : (0 : Int) < 2 ^ r.toNat := Int.pow_pos (by omega)
  rw [e, Int.add_mul_ediv_left _ _ (by omega)]
  omega
theorem bit_top (s : Int) (n : Nat) (hs : 0 ≤ s ∧ s < 2 ^ n) : s / 2 ^ n = 0 ∧ (s + 2 ^ n) / 2 ^ n = 1 := by
  have hp : (0 : Int) < 2 ^ n := Int.pow_pos (by omega)
  refine ⟨Int.ediv_eq_zero_of_lt hs.1 hs.2, ?_⟩
  have e : (s + 2 ^ n * 1) / 2 ^ n = s / 2 ^ n + 1 := Int.add_mul_ediv_left s 1 (by omega)
  rw [Int.mul_one, Int.ediv_eq_zero_of_lt hs.1 hs.2] at e
  exact e
abbrev flP (M : AI) (g : Int → Int) (r : Int) : Prop := 0 < cel g r 0 ∧ M 0 8 < cel g r 4 + 10 * gapM M g r
theorem lk_bit (hg : GR g) (r : Int) (hr : 0 ≤ r) : ∀ n : Nat, n ≤ 8 → r < n → ((lkN M g n).1 / 2 ^ r.toNat % 2 = if flP M g r then 1 else 0) ∧ (¬ flP M g r → ∀ w, 0 ≤ w → w < 512 → cel (lkN M g n).2 r w = cel g r w)
  | 0, _, h => by omega
  | n + 1, h8, h => by
    have hb := lkN_b M g n
    rw [lkN_s]
    by_cases q : r = n
    · have hc : ∀ w, 0 ≤ w → w < 512 → cel (lkN M g n).2 r w = cel g r w := fun w a b => cel_lkN r w ⟨a, b⟩ n (by omega)
      have hgp : gapM M (lkN M g n).2 r = gapM M g r := gapM_cong (hg r hr (by omega)) (fun w a b _ => hc w a b)
      have ht := bit_top (lkN M g n).1 n hb
      have er : r.toNat = n := by omega
      rw [← q, hc 0 (by omega) (by omega), hc 4 (by omega) (by omega), hgp]
      by_cases y : flP M g r
      · rw [if_pos y, if_pos y]
        refine ⟨?_, fun z => absurd y z⟩
        dsimp only
        rw [er]
        omega
      · rw [if_neg y, if_neg y]
        refine ⟨?_, fun _ => hc⟩
        rw [er]
        omega
    · obtain ⟨i1, i2⟩ := lk_bit hg r hr n (by omega) (by omega)
      by_cases y : 0 < cel (lkN M g n).2 n 0 ∧ M 0 8 < cel (lkN M g n).2 n 4 + 10 * gapM M (lkN M g n).2 n
      · rw [if_pos y]
        refine ⟨?_, fun z w a b => ?_⟩
        · dsimp only
          rw [bit_add _ _ _ (by omega) hb.1]
          exact i1
        · dsimp only
          rw [cel_gFall _ _ _ _ (by omega), if_neg (by omega), if_neg (by omega), if_neg (by omega)]
          exact i2 z w a b
      · rw [if_neg y]
        exact ⟨i1, i2⟩
/-- how much looser the row grows in a turn -/
def grw (m : Int) (M : AI) (g : Int → Int) (r : Int) : Int := if m = 0 then M 0 6 * cel g r 0 else M 0 7 * suW (M 1) g r
noncomputable def stG (m : Int) (M : AI) (g : Int → Int) : Int × (Int → Int) := if m = 0 then gPr M g else gDa M g
theorem row_step (m : Int) (hM : SA M) (hG : GC M g B) (hB : 0 ≤ B ∧ B ≤ 500000000) (hr : 0 ≤ r ∧ r < M 0 3) :
    (0 ≤ (stG m M g).1 ∧ (stG m M g).1 < 256) ∧ ((stG m M g).1 / 2 ^ r.toNat % 2 = if 0 < cel g r 0 ∧ M 0 8 < cel g r 4 + grw m M g r + 10 * gapM M g r then 1 else 0) ∧
    (¬ (0 < cel g r 0 ∧ M 0 8 < cel g r 4 + grw m M g r + 10 * gapM M g r) → ∀ w, 0 ≤ w → w < 512 → cel (stG m M g).2 r w = if w = 4 then cel g r 4 + grw m M g r else cel g r w) := by
  have h3 := hM.1.2.1
  have hs : GS g 500000000 := fun r a b => by have := hG.1.2.2.2.2 r a b; omega
  have hpow : ∀ n : Nat, n ≤ 8 → (2 : Int) ^ n ≤ 256 := by decide
  have h8 := hpow (M 0 3).toNat (by omega)
  have hgr := hG.1.1 r hr.1 (by omega)
  unfold stG grw
  by_cases hm : m = 0
  · rw [if_pos hm, if_pos hm]
    have hgs := GR.sh hM hG.1.1 hs (M 0 3).toNat
    have hc : ∀ w, 0 ≤ w → w < 512 → cel (shN M g (M 0 3).toNat) r w = if w = 4 then cel g r 4 + M 0 6 * cel g r 0 else cel g r w := fun w a b => by
      rw [cel_shN M g r w hr.1 ⟨a, b⟩]
      by_cases q : w = 4
      · rw [if_pos ⟨q, by omega⟩, if_pos q]
      · rw [if_neg (fun x => q x.1), if_neg q]
    have hgp : gapM M (shN M g (M 0 3).toNat) r = gapM M g r := gapM_cong hgr (fun w a b d => by rw [hc w a b, if_neg d])
    have hb := lkN_b M (shN M g (M 0 3).toNat) (M 0 3).toNat
    obtain ⟨k1, k2⟩ := lk_bit (M := M) hgs r hr.1 (M 0 3).toNat (by omega) (by omega)
    have hfl : flP M (shN M g (M 0 3).toNat) r ↔ (0 < cel g r 0 ∧ M 0 8 < cel g r 4 + M 0 6 * cel g r 0 + 10 * gapM M g r) := by
      unfold flP
      rw [hc 0 (by omega) (by omega), hc 4 (by omega) (by omega), hgp, if_neg (by omega), if_pos rfl]
    refine ⟨⟨hb.1, by show (lkN M (shN M g (M 0 3).toNat) (M 0 3).toNat).1 < 256; omega⟩, ?_, fun z w a b => ?_⟩
    · show (lkN M (shN M g (M 0 3).toNat) (M 0 3).toNat).1 / 2 ^ r.toNat % 2 = _
      rw [k1]
      by_cases y : flP M (shN M g (M 0 3).toNat) r
      · rw [if_pos y, if_pos (hfl.mp y)]
      · rw [if_neg y, if_neg (fun x => y (hfl.mpr x))]
    · unfold gPr
      dsimp only
      rw [cel_gu _ _ _ _ _ (by omega), cel_gu _ _ _ _ _ (by omega), k2 (fun x => z (hfl.mp x)) w a b]
      exact hc w a b
  · rw [if_neg hm, if_neg hm]
    have hgs : GR (gu (daN M g (M 0 3).toNat) 3 (g 3 + 1)) := fun r a b => (GR.da hM hG.1.1 hs _ r a b).gu a (by omega)
    have hc : ∀ w, 0 ≤ w → w < 512 → cel (gu (daN M g (M 0 3).toNat) 3 (g 3 + 1)) r w = if w = 4 then cel g r 4 + M 0 7 * suW (M 1) g r else cel g r w := fun w a b => by
      rw [cel_gu _ _ _ _ _ (by omega), cel_daN M hG.1.1 r w ⟨hr.1, by omega⟩ ⟨a, b⟩]
      by_cases q : w = 4
      · rw [if_pos ⟨q, by omega⟩, if_pos q]
      · rw [if_neg (fun x => q x.1), if_neg q]
    have hgp : gapM M (gu (daN M g (M 0 3).toNat) 3 (g 3 + 1)) r = gapM M g r := gapM_cong hgr (fun w a b d => by rw [hc w a b, if_neg d])
    have hb := lkN_b M (gu (daN M g (M 0 3).toNat) 3 (g 3 + 1)) (M 0 3).toNat
    obtain ⟨k1, k2⟩ := lk_bit (M := M) hgs r hr.1 (M 0 3).toNat (by omega) (by omega)
    have hfl : flP M (gu (daN M g (M 0 3).toNat) 3 (g 3 + 1)) r ↔ (0 < cel g r 0 ∧ M 0 8 < cel g r 4 + M 0 7 * suW (M 1) g r + 10 * gapM M g r) := by
      unfold flP
      rw [hc 0 (by omega) (by omega), hc 4 (by omega) (by omega), hgp, if_neg (by omega), if_pos rfl]
    refine ⟨⟨hb.1, by show (lkN M (gu (daN M g (M 0 3).toNat) 3 (g 3 + 1)) (M 0 3).toNat).1 < 256; omega⟩, ?_, fun z w a b => ?_⟩
    · show (lkN M (gu (daN M g (M 0 3).toNat) 3 (g 3 + 1)) (M 0 3).toNat).1 / 2 ^ r.toNat % 2 = _
      rw [k1]
      by_cases y : flP M (gu (daN M g (M 0 3).toNat) 3 (g 3 + 1)) r
      · rw [if_pos y, if_pos (hfl.mp y)]
      · rw [if_neg y, if_neg (fun x => y (hfl.mpr x))]
    · show cel (lkN M (gu (daN M g (M 0 3).toNat) 3 (g 3 + 1)) (M 0 3).toNat).2 r w = _
      rw [k2 (fun x => z (hfl.mp x)) w a b]
      exact hc w a b
theorem stG_GC (m : Int) (hM : SA M) (hG : GC M g B) (hB : 0 ≤ B ∧ B ≤ 500000000) : GC M (stG m M g).2 (B + 4500) := by
  unfold stG
  by_cases hm : m = 0
  · rw [if_pos hm]; exact (hG.pr hM hB).mono (by omega)
  · rw [if_neg hm]; exact hG.da hM hB
theorem grw_b (m : Int) (hM : SA M) (hg : RG g r) : 0 ≤ grw m M g r ∧ grw m M g r ≤ 4500 := by
  obtain ⟨-, -, -, -, h6, h7, -⟩ := hM.1
  unfold grw
  by_cases hm : m = 0
  · rw [if_pos hm]
    have := mul_b (a := M 0 6) (b := cel g r 0) (m := 9) (n := 6) ⟨h6, hg.1⟩
    omega
  · rw [if_neg hm]
    have hw := suW_b (met := M 1) hg
    have := hg.2.1
    have := mul_b (a := M 0 7) (b := suW (M 1) g r) (m := 9) (n := 500) ⟨h7, by omega⟩
    omega
theorem grw_cg (m : Int) (hg : RG g r) (e : ∀ w, 0 ≤ w → w < 512 → w ≠ 4 → cel h r w = cel g r w) : grw m M h r = grw m M g r := by
  have h1 := hg.2.1
  unfold grw
  rw [e 0 (by omega) (by omega) (by omega), suW_cong (e 1 (by omega) (by omega) (by omega)) (fun k a b => e (11 + k) (by omega) (by omega) (by omega))]
abbrev flT (m : Int) (M : AI) (g : Int → Int) (r : Int) : Int → Prop := fun i => 0 < cel g r 0 ∧ M 0 8 < cel g r 4 + 10 * gapM M g r + i * grw m M g r
theorem c_fallLoop (hk : isLock c pl sp tv cap) (hPl : isPlan c pl) (p6 : A pl 6 = M 0 8) (hM : SA M) (Lo gr : Int) (hLo : -700000 ≤ Lo ∧ Lo ≤ 700000000) (hgr : 0 ≤ gr ∧ gr ≤ 4500) :
    ∃ v, fX6_fallsIn_53 FU 0 (ii gr) (ii Lo) (ii 1) (CW c A J) = some (Sum.inl (some (Value.int (ii (v)))), CW c A J) ∧ isF (fun i => M 0 8 < Lo + i * gr) v := by
  have h8 := hM.1.2.2.2.2.2.2.1
  refine lp (fun n i (s : Int) => fX6_fallsIn_53 n 0 (ii gr) (ii s) (ii i) (CW c A J)) (fun x => ∃ v, x = some (Sum.inl (some (Value.int (ii (v)))), CW c A J) ∧ isF (fun i => M 0 8 < Lo + i * gr) v)
    (fun i s => (1 ≤ i ∧ s = Lo + (i - 1) * gr) ∧ ∀ j, 1 ≤ j → j < i → ¬ M 0 8 < Lo + j * gr) 201 ?_ ?_ FU 1 Lo (by omega) ⟨⟨by omega, by omega⟩, fun j a b => by omega⟩ (by have := FU_e; omega)
  · rintro n i s hi ⟨⟨hI, hs⟩, hj⟩
    have e : s + gr = Lo + i * gr := by rw [hs, Int.sub_mul]; omega
    have hb := mul_b (a := i) (b := gr) (m := 200) (n := 4500) ⟨⟨by omega, by omega⟩, hgr⟩
    by_cases y : M 0 8 < Lo + i * gr
    · refine Or.inl ⟨i, ?_, Or.inr ⟨⟨hI, by omega⟩, y, fun j a b => hj j a b⟩⟩
      simp (disch := first | assumption | omega) only [fX6_fallsIn_53, lkV hk, lkR0 hk, lkR1 hk, lkR2 hk, lkR3 hk, lkR4 hk, lkR5 hk, lkR6 hk, lkR7 hk, lkR8 hk, lkR9 hk, lkI hk, k_E, t_E, rwI1, rwS1, rwI2, rwS2, rwI4, rwS4, rwI5, rwS5, rwI7, rwS7, rwI8, rwS8, rwI9, rwS9, rwR0, rwR3, rwR6, rwA1, rwU1, rwA3, rwU3, rwV, rwJ, rwUJ, plI0, plS0, plI1, plS1, plI2, plS2, plI3, plS3, plI4, plS4, plI5, plS5, plI6, plS6, plI7, plS7, plR8, plR9, plR10, plA1, plU1, plA2, plU2, plA3, plU3, plV, stI2, stS2, stI3, stS3, stI4, stS4, stI5, stS5, stI6, stS6, stI7, stS7, stR0, stR1, stA2, stU2, stV, stRow, svI5, svS5, svI6, svS6, svI7, svS7, svR0, svR1, svR2, svR3, svR4, svA13, svU13, svA14, svU14, svA15, svU15, svA16, svU16, svV, svRow, svF, svUF, hiI1, hiS1, hiI2, hiS2, hiR0, hiV, hiRow, rdI2, rdS2, rdI3, rdS3, rdI4, rdS4, rdI5, rdS5, rdI6, rdS6, rdI7, rdS7, rdI8, rdS8, rdR0, rdR1, rdA1, rdU1, rdA2, rdU2, rdV, k_C, ↓reduceIte, tr_lt, fa_lt, tr_le, fa_le, tr_eq, fa_eq, and_true, true_and, and_false, false_and, il0, il1, il2, il3, il4, il5, il6, il7, il8, il9, il10, il11, il12, il15, il16, il20, il24, il31, il32, il44, il45, il48, il50, il57, il58, il59, il63, il91, il93, il97, il99, il100, il109, il113, il119, il120, il122, il200, il255, il480, il500, il501, il512, il999, il4112, il41120, il1000000, il1000003, ii_add, ii_sub, ii_mul, ii_neg, ii_le, ii_lt, ii_eq, ii_div, q_I, q_V, q_R, lt_q, rZ_q, md_M, md_16, md_4, md_8, md_10, if_true, if_false, if_pos, if_neg, p6, e]
    · refine Or.inr ⟨Lo + i * gr, ⟨⟨by omega, by rw [show i + 1 - 1 = i by omega]⟩, fun j a b => ?_⟩, ?_⟩
      · by_cases q : j = i
        · rw [q]; exact y
        · exact hj j a (by omega)
      · simp (disch := first | assumption | omega) only [fX6_fallsIn_53, lkV hk, lkR0 hk, lkR1 hk, lkR2 hk, lkR3 hk, lkR4 hk, lkR5 hk, lkR6 hk, lkR7 hk, lkR8 hk, lkR9 hk, lkI hk, k_E, t_E, rwI1, rwS1, rwI2, rwS2, rwI4, rwS4, rwI5, rwS5, rwI7, rwS7, rwI8, rwS8, rwI9, rwS9, rwR0, rwR3, rwR6, rwA1, rwU1, rwA3, rwU3, rwV, rwJ, rwUJ, plI0, plS0, plI1, plS1, plI2, plS2, plI3, plS3, plI4, plS4, plI5, plS5, plI6, plS6, plI7, plS7, plR8, plR9, plR10, plA1, plU1, plA2, plU2, plA3, plU3, plV, stI2, stS2, stI3, stS3, stI4, stS4, stI5, stS5, stI6, stS6, stI7, stS7, stR0, stR1, stA2, stU2, stV, stRow, svI5, svS5, svI6, svS6, svI7, svS7, svR0, svR1, svR2, svR3, svR4, svA13, svU13, svA14, svU14, svA15, svU15, svA16, svU16, svV, svRow, svF, svUF, hiI1, hiS1, hiI2, hiS2, hiR0, hiV, hiRow, rdI2, rdS2, rdI3, rdS3, rdI4, rdS4, rdI5, rdS5, rdI6, rdS6, rdI7, rdS7, rdI8, rdS8, rdR0, rdR1, rdA1, rdU1, rdA2, rdU2, rdV, k_C, ↓reduceIte, tr_lt, fa_lt, tr_le, fa_le, tr_eq, fa_eq, and_true, true_and, and_false, false_and, il0, il1, il2, il3, il4, il5, il6, il7, il8, il9, il10, il11, il12, il15, il16, il20, il24, il31, il32, il44, il45, il48, il50, il57, il58, il59, il63, il91, il93, il97, il99, il100, il109, il113, il119, il120, il122, il200, il255, il480, il500, il501, il512, il999, il4112, il41120, il1000000, il1000003, ii_add, ii_sub, ii_mul, ii_neg, ii_le, ii_lt, ii_eq, ii_div, q_I, q_V, q_R, lt_q, rZ_q, md_M, md_16, md_4, md_8, md_10, if_true, if_false, if_pos, if_neg, p6, e]
  · rintro n s ⟨⟨hI, hs⟩, hj⟩
    refine ⟨-1, ?_, Or.inl ⟨rfl, fun j a b => hj j a (by omega)⟩⟩
    simp (disch := first | assumption | omega) only [fX6_fallsIn_53, lkV hk, lkR0 hk, lkR1 hk, lkR2 hk, lkR3 hk, lkR4 hk, lkR5 hk, lkR6 hk, lkR7 hk, lkR8 hk, lkR9 hk, lkI hk, k_E, t_E, rwI1, rwS1, rwI2, rwS2, rwI4, rwS4, rwI5, rwS5, rwI7, rwS7, rwI8, rwS8, rwI9, rwS9, rwR0, rwR3, rwR6, rwA1, rwU1, rwA3, rwU3, rwV, rwJ, rwUJ, plI0, plS0, plI1, plS1, plI2, plS2, plI3, plS3, plI4, plS4, plI5, plS5, plI6, plS6, plI7, plS7, plR8, plR9, plR10, plA1, plU1, plA2, plU2, plA3, plU3, plV, stI2, stS2, stI3, stS3, stI4, stS4, stI5, stS5, stI6, stS6, stI7, stS7, stR0, stR1, stA2, stU2, stV, stRow, svI5, svS5, svI6, svS6, svI7, svS7, svR0, svR1, svR2, svR3, svR4, svA13, svU13, svA14, svU14, svA15, svU15, svA16, svU16, svV, svRow, svF, svUF, hiI1, hiS1, hiI2, hiS2, hiR0, hiV, hiRow, rdI2, rdS2, rdI3, rdS3, rdI4, rdS4, rdI5, rdS5, rdI6, rdS6, rdI7, rdS7, rdI8, rdS8, rdR0, rdR1, rdA1, rdU1, rdA2, rdU2, rdV, k_C, ↓reduceIte, tr_lt, fa_lt, tr_le, fa_le, tr_eq, fa_eq, and_true, true_and, and_false, false_and, il0, il1, il2, il3, il4, il5, il6, il7, il8, il9, il10, il11, il12, il15, il16, il20, il24, il31, il32, il44, il45, il48, il50, il57, il58, il59, il63, il91, il93, il97, il99, il100, il109, il113, il119, il120, il122, il200, il255, il480, il500, il501, il512, il999, il4112, il41120, il1000000, il1000003, ii_add, ii_sub, ii_mul, ii_neg, ii_le, ii_lt, ii_eq, ii_div, q_I, q_V, q_R, lt_q, rZ_q, md_M, md_16, md_4, md_8, md_10, if_true, if_false, if_pos, if_neg, p6]
theorem m_fallLoop (m : Int) (hm : m = 0 ∨ m = 1) (hM : SA M) (hG : GC M g B) (X : Int → Int) (hB : 0 ≤ B ∧ B + 4500 * 200 ≤ 500000000) (hr : 0 ≤ r ∧ r < M 0 3) (hX : ∀ z, 0 ≤ z → z < 4112 → X z = g z) :
    ∃ (v : Int) (h : Int → Int), fX7_fallsIn_16 FU 0 (ii r) (ii m) (ii 1) (NW K (mg (cA4 M X) g)) = some (Sum.inl (some (Value.int (ii (v)))), NW K (mg (cA4 M X) h)) ∧ isF (flT m M g r) v ∧ ∀ z, 0 ≤ z → z < 4112 → h z = g z := by
  have h3 := hM.1.2.1
  have hgr := hG.1.1 r hr.1 (by omega)
  refine lp (fun n i (s : Int → Int) => fX7_fallsIn_16 n 0 (ii r) (ii m) (ii i) (NW K (mg (cA4 M X) s))) (fun x => ∃ (v : Int) (h : Int → Int), x = some (Sum.inl (some (Value.int (ii (v)))), NW K (mg (cA4 M X) h)) ∧ isF (flT m M g r) v ∧ ∀ z, 0 ≤ z → z < 4112 → h z = g z)
    (fun i s => 1 ≤ i ∧ GC M s (B + 4500 * (i - 1)) ∧ (∀ w, 0 ≤ w → w < 512 → cel s r w = if w = 4 then cel g r 4 + (i - 1) * grw m M g r else cel g r w) ∧ ∀ j, 1 ≤ j → j < i → ¬ flT m M g r j) 201 ?_ ?_ FU 1 g (by omega) ⟨by omega, by rw [show B + 4500 * (1 - 1) = B by omega]; exact hG, fun w a b => ?_, fun j a b => by omega⟩ (by have := FU_e; omega)
  · rintro n i s hi ⟨hI, hg, hc, hj⟩
    obtain ⟨k1, k2, k3⟩ := row_step (r := r) m hM hg (by omega) hr
    have hgw : grw m M s r = grw m M g r := grw_cg m hgr (fun w a b d => by rw [hc w a b, if_neg d])
    have hgp : gapM M s r = gapM M g r := gapM_cong hgr (fun w a b d => by rw [hc w a b, if_neg d])
    have e : (i - 1) * grw m M g r + grw m M g r = i * grw m M g r := by rw [Int.sub_mul]; omega
    have c0 : cel s r 0 = cel g r 0 := by rw [hc 0 (by omega) (by omega), if_neg (by omega)]
    have c4 : cel s r 4 = cel g r 4 + (i - 1) * grw m M g r := by rw [hc 4 (by omega) (by omega), if_pos rfl]
    rw [hgw, hgp, c0, c4] at k2 k3
    have hs : GS s 500000000 := fun r a b => by have := hg.1.2.2.2.2 r a b; omega
    have hpr := e_prints (K := K) (A := cA4 M X) (g := s) hM hg.1.1 hs
    rw [gPr_cg (A' := cA4 M X) (A := M) rfl rfl] at hpr
    have hpa := e_passes (K := K) (A := cA4 M X) (g := s) hM hg.1.1 hs
    rw [gDa_cg (A' := cA4 M X) (A := M) rfl rfl rfl] at hpa
    have hbs := bit_sh (stG m M s).1 r ⟨k1, hr.1, by omega⟩
    have hstep : ∀ F : Int32 → AS → Option AR, (if ii m = 0 then cV (NW K (mg (cA4 M X) s)) 0 11 (fX7_prints 0 (NW K (mg (cA4 M X) s))) (qI F) else cV (NW K (mg (cA4 M X) s)) 0 11 (fX7_passes 0 (NW K (mg (cA4 M X) s))) (qI F)) = F (ii (stG m M s).1) (NW K (mg (cA4 M X) (stG m M s).2)) := by
      intro F
      rcases hm with rfl | rfl
      · rw [if_pos i00, nV, hpr, nC, q_I]; rfl
      · rw [if_neg (by decide), nV, hpa, nC, q_I]; rfl
    by_cases y : 0 < cel g r 0 ∧ M 0 8 < cel g r 4 + (i - 1) * grw m M g r + grw m M g r + 10 * gapM M g r
    · rw [if_pos y] at k2
      rw [k2] at hbs
      obtain ⟨h, b1, b2⟩ := e_fetchesBack (K := K) (M := cA4 M X) (g := (stG m M s).2) i
      refine Or.inl ⟨i, h, ?_, Or.inr ⟨⟨hI, by omega⟩, ⟨y.1, by omega⟩, hj⟩, fun z a b => (b2 z a b).trans (hX z a b)⟩
      rw [fX7_fallsIn_16, il200, if_neg (by rw [ii_lt _ _ (by omega)]; omega)]
      refine (hstep _).trans ?_
      rw [fX7_fallsIn_38, il31, il1, hbs, if_neg (by decide), fX7_fallsIn_51, il200, if_neg (by rw [ii_lt _ _ (by omega)]; omega), fX7_fallsIn_64, nV, b1, nC, q_I]
    · rw [if_neg y] at k2
      rw [k2] at hbs
      refine Or.inr ⟨(stG m M s).2, ⟨by omega, ?_, fun w a b => ?_, fun j a b => ?_⟩, ?_⟩
      · rw [show B + 4500 * (i + 1 - 1) = B + 4500 * (i - 1) + 4500 by omega]; exact stG_GC m hM hg (by omega)
      · rw [k3 y w a b, show i + 1 - 1 = i by omega]
        by_cases q : w = 4
        · rw [if_pos q, if_pos q]; omega
        · rw [if_neg q, if_neg q, hc w a b, if_neg q]
      · by_cases q : j = i
        · rw [q]; exact fun x => y ⟨x.1, by have := x.2; omega⟩
        · exact hj j a (by omega)
      · rw [fX7_fallsIn_16, il200, if_neg (by rw [ii_lt _ _ (by omega)]; omega)]
        refine (hstep _).trans ?_
        rw [fX7_fallsIn_38, il31, il1, hbs, if_pos i00, lt_q, ii_add]
  · rintro n s ⟨hI, hg, hc, hj⟩
    obtain ⟨h, b1, b2⟩ := e_fetchesBack (K := K) (M := cA4 M X) (g := s) (-1)
    refine ⟨-1, h, ?_, Or.inl ⟨rfl, fun j a b => hj j a (by omega)⟩, fun z a b => (b2 z a b).trans (hX z a b)⟩
    rw [fX7_fallsIn_16, il200, if_pos (by rw [ii_lt _ _ (by omega)]; omega), fX7_fallsIn_51, il200, if_pos (by rw [ii_lt _ _ (by omega)]; omega), fX7_fallsIn_64, nV, show (-1 : Int32) = ii (-1) from rfl, b1, nC, q_I]
  · by_cases q : w = 4
    · rw [if_pos q, q]; omega
    · rw [if_neg q]
end FAL
section FAL2
variable {C0 N0 n : Nat} {K : Nat × Nat} {c : CC} {A : AI} {J : JI} {M : AI} {g g' o : Int → Int} {pl sp tv cap : Nat} {f B : Int}
theorem c_fallsIn (K : Nat × Nat) (hI : Inv C0 N0 n pl sp tv cap c A J M g) (hn : n ≤ 600) (r m : Int) (hm : m = 0 ∨ m = 1) (hl : M 0 1 = 1) (hr : 0 ≤ r ∧ r < up M 0 0 0 0 3) : ∃ v, fX6_fallsIn 0 (ii r) (ii m) (CW c A J) = some (Sum.inl (some (Value.int (ii (v)))), CW c A J) ∧ isF (flT m (up M 0 0 0) g r) v := by
  have hk := hI.1
  have hRd : isReader c 1 := hk.2.1.1
  have hSv : isSolver c 4 := hk.2.1.2.1
  have hHi : isHist c 21 := hk.2.1.2.2.1
  have hNow : isState c 303 := hk.2.1.2.2.2.1
  have hSpr : isState c 338 := hk.2.1.2.2.2.2.1
  have hPl : isPlan c pl := hk.2.2.2.1.2.1
  have h00 : up M 0 0 0 0 0 = 0 := up_s _ _ _ _
  obtain ⟨h10, hM, hP, hS, hG⟩ := hI.ld hl
  obtain ⟨p0, p1, p2, p3, p4, p5, p6, p7⟩ := hP.1
  have hc1 := c_chase1 (A := A) (J := J) hk h10
  have e3 : up M 0 0 0 0 3 = M 0 3 := up_n _ _ _ _ _ _ (by omega)
  have e9 : up M 0 0 0 0 9 = M 0 9 := up_n _ _ _ _ _ _ (by omega)
  have h38 := hM.1.2.1
  have h910 := hM.1.2.2.2.2.2.2.2
  have hcr := c_row1 (A := A) (J := J) hk h10 r (by rw [p1]; exact hr) (by rw [p1]; exact h38.2)
  have hmr := e_noRow1 (K := K) (M := M) (g := g) hl r (by rw [← e3]; exact hr) (by rw [← e3]; exact h38.2)
  have hr8 : 0 ≤ r ∧ r < 8 := by omega
  have hR := hNow.row r hr8
  have hrr := hS.2 r hr.1 (by omega)
  have hgr := hG.1.1 r hr.1 (by omega)
  have x1 := hrr.1.1
  have h1 := hgr.1
  by_cases y : cel g r 0 = 0
  · refine ⟨-1, ?_, Or.inl ⟨rfl, fun i a b z => by have := z.1; omega⟩⟩
    rw [fX6_fallsIn, lkV hk, hcr, k_C, q_R, rwI1 hR, x1, y, if_pos i00]
    rfl
  · have hgw := grw_b (r := r) m hM hgr
    have hgb := gapM_b hM hgr
    have hsl := hG.1.2.2.2.2 r hr.1 (by omega)
    have h4 := hgr.2.2.2.2.2.2
    have hBn : 0 ≤ Bn n ∧ Bn n ≤ 300000000 := by unfold Bn; omega
    have hlo := c_loosenessIn (c := c) hR hPl hrr hgr p0 p2
    obtain ⟨v, e1, e2⟩ := c_fallLoop (c := c) (J := J) (M := up M 0 0 0) hk hPl p6 hM (cel g r 4 + 10 * gapM (up M 0 0 0) g r) (grw m (up M 0 0 0) g r) (by omega) hgw
    refine ⟨v, ?_, ?_⟩
    · have hz : ¬ ii (cel g r 0) = 0 := by rw [il0, ii_eq _ _ (by omega)]; exact y
      rcases hm with rfl | rfl
      · have hgi := c_growthImp (c := c) (J := J) hR hPl hrr p4
        rw [fX6_fallsIn, lkV hk, hcr, k_C, q_R, rwI1 hR, x1, if_neg hz, if_pos i00, lkR8 hk, rwV hR, hgi, k_C, q_I, fX6_fallsIn_38, lkR8 hk, rwV hR, hlo, k_C, q_I]
        exact e1
      · have hgd := c_growthDay (c := c) (J := J) hR hPl hrr hgr hP hM (hG.1.2.2.2.1 r hr.1 (by omega))
        rw [fX6_fallsIn, lkV hk, hcr, k_C, q_R, rwI1 hR, x1, if_neg hz, if_neg (show ¬ ii 1 = (0 : Int32) by decide), lkR8 hk, rwV hR, hgd, k_C, q_I, fX6_fallsIn_38, lkR8 hk, rwV hR, hlo, k_C, q_I]
        exact e1
    · rcases e2 with ⟨a, b⟩ | ⟨a, b, d⟩
      · exact Or.inl ⟨a, fun i p q z => b i p q z.2⟩
      · exact Or.inr ⟨a, ⟨by omega, b⟩, fun i p q z => d i p q z.2⟩
theorem g_fallsIn (hI : Inv C0 N0 n pl sp tv cap c A J M g) (hn : n ≤ 600) (r m : Int) (hrb : -2147483648 ≤ r ∧ r < 2147483648) (hm : 0 ≤ m ∧ m ≤ 1) : Good C0 N0 n K (fL_fallsIn 0 (ii r) (ii m) 455 (CW c A J)) (fX7_fallsIn 0 (ii r) (ii m) (NW K (mg M g))) := by
  have hk := hI.1
  have hRd : isReader c 1 := hk.2.1.1
  have hSv : isSolver c 4 := hk.2.1.2.1
  have hHi : isHist c 21 := hk.2.1.2.2.1
  have hNow : isState c 303 := hk.2.1.2.2.2.1
  have hSpr : isState c 338 := hk.2.1.2.2.2.2.1
  have hPl : isPlan c pl := hk.2.2.2.1.2.1
  have h00 : up M 0 0 0 0 0 = 0 := up_s _ _ _ _
  by_cases hl : M 0 1 = 1
  · obtain ⟨h10, hM, hP, hS, hG⟩ := hI.ld hl
    obtain ⟨p0, p1, p2, p3, p4, p5, p6, p7⟩ := hP.1
    have hc1 := c_chase1 (A := A) (J := J) hk h10
    have e3 : up M 0 0 0 0 3 = M 0 3 := up_n _ _ _ _ _ _ (by omega)
    have e9 : up M 0 0 0 0 9 = M 0 9 := up_n _ _ _ _ _ _ (by omega)
    have h38 := hM.1.2.1
    have h910 := hM.1.2.2.2.2.2.2.2
    by_cases hr : 0 ≤ r ∧ r < up M 0 0 0 0 3
    · have hcr := c_row1 (A := A) (J := J) hk h10 r (by rw [p1]; exact hr) (by rw [p1]; exact h38.2)
      have hmr := e_noRow1 (K := K) (M := M) (g := g) hl r (by rw [← e3]; exact hr) (by rw [← e3]; exact h38.2)
      have hr8 : 0 ≤ r ∧ r < 8 := by omega
      have hR := hNow.row r hr8
      have hrr := hS.2 r hr.1 (by omega)
      have hgr := hG.1.1 r hr.1 (by omega)
      obtain ⟨v, e1, e2⟩ := c_fallsIn K hI hn r m (by omega) hl hr
      have hBn : 0 ≤ Bn n ∧ Bn n + 4500 * 200 ≤ 500000000 := by unfold Bn; omega
      obtain ⟨X, x1, x2⟩ := e_putsAside (K := K) (M := up M 0 0 0) (g := g)
      obtain ⟨w, h, m1, m2, m3⟩ := m_fallLoop (K := K) (r := r) m (by omega) hM hG X hBn hr x2
      rw [← isF_u e2 m2] at m1
      refine Good_aside hI (v := v) (A' := A) (J' := J) (M' := cA4 (up M 0 0 0) X) (g' := h) e1 (frm.refl _ _ _) ?_ (scr4_c4 _ X) m3
      rw [fX7_fallsIn, nV, hmr, nC, q_I, if_pos i00, nV, x1, nC, q_V, il1, m1]
    · refine Good_no (code := 2) hI (E := "java/lang/IndexOutOfBoundsException") (A' := A) (J' := J) ?_ (frm.refl _ _ _) (fun τ => (hF2 _ _ _ _ _ _ (by decide)).trans (hF1 _ _ 2 rfl _ _ _)) (by omega) (v := 0) ?_
      · have hcr := c_row0 (A := A) (J := J) hk h10 r (by rw [p1]; exact hr) (by rw [p1]; omega) (by omega)
        rw [fX6_fallsIn, lkV hk, hcr, k_E]
      · have hmr := e_noRow0 (K := K) (M := M) (g := g) hl r (by rw [← e3]; exact hr) (by rw [← e3]; omega) (by omega)
        rw [fX7_fallsIn, nV, hmr, nC, q_I, if_neg (show ¬ ii 1 = (0 : Int32) by decide)]
        rfl
  · obtain ⟨h10, h1⟩ := hI.nl hl
    refine Good_nl hI (v := 0) ?_ (hF_IS _ 1 rfl _ _) ?_
    · rw [fX6_fallsIn, lkV hk, c_rowN hk h10, k_E]
    · rw [fX7_fallsIn, nV, e_noRowN h1, nC, q_I, if_neg (show ¬ ii 1 = (0 : Int32) by decide)]
      rfl
end FAL2
