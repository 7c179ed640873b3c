/-! THE CLASS'S ROWS, WRITTEN -/
def inR (R b : Nat) : Prop := R ≤ b ∧ b < R + 4
def frm (X : Nat → Prop) (A A' : AI) (J J' : JI) : Prop := (∀ (b : Nat) (z : Int), ¬ X b → A' b z = A b z) ∧ ∀ (b j : Nat), ¬ X b → J' b j = J b j
theorem frm.refl (X : Nat → Prop) (A : AI) (J : JI) : frm X A A J J := ⟨fun _ _ _ => rfl, fun _ _ _ => rfl⟩
theorem frm.trans {X : Nat → Prop} {A A1 A2 : AI} {J J1 J2 : JI} (h : frm X A A1 J J1) (k : frm X A1 A2 J1 J2) : frm X A A2 J J2 := ⟨fun b z q => (k.1 b z q).trans (h.1 b z q), fun b z q => (k.2 b z q).trans (h.2 b z q)⟩
theorem frm.mono {X Y : Nat → Prop} {A A1 : AI} {J J1 : JI} (h : frm X A A1 J J1) (k : ∀ b, X b → Y b) : frm Y A A1 J J1 := ⟨fun b z q => h.1 b z (fun x => q (k b x)), fun b z q => h.2 b z (fun x => q (k b x))⟩
theorem frm_up {X : Nat → Prop} {A A1 : AI} {J J1 : JI} (h : frm X A A1 J J1) (b : Nat) (z v : Int) (hb : X b) : frm X A (up A1 b z v) J J1 := ⟨fun a y q => by rw [up_n _ _ _ _ _ _ (fun e => q (by rw [e.1]; exact hb))]; exact h.1 a y q, h.2⟩
theorem frm_upJ {X : Nat → Prop} {A A1 : AI} {J J1 : JI} (h : frm X A A1 J J1) (b j : Nat) (v : Int64) (hb : X b) : frm X A A1 J (upJ J1 b j v) := ⟨h.1, fun a y q => by unfold upJ; rw [ax_up2_n _ _ (fun e => q (by rw [e.1]; exact hb))]; exact h.2 a y q⟩
theorem RR.frame {A A' : AI} {J J' : JI} {R : Nat} {len g g' : Int → Int} {r : Int} (h : RR A J R len g r) (hg : RG g r) (hA : ∀ (b : Nat) (z : Int), inR R b → A' b z = A b z) (hJ : ∀ (b j : Nat), inR R b → J' b j = J b j) (e : ∀ w, 0 ≤ w → w < 512 → cel g' r w = cel g r w) : RR A' J' R len g' r := by
  obtain ⟨⟨e1, e2, e4, e5, e7, e8, e9⟩, hb, hp, hc⟩ := h
  have h1 := hg.1
  have h2 := hg.2.1
  have i0 : inR R R := by unfold inR; omega
  have i1 : inR R (R + 1) := by unfold inR; omega
  have i2 : inR R (R + 2) := by unfold inR; omega
  have i3 : inR R (R + 3) := by unfold inR; omega
  have s1 : suB g' r = suB g r := suB_cong (e 0 (by omega) (by omega)) (fun k a b => e _ (by omega) (by omega))
  have s2 : suP len g' r = suP len g r := suP_cong (e 1 (by omega) (by omega)) (fun k a b => e _ (by omega) (by omega))
  have s3 : ∀ d, cnt g' r d = cnt g r d := fun d => cnt_cong (e 1 (by omega) (by omega)) (fun k a b => e _ (by omega) (by omega))
  unfold RR
  rw [hA R 1 i0, hA R 2 i0, hA R 4 i0, hA R 5 i0, hA R 7 i0, hA R 8 i0, hA R 9 i0, e 0 (by omega) (by omega), e 1 (by omega) (by omega), e 2 (by omega) (by omega), e 3 (by omega) (by omega), e 4 (by omega) (by omega), s1, s2]
  refine ⟨⟨e1, e2, e4, e5, e7, e8, e9⟩, fun k a b => ?_, fun k a b => ?_, fun k a b => ?_⟩
  · rw [hA _ _ i1, e _ (by omega) (by omega)]; exact hb k a b
  · rw [e _ (by omega) (by omega), show J' (R + 2) = J (R + 2) from funext fun j => hJ _ _ i2]; exact hp k a b
  · rw [hA _ _ i3, s3]; exact hc k a b
theorem sm_del (f h : Int → Int) (i : Int) : ∀ n : Nat, 0 ≤ i → i ≤ n → (∀ k, 0 ≤ k → k < i → h k = f k) → (∀ k, i ≤ k → k < n → h k = f (k + 1)) → sm h n + f i = sm f ((n : Int) + 1)
  | 0, a, b, _, _ => by
    have e : i = 0 := by omega
    rw [e]
    show (0 : Int) + f 0 = 0 + f ((0 : Nat) : Int)
    rfl
  | n + 1, a, b, h1, h2 => by
    have e : ((n + 1 : Nat) : Int) = (n : Int) + 1 := by omega
    rw [e, sm_s f _ (by omega), sm_s h _ (by omega)]
    by_cases q : i = (n : Int) + 1
    · rw [q, h1 n (by omega) (by omega), sm_s f _ (by omega), sm_c h f n (fun k c d => h1 k c (by omega))]
    · have ih := sm_del f h i n a (by omega) h1 (fun k c d => h2 k c (by omega))
      rw [h2 n (by omega) (by omega)]
      omega
/-- one part out of a row of parts -/
def gSh (g : Int → Int) (r b i n : Int) : Int → Int := fun z => if 16 + 512 * r + b + i ≤ z ∧ z < 16 + 512 * r + b + n then g (z + 1) else g z
def gLift (g : Int → Int) (r i : Int) : Int → Int := gpu (gSh g r 5 i (cel g r 0 - 1)) r 0 (cel g r 0 - 1)
def gTake (g : Int → Int) (r i : Int) : Int → Int := gu (gpu (gSh g r 11 i (cel g r 1 - 1)) r 1 (cel g r 1 - 1)) (6 + cel g r (11 + i)) (g (6 + cel g r (11 + i)) + 1)
theorem cel_gSh (g : Int → Int) (r b i n r2 w : Int) (h : ((0 ≤ r ∧ 0 ≤ r2) ∧ 0 ≤ w ∧ w < 512) ∧ 0 ≤ b ∧ 0 ≤ i ∧ b + n < 512) : cel (gSh g r b i n) r2 w = if r2 = r ∧ b + i ≤ w ∧ w < b + n then cel g r2 (w + 1) else cel g r2 w := by
  unfold cel gSh
  by_cases q : r2 = r ∧ b + i ≤ w ∧ w < b + n
  · rw [if_pos q, if_pos (by omega), show 16 + 512 * r2 + w + 1 = 16 + 512 * r2 + (w + 1) by omega]
  · rw [if_neg q, if_neg (by omega)]
theorem lo_gSh (g : Int → Int) (r b i n z : Int) (h : (0 ≤ r ∧ z < 16) ∧ 0 ≤ b ∧ 0 ≤ i) : gSh g r b i n z = g z := if_neg (by omega)
theorem cel_gAdds (g : Int → Int) (r its r2 w : Int) (h : ((0 ≤ r ∧ 0 ≤ r2) ∧ 0 ≤ w ∧ w < 512) ∧ 0 ≤ cel g r 0 ∧ cel g r 0 ≤ 6) : cel (gAdds g r its) r2 w = if r2 = r ∧ w = 0 then cel g r 0 + 1 else if r2 = r ∧ w = 5 + cel g r 0 then its else cel g r2 w := by
  unfold gAdds
  rw [cel_pu _ _ _ _ _ _ (by omega), cel_pu _ _ _ _ _ _ (by omega)]
theorem lo_gAdds (g : Int → Int) (r its z : Int) (h : (0 ≤ r ∧ z < 16) ∧ 0 ≤ cel g r 0) : gAdds g r its z = g z := by
  unfold gAdds
  rw [gpu_lo _ _ _ _ _ (by omega), gpu_lo _ _ _ _ _ (by omega)]
theorem cel_gLift (g : Int → Int) (r i r2 w : Int) (h : ((0 ≤ r ∧ 0 ≤ r2) ∧ 0 ≤ w ∧ w < 512) ∧ (0 ≤ i ∧ i < cel g r 0) ∧ cel g r 0 ≤ 6) : cel (gLift g r i) r2 w = if r2 = r ∧ w = 0 then cel g r 0 - 1 else if r2 = r ∧ 5 + i ≤ w ∧ w < 5 + (cel g r 0 - 1) then cel g r2 (w + 1) else cel g r2 w := by
  unfold gLift
  rw [cel_pu _ _ _ _ _ _ (by omega), cel_gSh _ _ _ _ _ _ _ (by omega)]
theorem lo_gLift (g : Int → Int) (r i z : Int) (h : (0 ≤ r ∧ z < 16) ∧ 0 ≤ i) : gLift g r i z = g z := by
  unfold gLift
  rw [gpu_lo _ _ _ _ _ (by omega), lo_gSh _ _ _ _ _ _ (by omega)]
theorem cel_gTake (g : Int → Int) (r i r2 w : Int) (h : (((0 ≤ r ∧ 0 ≤ r2) ∧ 0 ≤ w ∧ w < 512) ∧ (0 ≤ i ∧ i < cel g r 1) ∧ cel g r 1 ≤ 500) ∧ 0 ≤ cel g r (11 + i) ∧ cel g r (11 + i) < 10) : cel (gTake g r i) r2 w = if r2 = r ∧ w = 1 then cel g r 1 - 1 else if r2 = r ∧ 11 + i ≤ w ∧ w < 11 + (cel g r 1 - 1) then cel g r2 (w + 1) else cel g r2 w := by
  unfold gTake
  rw [cel_gu _ _ _ _ _ (by omega), cel_pu _ _ _ _ _ _ (by omega), cel_gSh _ _ _ _ _ _ _ (by omega)]
theorem lo_gTake (g : Int → Int) (r i z : Int) (h : (0 ≤ r ∧ z < 16) ∧ 0 ≤ i) : gTake g r i z = if z = 6 + cel g r (11 + i) then g z + 1 else g z := by
  unfold gTake
  by_cases q : z = 6 + cel g r (11 + i)
  · rw [q, gu_s, if_pos rfl]
  · rw [gu_n _ _ _ _ q, gpu_lo _ _ _ _ _ (by omega), lo_gSh _ _ _ _ _ _ (by omega), if_neg q]
section CROW2
variable {c : CC} {A : AI} {J : JI} {R Q : Nat} {len g : Int → Int} {r : Int}
theorem RR.adds (hr : RR A J R len g r) (hg : RG g r) (h0 : 0 ≤ r) (its : Int) (hb : cel g r 0 < 6) : RR (up (up (up A (R + 1) (cel g r 0) its) R 1 (cel g r 0 + 1)) R 2 (suB g r + its)) J R len (gAdds g r its) r := by
  have e : ∀ w, 0 ≤ w → w < 512 → cel (gAdds g r its) r w = _ := fun w a b => cel_gAdds g r its r w ⟨⟨⟨h0, h0⟩, a, b⟩, hg.1⟩
  obtain ⟨⟨e1, e2, e4, e5, e7, e8, e9⟩, hB, hp, hc⟩ := hr
  have h1 := hg.1
  have h2 := hg.2.1
  have s1 : suB (gAdds g r its) r = suB g r + its := by
    unfold suB
    rw [e 0 (by omega) (by omega), if_pos (by omega), sm_s _ _ h1.1]
    congr 1
    · exact sm_c _ _ _ fun k a b => by rw [e _ (by omega) (by omega), if_neg (by omega), if_neg (by omega)]
    · rw [e _ (by omega) (by omega), if_neg (by omega), if_pos (by omega)]
  have n1 : cel (gAdds g r its) r 1 = cel g r 1 := by rw [e 1 (by omega) (by omega), if_neg (by omega), if_neg (by omega)]
  have np : ∀ k, 0 ≤ k → k < cel g r 1 → cel (gAdds g r its) r (11 + k) = cel g r (11 + k) := fun k a b => by rw [e _ (by omega) (by omega), if_neg (by omega), if_neg (by omega)]
  unfold RR
  rw [s1, suP_cong n1 np, n1, e 0 (by omega) (by omega), if_pos (by omega), e 2 (by omega) (by omega), if_neg (by omega), if_neg (by omega), e 3 (by omega) (by omega), if_neg (by omega), if_neg (by omega), e 4 (by omega) (by omega), if_neg (by omega), if_neg (by omega)]
  refine ⟨?_, fun k a b => ?_, fun k a b => ?_, fun k a b => ?_⟩
  · simp (disch := first | assumption | omega) only [up_s, up_n]
    exact ⟨trivial, trivial, e4, e5, e7, e8, e9⟩
  · rw [e _ (by omega) (by omega), if_neg (by omega)]
    by_cases q : k = cel g r 0
    · rw [if_pos (by omega), q]
      simp (disch := first | assumption | omega) only [up_s, up_n]
    · rw [if_neg (by omega), ← hB k a (by omega)]
      simp (disch := first | assumption | omega) only [up_n]
  · rw [np k a b]; exact hp k a b
  · rw [cnt_cong n1 np, ← hc k a b]
    simp (disch := first | assumption | omega) only [up_n]
theorem c_addBlock (hR : isRow c R) (hr : RR A J R len g r) (hg : RG g r) (its : Int) (hb : cel g r 0 < 6) : fX3_addBlock R (ii its) (CW c A J) = some (Sum.inl none, CW c (up (up (up A (R + 1) (cel g r 0) its) R 1 (cel g r 0 + 1)) R 2 (suB g r + its)) J) := by
  have e1 := hr.1.1
  have e2 := hr.1.2.1
  have h1 := hg.1
  simp (disch := first | assumption | omega) only [fX3_addBlock, rwI1, rwS1, rwI2, rwS2, rwI4, rwS4, rwI5, rwS5, rwI7, rwS7, rwI8, rwS8, rwI9, rwS9, rwR0, rwR3, rwR6, rwA1, rwU1, rwA3, rwU3, rwV, rwJ, rwUJ, plI0, plS0, plI1, plS1, plI2, plS2, plI3, plS3, plI4, plS4, plI5, plS5, plI6, plS6, plI7, plS7, plR8, plR9, plR10, plA1, plU1, plA2, plU2, plA3, plU3, plV, stI2, stS2, stI3, stS3, stI4, stS4, stI5, stS5, stI6, stS6, stI7, stS7, stR0, stR1, stA2, stU2, stV, stRow, svI5, svS5, svI6, svS6, svI7, svS7, svR0, svR1, svR2, svR3, svR4, svA13, svU13, svA14, svU14, svA15, svU15, svA16, svU16, svV, svRow, svF, svUF, hiI1, hiS1, hiI2, hiS2, hiR0, hiV, hiRow, rdI2, rdS2, rdI3, rdS3, rdI4, rdS4, rdI5, rdS5, rdI6, rdS6, rdI7, rdS7, rdI8, rdS8, rdR0, rdR1, rdA1, rdU1, rdA2, rdU2, rdV, k_C, il0, il1, il2, il3, il4, il5, il6, il7, il8, il9, il10, il11, il12, il15, il16, il20, il24, il31, il32, il44, il45, il48, il50, il57, il58, il59, il63, il91, il93, il97, il99, il100, il109, il113, il119, il120, il122, il200, il255, il480, il500, il501, il512, il999, il4112, il41120, il1000000, il1000003, ii_add, ii_sub, ii_mul, ii_neg, ii_le, ii_lt, ii_eq, ii_div, q_I, q_V, q_R, lt_q, rZ_q, md_M, md_16, md_4, md_8, md_10, if_true, if_false, if_pos, if_neg, up_s, up_n, e1, e2]
theorem c_removeBlock (hR : isRow c R) (hr : RR A J R len g r) (hg : RG g r) (h0 : 0 ≤ r) (i : Int) (hi : 0 ≤ i ∧ i < cel g r 0) : ∃ A', fX3_removeBlock R (ii i) (CW c A J) = some (Sum.inl (some (Value.int (ii (cel g r (5 + i))))), CW c A' J) ∧ RR A' J R len (gLift g r i) r ∧ frm (inR R) A A' J J := by
  have hrr := hr
  obtain ⟨⟨e1, e2, e4, e5, e7, e8, e9⟩, hB, hp, hc⟩ := hr
  have h1 := hg.1
  have h2 := hg.2.1
  have hv := hg.2.2.1 i hi.1 hi.2
  have e : ∀ w, 0 ≤ w → w < 512 → cel (gLift g r i) r w = _ := fun w a b => cel_gLift g r i r w ⟨⟨⟨h0, h0⟩, a, b⟩, hi, h1.2⟩
  have hba := c_blockAt hR hrr hg i hi
  have i0 : inR R R := by unfold inR; omega
  have i1 : inR R (R + 1) := by unfold inR; omega
  simp (disch := first | assumption | omega) only [fX3_removeBlock, rwI1, rwS1, rwI2, rwS2, rwI4, rwS4, rwI5, rwS5, rwI7, rwS7, rwI8, rwS8, rwI9, rwS9, rwR0, rwR3, rwR6, rwA1, rwU1, rwA3, rwU3, rwV, rwJ, rwUJ, plI0, plS0, plI1, plS1, plI2, plS2, plI3, plS3, plI4, plS4, plI5, plS5, plI6, plS6, plI7, plS7, plR8, plR9, plR10, plA1, plU1, plA2, plU2, plA3, plU3, plV, stI2, stS2, stI3, stS3, stI4, stS4, stI5, stS5, stI6, stS6, stI7, stS7, stR0, stR1, stA2, stU2, stV, stRow, svI5, svS5, svI6, svS6, svI7, svS7, svR0, svR1, svR2, svR3, svR4, svA13, svU13, svA14, svU14, svA15, svU15, svA16, svU16, svV, svRow, svF, svUF, hiI1, hiS1, hiI2, hiS2, hiR0, hiV, hiRow, rdI2, rdS2, rdI3, rdS3, rdI4, rdS4, rdI5, rdS5, rdI6, rdS6, rdI7, rdS7, rdI8, rdS8, rdR0, rdR1, rdA1, rdU1, rdA2, rdU2, rdV, k_C, il0, il1, il2, il3, il4, il5, il6, il7, il8, il9, il10, il11, il12, il15, il16, il20, il24, il31, il32, il44, il45, il48, il50, il57, il58, il59, il63, il91, il93, il97, il99, il100, il109, il113, il119, il120, il122, il200, il255, il480, il500, il501, il512, il999, il4112, il41120, il1000000, il1000003, ii_add, ii_sub, ii_mul, ii_neg, ii_le, ii_lt, ii_eq, ii_div, q_I, q_V, q_R, lt_q, rZ_q, md_M, md_16, md_4, md_8, md_10, if_true, if_false, if_pos, if_neg, hba]
  refine lp (fun n j (s : AI) => fX3_removeBlock_17 n R (ii (cel g r (5 + i))) (ii j) (CW c s J)) (fun x => ∃ A', x = some (Sum.inl (some (Value.int (ii (cel g r (5 + i))))), CW c A' J) ∧ RR A' J R len (gLift g r i) r ∧ frm (inR R) A A' J J)
    (fun j s => (i + 1 ≤ j ∧ frm (inR R) A s J J) ∧ (∀ (b : Nat) (z : Int), b ≠ R + 1 → s b z = A b z) ∧ (∀ k, 0 ≤ k → k < i → s (R + 1) k = A (R + 1) k) ∧ (∀ k, i ≤ k → k + 1 < j → s (R + 1) k = A (R + 1) (k + 1)) ∧ ∀ k, j ≤ k + 1 → i ≤ k → s (R + 1) k = A (R + 1) k) (cel g r 0) ?_ ?_ FU (i + 1) A (by omega) ⟨⟨by omega, frm.refl _ _ _⟩, fun _ _ _ => rfl, fun _ _ _ => rfl, fun k a b => by omega, fun _ _ _ => rfl⟩ (by have := FU_e; omega)
  · rintro n j s hj ⟨⟨hJ, hf⟩, k1, k2, k3, k4⟩
    have e1' : s R 1 = cel g r 0 := by rw [k1 R 1 (by omega), e1]
    have kj := k4 j (by omega) (by omega)
    refine Or.inr ⟨up s (R + 1) (j - 1) (A (R + 1) j), ⟨⟨by omega, frm_up hf _ _ _ i1⟩, fun b z q => by rw [up_n _ _ _ _ _ _ (by omega)]; exact k1 b z q, fun k a b => by rw [up_n _ _ _ _ _ _ (by omega)]; exact k2 k a b, fun k a b => ?_, fun k a b => by rw [up_n _ _ _ _ _ _ (by omega)]; exact k4 k (by omega) b⟩, ?_⟩
    · by_cases q : k = j - 1
      · rw [q, up_s, show j - 1 + 1 = j by omega]
      · rw [up_n _ _ _ _ _ _ (by omega)]; exact k3 k a (by omega)
    · simp (disch := first | assumption | omega) only [fX3_removeBlock_17, rwI1, rwS1, rwI2, rwS2, rwI4, rwS4, rwI5, rwS5, rwI7, rwS7, rwI8, rwS8, rwI9, rwS9, rwR0, rwR3, rwR6, rwA1, rwU1, rwA3, rwU3, rwV, rwJ, rwUJ, plI0, plS0, plI1, plS1, plI2, plS2, plI3, plS3, plI4, plS4, plI5, plS5, plI6, plS6, plI7, plS7, plR8, plR9, plR10, plA1, plU1, plA2, plU2, plA3, plU3, plV, stI2, stS2, stI3, stS3, stI4, stS4, stI5, stS5, stI6, stS6, stI7, stS7, stR0, stR1, stA2, stU2, stV, stRow, svI5, svS5, svI6, svS6, svI7, svS7, svR0, svR1, svR2, svR3, svR4, svA13, svU13, svA14, svU14, svA15, svU15, svA16, svU16, svV, svRow, svF, svUF, hiI1, hiS1, hiI2, hiS2, hiR0, hiV, hiRow, rdI2, rdS2, rdI3, rdS3, rdI4, rdS4, rdI5, rdS5, rdI6, rdS6, rdI7, rdS7, rdI8, rdS8, rdR0, rdR1, rdA1, rdU1, rdA2, rdU2, rdV, k_C, il0, il1, il2, il3, il4, il5, il6, il7, il8, il9, il10, il11, il12, il15, il16, il20, il24, il31, il32, il44, il45, il48, il50, il57, il58, il59, il63, il91, il93, il97, il99, il100, il109, il113, il119, il120, il122, il200, il255, il480, il500, il501, il512, il999, il4112, il41120, il1000000, il1000003, ii_add, ii_sub, ii_mul, ii_neg, ii_le, ii_lt, ii_eq, ii_div, q_I, q_V, q_R, lt_q, rZ_q, md_M, md_16, md_4, md_8, md_10, if_true, if_false, if_pos, if_neg, e1', kj]
  · rintro n s ⟨⟨hJ, hf⟩, k1, k2, k3, k4⟩
    have e1' : s R 1 = cel g r 0 := by rw [k1 R 1 (by omega), e1]
    have e2' : s R 2 = suB g r := by rw [k1 R 2 (by omega), e2]
    refine ⟨up (up s R 1 (cel g r 0 - 1)) R 2 (suB g r - cel g r (5 + i)), ?_, ?_, frm_up (frm_up hf _ _ _ i0) _ _ _ i0⟩
    · simp (disch := first | assumption | omega) only [fX3_removeBlock_17, fX3_removeBlock_45, rwI1, rwS1, rwI2, rwS2, rwI4, rwS4, rwI5, rwS5, rwI7, rwS7, rwI8, rwS8, rwI9, rwS9, rwR0, rwR3, rwR6, rwA1, rwU1, rwA3, rwU3, rwV, rwJ, rwUJ, plI0, plS0, plI1, plS1, plI2, plS2, plI3, plS3, plI4, plS4, plI5, plS5, plI6, plS6, plI7, plS7, plR8, plR9, plR10, plA1, plU1, plA2, plU2, plA3, plU3, plV, stI2, stS2, stI3, stS3, stI4, stS4, stI5, stS5, stI6, stS6, stI7, stS7, stR0, stR1, stA2, stU2, stV, stRow, svI5, svS5, svI6, svS6, svI7, svS7, svR0, svR1, svR2, svR3, svR4, svA13, svU13, svA14, svU14, svA15, svU15, svA16, svU16, svV, svRow, svF, svUF, hiI1, hiS1, hiI2, hiS2, hiR0, hiV, hiRow, rdI2, rdS2, rdI3, rdS3, rdI4, rdS4, rdI5, rdS5, rdI6, rdS6, rdI7, rdS7, rdI8, rdS8, rdR0, rdR1, rdA1, rdU1, rdA2, rdU2, rdV, k_C, il0, il1, il2, il3, il4, il5, il6, il7, il8, il9, il10, il11, il12, il15, il16, il20, il24, il31, il32, il44, il45, il48, il50, il57, il58, il59, il63, il91, il93, il97, il99, il100, il109, il113, il119, il120, il122, il200, il255, il480, il500, il501, il512, il999, il4112, il41120, il1000000, il1000003, ii_add, ii_sub, ii_mul, ii_neg, ii_le, ii_lt, ii_eq, ii_div, q_I, q_V, q_R, lt_q, rZ_q, md_M, md_16, md_4, md_8, md_10, if_true, if_false, if_pos, if_neg, e1', e2', up_n]
    · have n1 : cel (gLift g r i) r 1 = cel g r 1 := by rw [e 1 (by omega) (by omega), if_neg (by omega), if_neg (by omega)]
      have np : ∀ k, 0 ≤ k → k < cel g r 1 → cel (gLift g r i) r (11 + k) = cel g r (11 + k) := fun k a b => by rw [e _ (by omega) (by omega), if_neg (by omega), if_neg (by omega)]
      have s1 : suB (gLift g r i) r = suB g r - cel g r (5 + i) := by
        unfold suB
        rw [e 0 (by omega) (by omega), if_pos (by omega)]
        have hd := sm_del (fun k => cel g r (5 + k)) (fun k => cel (gLift g r i) r (5 + k)) i (cel g r 0 - 1).toNat hi.1 (by omega) (fun k a b => by rw [e _ (by omega) (by omega), if_neg (by omega), if_neg (by omega)]) (fun k a b => by rw [e _ (by omega) (by omega), if_neg (by omega), if_pos (by omega), show 5 + k + 1 = 5 + (k + 1) by omega])
        rw [show (((cel g r 0 - 1).toNat : Nat) : Int) = cel g r 0 - 1 by omega, show cel g r 0 - 1 + 1 = cel g r 0 by omega] at hd
        omega
      unfold RR
      rw [s1, suP_cong n1 np, n1, e 0 (by omega) (by omega), if_pos (by omega), e 2 (by omega) (by omega), if_neg (by omega), if_neg (by omega), e 3 (by omega) (by omega), if_neg (by omega), if_neg (by omega), e 4 (by omega) (by omega), if_neg (by omega), if_neg (by omega)]
      refine ⟨?_, fun k a b => ?_, fun k a b => ?_, fun k a b => ?_⟩
      · simp (disch := first | assumption | omega) only [up_s, up_n, k1]
        exact ⟨trivial, trivial, e4, e5, e7, e8, e9⟩
      · rw [e _ (by omega) (by omega), if_neg (by omega), up_n _ _ _ _ _ _ (by omega), up_n _ _ _ _ _ _ (by omega)]
        by_cases q : i ≤ k
        · rw [if_pos (by omega), k3 k q (by omega), hB (k + 1) (by omega) (by omega), show 5 + k + 1 = 5 + (k + 1) by omega]
        · rw [if_neg (by omega), k2 k a (by omega)]; exact hB k a (by omega)
      · rw [np k a b]; exact hp k a b
      · rw [cnt_cong n1 np, ← hc k a b]
        simp (disch := first | assumption | omega) only [up_n, k1]
theorem RR.put (hr : RR A J R len g r) (hg : RG g r) (h0 : 0 ≤ r) (d : Int) (hb : cel g r 1 < 500) (hd : 0 ≤ d ∧ d < 10) :
    RR (up (up (up A R 4 (cel g r 1 + 1)) R 5 (suP len g r + len d)) (R + 3) d (cnt g r d + 1)) (upJ J (R + 2) (cel g r 1 / 16).toNat (nibS (J (R + 2) (cel g r 1 / 16).toNat) (cel g r 1 % 16 * 4) d)) R len (gPut g r d) r := by
  have e : ∀ w, 0 ≤ w → w < 512 → cel (gPut g r d) r w = _ := fun w a b => cel_gPut g r d r w ⟨⟨⟨h0, h0⟩, a, b⟩, hg.2.1, hd⟩
  obtain ⟨⟨e1, e2, e4, e5, e7, e8, e9⟩, hB, hp, hc⟩ := hr
  have h1 := hg.1
  have h2 := hg.2.1
  have n0 : cel (gPut g r d) r 0 = cel g r 0 := by rw [e 0 (by omega) (by omega), if_neg (by omega), if_neg (by omega)]
  have nb : ∀ k, 0 ≤ k → k < cel g r 0 → cel (gPut g r d) r (5 + k) = cel g r (5 + k) := fun k a b => by rw [e _ (by omega) (by omega), if_neg (by omega), if_neg (by omega)]
  have n1 : cel (gPut g r d) r 1 = cel g r 1 + 1 := by rw [e 1 (by omega) (by omega), if_pos (by omega)]
  have nl : cel (gPut g r d) r (11 + cel g r 1) = d := by rw [e _ (by omega) (by omega), if_neg (by omega), if_pos (by omega)]
  have np : ∀ k, 0 ≤ k → k < cel g r 1 → cel (gPut g r d) r (11 + k) = cel g r (11 + k) := fun k a b => by rw [e _ (by omega) (by omega), if_neg (by omega), if_neg (by omega)]
  have s1 : suP len (gPut g r d) r = suP len g r + len d := by
    unfold suP
    rw [n1, sm_s _ _ h2.1, nl]
    congr 1
    exact sm_c _ _ _ fun k a b => by rw [np k a b]
  have s2 : ∀ k, cnt (gPut g r d) r k = cnt g r k + (if d = k then 1 else 0) := by
    intro k
    unfold cnt
    rw [n1, sm_s _ _ h2.1, nl]
    congr 1
    exact sm_c _ _ _ fun j a b => by rw [np j a b]
  unfold RR
  rw [s1, suB_cong n0 nb, n1, n0, e 2 (by omega) (by omega), if_neg (by omega), if_neg (by omega), e 3 (by omega) (by omega), if_neg (by omega), if_neg (by omega), e 4 (by omega) (by omega), if_neg (by omega), if_neg (by omega)]
  refine ⟨?_, fun k a b => ?_, fun k a b => ?_, fun k a b => ?_⟩
  · simp (disch := first | assumption | omega) only [up_s, up_n]
    exact ⟨e1, e2, trivial, trivial, e7, e8, e9⟩
  · rw [nb k a b, ← hB k a b]
    simp (disch := first | assumption | omega) only [up_n]
  · rw [nib_set J (R + 2) (cel g r 1) k d h2.1 a (by omega)]
    by_cases q : k = cel g r 1
    · rw [if_pos q, q, nl]
    · rw [if_neg q, np k a (by omega)]; exact hp k a (by omega)
  · rw [s2 k]
    by_cases q : d = k
    · rw [if_pos q, q, up_s]
    · rw [if_neg q, up_n _ _ _ _ _ _ (by omega), up_n _ _ _ _ _ _ (by omega), up_n _ _ _ _ _ _ (by omega), hc k a b]; omega
theorem c_addPiece (hR : isRow c R) (hQ : isPlan c Q) (hr : RR A J R len g r) (hg : RG g r) (d : Int) (hl : A (Q + 2) d = len d) (hb : cel g r 1 < 500) (hd : 0 ≤ d ∧ d < 10) (hQR : ¬ inR R (Q + 2)) : fX3_addPiece R Q (ii d) (CW c A J) = some (Sum.inl none, CW c (up (up (up A R 4 (cel g r 1 + 1)) R 5 (suP len g r + len d)) (R + 3) d (cnt g r d + 1)) (upJ J (R + 2) (cel g r 1 / 16).toNat (nibS (J (R + 2) (cel g r 1 / 16).toNat) (cel g r 1 % 16 * 4) d))) := by
  have e4 := hr.1.2.2.1
  have e5 := hr.1.2.2.2.1
  have h1 := hg.2.1
  have hc := hr.2.2.2 d hd.1 hd.2
  have hq : Q + 2 ≠ R := by unfold inR at hQR; omega
  simp (disch := first | assumption | omega) only [fX3_addPiece, rwI1, rwS1, rwI2, rwS2, rwI4, rwS4, rwI5, rwS5, rwI7, rwS7, rwI8, rwS8, rwI9, rwS9, rwR0, rwR3, rwR6, rwA1, rwU1, rwA3, rwU3, rwV, rwJ, rwUJ, plI0, plS0, plI1, plS1, plI2, plS2, plI3, plS3, plI4, plS4, plI5, plS5, plI6, plS6, plI7, plS7, plR8, plR9, plR10, plA1, plU1, plA2, plU2, plA3, plU3, plV, stI2, stS2, stI3, stS3, stI4, stS4, stI5, stS5, stI6, stS6, stI7, stS7, stR0, stR1, stA2, stU2, stV, stRow, svI5, svS5, svI6, svS6, svI7, svS7, svR0, svR1, svR2, svR3, svR4, svA13, svU13, svA14, svU14, svA15, svU15, svA16, svU16, svV, svRow, svF, svUF, hiI1, hiS1, hiI2, hiS2, hiR0, hiV, hiRow, rdI2, rdS2, rdI3, rdS3, rdI4, rdS4, rdI5, rdS5, rdI6, rdS6, rdI7, rdS7, rdI8, rdS8, rdR0, rdR1, rdA1, rdU1, rdA2, rdU2, rdV, k_C, il0, il1, il2, il3, il4, il5, il6, il7, il8, il9, il10, il11, il12, il15, il16, il20, il24, il31, il32, il44, il45, il48, il50, il57, il58, il59, il63, il91, il93, il97, il99, il100, il109, il113, il119, il120, il122, il200, il255, il480, il500, il501, il512, il999, il4112, il41120, il1000000, il1000003, ii_add, ii_sub, ii_mul, ii_neg, ii_le, ii_lt, ii_eq, ii_div, q_I, q_V, q_R, lt_q, rZ_q, md_M, md_16, md_4, md_8, md_10, if_true, if_false, if_pos, if_neg, up_s, up_n, e4, e5, c_setPiece, hl, hc]
end CROW2
