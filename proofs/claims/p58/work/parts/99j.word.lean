/-! THE READER: words, numbers, errors, on both sides -/
theorem b127 (x : Int) (h : 0 ≤ x ∧ x ≤ 127) : -2147483648 ≤ x ∧ x < 2147483648 := by omega
theorem le_r (σ : AS) : ax_le σ σ := ⟨Nat.le_refl _, Nat.le_refl _, Nat.le_refl _⟩
def wlen (w : Nat) : Nat := (ax_byt (w - 1000000)).length
def wb (w i : Nat) : Int := ((ax_byt (w - 1000000)).getD i 0).toInt
theorem w_key (w : Nat) (hw : 1000026 ≤ w ∧ w < 1000036) : (wlen w ≤ 5 ∧ Int32.ofNat (wlen w) = ii (wlen w : Nat)) ∧ ∀ i, i < wlen w → (0 ≤ wb w i ∧ wb w i ≤ 127) ∧ (ax_byt (w - 1000000)).getD i 0 = ii (wb w i) := by
  have key : ∀ k : Fin 10, ((ax_byt (k + 26)).length ≤ 5 ∧ Int32.ofNat (ax_byt (k + 26)).length = ii ((ax_byt (k + 26)).length : Nat)) ∧ ∀ i : Fin 5, (0 ≤ ((ax_byt (k + 26)).getD i 0).toInt ∧ ((ax_byt (k + 26)).getD i 0).toInt ≤ 127) ∧ (ax_byt (k + 26)).getD i 0 = ii ((ax_byt (k + 26)).getD i 0).toInt := by decide +kernel
  have h := key ⟨w - 1000026, by omega⟩
  dsimp only at h
  rw [show w - 1000026 + 26 = w - 1000000 by omega] at h
  exact ⟨h.1, fun i hi => h.2 ⟨i, by unfold wlen at hi; omega⟩⟩
theorem w45 {w : Nat} (h : 1000026 ≤ w ∧ w < 1000036) : 1000026 ≤ w ∧ w < 1000045 := ⟨h.1, by omega⟩
theorem w_len (w : Nat) (hw : 1000026 ≤ w ∧ w < 1000036) (σ : AS) (g : Int32 → AS → Option AR) : cK σ w (fJ0_length_8abf5 w σ) (qI g) = g (ii (wlen w : Nat)) σ := by
  have e0 : (0 : Int32).toInt8.toInt32 = ii 0 := by decide
  have ec : fJ0_coder_7d493 w σ = some (.inl (some (.int (ii 0))), σ) := by
    unfold fJ0_coder_7d493
    rw [if_neg (by decide), sK, if_pos (w45 hw), rB, e0]
  have e1 : fJ0_length_8abf5 w σ = some (.inl (some (.int (ii (wlen w : Nat)))), σ) := by
    have hl : cS σ (some (.inl (some (.int (ii 0))), σ)) (qI fun v2 s3 => some (.inl (some (.int (Int32.ofNat (ax_byt (w + 2000000 - 3000000)).length >>> (v2 &&& 31)))), s3)) = some (.inl (some (.int (Int32.ofNat (ax_byt (w + 2000000 - 3000000)).length >>> (ii 0 &&& 31)))), σ) := if_pos (le_r σ)
    unfold fJ0_length_8abf5
    rw [sK, if_pos (w45 hw), sN, if_pos (by omega), cK, if_pos (w45 hw), ec, hl, show w + 2000000 - 3000000 = w - 1000000 by omega]
    have := (w_key w hw).1.2
    unfold wlen at this
    rw [this, il31, shr0]
    rfl
  rw [cK, if_pos (w45 hw), e1]
  exact if_pos (le_r σ)
theorem w_ch (w : Nat) (hw : 1000026 ≤ w ∧ w < 1000036) (i : Int) (hi : 0 ≤ i ∧ i < wlen w) (σ : AS) (g : Int32 → AS → Option AR) : cK σ w (fJ0_charAt_5068e w (ii i) σ) (qI g) = g (ii (wb w i.toNat)) σ := by
  obtain ⟨⟨k1, k2⟩, k3⟩ := w_key w hw
  have k4 := k3 i.toNat (by omega)
  have hch := b_ch _ k4.1
  have sV : ∀ f : AS → Option AR, cS σ (some (.inl none, σ)) (qV f) = f σ := fun f => if_pos (le_r σ)
  have sI' : ∀ (v : Int32) (f : Int32 → AS → Option AR), cS σ (some (.inl (some (.int v)), σ)) (qI f) = f v σ := fun v f => if_pos (le_r σ)
  have hl : fJ0_isLatin1_aae02 w σ = some (.inl (some (.int (ii 1))), σ) := by
    unfold fJ0_isLatin1_aae02
    rw [if_neg (by decide), sK, if_pos (w45 hw), if_pos rfl]
    rfl
  have h1 : fJ3_checkIndex_8e157 (ii i) (ii (wlen w : Nat)) 4000000 σ = some (.inl (some (.int (ii i))), σ) := by
    rw [fJ3_checkIndex_8e157, il0, if_neg (by rw [ii_lt _ _ (by omega)]; omega), if_pos (by rw [ii_lt _ _ (by omega)]; omega)]
  have h2 : fJ0_checkIndex_df160 (ii i) (ii (wlen w : Nat)) σ = some (.inl none, σ) := by
    rw [fJ0_checkIndex_df160, h1]
    exact if_pos (le_r σ)
  have hA : ∀ k : Int32 → Option AR, sA (w + 2000000) (ii i) k = k (ii (wb w i.toNat)) := fun k => by
    have hib : ax_ib (ii i) (ax_byt (w + 2000000 - 3000000)).length := by
      rw [show w + 2000000 - 3000000 = w - 1000000 by omega]
      exact ii_ib i (wlen w) (by omega)
    rw [sA, if_pos ⟨by omega, hib⟩, show w + 2000000 - 3000000 = w - 1000000 by omega, ii_tn i (by omega), k4.2]
  have h3 : fJ1_charAt_3b067 (w + 2000000) (ii i) σ = some (.inl (some (.int (ii (wb w i.toNat)))), σ) := by
    unfold fJ1_charAt_3b067
    rw [sN, if_pos (by omega), show w + 2000000 - 3000000 = w - 1000000 by omega]
    have := k2
    unfold wlen at this
    rw [this]
    have h2' := h2
    unfold wlen at h2'
    rw [h2', sV, hA, hch.1, rC, hch.2]
  have h4 : fJ0_charAt_5068e w (ii i) σ = some (.inl (some (.int (ii (wb w i.toNat)))), σ) := by
    unfold fJ0_charAt_5068e
    rw [cK, if_pos (w45 hw), hl, sI', if_neg (by decide), sK, if_pos (w45 hw), h3, sI', rC, hch.2]
  rw [cK, if_pos (w45 hw), h4]
  exact if_pos (le_r σ)
abbrev mtch (b : Int → Int) (p : Int) (w : Nat) (i : Int) : Prop := ∀ j, 0 ≤ j → j < i → b (p + j) = wb w j.toNat
theorem mtch_s {b : Int → Int} {p : Int} {w : Nat} {i : Int} (h : mtch b p w i) (e : b (p + i) = wb w i.toNat) : mtch b p w (i + 1) := fun j a d => by
  by_cases q : j = i
  · rw [q]; exact e
  · exact h j a (by omega)
section RWD
variable {c : CC} {A : AI} {J : JI} {b : Int → Int} {n : Int}
abbrev isWP (X : Option AR) (S : AS) (b : Int → Int) (p : Int) (w : Nat) (G : Prop) : Prop := ∃ v : Int, X = some (Sum.inl (some (Value.int (ii (v)))), S) ∧ (v = 0 ∨ v = 1) ∧ (G → (v = 1 ↔ mtch b p w (wlen w : Nat)))
theorem c_isW (hRd : isReader c 1) (w : Nat) (hw : 1000026 ≤ w ∧ w < 1000036) (hb : ∀ k, 0 ≤ k → k < n → A (1 + 1) k = b k ∧ 0 ≤ b k ∧ b k ≤ 255) (h5 : A 1 5 = n) (hn : 0 ≤ n ∧ n ≤ 500) (p e : Int) (h7 : A 1 7 = p) (hp : 0 ≤ p ∧ p ≤ n) (h8 : A 1 8 = e) (he : 0 ≤ e ∧ e ≤ 500) (h6 : 0 ≤ A 1 6 ∧ A 1 6 ≤ 4) :
    ∃ v : Int, fX2_isWord 1 w (CW c A J) = some (Sum.inl (some (Value.int (ii (v)))), CW c A J) ∧ (v = 0 ∨ v = 1) ∧ (A 1 6 ≠ 1 ∨ e - p ≠ wlen w → v = 0) ∧ (A 1 6 = 1 → e - p = wlen w → e ≤ n → (v = 1 ↔ mtch b p w (wlen w : Nat))) := by
  obtain ⟨⟨k1, k2⟩, k3⟩ := w_key w hw
  by_cases q : A 1 6 = 1
  · by_cases q2 : e - p = wlen w
    · have hL : isWP (fX2_isWord_28 FU 1 w (ii 0) (CW c A J)) (CW c A J) b p w (e ≤ n) := by
        refine lp (fun m i (_ : Unit) => fX2_isWord_28 m 1 w (ii i) (CW c A J)) (fun X => isWP X (CW c A J) b p w (e ≤ n)) (fun i _ => 0 ≤ i ∧ mtch b p w i) (wlen w : Nat) ?_ ?_ FU 0 () (by omega) ⟨by omega, fun j a d => by omega⟩ (by have := FU_e; omega)
        · rintro m i _ hi ⟨hI, hm⟩
          have hwl := fun (σ : AS) g => w_len w hw σ g
          have hwc := fun (σ : AS) g => w_ch w hw i ⟨hI, hi⟩ σ g
          have hk4 := (k3 i.toNat (by omega)).1
          by_cases q3 : n ≤ p + i
          · refine Or.inl ⟨1, ?_, Or.inr rfl, fun z => by omega⟩
            simp (disch := first | assumption | omega) only [fX2_isWord_28, rwI1, rwS1, rwI2, rwS2, rwI4, rwS4, rwI5, rwS5, rwI7, rwS7, rwI8, rwS8, rwI9, rwS9, rwR0, rwR3, rwR6, rwA1, rwU1, rwA3, rwU3, rwV, rwJ, rwUJ, plI0, plS0, plI1, plS1, plI2, plS2, plI3, plS3, plI4, plS4, plI5, plS5, plI6, plS6, plI7, plS7, plR8, plR9, plR10, plA1, plU1, plA2, plU2, plA3, plU3, plV, stI2, stS2, stI3, stS3, stI4, stS4, stI5, stS5, stI6, stS6, stI7, stS7, stR0, stR1, stA2, stU2, stV, stRow, svI5, svS5, svI6, svS6, svI7, svS7, svR0, svR1, svR2, svR3, svR4, svA13, svU13, svA14, svU14, svA15, svU15, svA16, svU16, svV, svRow, svF, svUF, hiI1, hiS1, hiI2, hiS2, hiR0, hiV, hiRow, rdI2, rdS2, rdI3, rdS3, rdI4, rdS4, rdI5, rdS5, rdI6, rdS6, rdI7, rdS7, rdI8, rdS8, rdR0, rdR1, rdA1, rdU1, rdA2, rdU2, rdV, k_C, ↓reduceIte, tr_lt, fa_lt, tr_le, fa_le, tr_eq, fa_eq, and_true, true_and, and_false, false_and, il0, il1, il2, il3, il4, il5, il6, il7, il8, il9, il10, il11, il12, il15, il16, il20, il24, il31, il32, il44, il45, il48, il50, il57, il58, il59, il63, il91, il93, il97, il99, il100, il109, il113, il119, il120, il122, il200, il255, il480, il500, il501, il512, il999, il4112, il41120, il1000000, il1000003, ii_add, ii_sub, ii_mul, ii_neg, ii_le, ii_lt, ii_eq, ii_div, q_I, q_V, q_R, lt_q, rZ_q, md_M, md_16, md_4, md_8, md_10, if_true, if_false, if_pos, if_neg, hwl, h7, h5]
          · have hbi := hb (p + i) (by omega) (by omega)
            have hb2 := hbi.2
            have hb1 := hbi.1
            by_cases q4 : b (p + i) = wb w i.toNat
            · refine Or.inr ⟨(), ⟨by omega, mtch_s hm q4⟩, ?_⟩
              simp (disch := first | assumption | omega) only [fX2_isWord_28, rwI1, rwS1, rwI2, rwS2, rwI4, rwS4, rwI5, rwS5, rwI7, rwS7, rwI8, rwS8, rwI9, rwS9, rwR0, rwR3, rwR6, rwA1, rwU1, rwA3, rwU3, rwV, rwJ, rwUJ, plI0, plS0, plI1, plS1, plI2, plS2, plI3, plS3, plI4, plS4, plI5, plS5, plI6, plS6, plI7, plS7, plR8, plR9, plR10, plA1, plU1, plA2, plU2, plA3, plU3, plV, stI2, stS2, stI3, stS3, stI4, stS4, stI5, stS5, stI6, stS6, stI7, stS7, stR0, stR1, stA2, stU2, stV, stRow, svI5, svS5, svI6, svS6, svI7, svS7, svR0, svR1, svR2, svR3, svR4, svA13, svU13, svA14, svU14, svA15, svU15, svA16, svU16, svV, svRow, svF, svUF, hiI1, hiS1, hiI2, hiS2, hiR0, hiV, hiRow, rdI2, rdS2, rdI3, rdS3, rdI4, rdS4, rdI5, rdS5, rdI6, rdS6, rdI7, rdS7, rdI8, rdS8, rdR0, rdR1, rdA1, rdU1, rdA2, rdU2, rdV, k_C, ↓reduceIte, tr_lt, fa_lt, tr_le, fa_le, tr_eq, fa_eq, and_true, true_and, and_false, false_and, il0, il1, il2, il3, il4, il5, il6, il7, il8, il9, il10, il11, il12, il15, il16, il20, il24, il31, il32, il44, il45, il48, il50, il57, il58, il59, il63, il91, il93, il97, il99, il100, il109, il113, il119, il120, il122, il200, il255, il480, il500, il501, il512, il999, il4112, il41120, il1000000, il1000003, ii_add, ii_sub, ii_mul, ii_neg, ii_le, ii_lt, ii_eq, ii_div, q_I, q_V, q_R, lt_q, rZ_q, md_M, md_16, md_4, md_8, md_10, if_true, if_false, if_pos, if_neg, hwl, hwc, h7, h5, hb1, q4]
            · refine Or.inl ⟨0, ?_, Or.inl rfl, fun z => ⟨fun y => by omega, fun y => absurd (y i hI hi) q4⟩⟩
              have t1 : (-2147483648 ≤ b (p + i) ∧ b (p + i) < 2147483648) := by omega
              have t2 := b127 _ hk4
              have t3 := ii_eq _ _ ⟨t1, t2⟩
              simp (disch := first | assumption | omega) only [fX2_isWord_28, rwI1, rwS1, rwI2, rwS2, rwI4, rwS4, rwI5, rwS5, rwI7, rwS7, rwI8, rwS8, rwI9, rwS9, rwR0, rwR3, rwR6, rwA1, rwU1, rwA3, rwU3, rwV, rwJ, rwUJ, plI0, plS0, plI1, plS1, plI2, plS2, plI3, plS3, plI4, plS4, plI5, plS5, plI6, plS6, plI7, plS7, plR8, plR9, plR10, plA1, plU1, plA2, plU2, plA3, plU3, plV, stI2, stS2, stI3, stS3, stI4, stS4, stI5, stS5, stI6, stS6, stI7, stS7, stR0, stR1, stA2, stU2, stV, stRow, svI5, svS5, svI6, svS6, svI7, svS7, svR0, svR1, svR2, svR3, svR4, svA13, svU13, svA14, svU14, svA15, svU15, svA16, svU16, svV, svRow, svF, svUF, hiI1, hiS1, hiI2, hiS2, hiR0, hiV, hiRow, rdI2, rdS2, rdI3, rdS3, rdI4, rdS4, rdI5, rdS5, rdI6, rdS6, rdI7, rdS7, rdI8, rdS8, rdR0, rdR1, rdA1, rdU1, rdA2, rdU2, rdV, k_C, ↓reduceIte, tr_lt, fa_lt, tr_le, fa_le, tr_eq, fa_eq, and_true, true_and, and_false, false_and, il0, il1, il2, il3, il4, il5, il6, il7, il8, il9, il10, il11, il12, il15, il16, il20, il24, il31, il32, il44, il45, il48, il50, il57, il58, il59, il63, il91, il93, il97, il99, il100, il109, il113, il119, il120, il122, il200, il255, il480, il500, il501, il512, il999, il4112, il41120, il1000000, il1000003, ii_add, ii_sub, ii_mul, ii_neg, ii_le, ii_lt, ii_eq, ii_div, q_I, q_V, q_R, lt_q, rZ_q, md_M, md_16, md_4, md_8, md_10, if_true, if_false, if_pos, if_neg, hwl, hwc, h7, h5, hb1, t3, q4]
        · rintro m _ ⟨hI, hm⟩
          have hwl := fun (σ : AS) g => w_len w hw σ g
          refine ⟨1, ?_, Or.inr rfl, fun _ => ⟨fun _ => hm, fun _ => rfl⟩⟩
          simp (disch := first | assumption | omega) only [fX2_isWord_28, rwI1, rwS1, rwI2, rwS2, rwI4, rwS4, rwI5, rwS5, rwI7, rwS7, rwI8, rwS8, rwI9, rwS9, rwR0, rwR3, rwR6, rwA1, rwU1, rwA3, rwU3, rwV, rwJ, rwUJ, plI0, plS0, plI1, plS1, plI2, plS2, plI3, plS3, plI4, plS4, plI5, plS5, plI6, plS6, plI7, plS7, plR8, plR9, plR10, plA1, plU1, plA2, plU2, plA3, plU3, plV, stI2, stS2, stI3, stS3, stI4, stS4, stI5, stS5, stI6, stS6, stI7, stS7, stR0, stR1, stA2, stU2, stV, stRow, svI5, svS5, svI6, svS6, svI7, svS7, svR0, svR1, svR2, svR3, svR4, svA13, svU13, svA14, svU14, svA15, svU15, svA16, svU16, svV, svRow, svF, svUF, hiI1, hiS1, hiI2, hiS2, hiR0, hiV, hiRow, rdI2, rdS2, rdI3, rdS3, rdI4, rdS4, rdI5, rdS5, rdI6, rdS6, rdI7, rdS7, rdI8, rdS8, rdR0, rdR1, rdA1, rdU1, rdA2, rdU2, rdV, k_C, ↓reduceIte, tr_lt, fa_lt, tr_le, fa_le, tr_eq, fa_eq, and_true, true_and, and_false, false_and, il0, il1, il2, il3, il4, il5, il6, il7, il8, il9, il10, il11, il12, il15, il16, il20, il24, il31, il32, il44, il45, il48, il50, il57, il58, il59, il63, il91, il93, il97, il99, il100, il109, il113, il119, il120, il122, il200, il255, il480, il500, il501, il512, il999, il4112, il41120, il1000000, il1000003, ii_add, ii_sub, ii_mul, ii_neg, ii_le, ii_lt, ii_eq, ii_div, q_I, q_V, q_R, lt_q, rZ_q, md_M, md_16, md_4, md_8, md_10, if_true, if_false, if_pos, if_neg, hwl]
      obtain ⟨v, x1, x2, x3⟩ := hL
      have hwl := fun (σ : AS) g => w_len w hw σ g
      refine ⟨v, ?_, x2, fun z => by omega, fun _ _ z => x3 z⟩
      rw [← x1]
      simp (disch := first | assumption | omega) only [fX2_isWord, rwI1, rwS1, rwI2, rwS2, rwI4, rwS4, rwI5, rwS5, rwI7, rwS7, rwI8, rwS8, rwI9, rwS9, rwR0, rwR3, rwR6, rwA1, rwU1, rwA3, rwU3, rwV, rwJ, rwUJ, plI0, plS0, plI1, plS1, plI2, plS2, plI3, plS3, plI4, plS4, plI5, plS5, plI6, plS6, plI7, plS7, plR8, plR9, plR10, plA1, plU1, plA2, plU2, plA3, plU3, plV, stI2, stS2, stI3, stS3, stI4, stS4, stI5, stS5, stI6, stS6, stI7, stS7, stR0, stR1, stA2, stU2, stV, stRow, svI5, svS5, svI6, svS6, svI7, svS7, svR0, svR1, svR2, svR3, svR4, svA13, svU13, svA14, svU14, svA15, svU15, svA16, svU16, svV, svRow, svF, svUF, hiI1, hiS1, hiI2, hiS2, hiR0, hiV, hiRow, rdI2, rdS2, rdI3, rdS3, rdI4, rdS4, rdI5, rdS5, rdI6, rdS6, rdI7, rdS7, rdI8, rdS8, rdR0, rdR1, rdA1, rdU1, rdA2, rdU2, rdV, k_C, ↓reduceIte, tr_lt, fa_lt, tr_le, fa_le, tr_eq, fa_eq, and_true, true_and, and_false, false_and, il0, il1, il2, il3, il4, il5, il6, il7, il8, il9, il10, il11, il12, il15, il16, il20, il24, il31, il32, il44, il45, il48, il50, il57, il58, il59, il63, il91, il93, il97, il99, il100, il109, il113, il119, il120, il122, il200, il255, il480, il500, il501, il512, il999, il4112, il41120, il1000000, il1000003, ii_add, ii_sub, ii_mul, ii_neg, ii_le, ii_lt, ii_eq, ii_div, q_I, q_V, q_R, lt_q, rZ_q, md_M, md_16, md_4, md_8, md_10, if_true, if_false, if_pos, if_neg, hwl, h7, h8, q]
    · have hwl := fun (σ : AS) g => w_len w hw σ g
      refine ⟨0, ?_, Or.inl rfl, fun _ => rfl, fun _ z => absurd z q2⟩
      simp (disch := first | assumption | omega) only [fX2_isWord, rwI1, rwS1, rwI2, rwS2, rwI4, rwS4, rwI5, rwS5, rwI7, rwS7, rwI8, rwS8, rwI9, rwS9, rwR0, rwR3, rwR6, rwA1, rwU1, rwA3, rwU3, rwV, rwJ, rwUJ, plI0, plS0, plI1, plS1, plI2, plS2, plI3, plS3, plI4, plS4, plI5, plS5, plI6, plS6, plI7, plS7, plR8, plR9, plR10, plA1, plU1, plA2, plU2, plA3, plU3, plV, stI2, stS2, stI3, stS3, stI4, stS4, stI5, stS5, stI6, stS6, stI7, stS7, stR0, stR1, stA2, stU2, stV, stRow, svI5, svS5, svI6, svS6, svI7, svS7, svR0, svR1, svR2, svR3, svR4, svA13, svU13, svA14, svU14, svA15, svU15, svA16, svU16, svV, svRow, svF, svUF, hiI1, hiS1, hiI2, hiS2, hiR0, hiV, hiRow, rdI2, rdS2, rdI3, rdS3, rdI4, rdS4, rdI5, rdS5, rdI6, rdS6, rdI7, rdS7, rdI8, rdS8, rdR0, rdR1, rdA1, rdU1, rdA2, rdU2, rdV, k_C, ↓reduceIte, tr_lt, fa_lt, tr_le, fa_le, tr_eq, fa_eq, and_true, true_and, and_false, false_and, il0, il1, il2, il3, il4, il5, il6, il7, il8, il9, il10, il11, il12, il15, il16, il20, il24, il31, il32, il44, il45, il48, il50, il57, il58, il59, il63, il91, il93, il97, il99, il100, il109, il113, il119, il120, il122, il200, il255, il480, il500, il501, il512, il999, il4112, il41120, il1000000, il1000003, ii_add, ii_sub, ii_mul, ii_neg, ii_le, ii_lt, ii_eq, ii_div, q_I, q_V, q_R, lt_q, rZ_q, md_M, md_16, md_4, md_8, md_10, if_true, if_false, if_pos, if_neg, hwl, h7, h8, q]
  · refine ⟨0, ?_, Or.inl rfl, fun _ => rfl, fun z => absurd z q⟩
    simp (disch := first | assumption | omega) only [fX2_isWord, rwI1, rwS1, rwI2, rwS2, rwI4, rwS4, rwI5, rwS5, rwI7, rwS7, rwI8, rwS8, rwI9, rwS9, rwR0, rwR3, rwR6, rwA1, rwU1, rwA3, rwU3, rwV, rwJ, rwUJ, plI0, plS0, plI1, plS1, plI2, plS2, plI3, plS3, plI4, plS4, plI5, plS5, plI6, plS6, plI7, plS7, plR8, plR9, plR10, plA1, plU1, plA2, plU2, plA3, plU3, plV, stI2, stS2, stI3, stS3, stI4, stS4, stI5, stS5, stI6, stS6, stI7, stS7, stR0, stR1, stA2, stU2, stV, stRow, svI5, svS5, svI6, svS6, svI7, svS7, svR0, svR1, svR2, svR3, svR4, svA13, svU13, svA14, svU14, svA15, svU15, svA16, svU16, svV, svRow, svF, svUF, hiI1, hiS1, hiI2, hiS2, hiR0, hiV, hiRow, rdI2, rdS2, rdI3, rdS3, rdI4, rdS4, rdI5, rdS5, rdI6, rdS6, rdI7, rdS7, rdI8, rdS8, rdR0, rdR1, rdA1, rdU1, rdA2, rdU2, rdV, k_C, ↓reduceIte, tr_lt, fa_lt, tr_le, fa_le, tr_eq, fa_eq, and_true, true_and, and_false, false_and, il0, il1, il2, il3, il4, il5, il6, il7, il8, il9, il10, il11, il12, il15, il16, il20, il24, il31, il32, il44, il45, il48, il50, il57, il58, il59, il63, il91, il93, il97, il99, il100, il109, il113, il119, il120, il122, il200, il255, il480, il500, il501, il512, il999, il4112, il41120, il1000000, il1000003, ii_add, ii_sub, ii_mul, ii_neg, ii_le, ii_lt, ii_eq, ii_div, q_I, q_V, q_R, lt_q, rZ_q, md_M, md_16, md_4, md_8, md_10, if_true, if_false, if_pos, if_neg]
def flA (A : AI) (k p : Int) : AI := up (up A 1 3 k) 1 4 p
def flM (M : AI) (k : Int) : AI := up (up M 0 26 k) 0 27 (M 0 23)
theorem c_fail (hRd : isReader c 1) (k p : Int) (h : A 1 3 = 0) : fX2_fail 1 (ii k) (ii p) (CW c A J) = some (Sum.inl none, CW c (flA A k p) J) := by
  simp (disch := first | assumption | omega) only [fX2_fail, rwI1, rwS1, rwI2, rwS2, rwI4, rwS4, rwI5, rwS5, rwI7, rwS7, rwI8, rwS8, rwI9, rwS9, rwR0, rwR3, rwR6, rwA1, rwU1, rwA3, rwU3, rwV, rwJ, rwUJ, plI0, plS0, plI1, plS1, plI2, plS2, plI3, plS3, plI4, plS4, plI5, plS5, plI6, plS6, plI7, plS7, plR8, plR9, plR10, plA1, plU1, plA2, plU2, plA3, plU3, plV, stI2, stS2, stI3, stS3, stI4, stS4, stI5, stS5, stI6, stS6, stI7, stS7, stR0, stR1, stA2, stU2, stV, stRow, svI5, svS5, svI6, svS6, svI7, svS7, svR0, svR1, svR2, svR3, svR4, svA13, svU13, svA14, svU14, svA15, svU15, svA16, svU16, svV, svRow, svF, svUF, hiI1, hiS1, hiI2, hiS2, hiR0, hiV, hiRow, rdI2, rdS2, rdI3, rdS3, rdI4, rdS4, rdI5, rdS5, rdI6, rdS6, rdI7, rdS7, rdI8, rdS8, rdR0, rdR1, rdA1, rdU1, rdA2, rdU2, rdV, k_C, ↓reduceIte, tr_lt, fa_lt, tr_le, fa_le, tr_eq, fa_eq, and_true, true_and, and_false, false_and, il0, il1, il2, il3, il4, il5, il6, il7, il8, il9, il10, il11, il12, il15, il16, il20, il24, il31, il32, il44, il45, il48, il50, il57, il58, il59, il63, il91, il93, il97, il99, il100, il109, il113, il119, il120, il122, il200, il255, il480, il500, il501, il512, il999, il4112, il41120, il1000000, il1000003, ii_add, ii_sub, ii_mul, ii_neg, ii_le, ii_lt, ii_eq, ii_div, q_I, q_V, q_R, lt_q, rZ_q, md_M, md_16, md_4, md_8, md_10, if_true, if_false, if_pos, if_neg, h]
  rfl
theorem c_failN (hRd : isReader c 1) (k p : Int) (h : A 1 3 ≠ 0) (hb : 0 ≤ A 1 3 ∧ A 1 3 ≤ 5) : fX2_fail 1 (ii k) (ii p) (CW c A J) = some (Sum.inl none, CW c A J) := by
  simp (disch := first | assumption | omega) only [fX2_fail, rwI1, rwS1, rwI2, rwS2, rwI4, rwS4, rwI5, rwS5, rwI7, rwS7, rwI8, rwS8, rwI9, rwS9, rwR0, rwR3, rwR6, rwA1, rwU1, rwA3, rwU3, rwV, rwJ, rwUJ, plI0, plS0, plI1, plS1, plI2, plS2, plI3, plS3, plI4, plS4, plI5, plS5, plI6, plS6, plI7, plS7, plR8, plR9, plR10, plA1, plU1, plA2, plU2, plA3, plU3, plV, stI2, stS2, stI3, stS3, stI4, stS4, stI5, stS5, stI6, stS6, stI7, stS7, stR0, stR1, stA2, stU2, stV, stRow, svI5, svS5, svI6, svS6, svI7, svS7, svR0, svR1, svR2, svR3, svR4, svA13, svU13, svA14, svU14, svA15, svU15, svA16, svU16, svV, svRow, svF, svUF, hiI1, hiS1, hiI2, hiS2, hiR0, hiV, hiRow, rdI2, rdS2, rdI3, rdS3, rdI4, rdS4, rdI5, rdS5, rdI6, rdS6, rdI7, rdS7, rdI8, rdS8, rdR0, rdR1, rdA1, rdU1, rdA2, rdU2, rdV, k_C, ↓reduceIte, tr_lt, fa_lt, tr_le, fa_le, tr_eq, fa_eq, and_true, true_and, and_false, false_and, il0, il1, il2, il3, il4, il5, il6, il7, il8, il9, il10, il11, il12, il15, il16, il20, il24, il31, il32, il44, il45, il48, il50, il57, il58, il59, il63, il91, il93, il97, il99, il100, il109, il113, il119, il120, il122, il200, il255, il480, il500, il501, il512, il999, il4112, il41120, il1000000, il1000003, ii_add, ii_sub, ii_mul, ii_neg, ii_le, ii_lt, ii_eq, ii_div, q_I, q_V, q_R, lt_q, rZ_q, md_M, md_16, md_4, md_8, md_10, if_true, if_false, if_pos, if_neg]
theorem c_num (hRd : isReader c 1) (hb : ∀ k, 0 ≤ k → k < n → A (1 + 1) k = b k ∧ 0 ≤ b k ∧ b k ≤ 255) (h5 : A 1 5 = n) (hn : 0 ≤ n ∧ n ≤ 500) (p e : Int) (h7 : A 1 7 = p) (hp : 0 ≤ p ∧ p ≤ e) (h8 : A 1 8 = e) (he : e ≤ n ∧ e - p ≤ 3) (hd : ∀ j, p ≤ j → j < e → 48 ≤ b j ∧ b j ≤ 57) : fX2_numberHere 1 (CW c A J) = some (Sum.inl (some (Value.int (ii (nvN b p (e - p).toNat)))), CW c A J) := by
  simp (disch := first | assumption | omega) only [fX2_numberHere, rwI1, rwS1, rwI2, rwS2, rwI4, rwS4, rwI5, rwS5, rwI7, rwS7, rwI8, rwS8, rwI9, rwS9, rwR0, rwR3, rwR6, rwA1, rwU1, rwA3, rwU3, rwV, rwJ, rwUJ, plI0, plS0, plI1, plS1, plI2, plS2, plI3, plS3, plI4, plS4, plI5, plS5, plI6, plS6, plI7, plS7, plR8, plR9, plR10, plA1, plU1, plA2, plU2, plA3, plU3, plV, stI2, stS2, stI3, stS3, stI4, stS4, stI5, stS5, stI6, stS6, stI7, stS7, stR0, stR1, stA2, stU2, stV, stRow, svI5, svS5, svI6, svS6, svI7, svS7, svR0, svR1, svR2, svR3, svR4, svA13, svU13, svA14, svU14, svA15, svU15, svA16, svU16, svV, svRow, svF, svUF, hiI1, hiS1, hiI2, hiS2, hiR0, hiV, hiRow, rdI2, rdS2, rdI3, rdS3, rdI4, rdS4, rdI5, rdS5, rdI6, rdS6, rdI7, rdS7, rdI8, rdS8, rdR0, rdR1, rdA1, rdU1, rdA2, rdU2, rdV, k_C, h7]
  rw [show fX2_numberHere_7 FU 1 0 (ii p) (CW c A J) = fX2_numberHere_7 FU 1 (ii (nvN b p (p - p).toNat)) (ii p) (CW c A J) by rw [show (p - p).toNat = 0 by omega]; rfl]
  refine lp (fun m i (_ : Unit) => fX2_numberHere_7 m 1 (ii (nvN b p (i - p).toNat)) (ii i) (CW c A J)) (fun x => x = some (Sum.inl (some (Value.int (ii (nvN b p (e - p).toNat)))), CW c A J)) (fun i _ => p ≤ i) e ?_ ?_ FU p () hp.2 (Int.le_refl p) (by have := FU_e; omega)
  · rintro m i _ hi hI
    have hbi := hb i (by omega) (by omega)
    have hb1 := hbi.1
    have hdi := hd i hI hi
    have hv := nv_b b p (i - p).toNat (by omega) (fun j hj => hd _ (by omega) (by omega))
    have hs := nv_s b p (i - p) (by omega)
    rw [show i - p + 1 = i + 1 - p by omega, show p + (i - p) = i by omega] at hs
    refine Or.inr ⟨(), by show p ≤ i + 1; omega, ?_⟩
    show fX2_numberHere_7 (m + 1) 1 (ii (nvN b p (i - p).toNat)) (ii i) (CW c A J) = fX2_numberHere_7 m 1 (ii (nvN b p (i + 1 - p).toNat)) (ii (i + 1)) (CW c A J)
    rw [hs, show 10 * nvN b p (i - p).toNat = nvN b p (i - p).toNat * 10 by omega]
    simp (disch := first | assumption | omega) only [fX2_numberHere_7, rwI1, rwS1, rwI2, rwS2, rwI4, rwS4, rwI5, rwS5, rwI7, rwS7, rwI8, rwS8, rwI9, rwS9, rwR0, rwR3, rwR6, rwA1, rwU1, rwA3, rwU3, rwV, rwJ, rwUJ, plI0, plS0, plI1, plS1, plI2, plS2, plI3, plS3, plI4, plS4, plI5, plS5, plI6, plS6, plI7, plS7, plR8, plR9, plR10, plA1, plU1, plA2, plU2, plA3, plU3, plV, stI2, stS2, stI3, stS3, stI4, stS4, stI5, stS5, stI6, stS6, stI7, stS7, stR0, stR1, stA2, stU2, stV, stRow, svI5, svS5, svI6, svS6, svI7, svS7, svR0, svR1, svR2, svR3, svR4, svA13, svU13, svA14, svU14, svA15, svU15, svA16, svU16, svV, svRow, svF, svUF, hiI1, hiS1, hiI2, hiS2, hiR0, hiV, hiRow, rdI2, rdS2, rdI3, rdS3, rdI4, rdS4, rdI5, rdS5, rdI6, rdS6, rdI7, rdS7, rdI8, rdS8, rdR0, rdR1, rdA1, rdU1, rdA2, rdU2, rdV, k_C, ↓reduceIte, tr_lt, fa_lt, tr_le, fa_le, tr_eq, fa_eq, and_true, true_and, and_false, false_and, il0, il1, il2, il3, il4, il5, il6, il7, il8, il9, il10, il11, il12, il15, il16, il20, il24, il31, il32, il44, il45, il48, il50, il57, il58, il59, il63, il91, il93, il97, il99, il100, il109, il113, il119, il120, il122, il200, il255, il480, il500, il501, il512, il999, il4112, il41120, il1000000, il1000003, ii_add, ii_sub, ii_mul, ii_neg, ii_le, ii_lt, ii_eq, ii_div, q_I, q_V, q_R, lt_q, rZ_q, md_M, md_16, md_4, md_8, md_10, if_true, if_false, if_pos, if_neg, h8, h5, hb1]
  · rintro m _ hI
    simp (disch := first | assumption | omega) only [fX2_numberHere_7, rwI1, rwS1, rwI2, rwS2, rwI4, rwS4, rwI5, rwS5, rwI7, rwS7, rwI8, rwS8, rwI9, rwS9, rwR0, rwR3, rwR6, rwA1, rwU1, rwA3, rwU3, rwV, rwJ, rwUJ, plI0, plS0, plI1, plS1, plI2, plS2, plI3, plS3, plI4, plS4, plI5, plS5, plI6, plS6, plI7, plS7, plR8, plR9, plR10, plA1, plU1, plA2, plU2, plA3, plU3, plV, stI2, stS2, stI3, stS3, stI4, stS4, stI5, stS5, stI6, stS6, stI7, stS7, stR0, stR1, stA2, stU2, stV, stRow, svI5, svS5, svI6, svS6, svI7, svS7, svR0, svR1, svR2, svR3, svR4, svA13, svU13, svA14, svU14, svA15, svU15, svA16, svU16, svV, svRow, svF, svUF, hiI1, hiS1, hiI2, hiS2, hiR0, hiV, hiRow, rdI2, rdS2, rdI3, rdS3, rdI4, rdS4, rdI5, rdS5, rdI6, rdS6, rdI7, rdS7, rdI8, rdS8, rdR0, rdR1, rdA1, rdU1, rdA2, rdU2, rdV, k_C, ↓reduceIte, tr_lt, fa_lt, tr_le, fa_le, tr_eq, fa_eq, and_true, true_and, and_false, false_and, il0, il1, il2, il3, il4, il5, il6, il7, il8, il9, il10, il11, il12, il15, il16, il20, il24, il31, il32, il44, il45, il48, il50, il57, il58, il59, il63, il91, il93, il97, il99, il100, il109, il113, il119, il120, il122, il200, il255, il480, il500, il501, il512, il999, il4112, il41120, il1000000, il1000003, ii_add, ii_sub, ii_mul, ii_neg, ii_le, ii_lt, ii_eq, ii_div, q_I, q_V, q_R, lt_q, rZ_q, md_M, md_16, md_4, md_8, md_10, if_true, if_false, if_pos, if_neg, h8]
end RWD
