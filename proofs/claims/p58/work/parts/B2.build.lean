/-! THE LAW'S TEXTS: its own builders -/
theorem w_k45 (w : Nat) (hw : 1000026 ≤ w ∧ w < 1000045) : (wlen w ≤ 7 ∧ Int32.ofNat (wlen w) = ii (wlen w : Nat)) ∧ ∀ i, i < wlen w → (0 ≤ wb w i ∧ wb w i ≤ 127) ∧ (ax_byt (w - 1000000)).getD i 0 = ii (wb w i) := by
  have key : ∀ k : Fin 19, ((ax_byt (k + 26)).length ≤ 7 ∧ Int32.ofNat (ax_byt (k + 26)).length = ii ((ax_byt (k + 26)).length : Nat)) ∧ ∀ i : Fin 7, (0 ≤ ((ax_byt (k + 26)).getD i 0).toInt ∧ ((ax_byt (k + 26)).getD i 0).toInt ≤ 127) ∧ (ax_byt (k + 26)).getD i 0 = ii ((ax_byt (k + 26)).getD i 0).toInt := by decide +kernel
  have h := key ⟨w - 1000026, by omega⟩
  dsimp only at h
  rw [show w - 1000026 + 26 = w - 1000000 by omega] at h
  exact ⟨h.1, fun i hi => h.2 ⟨i, by unfold wlen at hi; omega⟩⟩
theorem w_cod (w : Nat) (hw : 1000026 ≤ w ∧ w < 1000045) (σ : AS) : fJ0_coder_7d493 w σ = some (.inl (some (.int (ii 0))), σ) := by
  have e0 : (0 : Int32).toInt8.toInt32 = ii 0 := by decide
  unfold fJ0_coder_7d493
  rw [if_neg (by decide), sK, if_pos hw, rB, e0]
theorem w_cod2 (w : Nat) (hw : 1000026 ≤ w ∧ w < 1000045) (σ : AS) (g : Int32 → AS → Option AR) : cK σ w (fJ0_coder_7d493 w σ) (qI g) = g (ii 0) σ := by
  rw [w_cod w hw, cK, if_pos hw]
  exact if_pos (le_r σ)
theorem w_len45 (w : Nat) (hw : 1000026 ≤ w ∧ w < 1000045) (σ : AS) (g : Int32 → AS → Option AR) : cK σ w (fJ0_length_8abf5 w σ) (qI g) = g (ii (wlen w : Nat)) σ := by
  have e1 : fJ0_length_8abf5 w σ = some (.inl (some (.int (ii (wlen w : Nat)))), σ) := by
    have hl : cS σ (some (.inl (some (.int (ii 0))), σ)) (qI fun v2 s3 => some (.inl (some (.int (Int32.ofNat (ax_byt (w + 2000000 - 3000000)).length >>> (v2 &&& 31)))), s3)) = some (.inl (some (.int (Int32.ofNat (ax_byt (w + 2000000 - 3000000)).length >>> (ii 0 &&& 31)))), σ) := if_pos (le_r σ)
    unfold fJ0_length_8abf5
    rw [sK, if_pos hw, sN, if_pos (by omega), cK, if_pos hw, w_cod w hw, hl, show w + 2000000 - 3000000 = w - 1000000 by omega]
    have := (w_k45 w hw).1.2
    unfold wlen at this
    rw [this, il31, shr0]
    rfl
  rw [cK, if_pos hw, e1]
  exact if_pos (le_r σ)
/-- a constant's text behind a text -/
def tS (w : Nat) (p : TP) : TP := (p.1 + (wlen w : Nat), fun k => if p.1 ≤ k ∧ k < p.1 + (wlen w : Nat) then wb w (k - p.1).toNat else p.2 k)
def cpW (A : AI) (w a : Nat) (dp : Int) : AI := fun b y => if b = a ∧ dp ≤ y ∧ y < dp + (wlen w : Nat) then wb w (y - dp).toNat else A b y
section BLD
variable {c c' c2 : CC} {A A' A2 : AI} {J J' J2 : JI} {pl sp tv cap tv' cap' tv2 cap2 : Nat} {p : TP}
theorem u_ensB {B : Nat} (h : TG c A B tv cap p) (m : Int) (hm : 0 ≤ m ∧ m ≤ 2960) : ∃ (c' : CC) (A' : AI) (J' : JI) (tv' cap' : Nat), fJ5_ensureCapacityInternal_d00df B (ii m) (CW c A J) = some (Sum.inl none, CW c' A' J') ∧ TG c' A' B tv' cap' p ∧ m ≤ cap' ∧ GLb B c c' cap cap' A A' J J' ∧ (cap' ≤ cap ∨ (cap' : Int) ≤ 2 * m) := by
  obtain ⟨hk, ⟨a3, a1⟩, ⟨l0, l1, l2, l3, l4⟩, ht, hb⟩ := h
  by_cases y : m ≤ cap
  · refine ⟨c, A, J, tv, cap, ?_, ⟨hk, ⟨a3, a1⟩, ⟨l0, l1, l2, l3, l4⟩, ht, hb⟩, y, GLb.refl B _ _ _ _, Or.inl (Nat.le_refl _)⟩
    simp (disch := first | assumption | omega) only [fJ5_ensureCapacityInternal_d00df, vbR0 hk, vbL hk, vbI1 hk, a1, shr0, ↓reduceIte, tr_lt, fa_lt, tr_le, fa_le, tr_eq, fa_eq, and_true, true_and, and_false, false_and, il0, il1, il2, il3, il4, il5, il6, il7, il8, il9, il10, il11, il12, il15, il16, il20, il24, il31, il32, il44, il45, il48, il50, il57, il58, il59, il63, il91, il93, il97, il99, il100, il109, il113, il119, il120, il122, il200, il255, il480, il500, il501, il512, il999, il4112, il41120, il1000000, il1000003, ii_add, ii_sub, ii_mul, ii_neg, ii_le, ii_lt, ii_eq, ii_div, q_I, q_V, q_R, lt_q, rZ_q, md_M, md_16, md_4, md_8, md_10, if_true, if_false, if_pos, if_neg]
  · obtain ⟨N, hN⟩ : ∃ N : Nat, (N : Int) = if m - (cap : Int) < (cap : Int) + 2 then (cap : Int) + ((cap : Int) + 2) else m := ⟨(if m - (cap : Int) < (cap : Int) + 2 then (cap : Int) + ((cap : Int) + 2) else m).toNat, by split <;> omega⟩
    have hNb : (2 * cap + 2 ≤ N ∧ N ≤ 6000) ∧ m ≤ N := by split at hN <;> omega
    have ho := hk.2.2.1
    have hz : B < c.2.2.1 := hk.1.1
    have hzB := zB_e
    have htv := ho.1
    have hnl : ∀ W : AS, fJ8_newLength_cabcc (ii (cap : Int)) (ii (m - (cap : Int))) (ii ((cap : Int) + 2)) W = some (Sum.inl (some (Value.int (ii (N)))), W) := by
      intro W
      by_cases w : m - (cap : Int) < (cap : Int) + 2
      · rw [if_pos w] at hN
        rw [hN]
        simp (disch := first | assumption | omega) only [fJ8_newLength_cabcc, show (2147483639 : Int32) = ii 2147483639 from rfl, ↓reduceIte, tr_lt, fa_lt, tr_le, fa_le, tr_eq, fa_eq, and_true, true_and, and_false, false_and, il0, il1, il2, il3, il4, il5, il6, il7, il8, il9, il10, il11, il12, il15, il16, il20, il24, il31, il32, il44, il45, il48, il50, il57, il58, il59, il63, il91, il93, il97, il99, il100, il109, il113, il119, il120, il122, il200, il255, il480, il500, il501, il512, il999, il4112, il41120, il1000000, il1000003, ii_add, ii_sub, ii_mul, ii_neg, ii_le, ii_lt, ii_eq, ii_div, q_I, q_V, q_R, lt_q, rZ_q, md_M, md_16, md_4, md_8, md_10, if_true, if_false, if_pos, if_neg]
      · rw [if_neg w] at hN
        have e : (cap : Int) + (m - cap) = N := by omega
        simp (disch := first | assumption | omega) only [fJ8_newLength_cabcc, show (2147483639 : Int32) = ii 2147483639 from rfl, ↓reduceIte, tr_lt, fa_lt, tr_le, fa_le, tr_eq, fa_eq, and_true, true_and, and_false, false_and, il0, il1, il2, il3, il4, il5, il6, il7, il8, il9, il10, il11, il12, il15, il16, il20, il24, il31, il32, il44, il45, il48, il50, il57, il58, il59, il63, il91, il93, il97, il99, il100, il109, il113, il119, il120, il122, il200, il255, il480, il500, il501, il512, il999, il4112, il41120, il1000000, il1000003, ii_add, ii_sub, ii_mul, ii_neg, ii_le, ii_lt, ii_eq, ii_div, q_I, q_V, q_R, lt_q, rZ_q, md_M, md_16, md_4, md_8, md_10, if_true, if_false, if_pos, if_neg, e]
    have hnc : fJ5_newCapacity_0f7a4 B (ii m) (CW c A J) = some (Sum.inl (some (Value.int (ii (N)))), CW c A J) := by
      simp (disch := first | assumption | omega) only [fJ5_newCapacity_0f7a4, vbR0 hk, vbL hk, vbI1 hk, a1, shr0, shl0, ↓reduceIte, tr_lt, fa_lt, tr_le, fa_le, tr_eq, fa_eq, and_true, true_and, and_false, false_and, il0, il1, il2, il3, il4, il5, il6, il7, il8, il9, il10, il11, il12, il15, il16, il20, il24, il31, il32, il44, il45, il48, il50, il57, il58, il59, il63, il91, il93, il97, il99, il100, il109, il113, il119, il120, il122, il200, il255, il480, il500, il501, il512, il999, il4112, il41120, il1000000, il1000003, ii_add, ii_sub, ii_mul, ii_neg, ii_le, ii_lt, ii_eq, ii_div, q_I, q_V, q_R, lt_q, rZ_q, md_M, md_16, md_4, md_8, md_10, if_true, if_false, if_pos, if_neg, show (2147483647 : Int32) = ii 2147483647 from rfl]
      rw [hnl, k_C, q_I, if_neg (by rw [ii_eq _ _ (by omega)]; omega), vbI1 hk, a1, shr0]
    have grP : (grC c B N).1 B 0 = some c.2.2.1 := by
      unfold grC
      dsimp only
      exact ax_up2_s _ _ _ _
    have grQ : ∀ a j, a < c.2.2.1 → a ≠ B → (grC c B N).1 a j = c.1 a j := fun a j q w => by
      unfold grC
      dsimp only
      rw [ax_up2_a _ _ w]
      exact if_neg (by omega)
    have hk' : isSB (grC c B N) B c.2.2.1 N := ⟨⟨Nat.lt_succ_of_lt hk.1.1, (if_neg (Nat.ne_of_lt hk.1.1)).trans hk.1.2⟩, grP, ⟨Nat.lt_succ_self _, if_pos rfl⟩, Nat.ne_of_gt hk.1.1⟩
    have hnA : ∀ k : Nat → AS → Option AR, nA (CW c A J) 103 (ii N) k = k c.2.2.1 (CW (fun a b => if a = c.2.2.1 then none else c.1 a b, (grC c B N).2) (grA c A) (grJ c J)) := by
      intro k
      refine (if_pos ⟨by show c.2.2.1 < 1000000; omega, by rw [il0, ii_lt _ _ (by omega)]; omega, by rw [ii_tn _ (by omega)]; omega⟩).trans ?_
      rw [ii_tn _ (by omega)]
      show k c.2.2.1 (ax_new (CW c A J) 103 (N : Int).toNat) = _
      rw [show (N : Int).toNat = N by omega]
      congr 1
      unfold ax_new CW grC
      dsimp only
      congr 1
      · funext a b
        show (if a = c.2.2.1 then (0 : Int32) else ii (A a (b : Int))) = ii (if a = c.2.2.1 then 0 else A a (b : Int))
        by_cases q : a = c.2.2.1
        · rw [if_pos q, if_pos q]; rfl
        · rw [if_neg q, if_neg q]
    have o1 : okc (fun a b => if a = c.2.2.1 then none else c.1 a b, (grC c B N).2) tv 103 cap := ⟨Nat.lt_succ_of_lt htv, (if_neg (by omega)).trans ho.2⟩
    have o2 : okc (fun a b => if a = c.2.2.1 then none else c.1 a b, (grC c B N).2) c.2.2.1 103 N := ⟨Nat.lt_succ_self _, if_pos rfl⟩
    have gA : ∀ i, grA c A tv i = A tv i := fun i => if_neg (by omega)
    have hcp : fJ7_copyOf_9075b tv (ii N) (CW c A J) = some (.inl (some (.ref c.2.2.1)), CW (fun a b => if a = c.2.2.1 then none else c.1 a b, (grC c B N).2) (cpA (grA c A) tv c.2.2.1 cap) (grJ c J)) := by
      rw [fJ7_copyOf_9075b, vbL hk, if_neg (by rw [ii_eq _ _ (by omega)]; omega), hnA, k_aL o1, lt_q, if_neg (by rw [ii_lt _ _ (by omega)]; omega), il0, k_cpB o1 o2 cap (by omega) (fun i a b => by rw [gA]; exact hb i a b)]
    have hsR : ∀ k : AS → Option AR, sR (CW (fun a b => if a = c.2.2.1 then none else c.1 a b, (grC c B N).2) (cpA (grA c A) tv c.2.2.1 cap) (grJ c J)) B 1 0 c.2.2.1 k = k (CW (grC c B N) (cpA (grA c A) tv c.2.2.1 cap) (grJ c J)) := by
      intro k
      refine (if_pos ⟨by show B < c.2.2.1 + 1; omega, ?_⟩).trans rfl
      show (if B = c.2.2.1 then (103, N) else c.2.1 B).1 = 1
      rw [if_neg (by omega), hk.1.2]
    have cA : ∀ (b : Nat) (z : Int), b < c.2.2.1 → cpA (grA c A) tv c.2.2.1 cap b z = A b z := fun b z q => by
      rw [cpA_n _ _ _ _ _ _ (by omega)]
      exact if_neg (by omega)
    refine ⟨grC c B N, cpA (grA c A) tv c.2.2.1 cap, grJ c J, c.2.2.1, N, ?_, ⟨hk', ⟨by rw [cA _ _ (by omega)]; exact a3, by rw [cA _ _ (by omega)]; exact a1⟩, ⟨l0, by omega, by omega, by omega, by show c.2.2.1 + 1 ≤ zB + N; omega⟩, fun k a b => ?_, fun k a b => ?_⟩, hNb.2, ⟨⟨Nat.le_succ _, Nat.le_succ _, Nat.le_add_right _ _⟩, ⟨by show c.2.2.1 + 1 + cap ≤ c.2.2.1 + N; omega, by show c.2.2.2.1 + 1 + cap ≤ c.2.2.2.1 + N; omega, by show c.2.2.2.2 + N + 2 * cap ≤ c.2.2.2.2 + 2 * N; omega⟩, ⟨fun a q => if_neg (by omega), grQ⟩, fun b z q _ _ => cA b z q, fun b j q => if_neg (by omega), Or.inr ⟨c.2.2.1, Nat.le_refl _, grP⟩⟩, Or.inr (by split at hN <;> omega)⟩
    · rw [fJ5_ensureCapacityInternal_d00df, vbR0 hk, vbL hk, vbI1 hk, a1, il31, shr0, lt_q, ii_sub, il0, if_neg (by rw [ii_le _ _ (by omega)]; omega), vbR0 hk, vbV hk, hnc, k_C, q_I, vbI1 hk, a1, shl0, hcp, k_Cl (c' := (fun a b => if a = c.2.2.1 then none else c.1 a b, (grC c B N).2)) ⟨Nat.le_succ _, Nat.le_succ _, Nat.le_add_right _ _⟩, q_R, hsR]
    · rw [cpA_s _ _ _ _ _ (by omega), gA]
      exact ht k a b
    · by_cases q : k < cap
      · rw [cpA_s _ _ _ _ _ ⟨a, q⟩, gA]
        exact hb k a q
      · rw [cpA_n _ _ _ _ _ _ (by omega)]
        show 0 ≤ (if c.2.2.1 = c.2.2.1 then (0 : Int) else _) ∧ (if c.2.2.1 = c.2.2.1 then (0 : Int) else _) ≤ 127
        rw [if_pos rfl]
        omega
theorem u_appB {B : Nat} (h : TG c A B tv cap p) (ch : Int) (hc : 0 ≤ ch ∧ ch ≤ 127) (hp : p.1 ≤ 2950) : ∃ (c' : CC) (A' : AI) (J' : JI) (tv' cap' : Nat), fJ4_append_cf468 B (ii ch) (CW c A J) = some (.inl (some (.ref B)), CW c' A' J') ∧ TG c' A' B tv' cap' (tC ch p) ∧ GLb B c c' cap cap' A A' J J' ∧ (cap' ≤ cap ∨ (cap' : Int) ≤ 2 * (p.1 + 1)) := by
  have hk := h.1
  have b3 := h.2.1.1
  have b0 := h.2.2.1.1
  obtain ⟨c', A', J', tv', cap', e1, ⟨hk', ⟨a3, a1⟩, ⟨l0, l1, l2, l3, l4⟩, ht, hb⟩, hm, hL, hcb⟩ := u_ensB (J := J) h (p.1 + 1) (by omega)
  have hne : tv' ≠ B := hk'.2.2.2
  have hil := u_lat (J := J') hk' a1
  have hce : ∀ W : AS, fJ1_canEncode_fc78d (ii ch) W = some (Sum.inl (some (Value.int (ii (1)))), W) := fun W => by simp (disch := first | assumption | omega) only [fJ1_canEncode_fc78d, ↓reduceIte, tr_lt, fa_lt, tr_le, fa_le, tr_eq, fa_eq, and_true, true_and, and_false, false_and, il0, il1, il2, il3, il4, il5, il6, il7, il8, il9, il10, il11, il12, il15, il16, il20, il24, il31, il32, il44, il45, il48, il50, il57, il58, il59, il63, il91, il93, il97, il99, il100, il109, il113, il119, il120, il122, il200, il255, il480, il500, il501, il512, il999, il4112, il41120, il1000000, il1000003, ii_add, ii_sub, ii_mul, ii_neg, ii_le, ii_lt, ii_eq, ii_div, q_I, q_V, q_R, lt_q, rZ_q, md_M, md_16, md_4, md_8, md_10, if_true, if_false, if_pos, if_neg]
  have n1 : ¬ ii 1 = (0 : Int32) := by decide
  have hap : fJ5_append_3fe6f B (ii ch) (CW c A J) = some (.inl (some (.ref B)), CW c' (up (up A' B 3 (p.1 + 1)) tv' p.1 ch) J') := by
    rw [fJ5_append_3fe6f, vbI3 hk, b3, il1, ii_add, vbV hk, e1, k_Cl hL.1, q_V, vbV hk', hil, k_C, q_I, if_neg n1, hce, k_C, q_I, if_neg n1, vbR0 hk', vbI3 hk', a3, ii_add, vbS3 hk', b_i8 ch hc, k_uB hk'.2.2.1 p.1 ch (by omega) hc]
  refine ⟨c', up (up A' B 3 (p.1 + 1)) tv' p.1 ch, J', tv', cap', ?_, ⟨hk', ⟨?_, ?_⟩, ⟨by show 0 ≤ p.1 + 1; omega, by show p.1 + 1 ≤ _; omega, l2, l3, l4⟩, fun k a b => ?_, BY.u1 (BY.u2 hb _ _ _ (fun e => hne e.symm)) _ _ _ hc⟩, ⟨hL.1, hL.2.1, hL.2.2.1, fun b z q w e => ?_, hL.2.2.2.2⟩, hcb⟩
  · rw [fJ4_append_cf468, vbV hk, hap, k_Cl hL.1, q_R]
  · rw [up_n _ _ _ _ _ _ (fun e => hne e.1.symm), up_s]; rfl
  · rw [up_n _ _ _ _ _ _ (fun e => hne e.1.symm), up_n _ _ _ _ _ _ (by omega)]; exact a1
  · have b' : k < p.1 + 1 := b
    show _ = gu p.2 p.1 ch k
    by_cases q : k = p.1
    · rw [q, up_s, gu_s]
    · rw [up_n _ _ _ _ _ _ (fun e => q e.2), up_n _ _ _ _ _ _ (fun e => hne e.1), gu_n _ _ _ _ q]
      exact ht k a (by omega)
  · have hbt := GLb.ne_tv hL hk' q e
    rw [up_n _ _ _ _ _ _ (fun x => hbt x.1), up_n _ _ _ _ _ _ (fun x => w x.1)]; exact hL.2.2.2.1 b z q w e
theorem u_numB {B : Nat} (h : TG c A B tv cap p) (v : Int) (hv : 0 ≤ v ∧ v < 10000) (hp : p.1 ≤ 2950) : ∃ (c' : CC) (A' : AI) (J' : JI) (tv' cap' : Nat), fJ4_append_bf812 B (ii v) (CW c A J) = some (.inl (some (.ref B)), CW c' A' J') ∧ TG c' A' B tv' cap' (tN v p) ∧ GLb B c c' cap cap' A A' J J' ∧ (cap' ≤ cap ∨ (cap' : Int) ≤ 2 * (p.1 + nd v)) := by
  have hk := h.1
  have b3 := h.2.1.1
  have b0 := h.2.2.1.1
  have hd := nd_b v
  obtain ⟨c', A', J', tv', cap', e1, ⟨hk', ⟨a3, a1⟩, ⟨l0, l1, l2, l3, l4⟩, ht, hb⟩, hm, hL, hcb⟩ := u_ensB (J := J) h (p.1 + nd v) (by omega)
  have hne : tv' ≠ B := hk'.2.2.2
  have hil := u_lat (J := J') hk' a1
  have n1 : ¬ ii 1 = (0 : Int32) := by decide
  obtain ⟨A2, g1, g2, g3, g4, g5⟩ := u_chars (J := J') hk' hb p.1 v hv (by omega)
  have hap : fJ5_append_c97b9 B (ii v) (CW c A J) = some (.inl (some (.ref B)), CW c' (up A2 B 3 (p.1 + nd v)) J') := by
    rw [fJ5_append_c97b9, vbI3 hk, b3, t_size v hv, k_C, q_I, lt_q, ii_add, vbV hk, e1, k_Cl hL.1, q_V, vbV hk', hil, k_C, q_I, if_neg n1, vbR0 hk', g1, k_C, q_I, fJ5_append_c97b9_48, vbS3 hk']
  refine ⟨c', up A2 B 3 (p.1 + nd v), J', tv', cap', ?_, ⟨hk', ⟨up_s _ _ _ _, ?_⟩, ⟨by show 0 ≤ p.1 + nd v; omega, by show p.1 + nd v ≤ _; omega, l2, l3, l4⟩, fun k a b => ?_, g2.u2 _ _ _ (fun e => hne e.symm)⟩, ⟨hL.1, hL.2.1, hL.2.2.1, fun b z q w e => ?_, hL.2.2.2.2⟩, hcb⟩
  · rw [fJ4_append_bf812, vbV hk, hap, k_Cl hL.1, q_R]
  · rw [up_n _ _ _ _ _ _ (by omega), g5 _ _ (fun e => hne e.symm)]; exact a1
  · have b' : k < p.1 + nd v := b
    rw [up_n _ _ _ _ _ _ (fun e => hne e.1)]
    by_cases q : k < p.1
    · rw [tN_l v p k q, g4 k q]
      exact ht k a q
    · have e := g3 (p.1 + nd v - 1 - k) (by omega) (by omega)
      rw [show p.1 + nd v - 1 - (p.1 + nd v - 1 - k) = k by omega] at e
      rw [e, tN_d v p k (p.1 + nd v - 1 - k) (by omega) (by omega)]
  · have hbt := GLb.ne_tv hL hk' q e
    rw [up_n _ _ _ _ _ _ (fun x => w x.1), g5 b z hbt]; exact hL.2.2.2.1 b z q w e
theorem k_cpK0 {a n1 v u : Nat} (L : Nat) (f : Nat → Int) (hv : 3000026 ≤ v ∧ v < 3000045) (hu : v - 3000000 = u) (hL : (ax_byt u).length = L) (hb : ∀ i, i < L → (ax_byt u).getD i 0 = ii (f i)) (h : okc c a 103 n1) (dp : Int) (hd : 0 ≤ dp ∧ dp + (L : Nat) ≤ n1 ∧ n1 ≤ 2147483647) (k : AS → Option AR) : cpK (CW c A J) v 0 a (ii dp) (ii (L : Nat)) k = k (CW c (fun b y => if b = a ∧ dp ≤ y ∧ y < dp + (L : Nat) then f (y - dp).toNat else A b y) J) := by
  have e0 : (0 : Int32).toNatClampNeg = 0 := rfl
  have e1 : ¬ (0 : Int32) < 0 := by decide
  have e2 : ¬ ii dp < (0 : Int32) := by
    rw [il0, ii_lt _ _ (by omega)]; omega
  have e3 : ¬ ii (L : Int) < (0 : Int32) := by
    rw [il0, ii_lt _ _ (by omega)]; omega
  have e4 : (ii (L : Int)).toNatClampNeg = L := by rw [ii_tn _ (by omega)]; omega
  have e5 : (ii dp).toNatClampNeg = dp.toNat := ii_tn _ (by omega)
  unfold cpK
  rw [hu, e0, e4, e5, hL]
  refine (if_pos ⟨hv, ⟨h.1, by rw [show ax_H (CW c A J) a = c.2.1 a from rfl, h.2]⟩, e1, e2, e3, by omega, by rw [show ax_H (CW c A J) a = c.2.1 a from rfl, h.2]; dsimp only; omega⟩).trans ?_
  refine congrArg k (Prod.ext (funext fun b => funext fun i => ?_) rfl)
  show (if b = a then va_cpy (fun j => (ax_byt u).getD j 0) (fun y => ii (A a (y : Int))) 0 dp.toNat L i else ii (A b (i : Int))) = ii (if b = a ∧ dp ≤ (i : Int) ∧ (i : Int) < dp + (L : Nat) then f ((i : Int) - dp).toNat else A b (i : Int))
  unfold va_cpy
  by_cases q : b = a
  · subst q
    rw [if_pos rfl]
    by_cases w : dp.toNat ≤ i ∧ i < dp.toNat + L
    · rw [if_pos w, if_pos ⟨rfl, by omega, by omega⟩]
      dsimp only
      rw [hb _ (by omega), show 0 + (i - dp.toNat) = ((i : Int) - dp).toNat by omega]
    · rw [if_neg w, if_neg (fun z => w (by omega))]
  · rw [if_neg q, if_neg (fun z => q z.1)]
theorem k_cpK {a n1 : Nat} (w : Nat) (hw : 1000026 ≤ w ∧ w < 1000045) (h : okc c a 103 n1) (dp : Int) (hd : 0 ≤ dp ∧ dp + (wlen w : Nat) ≤ n1 ∧ n1 ≤ 2147483647) (k : AS → Option AR) : cpK (CW c A J) (w + 2000000) 0 a (ii dp) (ii (wlen w : Nat)) k = k (CW c (cpW A w a dp) J) :=
  k_cpK0 (u := w - 1000000) (wlen w) (wb w) (by omega) (by omega) rfl (fun i hi => ((w_k45 w hw).2 i hi).2) h dp hd k
theorem cpW_n (A : AI) (w a b : Nat) (dp z : Int) (h : ¬ b = a) : cpW A w a dp b z = A b z := if_neg (fun q => h q.1)
theorem u_put {B : Nat} (hk : isSB c B tv cap) (a1 : A B 1 = 0) (w : Nat) (hw : 1000026 ≤ w ∧ w < 1000045) (L : Int) (hL : 0 ≤ L ∧ L + (wlen w : Nat) ≤ cap ∧ cap ≤ 7000) : fJ5_putStringAt_47b60 B (ii L) w (CW c A J) = some (Sum.inl none, CW c (cpW A w tv L) J) := by
  have hinf : fJ5_inflateIfNeededFor_a7421 B w (CW c A J) = some (Sum.inl none, CW c A J) := by
    rw [fJ5_inflateIfNeededFor_a7421, if_neg (by decide), vbI1 hk, a1, w_cod2 w hw, if_pos rfl]
  have hget : fJ0_getBytes_840e7 w tv (ii L) (ii 0) (CW c A J) = some (Sum.inl none, CW c (cpW A w tv L) J) := by
    have hl := (w_k45 w hw).1.2
    unfold wlen at hl
    rw [fJ0_getBytes_840e7, w_cod2 w hw, if_pos rfl, sK, if_pos hw, sK, if_pos hw, sN, if_pos (by omega), show w + 2000000 - 3000000 = w - 1000000 by omega, hl, il31, shl0]
    exact k_cpK w hw hk.2.2.1 L (by omega) _
  rw [fJ5_putStringAt_47b60, vbV hk, hinf, k_C, q_V, vbR0 hk, vbI1 hk, a1, hget, cK, if_pos hw, k_C, q_V]
theorem u_appSB {B : Nat} (h : TG c A B tv cap p) (w : Nat) (hw : 1000026 ≤ w ∧ w < 1000045) (hp : p.1 ≤ 2900) : ∃ (c' : CC) (A' : AI) (J' : JI) (tv' cap' : Nat), fJ4_append_cf1ce B w (CW c A J) = some (.inl (some (.ref B)), CW c' A' J') ∧ TG c' A' B tv' cap' (tS w p) ∧ GLb B c c' cap cap' A A' J J' ∧ (cap' ≤ cap ∨ (cap' : Int) ≤ 2 * (p.1 + (wlen w : Nat))) := by
  have hk := h.1
  have b3 := h.2.1.1
  have b0 := h.2.2.1.1
  obtain ⟨⟨w7, -⟩, wby⟩ := w_k45 w hw
  obtain ⟨c', A', J', tv', cap', e1, ⟨hk', ⟨a3, a1⟩, ⟨l0, l1, l2, l3, l4⟩, ht, hb⟩, hm, hL, hcb⟩ := u_ensB (J := J) h (p.1 + (wlen w : Nat)) (by omega)
  have hne : tv' ≠ B := hk'.2.2.2
  have hpu := u_put (J := J') hk' a1 w hw p.1 (by omega)
  have c3 : cpW A' w tv' p.1 B 3 = p.1 := by rw [cpW_n _ _ _ _ _ _ (fun e => hne e.symm)]; exact a3
  have hap : fJ5_append_cf1ce B w (CW c A J) = some (.inl (some (.ref B)), CW c' (up (cpW A' w tv' p.1) B 3 (p.1 + (wlen w : Nat))) J') := by
    rw [fJ5_append_cf1ce, w_len45 w hw, vbI3 hk, b3, ii_add, vbV hk, e1, k_Cl hL.1, q_V, vbI3 hk', a3, vbV hk', hpu, k_C, q_V, vbI3 hk', c3, ii_add, vbS3 hk']
  have h15 : fJ4_append_15ec4 B w (CW c A J) = some (.inl (some (.ref B)), CW c' (up (cpW A' w tv' p.1) B 3 (p.1 + (wlen w : Nat))) J') := by
    rw [fJ4_append_15ec4, vbV hk, hap, k_Cl hL.1, q_R]
  refine ⟨c', up (cpW A' w tv' p.1) B 3 (p.1 + (wlen w : Nat)), J', tv', cap', ?_, ⟨hk', ⟨up_s _ _ _ _, ?_⟩, ⟨by show 0 ≤ p.1 + _; omega, by show p.1 + _ ≤ _; omega, l2, l3, l4⟩, fun k a b => ?_, fun k a b => ?_⟩, ⟨hL.1, hL.2.1, hL.2.2.1, fun b z q w e => ?_, hL.2.2.2.2⟩, hcb⟩
  · rw [fJ4_append_cf1ce, vbV hk, h15, k_Cl hL.1, q_R]
  · rw [up_n _ _ _ _ _ _ (by omega), cpW_n _ _ _ _ _ _ (fun e => hne e.symm)]; exact a1
  · have b' : k < p.1 + (wlen w : Nat) := b
    rw [up_n _ _ _ _ _ _ (fun e => hne e.1)]
    show (if tv' = tv' ∧ p.1 ≤ k ∧ k < p.1 + (wlen w : Nat) then wb w (k - p.1).toNat else A' tv' k) = if p.1 ≤ k ∧ k < p.1 + (wlen w : Nat) then wb w (k - p.1).toNat else p.2 k
    by_cases q : p.1 ≤ k
    · rw [if_pos ⟨rfl, q, b'⟩, if_pos ⟨q, b'⟩]
    · rw [if_neg (fun z => q z.2.1), if_neg (fun z => q z.1)]
      exact ht k a (by omega)
  · rw [up_n _ _ _ _ _ _ (fun e => hne e.1)]
    unfold cpW
    split
    case isTrue q => exact (wby _ (by omega)).1
    case isFalse q => exact hb k a b
  · have hbt := GLb.ne_tv hL hk' q e
    rw [up_n _ _ _ _ _ _ (fun x => w x.1), cpW_n _ _ _ _ _ _ hbt]; exact hL.2.2.2.1 b z q w e
/-- a builder was just made: this is what it and all else is -/
theorem u_newB {B : Nat} (hB : okc c B 1 4) (h3 : A B 3 = 0) (h1 : A B 1 = 0) (N : Nat) (hN : 16 ≤ N ∧ N ≤ 7000) (hz : c.2.2.1 ≤ zB) : TG (ptC (nwC c 103 N) B 0 c.2.2.1) (nwA c A) B c.2.2.1 N tP0 ∧ ((ptC (nwC c 103 N) B 0 c.2.2.1).2.2.1 = c.2.2.1 + 1 ∧ (ptC (nwC c 103 N) B 0 c.2.2.1).2.2.2.1 = c.2.2.2.1 + 1 ∧ (ptC (nwC c 103 N) B 0 c.2.2.1).2.2.2.2 = c.2.2.2.2 + N) ∧
    ((∀ a, a < c.2.2.1 → (ptC (nwC c 103 N) B 0 c.2.2.1).2.1 a = c.2.1 a) ∧ ∀ a j, a < c.2.2.1 → a ≠ B → (ptC (nwC c 103 N) B 0 c.2.2.1).1 a j = c.1 a j) := by
  have hBz := hB.1
  have nA : ∀ (b : Nat) (z : Int), b < c.2.2.1 → nwA c A b z = A b z := fun b z q => if_neg (by omega)
  have hP : ∀ a j, a ≠ B → (ptC (nwC c 103 N) B 0 c.2.2.1).1 a j = (nwC c 103 N).1 a j := fun a j q => by
    show ax_up2 (nwC c 103 N).1 B 0 (some c.2.2.1) a j = _
    exact ax_up2_a _ _ q
  have hb0 : ∀ k, nwA c A c.2.2.1 k = 0 := fun k => if_pos rfl
  refine ⟨⟨⟨show okc (nwC c 103 N) B 1 4 from okc_x hB (exc.new c 103 N), ax_up2_s _ _ _ _, ⟨Nat.lt_succ_self _, if_pos rfl⟩, by omega⟩, ⟨?_, ?_⟩, ⟨Int.le_refl _, ?_, hN.1, hN.2, ?_⟩, fun k a b => ?_, fun k a b => ?_⟩, ⟨rfl, rfl, rfl⟩, ⟨fun a q => (exc.new c 103 N).2.1 a q, fun a j q w => (hP a j w).trans ((exc.new c 103 N).2.2 a j q)⟩⟩
  · rw [nA _ _ hBz]; exact h3
  · rw [nA _ _ hBz]; exact h1
  · show (0 : Int) ≤ N
    omega
  · show c.2.2.1 + 1 ≤ zB + N
    omega
  · exact absurd (show k < 0 from b) (by omega)
  · rw [hb0]; omega
end BLD
