/-! THE READER: a line that tells a kind -/
theorem fdN_b (met len : Int → Int) (m L : Int) : ∀ (k : Nat) (i : Int), 0 ≤ i → (fdN met len m L i k = -1 ∧ ∀ j, i ≤ j → j < i + k → ¬ (met j = m ∧ len j = L)) ∨ (i ≤ fdN met len m L i k ∧ fdN met len m L i k < i + k)
  | 0, i, h => Or.inl ⟨rfl, fun j a b => by have b' : j < i + 0 := b; omega⟩
  | k + 1, i, h => by
    have ih := fdN_b met len m L k (i + 1) (by omega)
    have e : fdN met len m L i (k + 1) = if met i = m ∧ len i = L then i else fdN met len m L (i + 1) k := rfl
    rw [e]
    by_cases q : met i = m ∧ len i = L
    · rw [if_pos q]
      exact Or.inr ⟨by omega, by omega⟩
    · rw [if_neg q]
      rcases ih with ih | ih
      · refine Or.inl ⟨ih.1, fun j a b => ?_⟩
        by_cases y : j = i
        · rw [y]; exact q
        · exact ih.2 j (by omega) (by omega)
      · exact Or.inr ⟨by omega, by omega⟩
section KLM
variable {K : Nat × Nat} {M : AI} {g : Int → Int} {n : Int}
theorem m_takesE (lo hi : Int) (hl : (-1000 ≤ lo ∧ lo ≤ 1000) ∧ -1000 ≤ hi ∧ hi ≤ 1000) (h : M 0 26 ≠ 0) (hb : 0 ≤ M 0 26 ∧ M 0 26 ≤ 5) (h24 : 0 ≤ M 0 24 ∧ M 0 24 ≤ 4) (h25 : M 0 24 = 2 → 0 ≤ M 0 25 ∧ M 0 25 ≤ 999) : fX7_takes 0 (ii lo) (ii hi) (NW K (mg M g)) = some (Sum.inl (some (Value.int (ii (lo)))), NW K (mg M g)) := by
  rw [fX7_takes, nV, m_lookE lo hi hl h hb h24 h25, nC, q_I, nV, m_goesN h hb, nC, q_V]
theorem m_54E (m L t : Int) {M0 : AI} (hf : fX7_failsIf 0 (ii t) (ii 3) (NW K (mg M0 g)) = some (Sum.inl none, NW K (mg M g))) (h : M 0 26 ≠ 0) (hb : 0 ≤ M 0 26 ∧ M 0 26 ≤ 5) (h24 : 0 ≤ M 0 24 ∧ M 0 24 ≤ 4) (h25 : M 0 24 = 2 → 0 ≤ M 0 25 ∧ M 0 25 ≤ 999) : fX7_kindLine_54 0 (ii m) (ii L) 0 (ii t) (NW K (mg M0 g)) = some (Sum.inl none, NW K (mg M g)) := by
  rw [fX7_kindLine_54, il0, il3, il99, nV, hf, nC, q_V, nV, m_goesN h hb, nC, q_V, nV, m_takesE 0 99 (by omega) h hb h24 h25, nC, q_I, nI26, mg_0, if_neg (by rw [ii_eq _ _ (by omega)]; exact h)]
theorem m_15E (m t L : Int) {M0 M1 M2 : AI} (hf : fX7_failsIf 0 (ii t) (ii 4) (NW K (mg M0 g)) = some (Sum.inl none, NW K (mg M1 g))) (hg : fX7_goesOn 0 (NW K (mg M1 g)) = some (Sum.inl none, NW K (mg M2 g))) (hl : fX7_looks 0 (ii 1) (ii 99) (NW K (mg M2 g)) = some (Sum.inl (some (Value.int (ii (L)))), NW K (mg M g))) (h : M 0 26 ≠ 0) (hb : 0 ≤ M 0 26 ∧ M 0 26 ≤ 5) (h24 : 0 ≤ M 0 24 ∧ M 0 24 ≤ 4) (h25 : M 0 24 = 2 → 0 ≤ M 0 25 ∧ M 0 25 ≤ 999) : fX7_kindLine_15 0 (ii m) 0 (ii t) (NW K (mg M0 g)) = some (Sum.inl none, NW K (mg M g)) := by
  rw [fX7_kindLine_15, il0, il1, il4, il99, nV, hf, nC, q_V, nV, hg, nC, q_V, nV, hl, nC, q_I, nI26, mg_0, if_neg (by rw [ii_eq _ _ (by omega)]; exact h), fX7_kindLine_53, il0]
  exact m_54E m L 0 (m_ifN 3) h hb h24 h25
end KLM
section KLP
variable {K : Nat × Nat} {c : CC} {A A' : AI} {J : JI} {M M' : AI} {g g' : Int → Int} {n : Int} {sp : Nat}
theorem FAr.fl (h : FAr A A') : FL sp A A' := fun b z p _ _ _ => h b z (by omega)
theorem FMr.fp (h : FMr M M') : FP M M' := ⟨fun z _ q _ => h.1 z (by omega), fun b z p _ => h.2 b z p⟩
theorem LdS.fr (h : LdS A J M g sp) (hsp : sp = 377 ∨ sp = 381) (hA : FAr A A') (hM : FMr M M') : LdS A' J M' g sp := by
  obtain ⟨hS, hP, hR, hG, hp, h5⟩ := h
  have e0 : ∀ z, 2 ≤ z → z ≤ 9 → M' 0 z = M 0 z := fun z a b => hM.1 z (by omega)
  have e1 : M' 1 = M 1 := funext fun z => hM.2 1 z (by omega)
  have e2 : M' 2 = M 2 := funext fun z => hM.2 2 z (by omega)
  refine ⟨hS.at e0 e1 e2, (PR_frm hP (fun b z hb => hA b z (by omega))).at e0 e1 e2, ?_, hG.at e0 e2, hp, h5⟩
  rw [e2]
  exact SR_frame hR hG.1.1 (fun b z hb => hA b z (by unfold inS at hb; omega)) (fun _ _ _ => rfl)
theorem TD.fr (h : TD A M g) (hA : FAr A A') (hM : FMr M M') : TD A' M' g := by
  have e : A' (1 + 2) = A (1 + 2) := funext fun z => hA _ z (by omega)
  unfold TD at h ⊢
  rw [e, hM.1 32 (by omega)]
  exact h
abbrev LdP (K : Nat × Nat) (c : CC) (A : AI) (J : JI) (M : AI) (n : Int) (sp : Nat) (X Y : Option AR) : Prop := ∃ (A' M' : AI) (g' : Int → Int), X = some (Sum.inl none, CW c A' J) ∧ Y = some (Sum.inl none, NW K (mg M' g')) ∧ RT A' M' n ∧ FL sp A A' ∧ FP M M' ∧ (M' 0 26 = 0 → (LdS A' J M' g' sp ∧ TD A' M' g') ∧ M 0 23 ≤ M' 0 23)
theorem LdP.pre {A1 M1 : AI} {X Y : Option AR} (hA : FL sp A A1) (hM : FP M M1) (h23 : M 0 23 ≤ M1 0 23) (h : LdP K c A1 J M1 n sp X Y) : LdP K c A J M n sp X Y := by
  obtain ⟨A', M', g', x, y, r, f, k, i⟩ := h
  exact ⟨A', M', g', x, y, r, hA.trans f, hM.trans k, fun q => ⟨(i q).1, Int.le_trans h23 (i q).2⟩⟩
/-- the class's line of a kind, from its length on -/
def KR (c : CC) (J : JI) (sp : Nat) (m : Int) (A1 : AI) : Option AR := cS (CW c A1 J) (fX2_takeNumber 1 (ii 1) (ii 99) (CW c A1 J)) (qI fun v4 s5 => cV s5 sp 5 (fX1_find sp (ii m) v4 s5) (qI fun v6 s7 => if v6 = ii (-1) then fX2_readKind_56 1 (ii m) sp 338 v4 s7 else cV s7 1 6 (fX2_fail 1 (ii 3) (ii (A1 1 7)) s7) (qV fun s8 => fX2_readKind_56 1 (ii m) sp 338 v4 s8)))
theorem KR_1 {A1 A2 : AI} (hRd : isReader c 1) (hPl : isPlan c sp) (m L : Int) (a2 : fX2_takeNumber 1 (ii 1) (ii 99) (CW c A1 J) = some (Sum.inl (some (Value.int (ii (L)))), CW c A2 J)) (hfi : fX1_find sp (ii m) (ii L) (CW c A2 J) = some (Sum.inl (some (Value.int (ii (-1)))), CW c A2 J)) : KR c J sp m A1 = fX2_readKind_56 1 (ii m) sp 338 (ii L) (CW c A2 J) := by
  rw [KR, a2, k_C, q_I, plV hPl, hfi, k_C, q_I, if_pos rfl]
theorem KR_2 {A1 A2 A3 : AI} (hRd : isReader c 1) (hPl : isPlan c sp) (m L w : Int) (hw : w ≠ -1 ∧ -1 ≤ w ∧ w ≤ 10) (a2 : fX2_takeNumber 1 (ii 1) (ii 99) (CW c A1 J) = some (Sum.inl (some (Value.int (ii (L)))), CW c A2 J)) (hfi : fX1_find sp (ii m) (ii L) (CW c A2 J) = some (Sum.inl (some (Value.int (ii (w)))), CW c A2 J)) (hf : fX2_fail 1 (ii 3) (ii (A1 1 7)) (CW c A2 J) = some (Sum.inl none, CW c A3 J)) : KR c J sp m A1 = fX2_readKind_56 1 (ii m) sp 338 (ii L) (CW c A3 J) := by
  rw [KR, a2, k_C, q_I, plV hPl, hfi, k_C, q_I, if_neg (by rw [ii_eq _ _ (by omega)]; exact hw.1), rdV hRd, hf, k_C, q_V]
theorem c_56E {A2 : AI} (hRd : isReader c 1) (m L : Int) (v : Int) {A3 : AI} (htn : fX2_takeNumber 1 (ii 0) (ii 99) (CW c A2 J) = some (Sum.inl (some (Value.int (ii (v)))), CW c A3 J)) (h : A3 1 3 ≠ 0) (hb : 0 ≤ A3 1 3 ∧ A3 1 3 ≤ 5) : fX2_readKind_56 1 (ii m) sp 338 (ii L) (CW c A2 J) = some (Sum.inl none, CW c A3 J) := by
  rw [fX2_readKind_56, il0, il99, rdV hRd, htn, k_C, q_I, rdI3 hRd, if_neg (by rw [ii_eq _ _ (by omega)]; exact h)]
theorem find2 (hPl : isPlan c sp) (hL2 : LdS A J M g sp) (m L : Int) (hm : 0 ≤ m ∧ m ≤ 1) (hLb : -2147483648 ≤ L ∧ L < 2147483648) : ∃ w : Int, fX1_find sp (ii m) (ii L) (CW c A J) = some (Sum.inl (some (Value.int (ii (w)))), CW c A J) ∧ fX7_ofLength 0 (ii m) (ii L) (NW K (mg M g)) = some (Sum.inl (some (Value.int (ii (w)))), NW K (mg M g)) ∧ (-1 ≤ w ∧ w ≤ 10) ∧ (w = -1 → ∀ j, 0 ≤ j → j < M 0 9 → ¬ (M 1 j = m ∧ M 2 j = L)) := by
  have hn9 := hL2.1.1.2.2.2.2.2.2.2
  have hfi := c_find (c := c) (A := A) (J := J) hPl (M 0 9) m L (M 1) (M 2) hn9 hL2.2.1.1.2.2.2.2.2.2.2 (fun k a b => ⟨hL2.2.1.2.1 k a b, hL2.1.2.1 k a (by omega), hL2.1.2.2.1 k a (by omega)⟩) hm hLb
  have hof := e_ofLength (K := K) (A := M) (g := g) hL2.1 m L hm hLb
  have hfb := fdN_b (M 1) (M 2) m L (M 0 9).toNat 0 (by omega)
  refine ⟨_, hfi, hof, by omega, fun q => ?_⟩
  have := (hfb.resolve_right (by omega)).2
  exact fun j a b => this j a (by omega)
theorem p_kindA {A1 M1 A2 M2 : AI} (hRd : isReader c 1) (hPl : isPlan c sp) (hsp : sp = 377 ∨ sp = 381) (m : Int) (hm : 0 ≤ m ∧ m ≤ 1) (g1 : fX7_goesOn 0 (NW K (mg M g)) = some (Sum.inl none, NW K (mg M1 g))) (hL1 : LdS A1 J M1 g sp)
    (a2 : fX2_takeNumber 1 (ii 1) (ii 99) (CW c A1 J) = some (Sum.inl (some (Value.int (ii (-1)))), CW c A2 J)) (b2 : fX7_looks 0 (ii 1) (ii 99) (NW K (mg M1 g)) = some (Sum.inl (some (Value.int (ii (1)))), NW K (mg M2 g))) (r2 : RT A2 M2 n) (f2 : FAr A1 A2) (k2 : FMr M1 M2) (o2 : M2 0 26 ≠ 0) : LdP K c A1 J M1 n sp (KR c J sp m A1) (fX7_kindLine_15 0 (ii m) 0 (ii 0) (NW K (mg M g))) := by
  have hb2 := r2.2.2.1
  have b24 := r2.2.2.2.2.1.2.2
  obtain ⟨w, w1, -, w3, -⟩ := find2 (c := c) (K := K) hPl (hL1.fr hsp f2 k2) m (-1) hm (by omega)
  have hfl := c_failN (J := J) hRd 3 (A1 1 7) (A := A2) (by omega) (by omega)
  have htn := c_tnE (J := J) hRd (A := A2) 0 99 (by omega) (by omega) r2.2.2.2.1.2.1
  refine ⟨A2, M2, g, ?_, m_15E m 0 1 (m_ifN 4) g1 b2 o2 (by omega) b24.1 b24.2, r2, f2.fl, k2.fp, fun q => absurd q o2⟩
  by_cases q : w = -1
  · rw [q] at w1
    rw [KR_1 hRd hPl m (-1) a2 w1]
    exact c_56E hRd m (-1) (-1) htn (by omega) (by omega)
  · rw [KR_2 hRd hPl m (-1) w ⟨q, w3⟩ a2 w1 hfl]
    exact c_56E hRd m (-1) (-1) htn (by omega) (by omega)
theorem m_15G (m t L w : Int) {M0 M1 M2 : AI} (hw : -1 ≤ w ∧ w ≤ 10) (hf : fX7_failsIf 0 (ii t) (ii 4) (NW K (mg M0 g)) = some (Sum.inl none, NW K (mg M1 g))) (hg : fX7_goesOn 0 (NW K (mg M1 g)) = some (Sum.inl none, NW K (mg M2 g))) (hl : fX7_looks 0 (ii 1) (ii 99) (NW K (mg M2 g)) = some (Sum.inl (some (Value.int (ii (L)))), NW K (mg M2 g))) (h : M2 0 26 = 0) (ho : fX7_ofLength 0 (ii m) (ii L) (NW K (mg M2 g)) = some (Sum.inl (some (Value.int (ii (w)))), NW K (mg M2 g))) : fX7_kindLine_15 0 (ii m) 0 (ii t) (NW K (mg M0 g)) = fX7_kindLine_54 0 (ii m) (ii L) 0 (ii (if w = -1 then 0 else 1)) (NW K (mg M2 g)) := by
  rw [fX7_kindLine_15, il0, il1, il4, il99, nV, hf, nC, q_V, nV, hg, nC, q_V, nV, hl, nC, q_I, nI26, mg_0, if_pos (by rw [h]), nV, ho, nC, q_I, ii_neg]
  by_cases q : w = -1
  · rw [if_pos (by rw [q]), fX7_kindLine_53, if_pos q, il0]
  · rw [if_neg (by rw [ii_eq _ _ (by omega)]; exact q), if_neg q]
theorem p_kindD {A1 M1 A2 M2 : AI} (hRd : isReader c 1) (hPl : isPlan c sp) (m L w : Int) (hw : w ≠ -1 ∧ -1 ≤ w ∧ w ≤ 10) (r1 : RT A1 M1 n) (o1 : M1 0 26 = 0) (a2 : fX2_takeNumber 1 (ii 1) (ii 99) (CW c A1 J) = some (Sum.inl (some (Value.int (ii (L)))), CW c A2 J)) (hfi : fX1_find sp (ii m) (ii L) (CW c A2 J) = some (Sum.inl (some (Value.int (ii (w)))), CW c A2 J))
    (r2 : RT A2 M2 n) (f2 : FAr A1 A2) (k2 : FMr M1 M2) (o2 : M2 0 26 = 0) : LdP K c A1 J M1 n sp (KR c J sp m A1) (fX7_kindLine_54 0 (ii m) (ii L) 0 (ii 1) (NW K (mg M1 g))) := by
  have hv3 := (r1.2.2.2.2.2 o1).1.2
  obtain ⟨z3, z4, z5, z6⟩ := RT_fail2 r1 o1 r2 f2 k2 3 (A1 1 7) (by omega) hv3
  have b24 := z3.2.2.2.2.1.2.2
  have hb2 := r2.2.2.1
  have hfl := c_fail (J := J) hRd 3 (A1 1 7) (A := A2) (by omega)
  have e3 := flA_3 (A := A2) 3 (A1 1 7)
  have htn := c_tnE (J := J) hRd (A := flA A2 3 (A1 1 7)) 0 99 (by omega) (by omega) z3.2.2.2.1.2.1
  refine ⟨flA A2 3 (A1 1 7), flM M1 3, g, ?_, m_54E m L 1 (m_if 3 (m_fails 3 o1)) (by omega) (by omega) b24.1 b24.2, z3, z4.fl, z5.fp, fun y => by omega⟩
  rw [KR_2 hRd hPl m L w hw a2 hfi hfl]
  exact c_56E hRd m L (-1) htn (by omega) (by omega)
/-- the kind is laid down -/
theorem p_kindL {A3 M3 : AI} (hRd : isReader c 1) (hS : isState c 338) (hPl : isPlan c sp) (hsp : sp = 377 ∨ sp = 381) (m L vc vm : Int) (hm : 0 ≤ m ∧ m ≤ 1) (hLb : 1 ≤ L ∧ L ≤ 99) (hv : vc = vm ∧ 0 ≤ vm ∧ vm ≤ 99) (N : Int) (hN : N = M3 0 9 ∧ N < 10) (hno : ∀ j, 0 ≤ j → j < N → ¬ (M3 1 j = m ∧ M3 2 j = L)) (r3 : RT A3 M3 n) (hL3 : LdS A3 J M3 g sp) (hT3 : TD A3 M3 g) :
    ∃ A4 : AI, fX1_addKind sp (ii m) (ii L) (CW c (up A3 (338 + 2) N vc) J) = some (Sum.inl none, CW c A4 J) ∧ RT A4 (up (up (up M3 1 N m) 2 N L) 0 9 (N + 1)) n ∧ FL sp A3 A4 ∧ FP M3 (up (up (up M3 1 N m) 2 N L) 0 9 (N + 1)) ∧ LdS A4 J (up (up (up M3 1 N m) 2 N L) 0 9 (N + 1)) (gu g (6 + N) vm) sp ∧ TD A4 (up (up (up M3 1 N m) 2 N L) 0 9 (N + 1)) (gu g (6 + N) vm) := by
  have hn9 := hL3.1.1.2.2.2.2.2.2.2
  have hpk := hL3.2.1.2
  have e73 : A3 sp 7 = N := hL3.2.1.1.2.2.2.2.2.2.2.trans hN.1.symm
  rw [← hN.1] at hpk hn9
  have up1 : up A3 (338 + 2) N vc (sp + 1) = A3 (sp + 1) := funext fun z => up_n _ _ _ _ _ _ (by omega)
  have up2 : up A3 (338 + 2) N vc (sp + 2) = A3 (sp + 2) := funext fun z => up_n _ _ _ _ _ _ (by omega)
  have up3 : up A3 (338 + 2) N vc (sp + 3) = A3 (sp + 3) := funext fun z => up_n _ _ _ _ _ _ (by omega)
  have up7 : up A3 (338 + 2) N vc sp 7 = N := by rw [up_n _ _ _ _ _ _ (by omega)]; exact e73
  obtain ⟨A4, a5, oo, n7, nk, f4⟩ := c_addKind (c := c) (A := up A3 (338 + 2) N vc) (J := J) (n := N) hPl (by omega) up7 m L ⟨hm, by omega⟩
    (fun k a b => by rw [up1, up2, (hpk.1 k a b).1, (hpk.1 k a b).2]; exact ⟨hL3.1.2.1 k a (by omega), hL3.1.2.2.1 k a (by omega)⟩)
    (fun k a b => by rw [up1, up2, (hpk.1 k a b).1, (hpk.1 k a b).2]; exact hno k a b)
    (by rw [up1, up2, up3]; exact ord_cg hpk.2 (fun k a b => hpk.1 k a b))
  have f5 : ∀ (b : Nat) (z : Int), ¬ (b = sp ∧ z = 7) → ¬ (b = sp + 1 ∧ z = N) → ¬ (b = sp + 2 ∧ z = N) → b ≠ sp + 3 → ¬ (b = 338 + 2 ∧ z = N) → A4 b z = A3 b z := fun b z p q r s t => by
    rw [f4 b z p q r s, up_n _ _ _ _ _ _ t]
  have i342 : inS 338 (338 + 2) := by unfold inS; omega
  have u0 : ∀ z, z ≠ 9 → up (up (up M3 1 N m) 2 N L) 0 9 (N + 1) 0 z = M3 0 z := fun z q => by rw [up_n _ _ _ _ _ _ (by omega), up_n _ _ _ _ _ _ (by omega), up_n _ _ _ _ _ _ (by omega)]
  refine ⟨A4, a5, r3.fr (fun b z y => f5 b z (by omega) (by omega) (by omega) (by omega) (by omega)) (fun z a b => u0 z (by omega)) (funext fun z => by rw [up_n _ _ _ _ _ _ (by omega), up_n _ _ _ _ _ _ (by omega), up_n _ _ _ _ _ _ (by omega)]),
    fun b z p q r s => f5 b z (by omega) (by omega) (by omega) (by omega) (fun y => s (by rw [y.1]; exact i342)), ⟨fun z p q r => u0 z (by omega), fun b z p q => by rw [up_n _ _ _ _ _ _ (by omega), up_n _ _ _ _ _ _ (by omega), up_n _ _ _ _ _ _ (by omega)]⟩, ?_, ?_, fun r a b => ?_⟩
  · exact LdS.kind (A' := A4) (M' := up (up (up M3 1 N m) 2 N L) 0 9 (N + 1)) hL3 hsp N m L vm hN ⟨hm, hLb, hv.2⟩ (up_s _ _ _ _) (fun z a b => u0 z (by omega))
      (fun k a b => by
        rw [up_n _ _ _ _ _ _ (by omega), up_n _ _ _ _ _ _ (by omega)]
        by_cases y : k = N
        · rw [if_pos y, y, up_s]
        · rw [if_neg y, up_n _ _ _ _ _ _ (by omega)])
      (fun k a b => by
        rw [up_n _ _ _ _ _ _ (by omega)]
        by_cases y : k = N
        · rw [if_pos y, y, up_s]
        · rw [if_neg y, up_n _ _ _ _ _ _ (by omega), up_n _ _ _ _ _ _ (by omega)])
      (fun b z y => f5 b z (by unfold inS at y; omega) (by unfold inS at y; omega) (by unfold inS at y; omega) (by unfold inS at y; omega) (by omega))
      (by rw [f4 _ _ (by omega) (by omega) (by omega) (by omega), up_s]; exact hv.1) oo n7 nk
      (fun k a b => ⟨f5 _ _ (by omega) (by omega) (by omega) (by omega) (by omega), f5 _ _ (by omega) (by omega) (by omega) (by omega) (by omega)⟩)
  · rw [u0 32 (by omega)]; exact hT3.1
  · have e : A4 (1 + 2) = A3 (1 + 2) := funext fun z => f5 _ _ (by omega) (by omega) (by omega) (by omega) (by omega)
    rw [e, cel_gu _ _ _ _ _ (by omega), u0 32 (by omega)]
    exact hT3.2 r a b
theorem p_kindB {A1 M1 A2 M2 : AI} (hRd : isReader c 1) (hS : isState c 338) (hPl : isPlan c sp) (hsp : sp = 377 ∨ sp = 381) (m L : Int) (hm : 0 ≤ m ∧ m ≤ 1) (hLb : 1 ≤ L ∧ L ≤ 99) (h9 : M1 0 9 < 10) (hno : ∀ j, 0 ≤ j → j < M1 0 9 → ¬ (M1 1 j = m ∧ M1 2 j = L)) (hL1 : LdS A1 J M1 g sp) (hT1 : TD A1 M1 g) (o1 : M1 0 26 = 0)
    (a2 : fX2_takeNumber 1 (ii 1) (ii 99) (CW c A1 J) = some (Sum.inl (some (Value.int (ii (L)))), CW c A2 J)) (hfi : fX1_find sp (ii m) (ii L) (CW c A2 J) = some (Sum.inl (some (Value.int (ii (-1)))), CW c A2 J)) (b3 : fX7_token 0 (NW K (mg M1 g)) = some (Sum.inl none, NW K (mg M2 g))) (r2 : RT A2 M2 n) (f2 : FAr A1 A2) (k2 : FMr M1 M2) (o2 : M2 0 26 = 0) (p2 : M1 0 23 < M2 0 23) : LdP K c A1 J M1 n sp (KR c J sp m A1) (fX7_kindLine_54 0 (ii m) (ii L) 0 (ii 0) (NW K (mg M1 g))) := by
  have g2 := m_goes (K := K) (g := g) o1 b3
  obtain ⟨A3, M3, vc, vm, a4, b4, r3, f3, k3, -, i3⟩ := p_num (c := c) K J g hRd r2 0 99 (by omega)
  have hb3 := r3.2.2.1
  rw [KR_1 hRd hPl m L a2 hfi]
  by_cases o3 : M3 0 26 = 0
  · obtain ⟨-, hv, hvb, p3⟩ := i3 o3
    have k13 := k2.trans k3
    have hL3 := hL1.fr hsp (f2.trans f3) k13
    have hT3 := hT1.fr (f2.trans f3) k13
    have e93 : M1 0 9 = M3 0 9 := (k13.1 9 (by omega)).symm
    have hn9 := hL3.1.1.2.2.2.2.2.2.2
    have e73 : A3 sp 7 = M1 0 9 := hL3.2.1.1.2.2.2.2.2.2.2.trans e93.symm
    have e3 : A3 1 3 = 0 := by omega
    obtain ⟨A4, a5, z1, z2, z3, z4, z5⟩ := p_kindL (c := c) (J := J) (A3 := A3) hRd hS hPl hsp m L vc vm hm hLb ⟨hv, hvb⟩ (M1 0 9) ⟨e93, h9⟩ (fun j a b => by rw [k13.2 1 j (by omega), k13.2 2 j (by omega)]; exact hno j a b) r3 hL3 hT3
    refine ⟨A4, up (up (up M3 1 (M1 0 9) m) 2 (M1 0 9) L) 0 9 (M1 0 9 + 1), gu g (6 + M1 0 9) vm, ?_, ?_, z1, (f2.fl.trans f3.fl).trans z2, (k2.fp.trans k3.fp).trans z3, fun _ => ⟨⟨z4, z5⟩, ?_⟩⟩
    · rw [fX2_readKind_56, il0, il99, rdV hRd, a4, k_C, q_I, rdI3 hRd, if_pos (by rw [e3]), stR1 hS, plI7 hPl, e73, stU2 hS _ _ _ (by omega), plV hPl, a5, k_C, q_V]
    · rw [fX7_kindLine_54, il0, il3, il99, nV, m_ifN, nC, q_V, nV, g2, nC, q_V, nV, b4, nC, q_I, nI26, mg_0, o3, if_pos rfl]
      have h9' : M3 0 9 < 10 := by omega
      rw [e93]
      have x1 : up M3 1 (M3 0 9) m 0 9 = M3 0 9 := up_n _ _ _ _ _ _ (by omega)
      have x2 : up (up M3 1 (M3 0 9) m) 2 (M3 0 9) L 0 9 = M3 0 9 := by rw [up_n _ _ _ _ _ _ (by omega)]; exact x1
      simp (disch := first | assumption | omega) only [nR1, nA1, nU1, nR2, nA2, nU2, nR3, nA3, nU3, nR4, nA4, nU4, nR5, nA5, nU5, nR6, nA6, nU6, nR7, nA7, nU7, nR8, nA8, nU8, nR9, nA9, nU9, nR10, nA10, nU10, nR11, nA11, nU11, nR12, nA12, nU12, nR13, nA13, nU13, nR14, nA14, nU14, nR15, nA15, nU15, nR16, nA16, nU16, nI0, nS0, nI1, nS1, nI2, nS2, nI3, nS3, nI4, nS4, nI5, nS5, nI6, nS6, nI7, nS7, nI8, nS8, nI9, nS9, nI15, nS15, nI18, nS18, nI19, nS19, nI20, nS20, nI21, nS21, nI22, nS22, nI23, nS23, nI24, nS24, nI25, nS25, nI26, nS26, nI27, nS27, nI32, nS32, nI36, nS36, nI37, nS37, nI40, nS40, nSZ1, nV, nC, ↓reduceIte, tr_lt, fa_lt, tr_le, fa_le, tr_eq, fa_eq, and_true, true_and, and_false, false_and, il0, il1, il2, il3, il4, il5, il6, il7, il8, il9, il10, il11, il12, il15, il16, il20, il24, il31, il32, il44, il45, il48, il50, il57, il58, il59, il63, il91, il93, il97, il99, il100, il109, il113, il119, il120, il122, il200, il255, il480, il500, il501, il512, il999, il4112, il41120, il1000000, il1000003, ii_add, ii_sub, ii_mul, ii_neg, ii_le, ii_lt, ii_eq, ii_div, q_I, q_V, q_R, lt_q, rZ_q, md_M, md_16, md_4, md_8, md_10, if_true, if_false, if_pos, if_neg, mg_3, mg_0, mg_1, mg_2, mg_k, mg_up3, mg_upk, x1, x2]
    · rw [up_n _ _ _ _ _ _ (by omega), up_n _ _ _ _ _ _ (by omega), up_n _ _ _ _ _ _ (by omega)]
      omega
  · refine ⟨A3, M3, g, c_56E hRd m L vc a4 (by omega) (by omega), ?_, r3, f2.fl.trans f3.fl, k2.fp.trans k3.fp, fun y => absurd y o3⟩
    rw [fX7_kindLine_54, il0, il3, il99, nV, m_ifN, nC, q_V, nV, g2, nC, q_V, nV, b4, nC, q_I, nI26, mg_0, if_neg (by rw [ii_eq _ _ (by omega)]; exact o3)]
theorem p_kind (K : Nat × Nat) (J : JI) (hRd : isReader c 1) (hS : isState c 338) (hPl : isPlan c sp) (hsp : sp = 377 ∨ sp = 381) (h : RT A M n) (h0 : M 0 26 = 0) (h24 : M 0 24 = 1) (hL : LdS A J M g sp) (hT : TD A M g) (m : Int) (hm : 0 ≤ m ∧ m ≤ 1) : LdP K c A J M n sp (fX2_readKind 1 (ii m) sp 338 (CW c A J)) (fX7_kindLine 0 (ii m) (NW K (mg M g))) := by
  have hn9 := hL.1.1.2.2.2.2.2.2.2
  have x7 : A sp 7 = M 0 9 := hL.2.1.1.2.2.2.2.2.2.2
  have hbd := h.2.2.1.2.2.1
  by_cases q9 : M 0 9 = 10
  · have e3 : A 1 3 = 0 := by have := h.2.2.1; omega
    obtain ⟨z3, z4, z5, z6⟩ := RT_fail h h0 4 (A 1 7) (by omega) (h.2.2.2.2.2 h0).1.2
    have hf := c_fail (J := J) hRd 4 (A 1 7) e3
    refine ⟨flA A 4 (A 1 7), flM M 4, g, ?_, ?_, z3, z4.fl, z5.fp, fun q => by omega⟩
    · rw [fX2_readKind, plI7 hPl, x7, il10, il4, if_neg (by rw [ii_lt _ _ (by omega)]; omega), rdI7 hRd, rdV hRd, hf, k_C, q_V]
    · rw [fX7_kindLine, nI9, mg_0, q9, il10, if_pos rfl, il1]
      have b24 := z3.2.2.2.2.1.2.2
      exact m_15E m 1 1 (m_if 4 (m_fails 4 h0)) (m_goesN (by omega) (by omega)) (m_lookE 1 99 (by omega) (by omega) (by omega) b24.1 b24.2) (by omega) (by omega) b24.1 b24.2
  · have hr := (h.2.2.2.2.2 h0).2 (by omega)
    obtain ⟨A1, M1, a1, b1, r1, f1, k1, o1, p1⟩ := p_adv (c := c) K J hRd h h0 hr.1.1
    have hlt := hr.1.2
    have hL1 := hL.fr hsp f1 k1
    have hT1 := hT.fr f1 k1
    have e9 : M1 0 9 = M 0 9 := k1.1 9 (by omega)
    have g1 := m_goes (K := K) (g := g) h0 (b1 g)
    have hk15 : fX7_kindLine 0 (ii m) (NW K (mg M g)) = fX7_kindLine_15 0 (ii m) 0 (ii 0) (NW K (mg M g)) := by
      rw [fX7_kindLine, nI9, mg_0, il10, if_neg (by rw [ii_eq _ _ (by omega)]; exact q9), il0]
    have hKR : fX2_readKind 1 (ii m) sp 338 (CW c A J) = KR c J sp m A1 := by
      rw [fX2_readKind, plI7 hPl, x7, il10, if_pos (by rw [ii_lt _ _ (by omega)]; omega), rdV hRd, a1, k_C, q_V, rdI7 hRd, rdV hRd, il1, il3, il99, ii_neg]
      rfl
    rw [hk15, hKR]
    refine LdP.pre f1.fl k1.fp (by omega) ?_
    rcases p_look (c := c) K J g hRd r1 1 99 (by omega) with ⟨A2, M2, a2, b2, r2, f2, k2, o2⟩ | ⟨-, L, hLb, b2, r7, -, -, A2, M2, a2, b3, r2, f2, k2, o2, p2⟩
    · exact p_kindA hRd hPl hsp m hm g1 hL1 a2 b2 r2 f2 k2 o2
    · obtain ⟨w, w1, -, w3, -⟩ := find2 (c := c) (K := K) hPl (hL1.fr hsp f2 k2) m L hm (by omega)
      obtain ⟨w', w1', w2, w3', w4⟩ := find2 (c := c) (K := K) hPl hL1 m L hm (by omega)
      have hww : w = w' := by
        have hn1 := hL1.1.1.2.2.2.2.2.2.2
        have hL2 := hL1.fr hsp f2 k2
        have m1e : M2 1 = M1 1 := funext fun z => k2.2 1 z (by omega)
        have m2e : M2 2 = M1 2 := funext fun z => k2.2 2 z (by omega)
        have e92 : M2 0 9 = M1 0 9 := k2.1 9 (by omega)
        have x1 := c_find (c := c) (A := A2) (J := J) hPl (M2 0 9) m L (M2 1) (M2 2) (by omega) hL2.2.1.1.2.2.2.2.2.2.2 (fun k a b => ⟨hL2.2.1.2.1 k a b, hL2.1.2.1 k a (by omega), hL2.1.2.2.1 k a (by omega)⟩) hm (by omega)
        have x2 := e_ofLength (K := K) (A := M1) (g := g) hL1.1 m L hm (by omega)
        have b1 := fdN_b (M1 1) (M1 2) m L (M1 0 9).toNat 0 (by omega)
        rw [m1e, m2e, e92] at x1
        rw [w1] at x1
        rw [w2] at x2
        injection x1 with x1; injection x1 with x1; injection x1 with x1; injection x1 with x1; injection x1 with x1
        injection x2 with x2; injection x2 with x2; injection x2 with x2; injection x2 with x2; injection x2 with x2
        have y1 : w = fdN (M1 1) (M1 2) m L 0 (M1 0 9).toNat := by
          have := x1
          rw [ii_eq _ _ (by omega)] at this
          exact this
        have y2 : w' = fdN (M1 1) (M1 2) m L 0 (M1 0 9).toNat := by
          have := x2
          rw [ii_eq _ _ (by omega)] at this
          exact this
        omega
      rw [m_15G m 0 L w' w3' (m_ifN 4) g1 b2 o1 w2]
      by_cases q : w' = -1
      · rw [if_pos q]
        exact p_kindB hRd hS hPl hsp m L hm hLb (by omega) (w4 q) hL1 hT1 o1 a2 (by rw [w1, hww, q]) (b3 g) r2 f2 k2 o2 p2
      · rw [if_neg q]
        exact p_kindD hRd hPl m L w ⟨by omega, w3⟩ r1 o1 a2 w1 r2 f2 k2 o2
end KLP
