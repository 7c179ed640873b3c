/-! THE LAW'S WORLD: its order; all of it -/
section WI5
variable {c c' c2 : CC} {A A' A2 : AI} {J J' J2 : JI} {M : AI} {g g0 o : Int → Int} {w d tvb capb NC NS tvb' capb' : Nat} {p p' : TP} {q qf nr : Int} {sc : Nat × (Nat → Int32)} {s : Int → Int} {qn : Int}
/-- no kind twice -/
abbrev DsM (M : AI) : Prop := ∀ j k, 0 ≤ j → j < k → k < M 0 9 → ¬ (M 1 j = M 1 k ∧ M 2 j = M 2 k)
theorem Pth.ds : ∀ {ls : List Ln} {s s' : CT}, Pth s ls s' → DsM s.1 → DsM s'.1
  | [], s, s', h, k => by
    have h : s' = s := h
    rw [h]
    exact k
  | l :: ls, s, s', h, k => by
    obtain ⟨s1, h1, h2⟩ := h
    refine h2.ds ?_
    rcases h1 with ⟨-, -, -, e, -⟩ | ⟨-, v, -, -, -, hno, e⟩
    · rw [e]
      exact k
    · rw [e]
      intro j i a b x
      replace x : i < kM s.1 l.1 l.2.1 0 9 := x
      rw [kM_9] at x
      show ¬ (kM s.1 l.1 l.2.1 1 j = kM s.1 l.1 l.2.1 1 i ∧ kM s.1 l.1 l.2.1 2 j = kM s.1 l.1 l.2.1 2 i)
      rw [show kM s.1 l.1 l.2.1 1 j = s.1 1 j from (kM_1 _ _ _ _).trans (if_neg (by omega)), show kM s.1 l.1 l.2.1 2 j = s.1 2 j from (kM_2 _ _ _ _).trans (if_neg (by omega)), kM_1, kM_2]
      by_cases y : i = s.1 0 9
      · rw [if_pos y, if_pos y]
        exact hno j a (by omega)
      · rw [if_neg y, if_neg y]
        exact k j i a b (by omega)
theorem sm_le (f : Int → Int) (n : Int) (hn : 0 ≤ n) (hf : ∀ k, 0 ≤ k → k < n → 0 ≤ f k ∧ f k ≤ 1) : 0 ≤ sm f n ∧ sm f n ≤ n := sm_ind f (fun k s => 0 ≤ s ∧ s ≤ k) ⟨Int.le_refl 0, Int.le_refl 0⟩ n (fun k s a b h => by have := hf k a b; omega) hn
/-- how many are longer -/
def cgt (M : AI) (L : Int) : Int := sm (fun o => if L < M 2 o then 1 else 0) (M 0 9)
def ceq (M : AI) (m L : Int) : Int := sm (fun o => if M 1 o = m ∧ M 2 o = L then 1 else 0) (M 0 9)
theorem cgt_s (hM : SA M) (L : Int) : cgt M (L - 1) = cgt M L + ceq M 1 L + ceq M 0 L := by
  have h90 := hM.1.2.2.2.2.2.2.2
  unfold cgt ceq
  rw [← sm_add, ← sm_add]
  refine sm_c _ _ _ (fun k a b => ?_)
  have hm := hM.2.1 k a (by omega)
  by_cases x : L < M 2 k
  · rw [if_pos (by omega), if_pos x, if_neg (by omega), if_neg (by omega)]
    rfl
  · rw [if_neg x]
    by_cases y : M 2 k = L
    · rw [if_pos (by omega)]
      by_cases z : M 1 k = 1
      · rw [if_pos ⟨z, y⟩, if_neg (by omega)]
        rfl
      · rw [if_neg (by omega), if_pos ⟨by omega, y⟩]
        rfl
    · rw [if_neg (by omega), if_neg (by omega), if_neg (by omega)]
      rfl
theorem ceq_1 (hD : DsM M) (m L k : Int) (hk : 0 ≤ k ∧ k < M 0 9) (e : M 1 k = m ∧ M 2 k = L) : ceq M m L = 1 := by
  unfold ceq
  rw [sm_c _ (fun q => if q = k then 1 else 0) _ (fun q a b => ?_)]
  · exact sm_1 k (M 0 9) hk
  · by_cases y : q = k
    · rw [if_pos (by rw [y]; exact e), if_pos y]
    · rw [if_neg y, if_neg (fun z => ?_)]
      rcases Int.lt_or_gt_of_ne y with x | x
      · exact hD q k a x hk.2 ⟨z.1.trans e.1.symm, z.2.trans e.2.symm⟩
      · exact hD k q hk.1 x b ⟨e.1.trans z.1.symm, e.2.trans z.2.symm⟩
theorem ceq_0 (m L : Int) (h : ∀ j, 0 ≤ j → j < M 0 9 → ¬ (M 1 j = m ∧ M 2 j = L)) : ceq M m L = 0 := sm_z _ _ (fun k a b => if_neg (h k a b))
theorem rk_1 (hM : SA M) (L k : Int) (hk : 0 ≤ k ∧ k < M 0 9) (e : M 1 k = 1 ∧ M 2 k = L) : rk (M 1) (M 2) (M 0 9) k = cgt M L := by
  unfold rk cgt
  refine sm_c _ _ _ (fun q a b => ?_)
  by_cases x : L < M 2 q
  · rw [if_pos x, if_pos ⟨fun y => by rw [y] at x; omega, Or.inl (by omega)⟩]
  · rw [if_neg x, if_neg (fun z => ?_)]
    rcases z.2 with y | y <;> omega
theorem rk_0 (hM : SA M) (L k : Int) (hk : 0 ≤ k ∧ k < M 0 9) (e : M 1 k = 0 ∧ M 2 k = L) : rk (M 1) (M 2) (M 0 9) k = cgt M L + ceq M 1 L := by
  have h90 := hM.1.2.2.2.2.2.2.2
  unfold rk cgt ceq
  rw [← sm_add]
  refine sm_c _ _ _ (fun q a b => ?_)
  have hm := hM.2.1 q a (by omega)
  by_cases x : L < M 2 q
  · have e1 : (if q ≠ k ∧ ahd (M 1) (M 2) q k then (1 : Int) else 0) = 1 := if_pos ⟨fun y => by rw [y] at x; omega, Or.inl (by omega)⟩
    have e2 : (if L < M 2 q then (1 : Int) else 0) = 1 := if_pos x
    have e3 : (if M 1 q = 1 ∧ M 2 q = L then (1 : Int) else 0) = 0 := if_neg (by omega)
    rw [e1, e2, e3]
    rfl
  · have e2 : (if L < M 2 q then (1 : Int) else 0) = 0 := if_neg x
    by_cases y : M 1 q = 1 ∧ M 2 q = L
    · have e1 : (if q ≠ k ∧ ahd (M 1) (M 2) q k then (1 : Int) else 0) = 1 := if_pos ⟨fun z => by rw [z] at y; omega, Or.inr ⟨by omega, by omega, e.1⟩⟩
      have e3 : (if M 1 q = 1 ∧ M 2 q = L then (1 : Int) else 0) = 1 := if_pos y
      rw [e1, e2, e3]
      rfl
    · have e1 : (if q ≠ k ∧ ahd (M 1) (M 2) q k then (1 : Int) else 0) = 0 := if_neg (fun z => by rcases z.2 with u | u <;> omega)
      have e3 : (if M 1 q = 1 ∧ M 2 q = L then (1 : Int) else 0) = 0 := if_neg y
      rw [e1, e2, e3]
      rfl
theorem w_sorts (hW : isWorld c w) (hM : SA M) (h4 : M 0 9 ≤ 4) (hD : DsM M) (h14 : A w 14 = M 0 9) (hk : ∀ k, 0 ≤ k → k < M 0 9 → A (w + 4) k = M 2 k ∧ A (w + 8) k = M 1 k) : ∃ A', fX19_sorts w (CW c A J) = some (Sum.inl none, CW c A' J) ∧ (∀ k, 0 ≤ k → k < M 0 9 → A' (w + 6) (rk (M 1) (M 2) (M 0 9) k) = k) ∧ ∀ (b : Nat) (z : Int), b ≠ w + 6 → A' b z = A b z := by
  have h90 := hM.1.2.2.2.2.2.2.2
  have cb := fun L : Int => sm_le (fun o => if L < M 2 o then 1 else 0) (M 0 9) h90.1 (fun k _ _ => by split <;> omega)
  have hkd : ∀ (D : AI), (∀ (b : Nat) (z : Int), b ≠ w + 6 → D b z = A b z) → ∀ (m L : Int), (0 ≤ m ∧ m ≤ 1) → (0 ≤ L ∧ L ≤ 99) → ∀ K : Int32 → AS → Option AR, cV (CW c D J) w 13 (fX19_kind w (ii m) (ii L) (CW c D J)) (qI K) = K (ii (fdN (M 1) (M 2) m L 0 (M 0 9).toNat)) (CW c D J) := fun D hF m L hm hL K => by
    have ek := n_kind (A := D) (J := J) hW m L (n := M 0 9) (met := M 1) (len := M 2) ⟨h90.1, h4⟩ ((hF _ _ (by omega)).trans h14) (fun k a b => ⟨⟨by rw [hF _ _ (by omega)]; exact (hk k a b).2, by rw [hF _ _ (by omega)]; exact (hk k a b).1⟩, hM.2.1 k a (by omega), hM.2.2.1 k a (by omega)⟩) hm (by omega)
    rw [wdV hW, ek, k_C, q_I]
  rw [fX19_sorts, show (0 : Int32) = ii (cgt M 99) from ?_, show (99 : Int32) = ii 99 from rfl]
  · refine lpd (fun f L (S : AI × Int) => fX19_sorts_5 f w (ii S.2) (ii L) (CW c S.1 J)) (fun x => ∃ A', x = some (Sum.inl none, CW c A' J) ∧ (∀ k, 0 ≤ k → k < M 0 9 → A' (w + 6) (rk (M 1) (M 2) (M 0 9) k) = k) ∧ ∀ (b : Nat) (z : Int), b ≠ w + 6 → A' b z = A b z)
      (fun L S => (0 ≤ L ∧ L ≤ 99) ∧ S.2 = cgt M L ∧ (∀ k, 0 ≤ k → k < M 0 9 → L < M 2 k → S.1 (w + 6) (rk (M 1) (M 2) (M 0 9) k) = k) ∧ ∀ (b : Nat) (z : Int), b ≠ w + 6 → S.1 b z = A b z) 0 ?_ ?_ FU 99 (A, cgt M 99) (by omega) ⟨by omega, rfl, fun k a b x => by have := hM.2.2.1 k a (by omega); omega, fun _ _ _ => rfl⟩ (by have := FU_e; omega)
    · rintro f L ⟨D, n⟩ hi ⟨hL, hn, hr, hF⟩
      dsimp only at hn hr hF ⊢
      have hcs := cgt_s hM L
      have c1 := cb L
      have c2 := cb (L - 1)
      have e1 := fun (E : AI) (hE : ∀ (b : Nat) (z : Int), b ≠ w + 6 → E b z = A b z) => hkd E hE 1 L (by omega) hL
      have e0 := fun (E : AI) (hE : ∀ (b : Nat) (z : Int), b ≠ w + 6 → E b z = A b z) => hkd E hE 0 L (by omega) hL
      have c1' : 0 ≤ cgt M L ∧ cgt M L ≤ M 0 9 := c1
      have c2' : 0 ≤ cgt M (L - 1) ∧ cgt M (L - 1) ≤ M 0 9 := c2
      have z0 : 0 ≤ ceq M 0 L := (sm_le (fun o => if M 1 o = 0 ∧ M 2 o = L then 1 else 0) (M 0 9) h90.1 (fun k _ _ => by split <;> omega)).1
      have z1 : 0 ≤ ceq M 1 L := (sm_le (fun o => if M 1 o = 1 ∧ M 2 o = L then 1 else 0) (M 0 9) h90.1 (fun k _ _ => by split <;> omega)).1
      have t1 : ∀ (E : AI) (K : Int32 → AS → Option AR), cV (CW c E J) w 13 (fX19_kind w 1 (ii L) (CW c E J)) (qI K) = cV (CW c E J) w 13 (fX19_kind w (ii 1) (ii L) (CW c E J)) (qI K) := fun _ _ => rfl
      have t0 : ∀ (E : AI) (K : Int32 → AS → Option AR), cV (CW c E J) w 13 (fX19_kind w 0 (ii L) (CW c E J)) (qI K) = cV (CW c E J) w 13 (fX19_kind w (ii 0) (ii L) (CW c E J)) (qI K) := fun _ _ => rfl
      have h33 : ∀ (E : AI), (∀ (b : Nat) (z : Int), b ≠ w + 6 → E b z = A b z) → (∀ k, 0 ≤ k → k < M 0 9 → (L < M 2 k ∨ M 2 k = L ∧ M 1 k = 1) → E (w + 6) (rk (M 1) (M 2) (M 0 9) k) = k) → ∃ (E' : AI), fX19_sorts_33 (fX19_sorts_5 f) w (ii (cgt M L + ceq M 1 L)) (ii L) (CW c E J) = fX19_sorts_5 f w (ii (cgt M (L - 1))) (ii (L - 1)) (CW c E' J) ∧ (∀ k, 0 ≤ k → k < M 0 9 → L - 1 < M 2 k → E' (w + 6) (rk (M 1) (M 2) (M 0 9) k) = k) ∧ ∀ (b : Nat) (z : Int), b ≠ w + 6 → E' b z = A b z := by
        intro E hE hrE
        rcases fdN_b (M 1) (M 2) 0 L (M 0 9).toNat 0 (by omega) with ⟨y1, y2⟩ | y
        · have q0 : ceq M 0 L = 0 := ceq_0 0 L (fun j a b => y2 j a (by omega))
          refine ⟨E, ?_, fun k a b x => ?_, hE⟩
          · rw [fX19_sorts_33, t0, e0 E hE, y1, if_pos (by decide), fX19_sorts_57, show ((-1) : Int32) = ii (-1) from rfl, ii_add, lt_q, hcs, q0, Int.add_zero]
            rfl
          · refine hrE k a b ?_
            have := y2 k a (by omega)
            have hm := hM.2.1 k a (by omega)
            omega
        · obtain ⟨k1, hk1⟩ : ∃ k1, k1 = fdN (M 1) (M 2) 0 L 0 (M 0 9).toNat := ⟨_, rfl⟩
          have ks := fdN_s (M 1) (M 2) 0 L (M 0 9).toNat 0 (by omega) (by omega)
          rw [← hk1] at ks y
          have kb : 0 ≤ k1 ∧ k1 < M 0 9 := by omega
          have q1 : ceq M 0 L = 1 := ceq_1 hD 0 L k1 kb ks
          have r1 := rk_0 hM L k1 kb ks
          have eU : ∀ (z : Int) (K : AS → Option AR), (0 ≤ z ∧ z < 4) → uI (CW c E J) (w + 6) (ii z) (ii k1) K = K (CW c (up E (w + 6) z k1) J) := fun z K hz => wdU6 hW z k1 K hz
          refine ⟨up E (w + 6) (cgt M L + ceq M 1 L) k1, ?_, fun k a b x => ?_, fun b z x => by rw [up_n _ _ _ _ _ _ (by omega)]; exact hE b z x⟩
          · rw [fX19_sorts_33, t0, e0 E hE, ← hk1, if_neg (by rw [il0, ii_lt _ _ (by omega)]; omega), wdR4 hW, ii_s, lt_q, t0, e0 E hE, ← hk1, eU _ _ (by omega), fX19_sorts_57, show ((-1) : Int32) = ii (-1) from rfl, ii_add, lt_q, hcs, q1]
            rfl
          · by_cases u : k = k1
            · rw [u, r1, up_s]
            · have hm := hM.2.1 k a (by omega)
              have hx : L < M 2 k ∨ M 2 k = L ∧ M 1 k = 1 := by
                by_cases u2 : M 2 k = L
                · refine Or.inr ⟨u2, ?_⟩
                  by_cases u3 : M 1 k = 1
                  · exact u3
                  · have u4 : M 1 k = 0 := by omega
                    rcases Int.lt_or_gt_of_ne u with v | v
                    · exact absurd ⟨u4.trans ks.1.symm, u2.trans ks.2.symm⟩ (hD k k1 a v kb.2)
                    · exact absurd ⟨ks.1.trans u4.symm, ks.2.trans u2.symm⟩ (hD k1 k kb.1 v b)
                · exact Or.inl (by omega)
              have old := hrE k a b hx
              rw [up_n _ _ _ _ _ _ (fun e => ?_)]
              · exact old
              · have rr : rk (M 1) (M 2) (M 0 9) k = rk (M 1) (M 2) (M 0 9) k1 := e.2.trans r1.symm
                rcases hx with hx | ⟨hx1, hx2⟩
                · have : rk (M 1) (M 2) (M 0 9) k < cgt M L + ceq M 1 L := by
                    have c3 := cgt_s hM (M 2 k)
                    have mono : cgt M (M 2 k - 1) ≤ cgt M L := by
                      unfold cgt
                      have hs := sm_ind (fun o => (if L < M 2 o then 1 else 0) - (if M 2 k - 1 < M 2 o then 1 else 0)) (fun _ s => 0 ≤ s) (Int.le_refl 0) (M 0 9) (fun j s _ _ h => by split <;> split <;> omega) h90.1
                      have ha := sm_add (fun o => (if L < M 2 o then 1 else 0) - (if M 2 k - 1 < M 2 o then 1 else 0)) (fun o => if M 2 k - 1 < M 2 o then 1 else 0) (M 0 9)
                      rw [sm_c _ (fun o => if L < M 2 o then 1 else 0) _ (fun j _ _ => by omega)] at ha
                      omega
                    by_cases u3 : M 1 k = 1
                    · have := rk_1 hM (M 2 k) k ⟨a, b⟩ ⟨u3, rfl⟩
                      have q5 := ceq_1 hD 1 (M 2 k) k ⟨a, b⟩ ⟨u3, rfl⟩
                      have z5 : 0 ≤ ceq M 0 (M 2 k) := (sm_le (fun o => if M 1 o = 0 ∧ M 2 o = M 2 k then 1 else 0) (M 0 9) h90.1 (fun k _ _ => by split <;> omega)).1
                      omega
                    · have := rk_0 hM (M 2 k) k ⟨a, b⟩ ⟨by omega, rfl⟩
                      have q5 := ceq_1 hD 0 (M 2 k) k ⟨a, b⟩ ⟨by omega, rfl⟩
                      omega
                  omega
                · have := rk_1 hM L k ⟨a, b⟩ ⟨hx2, hx1⟩
                  have q5 := ceq_1 hD 1 L k ⟨a, b⟩ ⟨hx2, hx1⟩
                  omega
      rcases fdN_b (M 1) (M 2) 1 L (M 0 9).toNat 0 (by omega) with ⟨y1, y2⟩ | y
      · have q0 : ceq M 1 L = 0 := ceq_0 1 L (fun j a b => y2 j a (by omega))
        obtain ⟨E', e, hr', hF'⟩ := h33 D hF (fun k a b x => by
          rcases x with x | x
          · exact hr k a b x
          · exact absurd ⟨x.2, x.1⟩ (y2 k a (by omega)))
        refine Or.inr ⟨(E', cgt M (L - 1)), ⟨by omega, rfl, hr', hF'⟩, ?_⟩
        show fX19_sorts_5 (f + 1) w (ii n) (ii L) (CW c D J) = _
        rw [q0, Int.add_zero] at e
        rw [fX19_sorts_5, if_neg (by rw [il0, ii_le _ _ (by omega)]; omega), t1, e1 D hF, y1, if_pos (by decide), hn, e]
      · obtain ⟨k0, hk0⟩ : ∃ k0, k0 = fdN (M 1) (M 2) 1 L 0 (M 0 9).toNat := ⟨_, rfl⟩
        have ks := fdN_s (M 1) (M 2) 1 L (M 0 9).toNat 0 (by omega) (by omega)
        rw [← hk0] at ks y
        have kb : 0 ≤ k0 ∧ k0 < M 0 9 := by omega
        have q1 : ceq M 1 L = 1 := ceq_1 hD 1 L k0 kb ks
        have r1 := rk_1 hM L k0 kb ks
        have hF2 : ∀ (b : Nat) (z : Int), b ≠ w + 6 → up D (w + 6) (cgt M L) k0 b z = A b z := fun b z x => by rw [up_n _ _ _ _ _ _ (by omega)]; exact hF b z x
        obtain ⟨E', e, hr', hF'⟩ := h33 (up D (w + 6) (cgt M L) k0) hF2 (fun k a b x => by
          by_cases u : k = k0
          · rw [u, r1, up_s]
          · have hx : L < M 2 k := by
              rcases x with x | x
              · exact x
              · rcases Int.lt_or_gt_of_ne u with v | v
                · exact absurd ⟨x.2.trans ks.1.symm, x.1.trans ks.2.symm⟩ (hD k k0 a v kb.2)
                · exact absurd ⟨ks.1.trans x.2.symm, ks.2.trans x.1.symm⟩ (hD k0 k kb.1 v b)
            rw [up_n _ _ _ _ _ _ (fun e => ?_)]
            · exact hr k a b hx
            · have c3 := cgt_s hM (M 2 k)
              have hm := hM.2.1 k a (by omega)
              have mono : cgt M (M 2 k - 1) ≤ cgt M L := by
                unfold cgt
                have hs := sm_ind (fun o => (if L < M 2 o then 1 else 0) - (if M 2 k - 1 < M 2 o then 1 else 0)) (fun _ s => 0 ≤ s) (Int.le_refl 0) (M 0 9) (fun j s _ _ h => by split <;> split <;> omega) h90.1
                have ha := sm_add (fun o => (if L < M 2 o then 1 else 0) - (if M 2 k - 1 < M 2 o then 1 else 0)) (fun o => if M 2 k - 1 < M 2 o then 1 else 0) (M 0 9)
                rw [sm_c _ (fun o => if L < M 2 o then 1 else 0) _ (fun j _ _ => by omega)] at ha
                omega
              have e2 := e.2
              by_cases u3 : M 1 k = 1
              · have := rk_1 hM (M 2 k) k ⟨a, b⟩ ⟨u3, rfl⟩
                have q5 := ceq_1 hD 1 (M 2 k) k ⟨a, b⟩ ⟨u3, rfl⟩
                have z5 : 0 ≤ ceq M 0 (M 2 k) := (sm_le (fun o => if M 1 o = 0 ∧ M 2 o = M 2 k then 1 else 0) (M 0 9) h90.1 (fun k _ _ => by split <;> omega)).1
                omega
              · have := rk_0 hM (M 2 k) k ⟨a, b⟩ ⟨by omega, rfl⟩
                have q5 := ceq_1 hD 0 (M 2 k) k ⟨a, b⟩ ⟨by omega, rfl⟩
                omega)
        have eU : ∀ (z : Int) (K : AS → Option AR), (0 ≤ z ∧ z < 4) → uI (CW c D J) (w + 6) (ii z) (ii k0) K = K (CW c (up D (w + 6) z k0) J) := fun z K hz => wdU6 hW z k0 K hz
        refine Or.inr ⟨(E', cgt M (L - 1)), ⟨by omega, rfl, hr', hF'⟩, ?_⟩
        show fX19_sorts_5 (f + 1) w (ii n) (ii L) (CW c D J) = _
        rw [q1] at e
        rw [fX19_sorts_5, if_neg (by rw [il0, ii_le _ _ (by omega)]; omega), t1, e1 D hF, ← hk0, if_neg (by rw [il0, ii_lt _ _ (by omega)]; omega), wdR4 hW, hn, ii_s, lt_q, t1, e1 D hF, ← hk0, eU _ _ (by omega), e]
    · rintro f ⟨D, n⟩ ⟨hL, hn, hr, hF⟩
      dsimp only at hn hr hF ⊢
      refine ⟨D, ?_, fun k a b => hr k a b (by have := hM.2.2.2 k a b; omega), hF⟩
      rw [fX19_sorts_5, if_pos (show ii 0 ≤ (0 : Int32) from by decide)]
  · have : cgt M 99 = 0 := sm_z _ _ (fun k a b => if_neg (by have := hM.2.2.1 k a (by omega); omega))
    rw [this]
    rfl
end WI5
