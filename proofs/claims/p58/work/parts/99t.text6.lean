/-! THE READER: a whole text, on both sides -/
section TXT
variable {K : Nat × Nat} {c : CC} {A A' : AI} {J : JI} {M M' : AI} {g g' : Int → Int} {n : Int} {sp : Nat}
def RTo (A M : AI) (n : Int) : Prop := RT A M n
theorem rwZ_u (u : Int) : rwZ (gu (gz g) 0 u) := fun r a b => by
  rw [cel_gu _ _ _ _ _ (by omega), cel_gu _ _ _ _ _ (by omega), cel_gu _ _ _ _ _ (by omega), cel_gu _ _ _ _ _ (by omega), cel_gu _ _ _ _ _ (by omega), cel_gz g r 0 (by omega), cel_gz g r 1 (by omega), cel_gz g r 2 (by omega), cel_gz g r 3 (by omega), cel_gz g r 4 (by omega)]
  exact ⟨rfl, rfl, rfl, rfl, rfl⟩
theorem rwZ_z : rwZ (gz g) := fun r a b => by
  rw [cel_gz g r 0 (by omega), cel_gz g r 1 (by omega), cel_gz g r 2 (by omega), cel_gz g r 3 (by omega), cel_gz g r 4 (by omega)]
  exact ⟨rfl, rfl, rfl, rfl, rfl⟩
/-- what stands once the head was read without an error -/
theorem LdS.head (hsp : sp = 377 ∨ sp = 381) (u : Int) (hu : 0 ≤ u ∧ u ≤ 20) (hS : SR A J 338 (M 2) (gz g) 0) (hK : HK A' M' sp 7) (h9 : M' 0 9 = 0) (h7 : A' sp 7 = 0) (m1 : M' 1 = M 1) (m2 : M' 2 = M 2) (hb : ∀ k, 0 ≤ k → k < 10 → (0 ≤ M 1 k ∧ M 1 k ≤ 1) ∧ 0 ≤ M 2 k ∧ M 2 k ≤ 99) (hA : ∀ (b : Nat) (z : Int), inS 338 b → ¬ (b = 338 ∧ z = 2) → A' b z = A b z) (h2 : A' 338 2 = u) : LdS A' J M' (gu (gz g) 0 u) sp := by
  have hSA := SA_h hK h9 (by rw [m1, m2]; exact hb)
  refine ⟨hSA, PR_h hK h9 h7, ?_, GC_z hSA h9 (rwZ_u u) (fun z a b => by rw [gu_n _ _ _ _ (by omega)]; exact lo_gz g z (by omega)) (by rw [gu_s]; exact hu), fun r a b => (rwZ_u u r a b).2.1, by rw [gu_n _ _ _ _ (by omega)]; exact lo_gz g 5 (by omega)⟩
  rw [m2]
  exact SR_q hS (GR_z rwZ_z) u hA h2
theorem p_rd1 (K : Nat × Nat) (J : JI) (g : Int → Int) (hRd : isReader c 1) (x L : Int) (h2 : A 1 2 = L) (hL : 0 ≤ x ∧ x ≤ L ∧ L ≤ 500) (hby : ∀ k, 0 ≤ k → k < x → A (1 + 1) k = M 7 k ∧ 0 ≤ M 7 k ∧ M 7 k ≤ 255) :
    ∃ (A2 M1 M2 : AI), fX2_startText 1 (ii x) (CW c A J) = some (Sum.inl none, CW c A2 J) ∧ M1 = up (up (up (up (up (up M 0 21 x) 0 22 0) 0 26 0) 0 27 (-1)) 0 9 0) 0 32 0 ∧ (∀ g, fX7_token 0 (NW K (mg M1 g)) = some (Sum.inl none, NW K (mg M2 g))) ∧ RTo A2 M2 x ∧ (∀ (b : Nat) (z : Int), b ≠ 1 → b ≠ 1 + 2 → A2 b z = A b z) ∧ A2 1 2 = 0 ∧ (∀ k, 0 ≤ k → k < 8 → A2 (1 + 2) k = 0) ∧ (M2 0 9 = 0 ∧ M2 0 32 = 0) ∧ (∀ z, ¬ (21 ≤ z ∧ z ≤ 27) → z ≠ 9 → z ≠ 32 → M2 0 z = M 0 z) ∧ ∀ b : Nat, 0 < b → M2 b = M b := by
  obtain ⟨A1, a1, ⟨a5, a2, a3, a4, a8⟩, a9, a10⟩ := c_start (c := c) (J := J) hRd x L h2 hL
  obtain ⟨M1, hM1⟩ : ∃ N : AI, N = up (up (up (up (up (up M 0 21 x) 0 22 0) 0 26 0) 0 27 (-1)) 0 9 0) 0 32 0 := ⟨_, rfl⟩
  have m21 : M1 0 21 = x := by rw [hM1]; simp (disch := first | assumption | omega) only [up_s, up_n]
  have m22 : M1 0 22 = 0 := by rw [hM1]; simp (disch := first | assumption | omega) only [up_s, up_n]
  have m26 : M1 0 26 = 0 := by rw [hM1]; simp (disch := first | assumption | omega) only [up_s, up_n]
  have m27 : M1 0 27 = -1 := by rw [hM1]; simp (disch := first | assumption | omega) only [up_s, up_n]
  have m9 : M1 0 9 = 0 := by rw [hM1]; simp (disch := first | assumption | omega) only [up_s, up_n]
  have m32 : M1 0 32 = 0 := by rw [hM1]; simp (disch := first | assumption | omega) only [up_s, up_n]
  have mf : ∀ z, ¬ (21 ≤ z ∧ z ≤ 27) → z ≠ 9 → z ≠ 32 → M1 0 z = M 0 z := fun z p t u => by
    rw [hM1]
    simp (disch := first | assumption | omega) only [up_n]
  have mb : ∀ b : Nat, 0 < b → M1 b = M b := fun b q => funext fun z => by
    rw [hM1]
    simp (disch := first | assumption | omega) only [up_n]
  obtain ⟨A2, M2, e1, e2, r2, f2, k2, o2, -⟩ := p_adv0 (c := c) (A := A1) (M := M1) (n := x) K J hRd ⟨⟨⟨a5, m21⟩, by omega⟩, fun k a b => by rw [a10 (1 + 1) k (by omega) (by omega), mb 7 (by omega)]; exact hby k a b, ⟨by rw [a3, m26], by rw [a4, m27], by omega, fun _ => m27⟩, by omega⟩ m26 (by rw [a8, m22])
  replace r2 : RTo A2 M2 x := r2
  refine ⟨A2, M1, M2, by rw [a1, fX2_startText_53, rdV hRd, e1, k_C, q_V], hM1, e2, r2, fun b z p q => by rw [f2 b z (by omega), a10 b z p q], by rw [f2 1 2 (by decide)]; exact a2, fun k a b => by rw [f2 (1 + 2) k (by omega)]; exact a9 k a b, ⟨by rw [k2.1 9 (by decide)]; exact m9, by rw [k2.1 32 (by decide)]; exact m32⟩, fun z p q r => by rw [k2.1 z (by omega)]; exact mf z p q r, fun b q => funext fun z => by rw [k2.2 b z q, mb b q]⟩
theorem p_rd2 (K : Nat × Nat) (J : JI) (g : Int → Int) (hRd : isReader c 1) (hS : isState c 338) (hPl : isPlan c sp) (hsp : sp = 377 ∨ sp = 381) (x : Int) (M0 : AI) (h : RTo A M x) (hA : ∀ k, 0 ≤ k → k < 8 → A (1 + 2) k = 0) (hM : M 0 9 = 0 ∧ M 0 32 = 0) (hb : ∀ b : Nat, 0 < b → M b = M0 b) (hMb : ∀ k, 0 ≤ k → k < 10 → (0 ≤ M0 1 k ∧ M0 1 k ≤ 1) ∧ 0 ≤ M0 2 k ∧ M0 2 k ≤ 99) :
    ∃ (A4 A5 M5 : AI) (u : Int), fX5_clear 338 (CW c (up A sp 7 0) J) = some (Sum.inl none, CW c A4 J) ∧ fX2_readHead 1 sp 338 (CW c A4 J) = some (Sum.inl none, CW c A5 J) ∧
    cV (NW K (mg M (gz g))) 0 11 (fX7_word 0 1000034 (NW K (mg M (gz g)))) (qV (fun s7 => cV s7 0 11 (fX7_takes 0 10 500 s7) (qI (fun v8 s9 => sI s9 0 11 2 v8 (fun s10 => cV s10 0 11 (fX7_takes 0 1 8 s10) (qI (fun v11 s12 => sI s12 0 11 3 v11 (fun s13 => cV s13 0 11 (fX7_takes 0 1 50 s13) (qI (fun v14 s15 => sI s15 0 11 4 v14 (fun s16 => cV s16 0 11 (fX7_takes 0 0 20 s16) (qI (fun v17 s18 => sI s18 0 11 5 v17 (fun s19 => gR s19 0 11 12 (fun q20 => cV s19 0 11 (fX7_takes 0 0 20 s19) (qI (fun v21 s22 => uI s22 q20 0 v21 (fun s23 => gI s23 0 11 26 (fun v24 => if v24 = 0 then (gI s23 0 11 24 (fun v25 => if v25 = (3 : Int32) then (fX7_reads_113 0 0 s23) else (fX7_reads_114 0 0 1 s23))) else (fX7_reads_113 0 0 s23)))))))))))))))))))) = fX7_reads_162 FU 0 (NW K (mg M5 (gu (gz g) 0 u))) ∧
    RTo A5 M5 x ∧ (∀ (b : Nat) (z : Int), (b ≠ 1 ∨ z = 2) → (b < sp ∨ sp + 4 ≤ b) → ¬ inS 338 b → A5 b z = A b z) ∧ (∀ z, ¬ (2 ≤ z ∧ z ≤ 8) → ¬ (22 ≤ z ∧ z ≤ 27) → M5 0 z = M 0 z) ∧ (∀ b : Nat, 0 < b → M5 b = M b) ∧ (M5 0 26 = 0 → (LdS A5 J M5 (gu (gz g) 0 u) sp ∧ TD A5 M5 (gu (gz g) 0 u)) ∧ 0 ≤ M5 0 23) := by
  obtain ⟨A4, e4, s4, f4⟩ := s_clear (c := c) (A := up A sp 7 0) (J := J) (len := M0 2) (g := gz g) hS (fun z a b => lo_gz g z ⟨a, b⟩) rwZ_z
  have n338 : ∀ b : Nat, (b < 338 ∨ 373 ≤ b) → ¬ inS 338 b := fun b hb x => by unfold inS at x; omega
  have hs1 : ¬ inS 338 sp := n338 sp (by omega)
  have f42 : ∀ (b : Nat) (z : Int), ¬ inS 338 b → ¬ (b = sp ∧ z = 7) → A4 b z = A b z := fun b z p q => by
    rw [f4.1 b z p, up_n _ _ _ _ _ _ q]
  have rT : RTo A4 M x := RT.fr h (fun b z y => f42 b z (n338 b (by omega)) (by omega)) (fun _ _ _ => rfl) rfl
  obtain ⟨A5, M5, u, e5, e6, r5, f5, k5, i5⟩ := p_head (c := c) (A := A4) (M := M) K J (gz g) hRd hS hPl hsp rT
  have r23 : 0 ≤ M5 0 23 := r5.2.2.2.2.1.2.1.1
  replace r5 : RTo A5 M5 x := r5
  have h90 : M5 0 9 = 0 := by rw [k5.1 9 (by decide) (by decide)]; exact hM.1
  have h320 : M5 0 32 = 0 := by rw [k5.1 32 (by decide) (by decide)]; exact hM.2
  have x7 : A5 sp 7 = 0 := by rw [f5 sp 7 (by omega) (by omega) (by omega), f4.1 sp 7 hs1, up_s]
  have m5 : ∀ b : Nat, 0 < b → M5 b = M0 b := fun b q => funext fun z => by rw [k5.2 b z q, hb b q]
  refine ⟨A4, A5, M5, u, e4, e5, e6, r5, fun b z p r s => ?_, fun z p q => k5.1 z q p, fun b q => funext fun z => k5.2 b z q, fun q => ?_⟩
  · rw [f5 b z (by omega) (by omega) (fun y => s (by rw [y.1]; unfold inS; omega)), f42 b z s (by omega)]
  · obtain ⟨-, hK, hu2, hub⟩ := i5 q
    refine ⟨⟨LdS.head hsp u hub s4 hK h90 x7 (m5 1 (by decide)) (m5 2 (by decide)) hMb (fun b z y1 y2 => f5 b z (by unfold inS at y1; omega) (by unfold inS at y1; omega) y2) hu2, by omega, fun r a b => ⟨?_, fun _ => (rwZ_u u r a b).1⟩⟩, r23⟩
    rw [h320, f5 (1 + 2) r (by omega) (by omega) (by omega), f42 (1 + 2) r (n338 _ (by omega)) (by omega), hA r a b, Int.zero_ediv]
    rfl
theorem p_reads (K : Nat × Nat) (J : JI) (g : Int → Int) (hRd : isReader c 1) (hS : isState c 338) (hPl : isPlan c sp) (hsp : sp = 377 ∨ sp = 381) (x L : Int) (h2 : A 1 2 = L) (hL : 0 ≤ x ∧ x ≤ L ∧ L ≤ 500) (hby : ∀ k, 0 ≤ k → k < x → A (1 + 1) k = M 7 k ∧ 0 ≤ M 7 k ∧ M 7 k ≤ 255) (hMb : ∀ k, 0 ≤ k → k < 10 → (0 ≤ M 1 k ∧ M 1 k ≤ 1) ∧ 0 ≤ M 2 k ∧ M 2 k ≤ 99) :
    ∃ (A' M' : AI) (g' : Int → Int), fX2_readText 1 (ii x) sp 338 (CW c A J) = some (Sum.inl (some (Value.int (ii (if M' 0 26 = 0 then 1 else 0)))), CW c A' J) ∧ fX7_reads 0 (ii x) (NW K (mg M g)) = some (Sum.inl none, NW K (mg M' g')) ∧ RTo A' M' x ∧ (∀ (b : Nat) (z : Int), b ≠ 1 → b ≠ 1 + 2 → (b < sp ∨ sp + 4 ≤ b) → ¬ inS 338 b → A' b z = A b z) ∧ A' 1 2 = 0 ∧ FP M M' ∧ (M' 0 26 = 0 → LdS A' J M' g' sp) := by
  obtain ⟨A2, M1, M2, hst, hM1, e2, r2, f2, a2, a3, m2, n2, b2⟩ := p_rd1 (c := c) K J g hRd x L h2 hL hby
  obtain ⟨A4, A5, M5, u, e4, e5, e6, r5, f5, n5, b5, hh⟩ := p_rd2 (c := c) K J g hRd hS hPl hsp x M r2 a3 m2 b2 hMb
  obtain ⟨A', M', g', e7, e8, r8, f8, k8, i8⟩ := p_lines K J x hRd hS hPl hsp 500 FU FU 0 A5 M5 (gu (gz g) 0 u) (by have := FU_e; omega) (by have := FU_e; omega) (by decide) (by decide) r5 hh
  replace r8 : RTo A' M' x := r8
  refine ⟨A', M', g', ?_, ?_, r8, fun b z p q r s => ?_, ?_, ?_, i8⟩
  · rw [fX2_readText, rdV hRd, hst, k_C, q_V, il0, plS7 hPl, stV hS, e4, k_C, q_V, rdV hRd, e5, k_C, q_V, e7]
  · have z22 : ∀ (N : AI) (k : AS → Option AR), sI (NW K N) 0 11 22 0 k = k (NW K (up N 0 22 0)) := fun N k => by rw [il0]; exact nS22 N 0 k
    have z26 : ∀ (N : AI) (k : AS → Option AR), sI (NW K N) 0 11 26 0 k = k (NW K (up N 0 26 0)) := fun N k => by rw [il0]; exact nS26 N 0 k
    have z27 : ∀ (N : AI) (k : AS → Option AR), sI (NW K N) 0 11 27 (-1) k = k (NW K (up N 0 27 (-1))) := fun N k => by rw [show (-1 : Int32) = ii (-1) by decide]; exact nS27 N (-1) k
    rw [fX7_reads, nS21, mg_upk _ _ _ _ _ (by decide), z22, mg_upk _ _ _ _ _ (by decide), z26, mg_upk _ _ _ _ _ (by decide), z27, mg_upk _ _ _ _ _ (by decide), nV, m_clears, nC, q_V, ← hM1, nV, e2 (gz g), nC, q_V]
    exact e6.trans e8
  · rw [f8 b z (fun y => p y.1) q r s, f5 b z (Or.inl p) r s, f2 b z p q]
  · rw [f8 1 2 (by decide) (by decide) (Or.inl (by omega)) (by unfold inS; decide), f5 1 2 (Or.inr rfl) (Or.inl (by omega)) (by unfold inS; decide)]
    exact a2
  · refine FP.trans (M1 := M5) ⟨fun z p q r => ?_, fun b z p q => by rw [b5 b p, b2 b p]⟩ k8
    rw [n5 z (by omega) (by omega), n2 z q (by omega) r]
end TXT
