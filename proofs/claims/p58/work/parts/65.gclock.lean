/-! A CONTENT IN BOUNDS: locks -/
section GCL
variable {M : AI} {g o : Int → Int} {B : Int} {r : Int}
theorem stM_n (h37 : M 0 37 = -1) (k : Int) (hk : 0 ≤ k) : stM M g k = g (6 + k) := by
  unfold stM
  rw [h37, if_neg (by omega)]
  omega
theorem tk_le {n : Int} {o len st : Int → Int} {s : Int} (hk : kindsOK n o len st) (hs : 0 ≤ s) (hF : FW n o len st 0 s < 1000000) (p : Int) (hp : 0 ≤ p ∧ p ≤ n) : sm (tk n o len st s) p ≤ s := by
  obtain ⟨h1, h2, h3⟩ := tk_sum hk hs hF p.toNat (by omega)
  rw [show ((p.toNat : Nat) : Int) = p by omega] at h3
  have hb := reN_b hk hs p.toNat (by omega)
  have h4 : ∀ j : Nat, (j : Int) ≤ p → sm (tk n o len st s) j ≤ sm (fun q => tk n o len st s q * len (o q)) j := by
    intro j
    induction j with
    | zero => intro _; exact Int.le_refl _
    | succ j ih =>
      intro hj
      have h5 := tk_b hk hs j ⟨by omega, by omega⟩
      have h6 := hk j (by omega) (by omega)
      have h7 : tk n o len st s j * 1 ≤ tk n o len st s j * len (o j) := Int.mul_le_mul_of_nonneg_left (by omega) h5.1.1
      have h8 := ih (by omega)
      rw [show ((j + 1 : Nat) : Int) = (j : Int) + 1 by omega, sm_s _ _ (by omega), sm_s _ _ (by omega)]
      omega
  have h9 := h4 p.toNat (by omega)
  rw [show ((p.toNat : Nat) : Int) = p by omega] at h9
  omega
theorem GC.lockB (h : GC M g B) (hM : SA M) (hO : ordOK (M 1) (M 2) (M 0 9) o) (hr : 0 ≤ r ∧ r < M 0 3) (hc : (chL M g o r).1 < 1000000) :
    (∀ p, 0 ≤ p → p < M 0 9 → 0 ≤ tk (M 0 9) o (M 2) (stM M g) (chS M g o r) p ∧ tk (M 0 9) o (M 2) (stM M g) (chS M g o r) p ≤ 500) ∧ ∀ p, 0 ≤ p → p ≤ M 0 9 → cel g r 1 + sm (tk (M 0 9) o (M 2) (stM M g) (chS M g o r)) p ≤ 500 := by
  have hk := kindsOK_of hM h.GL hO
  obtain ⟨n1, n2, n3⟩ := h.need hM hr
  have hb := (chL_b (o := o) (r := r) hM n1).2.2 hc
  have hnp := h.nP hM hr
  have h38 := hM.1.2.1
  have hsz := hM.1.1
  have hg := h.1.1 r hr.1 (by omega)
  have hB := suB_b hg
  have hF : FW (M 0 9) o (M 2) (stM M g) 0 (chS M g o r) < 1000000 := by rw [hb.2.1]; exact hc
  have hrm : ∀ p, 0 ≤ p → p ≤ M 0 9 → cel g r 1 + sm (tk (M 0 9) o (M 2) (stM M g) (chS M g o r)) p ≤ 500 := fun p a b => by
    have := tk_le hk hb.1.1 hF p ⟨a, b⟩
    have := hg.1
    omega
  refine ⟨fun p a b => ?_, hrm⟩
  have h1 := tk_b hk hb.1.1 p ⟨a, b⟩
  have h2 := hrm (p + 1) (by omega) (by omega)
  have h3 : 0 ≤ sm (tk (M 0 9) o (M 2) (stM M g) (chS M g o r)) p := sm_ind _ (fun n s => 0 ≤ s) (by omega) p (fun k s x y z => by have := tk_b hk hb.1.1 k ⟨x, by omega⟩; omega) a
  rw [sm_s _ _ a] at h2
  have := hg.2.1
  omega
theorem GC.lock (h : GC M g B) (hM : SA M) (h37 : M 0 37 = -1) (hO : ordOK (M 1) (M 2) (M 0 9) o) (hr : 0 ≤ r ∧ r < M 0 3) (hB : 0 ≤ B ∧ B ≤ 600000000) (hc : (chL M g o r).1 < 1000000) : GC M (gLock g r o (tk (M 0 9) o (M 2) (stM M g) (chS M g o r)) (M 0 9) (chL M g o r).2) B := by
  have hk := kindsOK_of hM h.GL hO
  have h9 := hM.1.2.2.2.2.2.2.2
  obtain ⟨n1, n2, n3⟩ := h.need hM hr
  have hb0 := chL_b (o := o) (r := r) hM n1
  have hb := hb0.2.2 hc
  have h38 := hM.1.2.1
  have hF : FW (M 0 9) o (M 2) (stM M g) 0 (chS M g o r) < 1000000 := by rw [hb.2.1]; exact hc
  -- the quoin
  have hq : GC M (gQ g r (chL M g o r).2) B ∧ gapM M (gQ g r (chL M g o r).2) r = chS M g o r := by
    by_cases y : (chL M g o r).2 = -1
    · have hcn : ¬ canO g r := fun z => by have := hb.2.2.1 z; omega
      have e : gQ g r (chL M g o r).2 = g := if_pos y
      have e2 : cel g r 2 = -1 := Classical.byContradiction fun z => hcn (Or.inl z)
      rw [e]
      refine ⟨h, ?_⟩
      unfold chS needM
      rw [if_pos y, show uQ (M 0 4) g r = 0 by unfold uQ; rw [if_pos e2]]
      omega
    · have hcn : canO g r := Classical.byContradiction fun z => y (hb.2.2.2 z)
      have hs : chS M g o r = needM M g r - M 0 4 - (chL M g o r).2 := if_neg y
      have := h.q hM hr (chL M g o r).2 (by omega) hcn (by rw [← hs]; exact hb.1.1)
      rw [hs]
      exact this
  have hsum := (tk_sum hk hb.1.1 hF (M 0 9).toNat (by omega)).2.2
  rw [show (((M 0 9).toNat : Nat) : Int) = M 0 9 by omega] at hsum
  have hre := reN_b hk hb.1.1 (M 0 9).toNat (by omega)
  have hp := GC.pl (B := B) hM hr o (tk (M 0 9) o (M 2) (stM M g) (chS M g o r)) hO hq.1 (fun p a b => by
    have h1 := tk_b hk hb.1.1 p ⟨a, b⟩
    have h2 := hO.1 p a b
    rw [stM_n h37 _ h2.1] at h1
    rw [lo_gQ _ _ _ _ ⟨hr.1, by omega⟩, if_neg (by omega)]
    exact h1.1) (by rw [hq.2]; omega) (M 0 9).toNat (by omega)
  unfold gLock
  exact GC.s4 hp.1 hM hr 0 (by omega) (by omega)
end GCL
