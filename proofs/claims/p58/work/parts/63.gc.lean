/-! A CONTENT IN BOUNDS, AND THAT IT STAYS SO -/
abbrev qi (g : Int → Int) (r : Int) : Int := if cel g r 2 = -1 then 0 else 1
/-- none is left of a kind that is not told -/
def lim (M : AI) (k : Int) : Int := if M 0 9 ≤ k then 0 else 4099
theorem lim_b (M : AI) (k : Int) : 0 ≤ lim M k ∧ lim M k ≤ 4099 := by unfold lim; split <;> omega
def GC (M : AI) (g : Int → Int) (B : Int) : Prop :=
  GI M g B ∧ (∀ k, 0 ≤ k → k < 10 → 0 ≤ g (6 + k) ∧ g (6 + k) + sm (fun r => cnt g r k) 8 ≤ lim M k) ∧ (0 ≤ g 0 ∧ g 0 + sm (fun r => qi g r) 8 ≤ 20) ∧ (∀ r, 0 ≤ r → r < 8 → cel g r 2 ≠ -1 → cel g r 3 ≤ cel g r 2 ∧ cel g r 2 ≤ M 0 5) ∧ ∀ r, 0 ≤ r → r < M 0 3 → 0 ≤ gapM M g r
theorem sm_chg (f h : Int → Int) (r n : Int) (hr : 0 ≤ r ∧ r < n) (e : ∀ k, 0 ≤ k → k < n → k ≠ r → h k = f k) : sm h n = sm f n + (h r - f r) := by
  rw [← sm_up f r (h r) n hr]
  refine sm_c _ _ _ fun k a b => ?_
  unfold gu
  by_cases q : k = r
  · rw [if_pos q, q]
  · rw [if_neg q]; exact e k a b q
theorem cnt_cg {g h : Int → Int} {r : Int} (hg : RG g r) (e : ∀ w, 0 ≤ w → w < 512 → cel h r w = cel g r w) (k : Int) : cnt h r k = cnt g r k := by
  have h2 := hg.2.1
  exact cnt_cong (e 1 (by omega) (by omega)) (fun j a b => e _ (by omega) (by omega))
theorem GC_row {M : AI} {g g' : Int → Int} {B B' : Int} (h : GC M g B) (hM : SA M) (r : Int) (hr : 0 ≤ r ∧ r < M 0 3) (hB : B ≤ B') (e : ∀ r2 w, 0 ≤ r2 → r2 < 8 → r2 ≠ r → 0 ≤ w → w < 512 → cel g' r2 w = cel g r2 w)
    (hRG : RG g' r) (hq : cel g' r 2 = -1 → cel g' r 3 = 0) (hk : ∀ k, 0 ≤ k → k < cel g' r 1 → cel g' r (11 + k) < M 0 9) (hs : cel g' r 4 ≤ B') (hl : ∀ k, 0 ≤ k → k < 10 → 0 ≤ g' (6 + k) ∧ g' (6 + k) + cnt g' r k ≤ g (6 + k) + cnt g r k)
    (h0 : 0 ≤ g' 0 ∧ g' 0 + qi g' r ≤ g 0 + qi g r) (hT : cel g' r 2 ≠ -1 → cel g' r 3 ≤ cel g' r 2 ∧ cel g' r 2 ≤ M 0 5) (hgap : 0 ≤ gapM M g' r) : GC M g' B' := by
  obtain ⟨⟨g1, g2, g3, g4, g5⟩, h2, h3, h4, h5⟩ := h
  have h38 := hM.1.2.1
  refine ⟨⟨fun r2 a b => ?_, fun r2 a b q => ?_, fun r2 a b => ?_, fun r2 a b k p q => ?_, fun r2 a b => ?_⟩, fun k a b => ?_, ⟨h0.1, ?_⟩, fun r2 a b q => ?_, fun r2 a b => ?_⟩
  · by_cases y : r2 = r
    · rw [y]; exact hRG
    · exact (g1 r2 a b).cong fun w c d => e r2 w a b y c d
  · by_cases y : r2 = r
    · rw [y] at q ⊢; exact hq q
    · rw [e r2 2 a b y (by omega) (by omega)] at q
      rw [e r2 3 a b y (by omega) (by omega)]; exact g2 r2 a b q
  · have y : r2 ≠ r := by omega
    rw [e r2 0 (by omega) b y (by omega) (by omega), e r2 1 (by omega) b y (by omega) (by omega), e r2 2 (by omega) b y (by omega) (by omega), e r2 3 (by omega) b y (by omega) (by omega), e r2 4 (by omega) b y (by omega) (by omega)]
    exact g3 r2 a b
  · by_cases y : r2 = r
    · rw [y] at q ⊢; exact hk k p q
    · have := (g1 r2 a b).2.1
      rw [e r2 1 a b y (by omega) (by omega)] at q
      rw [e r2 _ a b y (by omega) (by omega)]; exact g4 r2 a b k p q
  · by_cases y : r2 = r
    · rw [y]; exact hs
    · rw [e r2 4 a b y (by omega) (by omega)]; have := g5 r2 a b; omega
  · have hx := hl k a b
    have hy := h2 k a b
    refine ⟨hx.1, ?_⟩
    rw [sm_chg (fun r => cnt g r k) (fun r => cnt g' r k) r 8 (by omega) (fun r2 c d q => cnt_cg (g1 r2 c d) (fun w p s => e r2 w c d q p s) k)]
    omega
  · rw [sm_chg (fun r => qi g r) (fun r => qi g' r) r 8 (by omega) (fun r2 c d q => by unfold qi; rw [e r2 2 c d q (by omega) (by omega)])]
    omega
  · by_cases y : r2 = r
    · rw [y] at q ⊢; exact hT q
    · rw [e r2 2 a b y (by omega) (by omega)] at q ⊢
      rw [e r2 3 a b y (by omega) (by omega)]; exact h4 r2 a b q
  · by_cases y : r2 = r
    · rw [y]; exact hgap
    · rw [gapM_cong (g1 r2 a (by omega)) (fun w c d _ => e r2 w a (by omega) y c d)]; exact h5 r2 a b
section GCS
variable {M : AI} {g : Int → Int} {B : Int} {r : Int}
theorem GC.need (h : GC M g B) (hM : SA M) (hr : 0 ≤ r ∧ r < M 0 3) : (0 ≤ needM M g r ∧ needM M g r ≤ 500) ∧ needM M g r = M 0 2 - suB g r - suP (M 2) g r ∧ needM M g r ≤ M 0 2 := by
  have h38 := hM.1.2.1
  have hg := h.1.1 r hr.1 (by omega)
  have h5 := h.2.2.2.2 r hr.1 hr.2
  have h4 := h.2.2.2.1 r hr.1 (by omega)
  have hb := suB_b hg
  have hp := suP_b hM hg
  have h1 := hg.1
  have h2 := hg.2.1
  have hl := hM.1.1
  have hq := hM.1.2.2.1
  have hu : 0 ≤ uQ (M 0 4) g r := by
    unfold uQ
    split
    · omega
    · have := h4 (by assumption); omega
  have e : needM M g r = M 0 2 - suB g r - suP (M 2) g r := by unfold needM gapM; omega
  refine ⟨⟨?_, by omega⟩, e, by omega⟩
  unfold needM
  omega
theorem GC.nP (h : GC M g B) (hM : SA M) (hr : 0 ≤ r ∧ r < M 0 3) : cel g r 1 ≤ suP (M 2) g r := by
  have h38 := hM.1.2.1
  have hg := h.1.1 r hr.1 (by omega)
  unfold suP
  refine sm_ind _ (fun n s => n ≤ s) (by omega) _ (fun k s a b c => ?_) hg.2.1.1
  have h1 := hg.2.2.2.1 k a b
  have h2 := h.1.2.2.2.1 r hr.1 (by omega) k a b
  have h3 := hM.2.2.2 _ h1.1 h2
  omega
theorem GC.GL (h : GC M g B) : GL g := by
  intro k a b
  have hlim := lim_b M k
  have h1 := h.2.1 k a b
  have h2 : 0 ≤ sm (fun r => cnt g r k) 8 := sm_ind _ (fun n s => 0 ≤ s) (by omega) 8 (fun r s c d e => by
    have := (cnt_b (h.1.1 r c d) k).1
    omega) (by omega)
  omega
theorem GC.h0 (h : GC M g B) : 0 ≤ g 0 ∧ g 0 ≤ 1000 := by
  have h1 := h.2.2.1
  have h2 : 0 ≤ sm (fun r => qi g r) 8 := sm_ind _ (fun n s => 0 ≤ s) (by omega) 8 (fun r s c d e => by unfold qi; split <;> omega) (by omega)
  omega
theorem GC.mono {B' : Int} (h : GC M g B) (hB : B ≤ B') : GC M g B' := ⟨⟨h.1.1, h.1.2.1, h.1.2.2.1, h.1.2.2.2.1, fun r a b => by have := h.1.2.2.2.2 r a b; omega⟩, h.2⟩
theorem suB_adds (hg : RG g r) (h0 : 0 ≤ r) (its : Int) : suB (gAdds g r its) r = suB g r + its := by
  have e : ∀ w, 0 ≤ w → w < 512 → cel (gAdds g r its) r w = _ := fun w a b => cel_gAdds g r its r w ⟨⟨⟨h0, h0⟩, a, b⟩, hg.1⟩
  have h1 := hg.1
  unfold suB
  rw [e 0 (by omega) (by omega), if_pos (by omega), sm_s _ _ h1.1]
  congr 1
  · exact sm_c _ _ _ fun k a b => by rw [e _ (by omega) (by omega), if_neg (by omega), if_neg (by omega)]
  · rw [e _ (by omega) (by omega), if_neg (by omega), if_pos (by omega)]
theorem suB_lift (hg : RG g r) (h0 : 0 ≤ r) (i : Int) (hi : 0 ≤ i ∧ i < cel g r 0) : suB (gLift g r i) r = suB g r - cel g r (5 + i) := by
  have h1 := hg.1
  have e : ∀ w, 0 ≤ w → w < 512 → cel (gLift g r i) r w = _ := fun w a b => cel_gLift g r i r w ⟨⟨⟨h0, h0⟩, a, b⟩, hi, h1.2⟩
  unfold suB
  rw [e 0 (by omega) (by omega), if_pos (by omega)]
  have hd := sm_del (fun k => cel g r (5 + k)) (fun k => cel (gLift g r i) r (5 + k)) i (cel g r 0 - 1).toNat hi.1 (by omega) (fun k a b => by rw [e _ (by omega) (by omega), if_neg (by omega), if_neg (by omega)]) (fun k a b => by rw [e _ (by omega) (by omega), if_neg (by omega), if_pos (by omega), show 5 + k + 1 = 5 + (k + 1) by omega])
  rw [show (((cel g r 0 - 1).toNat : Nat) : Int) = cel g r 0 - 1 by omega, show cel g r 0 - 1 + 1 = cel g r 0 by omega] at hd
  omega
theorem put_F (hg : RG g r) (h0 : 0 ≤ r) (d : Int) (hd : 0 ≤ d ∧ d < 10) (F : Int → Int) : sm (fun k => F (cel (gPut g r d) r (11 + k))) (cel (gPut g r d) r 1) = sm (fun k => F (cel g r (11 + k))) (cel g r 1) + F d := by
  have e : ∀ w, 0 ≤ w → w < 512 → cel (gPut g r d) r w = _ := fun w a b => cel_gPut g r d r w ⟨⟨⟨h0, h0⟩, a, b⟩, hg.2.1, hd⟩
  have h2 := hg.2.1
  rw [e 1 (by omega) (by omega), if_pos (by omega), sm_s _ _ h2.1, e _ (by omega) (by omega), if_neg (by omega), if_pos (by omega)]
  congr 1
  exact sm_c _ _ _ fun k a b => by rw [e _ (by omega) (by omega), if_neg (by omega), if_neg (by omega)]
theorem take_F (hg : RG g r) (h0 : 0 ≤ r) (i : Int) (hi : 0 ≤ i ∧ i < cel g r 1) (F : Int → Int) : sm (fun k => F (cel (gTake g r i) r (11 + k))) (cel (gTake g r i) r 1) = sm (fun k => F (cel g r (11 + k))) (cel g r 1) - F (cel g r (11 + i)) := by
  have h2 := hg.2.1
  have hv := hg.2.2.2.1 i hi.1 hi.2
  have e : ∀ w, 0 ≤ w → w < 512 → cel (gTake g r i) r w = _ := fun w a b => cel_gTake g r i r w ⟨⟨⟨⟨h0, h0⟩, a, b⟩, hi, h2.2⟩, hv⟩
  rw [e 1 (by omega) (by omega), if_pos (by omega)]
  have hd := sm_del (fun k => F (cel g r (11 + k))) (fun k => F (cel (gTake g r i) r (11 + k))) i (cel g r 1 - 1).toNat hi.1 (by omega) (fun k a b => by rw [e _ (by omega) (by omega), if_neg (by omega), if_neg (by omega)]) (fun k a b => by rw [e _ (by omega) (by omega), if_neg (by omega), if_pos (by omega), show 11 + k + 1 = 11 + (k + 1) by omega])
  rw [show (((cel g r 1 - 1).toNat : Nat) : Int) = cel g r 1 - 1 by omega, show cel g r 1 - 1 + 1 = cel g r 1 by omega] at hd
  omega
theorem GC.adds (h : GC M g B) (hM : SA M) (hr : 0 ≤ r ∧ r < M 0 3) (its : Int) (hi : (1 ≤ its ∧ its ≤ 200) ∧ its ≤ gapM M g r) (hb : cel g r 0 < 6) : GC M (gAdds g r its) B := by
  have h38 := hM.1.2.1
  have hg := h.1.1 r hr.1 (by omega)
  have h1 := hg.1
  have e := fun (r2 w : Int) (a : 0 ≤ r2) (b : 0 ≤ w ∧ w < 512) => cel_gAdds g r its r2 w ⟨⟨⟨hr.1, a⟩, b⟩, hg.1⟩
  have h2 := hg.2.1
  have e1 := e r 1 hr.1 (by omega)
  rw [if_neg (by omega), if_neg (by omega)] at e1
  have ep : ∀ k, 0 ≤ k → k < cel g r 1 → cel (gAdds g r its) r (11 + k) = cel g r (11 + k) := fun k a b => by rw [e r _ hr.1 (by omega), if_neg (by omega), if_neg (by omega)]
  have e2 := e r 2 hr.1 (by omega)
  have e3 := e r 3 hr.1 (by omega)
  have e4 := e r 4 hr.1 (by omega)
  rw [if_neg (by omega), if_neg (by omega)] at e2 e3 e4
  refine GC_row h hM r hr (Int.le_refl _) (fun r2 w a b p c d => by rw [e r2 w a ⟨c, d⟩, if_neg (by omega), if_neg (by omega)]) ?_ (fun q => ?_) (fun k a b => ?_) ?_ (fun k a b => ?_) ?_ (fun q => ?_) ?_
  · obtain ⟨g1, g2, g3, g4, g5, g6, g7⟩ := hg
    unfold RG
    rw [e r 0 hr.1 (by omega), if_pos (by omega), e1, e2, e3, e4]
    refine ⟨by omega, g2, fun k a b => ?_, fun k a b => by rw [ep k a b]; exact g4 k a b, g5, g6, g7⟩
    rw [e r _ hr.1 (by omega), if_neg (by omega)]
    by_cases y : k = cel g r 0
    · rw [if_pos (by omega)]; exact hi.1
    · rw [if_neg (by omega)]; exact g3 k a (by omega)
  · rw [e2] at q; rw [e3]; exact h.1.2.1 r hr.1 (by omega) q
  · rw [e1] at b; rw [ep k a b]; exact h.1.2.2.2.1 r hr.1 (by omega) k a b
  · rw [e4]; exact h.1.2.2.2.2 r hr.1 (by omega)
  · rw [cnt_cong e1 ep, lo_gAdds _ _ _ _ (by omega)]; exact ⟨(h.2.1 k a b).1, Int.le_refl _⟩
  · unfold qi; rw [e2, lo_gAdds _ _ _ _ (by omega)]; exact ⟨h.2.2.1.1, Int.le_refl _⟩
  · rw [e2] at q ⊢; rw [e3]; exact h.2.2.2.1 r hr.1 (by omega) q
  · have hs := suB_adds hg hr.1 its
    have hgp := h.2.2.2.2 r hr.1 hr.2
    unfold gapM uQ at *
    rw [hs, suP_cong e1 ep, e2, e3]
    omega
theorem GC.lift (h : GC M g B) (hM : SA M) (hr : 0 ≤ r ∧ r < M 0 3) (i : Int) (hi : 0 ≤ i ∧ i < cel g r 0) : GC M (gLift g r i) B := by
  have h38 := hM.1.2.1
  have hg := h.1.1 r hr.1 (by omega)
  have h1 := hg.1
  have h2 := hg.2.1
  have e := fun (r2 w : Int) (a : 0 ≤ r2) (b : 0 ≤ w ∧ w < 512) => cel_gLift g r i r2 w ⟨⟨⟨hr.1, a⟩, b⟩, hi, h1.2⟩
  have e1 := e r 1 hr.1 (by omega)
  rw [if_neg (by omega), if_neg (by omega)] at e1
  have ep : ∀ k, 0 ≤ k → k < cel g r 1 → cel (gLift g r i) r (11 + k) = cel g r (11 + k) := fun k a b => by rw [e r _ hr.1 (by omega), if_neg (by omega), if_neg (by omega)]
  have e2 := e r 2 hr.1 (by omega)
  have e3 := e r 3 hr.1 (by omega)
  have e4 := e r 4 hr.1 (by omega)
  rw [if_neg (by omega), if_neg (by omega)] at e2 e3 e4
  refine GC_row h hM r hr (Int.le_refl _) (fun r2 w a b p c d => by rw [e r2 w a ⟨c, d⟩, if_neg (by omega), if_neg (by omega)]) ?_ (fun q => ?_) (fun k a b => ?_) ?_ (fun k a b => ?_) ?_ (fun q => ?_) ?_
  · obtain ⟨g1, g2, g3, g4, g5, g6, g7⟩ := hg
    unfold RG
    rw [e r 0 hr.1 (by omega), if_pos (by omega), e1, e2, e3, e4]
    refine ⟨by omega, g2, fun k a b => ?_, fun k a b => by rw [ep k a b]; exact g4 k a b, g5, g6, g7⟩
    rw [e r _ hr.1 (by omega), if_neg (by omega)]
    split
    · rw [show 5 + k + 1 = 5 + (k + 1) by omega]; exact g3 (k + 1) (by omega) (by omega)
    · exact g3 k a (by omega)
  · rw [e2] at q; rw [e3]; exact h.1.2.1 r hr.1 (by omega) q
  · rw [e1] at b; rw [ep k a b]; exact h.1.2.2.2.1 r hr.1 (by omega) k a b
  · rw [e4]; exact h.1.2.2.2.2 r hr.1 (by omega)
  · rw [cnt_cong e1 ep, lo_gLift _ _ _ _ (by omega)]; exact ⟨(h.2.1 k a b).1, Int.le_refl _⟩
  · unfold qi; rw [e2, lo_gLift _ _ _ _ (by omega)]; exact ⟨h.2.2.1.1, Int.le_refl _⟩
  · rw [e2] at q ⊢; rw [e3]; exact h.2.2.2.1 r hr.1 (by omega) q
  · have hs := suB_lift hg hr.1 i hi
    have hv := hg.2.2.1 i hi.1 hi.2
    have hgp := h.2.2.2.2 r hr.1 hr.2
    unfold gapM uQ at *
    rw [hs, suP_cong e1 ep, e2, e3]
    omega
theorem GC.put (h : GC M g B) (hM : SA M) (hr : 0 ≤ r ∧ r < M 0 3) (d : Int) (hd : 0 ≤ d ∧ d < M 0 9) (hl : 0 < g (6 + d)) (hgd : M 2 d ≤ gapM M g r) : GC M (gPut g r d) B ∧ cel g r 1 < 500 := by
  have h38 := hM.1.2.1
  have h9 := hM.1.2.2.2.2.2.2.2
  have hg := h.1.1 r hr.1 (by omega)
  have h1 := hg.1
  have h2 := hg.2.1
  have hln := hM.2.2.2 d hd.1 hd.2
  have hnp := h.nP hM hr
  have hnd := h.need hM hr
  have hb := suB_b hg
  have h4 := h.2.2.2.1 r hr.1 (by omega)
  have hq := hM.1.2.2.1
  have hsz := hM.1.1
  have hu : 0 ≤ uQ (M 0 4) g r := by
    unfold uQ
    split
    · omega
    · have := h4 (by assumption); omega
  have hlt : cel g r 1 < 500 := by unfold needM at hnd; omega
  refine ⟨?_, hlt⟩
  have e := fun (r2 w : Int) (a : 0 ≤ r2) (b : 0 ≤ w ∧ w < 512) => cel_gPut g r d r2 w ⟨⟨⟨hr.1, a⟩, b⟩, h2, by omega⟩
  have e0 := e r 0 hr.1 (by omega)
  have e2 := e r 2 hr.1 (by omega)
  have e3 := e r 3 hr.1 (by omega)
  have e4 := e r 4 hr.1 (by omega)
  rw [if_neg (by omega), if_neg (by omega)] at e0 e2 e3 e4
  have eb : ∀ k, 0 ≤ k → k < cel g r 0 → cel (gPut g r d) r (5 + k) = cel g r (5 + k) := fun k a b => by rw [e r _ hr.1 (by omega), if_neg (by omega), if_neg (by omega)]
  refine GC_row h hM r hr (Int.le_refl _) (fun r2 w a b p c d => by rw [e r2 w a ⟨c, d⟩, if_neg (by omega), if_neg (by omega)]) (RG.put ⟨hr.1, hr.1⟩ (by omega) (by omega) hg) (fun q => ?_) (fun k a b => ?_) ?_ (fun k a b => ?_) ?_ (fun q => ?_) ?_
  · rw [e2] at q; rw [e3]; exact h.1.2.1 r hr.1 (by omega) q
  · rw [e r 1 hr.1 (by omega), if_pos (by omega)] at b
    rw [e r _ hr.1 (by omega), if_neg (by omega)]
    by_cases y : k = cel g r 1
    · rw [if_pos (by omega)]; exact hd.2
    · rw [if_neg (by omega)]; exact h.1.2.2.2.1 r hr.1 (by omega) k a (by omega)
  · rw [e4]; exact h.1.2.2.2.2 r hr.1 (by omega)
  · have hc : cnt (gPut g r d) r k = cnt g r k + (if d = k then 1 else 0) := put_F hg hr.1 d (by omega) (fun x => if x = k then 1 else 0)
    have hk := (h.2.1 k a b).1
    rw [hc, lo_gPut _ _ _ _ (by omega)]
    by_cases y : d = k
    · rw [if_pos (by omega), if_pos y]; rw [y] at hl; omega
    · rw [if_neg (by omega), if_neg y]; omega
  · unfold qi; rw [e2, lo_gPut _ _ _ _ (by omega), if_neg (by omega)]; exact ⟨h.2.2.1.1, Int.le_refl _⟩
  · rw [e2] at q ⊢; rw [e3]; exact h4 q
  · have hs : suP (M 2) (gPut g r d) r = suP (M 2) g r + M 2 d := put_F hg hr.1 d (by omega) (M 2)
    unfold gapM uQ at *
    rw [hs, suB_cong e0 eb, e2, e3]
    omega
theorem GC.take (h : GC M g B) (hM : SA M) (hr : 0 ≤ r ∧ r < M 0 3) (i : Int) (hi : 0 ≤ i ∧ i < cel g r 1) : GC M (gTake g r i) B := by
  have h38 := hM.1.2.1
  have h9 := hM.1.2.2.2.2.2.2.2
  have hg := h.1.1 r hr.1 (by omega)
  have h1 := hg.1
  have h2 := hg.2.1
  have hv := hg.2.2.2.1 i hi.1 hi.2
  have hv9 := h.1.2.2.2.1 r hr.1 (by omega) i hi.1 hi.2
  have hln := hM.2.2.2 _ hv.1 hv9
  have h4 := h.2.2.2.1 r hr.1 (by omega)
  have e := fun (r2 w : Int) (a : 0 ≤ r2) (b : 0 ≤ w ∧ w < 512) => cel_gTake g r i r2 w ⟨⟨⟨⟨hr.1, a⟩, b⟩, hi, h2.2⟩, hv⟩
  have e0 := e r 0 hr.1 (by omega)
  have e2 := e r 2 hr.1 (by omega)
  have e3 := e r 3 hr.1 (by omega)
  have e4 := e r 4 hr.1 (by omega)
  rw [if_neg (by omega), if_neg (by omega)] at e0 e2 e3 e4
  have e1 := e r 1 hr.1 (by omega)
  rw [if_pos (by omega)] at e1
  have eb : ∀ k, 0 ≤ k → k < cel g r 0 → cel (gTake g r i) r (5 + k) = cel g r (5 + k) := fun k a b => by rw [e r _ hr.1 (by omega), if_neg (by omega), if_neg (by omega)]
  have ep : ∀ k, 0 ≤ k → k < cel g r 1 - 1 → cel (gTake g r i) r (11 + k) = cel g r (11 + k) ∨ cel (gTake g r i) r (11 + k) = cel g r (11 + (k + 1)) := fun k a b => by
    rw [e r _ hr.1 (by omega), if_neg (by omega)]
    split
    · exact Or.inr (by rw [show 11 + k + 1 = 11 + (k + 1) by omega])
    · exact Or.inl rfl
  refine GC_row h hM r hr (Int.le_refl _) (fun r2 w a b p c d => by rw [e r2 w a ⟨c, d⟩, if_neg (by omega), if_neg (by omega)]) ?_ (fun q => ?_) (fun k a b => ?_) ?_ (fun k a b => ?_) ?_ (fun q => ?_) ?_
  · obtain ⟨g1, g2, g3, g4, g5, g6, g7⟩ := hg
    unfold RG
    rw [e0, e1, e2, e3, e4]
    refine ⟨g1, by omega, fun k a b => by rw [eb k a b]; exact g3 k a b, fun k a b => ?_, g5, g6, g7⟩
    rcases ep k a b with y | y <;> rw [y]
    · exact g4 k a (by omega)
    · exact g4 (k + 1) (by omega) (by omega)
  · rw [e2] at q; rw [e3]; exact h.1.2.1 r hr.1 (by omega) q
  · rw [e1] at b
    rcases ep k a b with y | y <;> rw [y]
    · exact h.1.2.2.2.1 r hr.1 (by omega) k a (by omega)
    · exact h.1.2.2.2.1 r hr.1 (by omega) (k + 1) (by omega) (by omega)
  · rw [e4]; exact h.1.2.2.2.2 r hr.1 (by omega)
  · have hc : cnt (gTake g r i) r k = cnt g r k - (if cel g r (11 + i) = k then 1 else 0) := take_F hg hr.1 i hi (fun x => if x = k then 1 else 0)
    have hk := (h.2.1 k a b).1
    rw [hc, lo_gTake _ _ _ _ (by omega)]
    by_cases y : cel g r (11 + i) = k
    · rw [if_pos (by omega), if_pos y]; omega
    · rw [if_neg (by omega), if_neg y]; omega
  · unfold qi; rw [e2, lo_gTake _ _ _ _ (by omega), if_neg (by omega)]; exact ⟨h.2.2.1.1, Int.le_refl _⟩
  · rw [e2] at q ⊢; rw [e3]; exact h4 q
  · have hs : suP (M 2) (gTake g r i) r = suP (M 2) g r - M 2 (cel g r (11 + i)) := take_F hg hr.1 i hi (M 2)
    have hgp := h.2.2.2.2 r hr.1 hr.2
    unfold gapM uQ at *
    rw [hs, suB_cong e0 eb, e2, e3]
    omega
end GCS
