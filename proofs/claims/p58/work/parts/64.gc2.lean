/-! A CONTENT IN BOUNDS: quoins, slack, falls, locks, buying -/
section GCS2
variable {M : AI} {g : Int → Int} {B : Int} {r : Int}
theorem GC_lo {g' : Int → Int} (h : GC M g B) (e : ∀ z, z < 1 ∨ 6 ≤ z → g' z = g z) (hM : SA M) : GC M g' B := by
  have h38 := hM.1.2.1
  have ec : ∀ r w, 0 ≤ r → 0 ≤ w → cel g' r w = cel g r w := fun r w a b => e _ (by omega)
  obtain ⟨⟨g1, g2, g3, g4, g5⟩, h2, h3, h4, h5⟩ := h
  refine ⟨⟨fun r a b => (g1 r a b).cong fun w c d => ec r w a c, fun r a b q => ?_, fun r a b => ?_, fun r a b k p q => ?_, fun r a b => ?_⟩, fun k a b => ?_, ?_, fun r a b q => ?_, fun r a b => ?_⟩
  · rw [ec r 2 a (by omega)] at q
    rw [ec r 3 a (by omega)]; exact g2 r a b q
  · rw [ec r 0 (by omega) (by omega), ec r 1 (by omega) (by omega), ec r 2 (by omega) (by omega), ec r 3 (by omega) (by omega), ec r 4 (by omega) (by omega)]; exact g3 r a b
  · rw [ec r 1 a (by omega)] at q
    rw [ec r _ a (by omega)]; exact g4 r a b k p q
  · rw [ec r 4 a (by omega)]; exact g5 r a b
  · rw [e _ (by omega), sm_c (fun r => cnt g' r k) (fun r => cnt g r k) 8 (fun r c d => cnt_cg (g1 r c d) (fun w p q => ec r w c p) k)]; exact h2 k a b
  · rw [e _ (by omega), sm_c (fun r => qi g' r) (fun r => qi g r) 8 (fun r c d => by unfold qi; rw [ec r 2 c (by omega)])]; exact h3
  · rw [ec r 2 a (by omega)] at q ⊢
    rw [ec r 3 a (by omega)]; exact h4 r a b q
  · rw [gapM_cong (g1 r a (by omega)) (fun w c d _ => ec r w a c)]; exact h5 r a b
theorem uQ_0 (h : GC M g B) (hM : SA M) (hr : 0 ≤ r ∧ r < 8) : 0 ≤ uQ (M 0 4) g r ∧ (cel g r 2 ≠ -1 → 1 ≤ uQ (M 0 4) g r) := by
  have h4 := h.2.2.2.1 r hr.1 hr.2
  have hq := hM.1.2.2.1
  unfold uQ
  split
  · exact ⟨by omega, fun z => absurd (by assumption) z⟩
  · have := h4 (by assumption); omega
theorem GC.q (h : GC M g B) (hM : SA M) (hr : 0 ≤ r ∧ r < M 0 3) (op : Int) (ho : 0 ≤ op ∧ op ≤ M 0 5) (hc : canO g r) (hn : 0 ≤ needM M g r - M 0 4 - op) : GC M (gQ g r op) B ∧ gapM M (gQ g r op) r = needM M g r - M 0 4 - op := by
  have h38 := hM.1.2.1
  have h5 := hM.1.2.2.2.1
  have hg := h.1.1 r hr.1 (by omega)
  have h1 := hg.1
  have h2 := hg.2.1
  have e := fun (r2 w : Int) (a : 0 ≤ r2) (b : 0 ≤ w ∧ w < 512) => cel_gQ g r op r2 w ⟨⟨hr.1, a⟩, b⟩
  have el := fun (z : Int) (a : z < 16) => lo_gQ g r op z ⟨hr.1, a⟩
  have e0 := e r 0 hr.1 (by omega)
  have e1 := e r 1 hr.1 (by omega)
  have e4 := e r 4 hr.1 (by omega)
  rw [if_neg (by omega), if_neg (by omega)] at e0 e1 e4
  have e2 := e r 2 hr.1 (by omega)
  rw [if_neg (by omega), if_pos (by omega)] at e2
  have e3 := e r 3 hr.1 (by omega)
  rw [if_pos (by omega)] at e3
  have eb : ∀ k, 0 ≤ k → k < cel g r 0 → cel (gQ g r op) r (5 + k) = cel g r (5 + k) := fun k a b => by rw [e r _ hr.1 (by omega), if_neg (by omega), if_neg (by omega)]
  have ep : ∀ k, 0 ≤ k → k < cel g r 1 → cel (gQ g r op) r (11 + k) = cel g r (11 + k) := fun k a b => by rw [e r _ hr.1 (by omega), if_neg (by omega), if_neg (by omega)]
  have hgp : gapM M (gQ g r op) r = needM M g r - M 0 4 - op := by
    unfold needM gapM uQ
    rw [suB_cong e0 eb, suP_cong e1 ep, e2, e3, if_neg (by omega)]
    omega
  refine ⟨GC_row h hM r hr (Int.le_refl _) (fun r2 w a b p c d => by rw [e r2 w a ⟨c, d⟩, if_neg (by omega), if_neg (by omega)]) (RG.q ⟨hr.1, hr.1⟩ (by omega) hg) (fun q => e3) (fun k a b => ?_) ?_ (fun k a b => ?_) ?_ (fun q => ?_) (by rw [hgp]; exact hn), hgp⟩
  · rw [e1] at b; rw [ep k a b]; exact h.1.2.2.2.1 r hr.1 (by omega) k a b
  · rw [e4]; exact h.1.2.2.2.2 r hr.1 (by omega)
  · rw [cnt_cong e1 ep, el _ (by omega), if_neg (by omega)]; exact ⟨(h.2.1 k a b).1, Int.le_refl _⟩
  · have h0 := h.2.2.1.1
    unfold qi
    rw [e2, el 0 (by omega), if_neg (show ¬ op = -1 by omega)]
    by_cases y : cel g r 2 = -1
    · rw [if_pos ⟨rfl, by omega, y⟩, if_pos y]
      rcases hc with z | z
      · exact absurd y z
      · omega
    · rw [if_neg (fun z => y z.2.2), if_neg y]; omega
  · rw [e2, e3]; omega
theorem GC.noq (h : GC M g B) (hM : SA M) (hr : 0 ≤ r ∧ r < M 0 3) : GC M (gNoQ g r) B := by
  have h38 := hM.1.2.1
  have hg := h.1.1 r hr.1 (by omega)
  have h1 := hg.1
  have h2 := hg.2.1
  have e := fun (r2 w : Int) (a : 0 ≤ r2) (b : 0 ≤ w ∧ w < 512) => cel_gNoQ g r r2 w ⟨⟨hr.1, a⟩, b⟩
  have el := fun (z : Int) (a : z < 16) => lo_gNoQ g r z ⟨hr.1, a⟩
  have e0 := e r 0 hr.1 (by omega)
  have e1 := e r 1 hr.1 (by omega)
  have e4 := e r 4 hr.1 (by omega)
  rw [if_neg (by omega), if_neg (by omega)] at e0 e1 e4
  have e2 := e r 2 hr.1 (by omega)
  rw [if_pos (by omega)] at e2
  have e3 : cel (gNoQ g r) r 3 = 0 := by
    rw [e r 3 hr.1 (by omega), if_neg (by omega)]
    by_cases y : cel g r 2 = -1
    · rw [if_neg (fun z => z.2.2 y)]; exact h.1.2.1 r hr.1 (by omega) y
    · rw [if_pos ⟨rfl, rfl, y⟩]
  have eb : ∀ k, 0 ≤ k → k < cel g r 0 → cel (gNoQ g r) r (5 + k) = cel g r (5 + k) := fun k a b => by rw [e r _ hr.1 (by omega), if_neg (by omega), if_neg (by omega)]
  have ep : ∀ k, 0 ≤ k → k < cel g r 1 → cel (gNoQ g r) r (11 + k) = cel g r (11 + k) := fun k a b => by rw [e r _ hr.1 (by omega), if_neg (by omega), if_neg (by omega)]
  refine GC_row h hM r hr (Int.le_refl _) (fun r2 w a b p c d => by rw [e r2 w a ⟨c, d⟩, if_neg (by omega), if_neg (by omega)]) (RG.noq ⟨hr.1, hr.1⟩ hg) (fun q => e3) (fun k a b => ?_) ?_ (fun k a b => ?_) ?_ (fun q => absurd e2 q) ?_
  · rw [e1] at b; rw [ep k a b]; exact h.1.2.2.2.1 r hr.1 (by omega) k a b
  · rw [e4]; exact h.1.2.2.2.2 r hr.1 (by omega)
  · rw [cnt_cong e1 ep, el _ (by omega), if_neg (by omega)]; exact ⟨(h.2.1 k a b).1, Int.le_refl _⟩
  · have h0 := h.2.2.1.1
    unfold qi
    rw [e2, el 0 (by omega), if_pos rfl]
    by_cases y : cel g r 2 = -1
    · rw [if_neg (fun z => z.2 y), if_pos y]; omega
    · rw [if_pos ⟨rfl, y⟩, if_neg y]; omega
  · have hu := uQ_0 h hM ⟨hr.1, by omega⟩
    have hgp := h.2.2.2.2 r hr.1 hr.2
    have hx : gapM M (gNoQ g r) r = gapM M g r + uQ (M 0 4) g r := by
      unfold gapM
      rw [suB_cong e0 eb, suP_cong e1 ep, show uQ (M 0 4) (gNoQ g r) r = 0 by unfold uQ; rw [if_pos e2]]
      omega
    omega
theorem GC.s4 {B' : Int} (h : GC M g B) (hM : SA M) (hr : 0 ≤ r ∧ r < M 0 3) (v : Int) (hv : 0 ≤ v ∧ v ≤ B') (hB : B ≤ B' ∧ B' ≤ 600000000) : GC M (gpu g r 4 v) B' := by
  have h38 := hM.1.2.1
  have hg := h.1.1 r hr.1 (by omega)
  have h1 := hg.1
  have h2 := hg.2.1
  have e := fun (r2 w : Int) (b : 0 ≤ w ∧ w < 512) => cel_pu g r 4 v r2 w ⟨by omega, b⟩
  have en : ∀ w, 0 ≤ w → w < 512 → w ≠ 4 → cel (gpu g r 4 v) r w = cel g r w := fun w a b q => by rw [e r w ⟨a, b⟩, if_neg (by omega)]
  have e4 := e r 4 (by omega)
  rw [if_pos (by omega)] at e4
  refine GC_row h hM r hr hB.1 (fun r2 w a b p c d => by rw [e r2 w ⟨c, d⟩, if_neg (by omega)]) (RG.s4 (by omega) hg) (fun q => ?_) (fun k a b => ?_) (by rw [e4]; exact hv.2) (fun k a b => ?_) ?_ (fun q => ?_) ?_
  · rw [en 2 (by omega) (by omega) (by omega)] at q; rw [en 3 (by omega) (by omega) (by omega)]; exact h.1.2.1 r hr.1 (by omega) q
  · rw [en 1 (by omega) (by omega) (by omega)] at b; rw [en _ (by omega) (by omega) (by omega)]; exact h.1.2.2.2.1 r hr.1 (by omega) k a b
  · rw [cnt_cong (en 1 (by omega) (by omega) (by omega)) (fun k a b => en _ (by omega) (by omega) (by omega)), gpu_lo _ _ _ _ _ (by omega)]; exact ⟨(h.2.1 k a b).1, Int.le_refl _⟩
  · unfold qi; rw [en 2 (by omega) (by omega) (by omega), gpu_lo _ _ _ _ _ (by omega)]; exact ⟨h.2.2.1.1, Int.le_refl _⟩
  · rw [en 2 (by omega) (by omega) (by omega)] at q ⊢; rw [en 3 (by omega) (by omega) (by omega)]; exact h.2.2.2.1 r hr.1 (by omega) q
  · rw [gapM_cong hg (fun w a b q => en w a b q)]; exact h.2.2.2.2 r hr.1 hr.2
/-- a step of tightening -/
def gTi (g : Int → Int) (r : Int) : Int → Int := gpu (gpu (gpu g r 2 (cel g r 2 + 1)) r 3 (cel g r 3 + 1)) r 4 (if cel g r 4 - 10 < 0 then 0 else cel g r 4 - 10)
theorem cel_gTi (g : Int → Int) (r r2 w : Int) (h : 0 ≤ w ∧ w < 512) : cel (gTi g r) r2 w = if r2 = r ∧ w = 4 then (if cel g r 4 - 10 < 0 then 0 else cel g r 4 - 10) else if r2 = r ∧ w = 3 then cel g r 3 + 1 else if r2 = r ∧ w = 2 then cel g r 2 + 1 else cel g r2 w := by
  unfold gTi
  rw [cel_pu _ _ _ _ _ _ (by omega), cel_pu _ _ _ _ _ _ (by omega), cel_pu _ _ _ _ _ _ (by omega)]
theorem GC.ti (h : GC M g B) (hM : SA M) (hr : 0 ≤ r ∧ r < M 0 3) (hB : 0 ≤ B) (hq : cel g r 2 ≠ -1) (hs : cel g r 2 < M 0 5) : GC M (gTi g r) B := by
  have h38 := hM.1.2.1
  have h5 := hM.1.2.2.2.1
  have hg := h.1.1 r hr.1 (by omega)
  have h1 := hg.1
  have h2 := hg.2.1
  have hT := h.2.2.2.1 r hr.1 (by omega) hq
  have h51 := hg.2.2.2.2.1
  have h61 := hg.2.2.2.2.2.1
  have e := fun (r2 w : Int) (b : 0 ≤ w ∧ w < 512) => cel_gTi g r r2 w b
  have en : ∀ w, 0 ≤ w → w < 512 → w ≠ 4 → w ≠ 3 → w ≠ 2 → cel (gTi g r) r w = cel g r w := fun w a b q p s => by rw [e r w ⟨a, b⟩, if_neg (by omega), if_neg (by omega), if_neg (by omega)]
  have e4 := e r 4 (by omega)
  rw [if_pos (by omega)] at e4
  have e3 := e r 3 (by omega)
  rw [if_neg (by omega), if_pos (by omega)] at e3
  have e2 := e r 2 (by omega)
  rw [if_neg (by omega), if_neg (by omega), if_pos (by omega)] at e2
  have elo : ∀ z, z < 16 → gTi g r z = g z := fun z a => by unfold gTi; rw [gpu_lo _ _ _ _ _ (by omega), gpu_lo _ _ _ _ _ (by omega), gpu_lo _ _ _ _ _ (by omega)]
  have hgs := h.1.2.2.2.2 r hr.1 (by omega)
  refine GC_row h hM r hr (Int.le_refl _) (fun r2 w a b p c d => by rw [e r2 w ⟨c, d⟩, if_neg (by omega), if_neg (by omega), if_neg (by omega)]) ?_ (fun q => by rw [e2] at q; omega) (fun k a b => ?_) ?_ (fun k a b => ?_) ?_ (fun q => by rw [e2, e3]; omega) ?_
  · obtain ⟨g1, g2, g3, g4, g5, g6, g7⟩ := hg
    unfold RG
    rw [en 0 (by omega) (by omega) (by omega) (by omega) (by omega), en 1 (by omega) (by omega) (by omega) (by omega) (by omega), e2, e3, e4]
    refine ⟨g1, g2, fun k a b => by rw [en _ (by omega) (by omega) (by omega) (by omega) (by omega)]; exact g3 k a b, fun k a b => by rw [en _ (by omega) (by omega) (by omega) (by omega) (by omega)]; exact g4 k a b, by omega, by omega, ?_⟩
    split <;> omega
  · rw [en 1 (by omega) (by omega) (by omega) (by omega) (by omega)] at b; rw [en _ (by omega) (by omega) (by omega) (by omega) (by omega)]; exact h.1.2.2.2.1 r hr.1 (by omega) k a b
  · rw [e4]; split <;> omega
  · rw [cnt_cong (en 1 (by omega) (by omega) (by omega) (by omega) (by omega)) (fun k a b => en _ (by omega) (by omega) (by omega) (by omega) (by omega)), elo _ (by omega)]; exact ⟨(h.2.1 k a b).1, Int.le_refl _⟩
  · unfold qi; rw [e2, elo _ (by omega), if_neg (by omega), if_neg hq]; exact ⟨h.2.2.1.1, Int.le_refl _⟩
  · have hgp := h.2.2.2.2 r hr.1 hr.2
    have hx : gapM M (gTi g r) r = gapM M g r := by
      unfold gapM uQ
      rw [suB_cong (en 0 (by omega) (by omega) (by omega) (by omega) (by omega)) (fun k a b => en _ (by omega) (by omega) (by omega) (by omega) (by omega)), suP_cong (en 1 (by omega) (by omega) (by omega) (by omega) (by omega)) (fun k a b => en _ (by omega) (by omega) (by omega) (by omega) (by omega)), e2, e3, if_neg hq, if_neg (by omega)]
      omega
    omega
theorem GC.emp (h : GC M g B) (hM : SA M) (hr : 0 ≤ r ∧ r < M 0 3) (hB : 0 ≤ B) : GC M (gEmp g r) B := by
  have h38 := hM.1.2.1
  have hg := h.1.1 r hr.1 (by omega)
  have h1 := hg.1
  have h2 := hg.2.1
  have e := fun (r2 w : Int) (a : 0 ≤ r2) (b : 0 ≤ w ∧ w < 512) => cel_gEmp g r r2 w ⟨⟨hr.1, a⟩, b⟩
  have el := fun (z : Int) (a : z < 16) => lo_gEmp g r z ⟨hr.1, a⟩
  have e0 := e r 0 hr.1 (by omega)
  rw [if_neg (by omega), if_neg (by omega), if_neg (by omega)] at e0
  have e1 := e r 1 hr.1 (by omega)
  rw [if_pos (by omega)] at e1
  have e4 := e r 4 hr.1 (by omega)
  rw [if_pos (by omega)] at e4
  have e2 := e r 2 hr.1 (by omega)
  rw [if_neg (by omega), if_pos (by omega)] at e2
  have hz := QZ.emp hr.1 h.1.2.1
  have eb : ∀ k, 0 ≤ k → k < cel g r 0 → cel (gEmp g r) r (5 + k) = cel g r (5 + k) := fun k a b => by rw [e r _ hr.1 (by omega), if_neg (by omega), if_neg (by omega), if_neg (by omega)]
  refine GC_row h hM r hr (Int.le_refl _) (fun r2 w a b p c d => by rw [e r2 w a ⟨c, d⟩, if_neg (by omega), if_neg (by omega), if_neg (by omega)]) (RG.emp ⟨hr.1, hr.1⟩ hg) (fun q => hz r hr.1 (by omega) q) (fun k a b => by rw [e1] at b; omega) (by rw [e4]; exact hB) (fun k a b => ?_) ?_ (fun q => absurd e2 q) ?_
  · have hk := (h.2.1 k a b).1
    have hc := (cnt_b hg k).1
    rw [el _ (by omega), if_neg (by omega), if_pos (by omega), show 6 + k - 6 = k by omega, show cnt (gEmp g r) r k = 0 by unfold cnt; rw [e1, sm_0]]
    omega
  · have h0 := h.2.2.1.1
    unfold qi
    rw [e2, el 0 (by omega), if_pos rfl]
    by_cases y : cel g r 2 = -1
    · rw [if_neg (fun z => z.2 y), if_neg (by omega), if_pos y]; omega
    · rw [if_pos ⟨rfl, y⟩, if_neg y]; omega
  · have hu := uQ_0 h hM ⟨hr.1, by omega⟩
    have hgp := h.2.2.2.2 r hr.1 hr.2
    have hp := suP_b hM hg
    have hx : gapM M (gEmp g r) r = gapM M g r + uQ (M 0 4) g r + suP (M 2) g r := by
      unfold gapM
      rw [suB_cong e0 eb, show uQ (M 0 4) (gEmp g r) r = 0 by unfold uQ; rw [if_pos e2], show suP (M 2) (gEmp g r) r = 0 by unfold suP; rw [e1, sm_0]]
      omega
    omega
theorem GC.noB (h : GC M g B) (hM : SA M) (hr : 0 ≤ r ∧ r < M 0 3) : GC M (gpu g r 0 0) B := by
  have h38 := hM.1.2.1
  have hg := h.1.1 r hr.1 (by omega)
  have h1 := hg.1
  have h2 := hg.2.1
  have e := fun (r2 w : Int) (b : 0 ≤ w ∧ w < 512) => cel_pu g r 0 0 r2 w ⟨by omega, b⟩
  have en : ∀ w, 0 ≤ w → w < 512 → w ≠ 0 → cel (gpu g r 0 0) r w = cel g r w := fun w a b q => by rw [e r w ⟨a, b⟩, if_neg (by omega)]
  have e0 := e r 0 (by omega)
  rw [if_pos (by omega)] at e0
  refine GC_row h hM r hr (Int.le_refl _) (fun r2 w a b p c d => by rw [e r2 w ⟨c, d⟩, if_neg (by omega)]) (RG.noB hg) (fun q => ?_) (fun k a b => ?_) ?_ (fun k a b => ?_) ?_ (fun q => ?_) ?_
  · rw [en 2 (by omega) (by omega) (by omega)] at q; rw [en 3 (by omega) (by omega) (by omega)]; exact h.1.2.1 r hr.1 (by omega) q
  · rw [en 1 (by omega) (by omega) (by omega)] at b; rw [en _ (by omega) (by omega) (by omega)]; exact h.1.2.2.2.1 r hr.1 (by omega) k a b
  · rw [en 4 (by omega) (by omega) (by omega)]; exact h.1.2.2.2.2 r hr.1 (by omega)
  · rw [cnt_cong (en 1 (by omega) (by omega) (by omega)) (fun k a b => en _ (by omega) (by omega) (by omega)), gpu_lo _ _ _ _ _ (by omega)]; exact ⟨(h.2.1 k a b).1, Int.le_refl _⟩
  · unfold qi; rw [en 2 (by omega) (by omega) (by omega), gpu_lo _ _ _ _ _ (by omega)]; exact ⟨h.2.2.1.1, Int.le_refl _⟩
  · rw [en 2 (by omega) (by omega) (by omega)] at q ⊢; rw [en 3 (by omega) (by omega) (by omega)]; exact h.2.2.2.1 r hr.1 (by omega) q
  · have hgp := h.2.2.2.2 r hr.1 hr.2
    have hb := suB_b hg
    unfold gapM uQ at *
    rw [show suB (gpu g r 0 0) r = 0 by unfold suB; rw [e0, sm_0], suP_cong (en 1 (by omega) (by omega) (by omega)) (fun k a b => en _ (by omega) (by omega) (by omega)), en 2 (by omega) (by omega) (by omega), en 3 (by omega) (by omega) (by omega)]
    omega
theorem GC.fall (h : GC M g B) (hM : SA M) (hr : 0 ≤ r ∧ r < M 0 3) (hB : 0 ≤ B) : GC M (gFall g r) B := by
  unfold gFall
  exact GC.emp (GC.noB (GC_lo (GC_lo h (fun z q => gu_n _ _ _ _ (by omega)) hM) (fun z q => gu_n _ _ _ _ (by omega)) hM) hM hr) hM hr hB
theorem GC.lk (h : GC M g B) (hM : SA M) (hB : 0 ≤ B) : ∀ n : Nat, (n : Int) ≤ M 0 3 → GC M (lkN M g n).2 B
  | 0, _ => h
  | n + 1, hn => by
    rw [lkN_s]
    split
    · exact GC.fall (GC.lk h hM hB n (by omega)) hM ⟨by omega, by omega⟩ hB
    · exact GC.lk h hM hB n (by omega)
theorem GC.pr (h : GC M g B) (hM : SA M) (hB : 0 ≤ B ∧ B ≤ 500000000) : GC M (gPr M g).2 (B + 54) := by
  have h38 := hM.1.2.1
  have hsh : ∀ n : Nat, (n : Int) ≤ M 0 3 → GC M (shN M g n) (B + 54) := by
    intro n
    induction n with
    | zero => intro _; exact h.mono (by omega)
    | succ n ih =>
      intro hn
      have h1 := (h.1.1 n (by omega) (by omega)).1
      have h7 := (h.1.1 n (by omega) (by omega)).2.2.2.2.2.2
      have hm := mul_b (m := 9) (n := 6) ⟨hM.1.2.2.2.2.1, h1⟩
      have hs := h.1.2.2.2.2 n (by omega) (by omega)
      rw [shN_s]
      refine GC.s4 (ih (by omega)) hM ⟨by omega, by omega⟩ _ ?_ ⟨Int.le_refl _, by omega⟩
      rw [cel_shN M g n 4 (by omega) (by omega), if_neg (by omega), cel_shN M g n 0 (by omega) (by omega), if_neg (by omega)]
      omega
  have h1 := GC.lk (hsh (M 0 3).toNat (by omega)) hM (by omega) (M 0 3).toNat (by omega)
  exact GC_lo (GC_lo h1 (fun z q => gu_n _ _ _ _ (by omega)) hM) (fun z q => gu_n _ _ _ _ (by omega)) hM
theorem GC.da (h : GC M g B) (hM : SA M) (hB : 0 ≤ B ∧ B ≤ 500000000) : GC M (gDa M g).2 (B + 4500) := by
  have h38 := hM.1.2.1
  have hsh : ∀ n : Nat, (n : Int) ≤ M 0 3 → GC M (daN M g n) (B + 4500) := by
    intro n
    induction n with
    | zero => intro _; exact h.mono (by omega)
    | succ n ih =>
      intro hn
      have hg := h.1.1 n (by omega) (by omega)
      have h1 := hg.2.1
      have h7 := hg.2.2.2.2.2.2
      have hw := suW_b (met := M 1) hg
      have hm := mul_b (a := M 0 7) (b := suW (M 1) g n) (m := 9) (n := 500) ⟨hM.1.2.2.2.2.2.1, by omega⟩
      have hs := h.1.2.2.2.2 n (by omega) (by omega)
      have ew : suW (M 1) (daN M g n) n = suW (M 1) g n := by
        refine suW_cong ?_ (fun k a b => ?_)
        · rw [cel_daN M h.1.1 n 1 ⟨by omega, by omega⟩ (by omega), if_neg (by omega)]
        · rw [cel_daN M h.1.1 n _ ⟨by omega, by omega⟩ (by omega), if_neg (by omega)]
      rw [daN_s]
      refine GC.s4 (ih (by omega)) hM ⟨by omega, by omega⟩ _ ?_ ⟨Int.le_refl _, by omega⟩
      rw [cel_daN M h.1.1 n 4 ⟨by omega, by omega⟩ (by omega), if_neg (by omega), ew]
      omega
  exact GC.lk (GC_lo (hsh (M 0 3).toNat (by omega)) (fun z q => gu_n _ _ _ _ (by omega)) hM) hM (by omega) (M 0 3).toNat (by omega)
theorem GC.buy (h : GC M g B) (hM : SA M) (k m : Int) (hk : 0 ≤ k ∧ k < M 0 9) (hm : 1 ≤ m ∧ g (6 + k) + m ≤ 99) : GC M (gu g (6 + k) (g (6 + k) + m)) B := by
  have h910 := hM.1.2.2.2.2.2.2.2
  have ec : ∀ r w, 0 ≤ r → 0 ≤ w → cel (gu g (6 + k) (g (6 + k) + m)) r w = cel g r w := fun r w a b => cel_gu _ _ _ _ _ (by omega)
  have h38 := hM.1.2.1
  have hlk : lim M k = 4099 := if_neg (by omega)
  obtain ⟨⟨g1, g2, g3, g4, g5⟩, h2, h3, h4, h5⟩ := h
  refine ⟨⟨fun r a b => (g1 r a b).cong fun w c d => ec r w a c, fun r a b q => ?_, fun r a b => ?_, fun r a b k p q => ?_, fun r a b => ?_⟩, fun j a b => ?_, ?_, fun r a b q => ?_, fun r a b => ?_⟩
  · rw [ec r 2 a (by omega)] at q
    rw [ec r 3 a (by omega)]; exact g2 r a b q
  · rw [ec r 0 (by omega) (by omega), ec r 1 (by omega) (by omega), ec r 2 (by omega) (by omega), ec r 3 (by omega) (by omega), ec r 4 (by omega) (by omega)]; exact g3 r a b
  · rw [ec r 1 a (by omega)] at q
    rw [ec r _ a (by omega)]; exact g4 r a b k p q
  · rw [ec r 4 a (by omega)]; exact g5 r a b
  · have hj := h2 j a b
    rw [sm_c (fun r => cnt (gu g (6 + k) (g (6 + k) + m)) r j) (fun r => cnt g r j) 8 (fun r c d => cnt_cg (g1 r c d) (fun w p q => ec r w c p) j)]
    by_cases y : j = k
    · rw [y, gu_s]
      rw [y] at hj
      have hs : sm (fun r => cnt g r k) 8 ≤ 500 * 8 := sm_ind _ (fun n s => s ≤ 500 * n) (by omega) 8 (fun r s c d e => by
        have := cnt_b (g1 r c d) k
        have := (g1 r c d).2.1
        omega) (by omega)
      omega
    · rw [gu_n _ _ _ _ (by omega)]; exact hj
  · rw [gu_n _ _ _ _ (by omega), sm_c (fun r => qi (gu g (6 + k) (g (6 + k) + m)) r) (fun r => qi g r) 8 (fun r c d => by unfold qi; rw [ec r 2 c (by omega)])]; exact h3
  · rw [ec r 2 a (by omega)] at q ⊢
    rw [ec r 3 a (by omega)]; exact h4 r a b q
  · rw [gapM_cong (g1 r a (by omega)) (fun w c d _ => ec r w a c)]; exact h5 r a b
theorem gap_put (h : GC M g B) (hM : SA M) (hr : 0 ≤ r ∧ r < M 0 3) (d : Int) (hd : 0 ≤ d ∧ d < 10) : gapM M (gPut g r d) r = gapM M g r - M 2 d := by
  have h38 := hM.1.2.1
  have hg := h.1.1 r hr.1 (by omega)
  have h1 := hg.1
  have h2 := hg.2.1
  have e := fun (r2 w : Int) (a : 0 ≤ r2) (b : 0 ≤ w ∧ w < 512) => cel_gPut g r d r2 w ⟨⟨⟨hr.1, a⟩, b⟩, h2, hd⟩
  have e0 := e r 0 hr.1 (by omega)
  have e2 := e r 2 hr.1 (by omega)
  have e3 := e r 3 hr.1 (by omega)
  rw [if_neg (by omega), if_neg (by omega)] at e0 e2 e3
  have eb : ∀ k, 0 ≤ k → k < cel g r 0 → cel (gPut g r d) r (5 + k) = cel g r (5 + k) := fun k a b => by rw [e r _ hr.1 (by omega), if_neg (by omega), if_neg (by omega)]
  have hs : suP (M 2) (gPut g r d) r = suP (M 2) g r + M 2 d := put_F hg hr.1 d hd (M 2)
  unfold gapM uQ
  rw [hs, suB_cong e0 eb, e2, e3]
  omega
theorem GC.pc (hM : SA M) (hr : 0 ≤ r ∧ r < M 0 3) (d : Int) (hd : 0 ≤ d ∧ d < M 0 9) : ∀ (n : Nat) {g : Int → Int}, GC M g B → (n : Int) ≤ g (6 + d) → n * M 2 d ≤ gapM M g r → GC M (pcN g r d n) B ∧ gapM M (pcN g r d n) r = gapM M g r - n * M 2 d ∧ (pcN g r d n) (6 + d) = g (6 + d) - n ∧ ∀ z, z < 16 → z ≠ 6 + d → pcN g r d n z = g z
  | 0, g, h, _, _ => ⟨h, by show gapM M g r = gapM M g r - (0 : Int) * M 2 d; omega, by show g (6 + d) = g (6 + d) - (0 : Int); omega, fun _ _ _ => rfl⟩
  | n + 1, g, h, h1, h2 => by
    have h9 := hM.1.2.2.2.2.2.2.2
    have hln := hM.2.2.2 d hd.1 hd.2
    have e1 : ((n + 1 : Nat) : Int) * M 2 d = n * M 2 d + M 2 d := by rw [show ((n + 1 : Nat) : Int) = (n : Int) + 1 by omega, Int.add_mul, Int.one_mul]
    obtain ⟨k1, k2, k3, k4⟩ := GC.pc hM hr d hd n h (by omega) (by omega)
    have hg := k1.1.1 r hr.1 (by have := hM.1.2.1; omega)
    have k5 := k1.put hM hr d hd (by omega) (by omega)
    have hnn := hg.2.1.1
    refine ⟨k5.1, ?_, ?_, fun z a b => ?_⟩
    · show gapM M (gPut (pcN g r d n) r d) r = _
      rw [gap_put k1 hM hr d (by omega), k2, e1]; omega
    · show gPut (pcN g r d n) r d (6 + d) = _
      rw [lo_gPut _ _ _ _ (by omega), if_pos rfl, k3]; omega
    · show gPut (pcN g r d n) r d z = _
      rw [lo_gPut _ _ _ _ (by omega), if_neg b]; exact k4 z a b
theorem GC.pl (hM : SA M) (hr : 0 ≤ r ∧ r < M 0 3) (o ch : Int → Int) (hO : ordOK (M 1) (M 2) (M 0 9) o) (h : GC M g B) (hc : ∀ p, 0 ≤ p → p < M 0 9 → 0 ≤ ch p ∧ ch p ≤ g (6 + o p)) (hs : sm (fun p => ch p * M 2 (o p)) (M 0 9) ≤ gapM M g r) :
    ∀ p : Nat, (p : Int) ≤ M 0 9 → GC M (plN g r o ch p) B ∧ gapM M (plN g r o ch p) r = gapM M g r - sm (fun p => ch p * M 2 (o p)) p ∧ ∀ q : Int, p ≤ q → q < M 0 9 → plN g r o ch p (6 + o q) = g (6 + o q)
  | 0, _ => ⟨h, by show gapM M g r = gapM M g r - 0; omega, fun _ _ _ => rfl⟩
  | p + 1, hp => by
    obtain ⟨k1, k2, k3⟩ := GC.pl hM hr o ch hO h hc hs p (by omega)
    have h9 := hM.1.2.2.2.2.2.2.2
    have hop := hO.1 p (by omega) (by omega)
    have hcp := hc p (by omega) (by omega)
    have hmono : ∀ j : Nat, (p : Int) + 1 + j ≤ M 0 9 → sm (fun p => ch p * M 2 (o p)) ((p : Int) + 1) ≤ sm (fun p => ch p * M 2 (o p)) ((p : Int) + 1 + j) := by
      intro j
      induction j with
      | zero => intro _; rw [show (p : Int) + 1 + ((0 : Nat) : Int) = (p : Int) + 1 by omega]; omega
      | succ j ih =>
        intro hj
        have hs2 := sm_s (fun p => ch p * M 2 (o p)) ((p : Int) + 1 + j) (by omega)
        rw [show (p : Int) + 1 + ((j + 1 : Nat) : Int) = ((p : Int) + 1 + j) + 1 by omega]
        have hoj := hO.1 ((p : Int) + 1 + j) (by omega) (by omega)
        have hlj := hM.2.2.2 _ hoj.1 hoj.2
        have hm := Int.mul_nonneg (hc ((p : Int) + 1 + j) (by omega) (by omega)).1 (show 0 ≤ M 2 (o ((p : Int) + 1 + j)) by omega)
        have := ih (by omega)
        omega
    have hm1 := hmono (M 0 9 - (p + 1)).toNat (by omega)
    rw [show (p : Int) + 1 + ((M 0 9 - ((p : Int) + 1)).toNat : Nat) = M 0 9 by omega] at hm1
    have hss := sm_s (fun p => ch p * M 2 (o p)) p (by omega)
    obtain ⟨x1, x2, x3, x4⟩ := GC.pc (B := B) hM hr (o p) hop (ch p).toNat k1 (by rw [k3 p (by omega) (by omega)]; omega) (by rw [show (((ch p).toNat : Nat) : Int) = ch p by omega, k2]; omega)
    refine ⟨x1, ?_, fun q a b => ?_⟩
    · show gapM M (pcN (plN g r o ch p) r (o p) (ch p).toNat) r = _
      rw [x2, k2, show (((ch p).toNat : Nat) : Int) = ch p by omega, show ((p + 1 : Nat) : Int) = (p : Int) + 1 by omega, hss]
      omega
    · show pcN (plN g r o ch p) r (o p) (ch p).toNat (6 + o q) = _
      have hoq := hO.1 q (by omega) b
      have hne : o q ≠ o p := fun z => by have := ord_inj hO q p ⟨by omega, b⟩ ⟨by omega, by omega⟩ z; omega
      rw [x4 _ (by omega) (by omega)]
      exact k3 q (by omega) b
end GCS2
