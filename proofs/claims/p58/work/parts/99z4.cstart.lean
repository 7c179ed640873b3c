/-! THE START: the class. New cells; what older cells keep -/
def nwC (c : CC) (t n : Nat) : CC := (fun a b => if a = c.2.2.1 then none else c.1 a b, fun a => if a = c.2.2.1 then (t, n) else c.2.1 a, c.2.2.1 + 1, c.2.2.2.1 + 1, c.2.2.2.2 + n)
def nwA (c : CC) (A : AI) : AI := fun b z => if b = c.2.2.1 then 0 else A b z
def nwJ (c : CC) (J : JI) : JI := fun b j => if b = c.2.2.1 then 0 else J b j
def ptC (c : CC) (a j q : Nat) : CC := (ax_up2 c.1 a j (some q), c.2)
/-- every older cell is as it was -/
def exc (c c' : CC) : Prop := c.2.2.1 ≤ c'.2.2.1 ∧ (∀ a, a < c.2.2.1 → c'.2.1 a = c.2.1 a) ∧ ∀ a j, a < c.2.2.1 → c'.1 a j = c.1 a j
section CST
variable {c c' c2 : CC} {A : AI} {J : JI} {a j q t n R S Q V Y : Nat}
theorem exc.refl (c : CC) : exc c c := ⟨Nat.le_refl _, fun _ _ => rfl, fun _ _ _ => rfl⟩
theorem exc.trans (h : exc c c') (k : exc c' c2) : exc c c2 := ⟨Nat.le_trans h.1 k.1, fun a p => (k.2.1 a (Nat.lt_of_lt_of_le p h.1)).trans (h.2.1 a p), fun a j p => (k.2.2 a j (Nat.lt_of_lt_of_le p h.1)).trans (h.2.2 a j p)⟩
theorem exc.new (c : CC) (t n : Nat) : exc c (nwC c t n) := ⟨Nat.le_succ _, fun a p => if_neg (by omega), fun a j p => if_neg (by omega)⟩
theorem k_new : ax_new (CW c A J) t n = CW (nwC c t n) (nwA c A) (nwJ c J) := by
  have e : (fun (a b : Nat) => if a = c.2.2.1 then (0 : Int32) else IW A a b) = IW (nwA c A) := by
    funext a b
    show (if a = c.2.2.1 then (0 : Int32) else ii (A a (b : Int))) = ii (if a = c.2.2.1 then 0 else A a (b : Int))
    by_cases q : a = c.2.2.1
    · rw [if_pos q, if_pos q]
      rfl
    · rw [if_neg q, if_neg q]
  show ((fun (a b : Nat) => if a = c.2.2.1 then (0 : Int32) else IW A a b), _) = (IW (nwA c A), _)
  rw [e]
  rfl
theorem k_nO (k : Nat → AS → Option AR) (hz : c.2.2.1 < 1000000) : nO (CW c A J) t n k = k c.2.2.1 (CW (nwC c t n) (nwA c A) (nwJ c J)) := (if_pos hz).trans (by rw [k_new]; rfl)
theorem k_nA {i : Int32} (k : Nat → AS → Option AR) (hz : c.2.2.1 < 1000000) (hi : i.toNatClampNeg = n ∧ ¬ i < 0 ∧ n ≤ 100000) : nA (CW c A J) t i k = k c.2.2.1 (CW (nwC c t n) (nwA c A) (nwJ c J)) := (if_pos ⟨hz, hi.2.1, by rw [hi.1]; exact hi.2.2⟩).trans (by rw [hi.1, k_new]; rfl)
theorem k_sR {ci m : Nat} (h : okc c a ci m) (k : AS → Option AR) : sR (CW c A J) a ci j q k = k (CW (ptC c a j q) A J) := (if_pos ⟨h.1, by rw [show ax_H (CW c A J) a = c.2.1 a from rfl, h.2]⟩).trans rfl
theorem okc_x {ci m : Nat} (h : okc c a ci m) (e : exc c c') : okc c' a ci m := ⟨Nat.lt_of_lt_of_le h.1 e.1, (e.2.1 a h.1).trans h.2⟩
theorem ptr_x {ci m : Nat} (o : okc c a ci m) (h : ptr c a j q) (e : exc c c') : ptr c' a j q := (e.2.2 a j o.1).trans h
theorem isRow.x (h : isRow c R) (e : exc c c') : isRow c' R := ⟨⟨okc_x h.1.1 e, okc_x h.1.2.1 e, okc_x h.1.2.2.1 e, okc_x h.1.2.2.2 e⟩, ptr_x h.1.1 h.2.1 e, ptr_x h.1.1 h.2.2.1 e, ptr_x h.1.1 h.2.2.2 e⟩
theorem isPlan.x (h : isPlan c Q) (e : exc c c') : isPlan c' Q := ⟨⟨okc_x h.1.1 e, okc_x h.1.2.1 e, okc_x h.1.2.2.1 e, okc_x h.1.2.2.2 e⟩, ptr_x h.1.1 h.2.1 e, ptr_x h.1.1 h.2.2.1 e, ptr_x h.1.1 h.2.2.2 e⟩
theorem isState.x (h : isState c S) (e : exc c c') : isState c' S := ⟨⟨okc_x h.1.1 e, okc_x h.1.2.1 e, okc_x h.1.2.2 e⟩, ⟨ptr_x h.1.1 h.2.1.1 e, ptr_x h.1.1 h.2.1.2 e⟩, fun r a b => ⟨ptr_x h.1.2.1 (h.2.2 r a b).1 e, (h.2.2 r a b).2.x e⟩⟩
theorem isReader.x (h : isReader c R) (e : exc c c') : isReader c' R := ⟨⟨okc_x h.1.1 e, okc_x h.1.2.1 e, okc_x h.1.2.2 e⟩, ptr_x h.1.1 h.2.1 e, ptr_x h.1.1 h.2.2 e⟩
theorem isSolver.x (h : isSolver c V) (e : exc c c') : isSolver c' V := ⟨⟨okc_x h.1.1 e, okc_x h.1.2.1 e, okc_x h.1.2.2.1 e, okc_x h.1.2.2.2.1 e, okc_x h.1.2.2.2.2.1 e, okc_x h.1.2.2.2.2.2 e⟩, ⟨ptr_x h.1.1 h.2.1.1 e, ptr_x h.1.1 h.2.1.2.1 e, ptr_x h.1.1 h.2.1.2.2.1 e, ptr_x h.1.1 h.2.1.2.2.2.1 e, ptr_x h.1.1 h.2.1.2.2.2.2 e⟩, fun p a b => ⟨ptr_x h.1.2.1 (h.2.2 p a b).1 e, okc_x (h.2.2 p a b).2 e⟩⟩
theorem isHist.x (h : isHist c Y) (e : exc c c') : isHist c' Y := ⟨⟨okc_x h.1.1 e, okc_x h.1.2 e⟩, ptr_x h.1.1 h.2.1 e, fun i a b => ⟨ptr_x h.1.2 (h.2.2 i a b).1 e, (h.2.2 i a b).2.x e⟩⟩
end CST
