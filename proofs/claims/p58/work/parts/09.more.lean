/-- far more than any loop needs -/
def FU : Nat := 100000000
def lt (x : Int32) (g : Int32 → Option AR) : Option AR := g x
def ltJ (x : Int64) (g : Int64 → Option AR) : Option AR := g x
theorem ax_all_in {L : List Cond} (h : L.all (fun w => decide (w ∈ lw_tbl) && goodWord w) = true) : ∀ w ∈ L, w ∈ ax_ALL := fun w hw => by
  have h := List.all_eq_true.mp h w hw
  simp only [Bool.and_eq_true, decide_eq_true_eq] at h
  exact ax_in h.1 h.2
/-- a row of rows of ints: the outer one first, then each of the inner ones -/
def ax_newM (σ : AS) (n k : Nat) : AS :=
  (fun a b => if ax_z σ ≤ a ∧ a ≤ ax_z σ + n then 0 else σ.1 a b, fun a b => if ax_z σ ≤ a ∧ a ≤ ax_z σ + n then 0 else σ.2.1 a b,
   fun a b => if a = ax_z σ then (if b < n then some (ax_z σ + 1 + b) else none) else if ax_z σ ≤ a ∧ a ≤ ax_z σ + n then none else σ.2.2.1 a b,
   fun a => if a = ax_z σ then (110, n) else if ax_z σ ≤ a ∧ a ≤ ax_z σ + n then (100, k) else σ.2.2.2.1 a, ax_z σ + 1 + n, ax_nc σ + 1 + n, ax_ns σ + n + n * k)
def nM (σ : AS) (n k : Int32) (g : Nat → AS → Option AR) : Option AR := if n = 11 ∧ k = 501 ∧ ax_z σ < 900000 then g (ax_z σ) (ax_newM σ 11 501) else none
section OKM
variable {Γ : CX} {cc : ByteArray} {own : String} {ret : Option FieldType} {pc : Nat} {lv : List (Nat × Value)} {st : List Value} {σ : AS} {f : Option AR}
theorem ok_lt {x : Int32} {g : Int32 → Option AR} (k : ∀ v, OK Γ pc lv (.int v :: st) (g v) σ) : OK Γ pc lv (.int x :: st) (lt x g) σ := k x
theorem ok_ltJ {x : Int64} {g : Int64 → Option AR} (k : ∀ v, OK Γ pc lv (.long v :: st) (g v) σ) : OK Γ pc lv (.long x :: st) (ltJ x g) σ := k x
theorem ok_iincL (C : OKC Γ cc own ret) {i : Nat} {n : Int} (j : Nat) {x c : Int32} {g : Int32 → Option AR} (lv' : Int32 → List (Nat × Value)) (hdg : decode cc pc = .ok (.iinc i n, 3)) (hj : lv[j]? = some (i, .int x)) (hc : Int32.ofInt n = c) (hn : i < cx_nL Γ) (hl : ∀ v, (i, Value.int v) :: lv.filter (fun q => !(q.1 == i) && !(q.1 + 1 == i && q.2.category == 2)) = lv' v) (k : ∀ v, OK Γ (pc + 3) (lv' v) st (g v) σ) : OK Γ pc lv st (lt (x + c) g) σ :=
  ok_iinc C j (lv' (x + c)) hdg hj (by rw [hc]) hn (hl _) (k _)
theorem ax_pick (g : Nat × Value → Nat × Value) (lv : List (Nat × Value)) (ks : List Nat) : lv_pick (lv.map g) ks = (lv_pick lv ks).map g := by
  unfold lv_pick
  rw [List.map_filterMap]
  congr 1
  funext k
  rw [List.getElem?_map]
theorem OK.sub {lv' : List (Nat × Value)} (ks : List Nat) (h : lv_pick lv ks = lv') (k : OK Γ pc lv' st f σ) : OK Γ pc lv st f σ := by
  subst h
  intro r hr
  obtain ⟨m, w⟩ := k r hr
  exact ⟨m, fun ad H locs ls h1 h2 h3 h4 h5 h6 h7 h8 h9 h10 => w ad H locs ls h1 h2 h3 h4 h5 h6 (lv_sub h7 ks (ax_pick _ lv ks)) h8 (fun q hq => by
    obtain ⟨i, -, hi⟩ := List.mem_filterMap.mp hq
    exact h9 q (List.mem_of_getElem? hi)) h10⟩
theorem ok_aaldI (C : OKC Γ cc own ret) {a : Nat} {i : Int32} (hdg : decode cc pc = .ok (.aaload, 1)) {g : Nat → Option AR} (k : ∀ q, OK Γ (pc + 1) lv (.ref q :: st) (g q) σ) : OK Γ pc lv (.int i :: .ref a :: st) (aR σ a 110 i g) σ := by
  intro r hr
  unfold aR at hr
  split at hr
  case isFalse => cases hr
  case isTrue h =>
    split at hr
    case h_2 => cases hr
    case h_1 q hq =>
      obtain ⟨m, w⟩ := k _ r hr
      refine ⟨m, fun ad H locs ls h1 h2 h3 h4 h5 h6 h7 h8 h9 h10 => ?_⟩
      have hw := w ad H locs ls h1 h2 h3 h4 h5 h6 h7 h8 h9 ⟨h8 a _ q h.1 hq, h10.2.2⟩
      have hlt : i.toNatClampNeg < (ax_H σ a).2 := Nat.not_le.mp fun q => h.2.2 (Or.inr q)
      have hcell := h5.1 a _ ((ax_ws_get h.1).trans (by rw [ax_cell_a h.2.1 (by decide), ax_arr_R (by decide)]))
      have hv : va_rf ((ax_P σ a i.toNatClampNeg).map ad) = .ref (ad q) := by rw [hq]; rfl
      refine W.aald (v := .ref (ad q)) (ty := .array .int) C.1 C.2.1 hcell ((C.2.2.2.2.1.2 6 (cx_dA Γ 110, .array .int) rfl).1 (ax_H σ a).2 (fun j => va_rf ((ax_P σ a j).map ad))) rfl (fun q => by cases q) (by show ¬ (i < 0 ∨ (arrV _ _ _).slots.size ≤ _); rw [arrV_size]; exact h.2.2) (by show (arrV _ _ _).slots[_]? = _; rw [arrV_read _ _ hlt, hv]) rfl rfl hdg hw
theorem ok_ifnonnull (C : OKC Γ cc own ret) {x : Nat} {off : Int} (tgt : Nat) (hdg : decode cc pc = .ok (.ifnonnull off, 3)) (ht : (pc : Int) + off = (tgt : Int)) (k : OK Γ tgt lv st f σ) : OK Γ pc lv (.ref x :: st) f σ :=
  OK.row k (fun _ h => h.2) fun _ ad _ _ _ _ w => lv_ifnonnull C.1 C.2.1 hdg ht w
def ax_ML (own : String) (index : Nat) (y : MethodName) (code : ByteArray) : Prop := Cond.methodLink own index y ∈ ax_ALL ∧ Cond.static y ∈ ax_ALL ∧ Cond.initialized "java/lang/Math" ∈ ax_ALL ∧ Cond.code y code 2 (some .int) ∈ ax_ALL
theorem OK.rowC {pc' : Nat} {st' : List Value} (k : OK Γ pc' lv st' f σ) (hs : ax_lv σ lv → ax_st σ st → ax_st σ st')
    (h : ∀ (r : AR) (ad : Nat → Nat) (H : Heap) (locs : List Loc) (ls : Array Slot), (ax_nc (cx_w Γ) ≤ ax_nc σ ∧ ax_ns (cx_w Γ) ≤ ax_ns σ ∧ ax_nc σ ≤ ax_nc r.2 ∧ ax_ns σ ≤ ax_ns r.2) → lv_has ls (cx_nL Γ) (lv.map (fun q => (q.1, ax_cv ad q.2))) → W (cx_p Γ) (cx_l Γ) (cx_e Γ) (cx_R Γ r) (cx_s Γ) (cx_m Γ) (cx_a Γ) (cx_below Γ) (cx_meth Γ) (cx_c Γ) H locs (ax_nc σ - ax_nc (cx_w Γ)) (ax_ns σ - ax_ns (cx_w Γ)) (cx_Q Γ r) (F0 (cx_m Γ) pc' ls (st'.map (ax_cv ad))) → W (cx_p Γ) (cx_l Γ) (cx_e Γ) (cx_R Γ r) (cx_s Γ) (cx_m Γ) (cx_a Γ) (cx_below Γ) (cx_meth Γ) (cx_c Γ) H locs (ax_nc σ - ax_nc (cx_w Γ)) (ax_ns σ - ax_ns (cx_w Γ)) (cx_Q Γ r) (F0 (cx_m Γ) pc ls (st.map (ax_cv ad)))) : OK Γ pc lv st f σ := by
  intro r hr
  obtain ⟨m, w⟩ := k r hr
  exact ⟨m, fun ad H locs ls h1 h2 h3 h4 h5 h6 h7 h8 h9 h10 => h r ad H locs ls ⟨h1, h2, m.1, m.2.1⟩ h7 (w ad H locs ls h1 h2 h3 h4 h5 h6 h7 h8 h9 (hs h9 h10))⟩
theorem ok_mmax (C : OKC Γ cc own ret) {x y : Int32} {index : Nat} (L : ax_ML own index Lib.Math.max.name Lib.Math.max.code) (hfr : 1 ≤ cx_fr Γ) (hlo : (st.map fun v => v.category).sum + 13 ≤ cx_lo Γ) (hdg : decode cc pc = .ok (.invokestatic index, 3)) (k : OK Γ (pc + 3) lv (.int (if x < y then y else x) :: st) f σ) : OK Γ pc lv (.int y :: .int x :: st) f σ :=
  OK.rowC (st := .int y :: .int x :: st) k (fun _ h => ⟨trivial, h.2.2⟩) fun r ad _ _ _ hm h w => va_mmax C.1 C.2.1 (C.2.2.2.2.2.2.2.1.trans h.1.symm) C.2.2.1 (C.2.2.2.1 _ L.1) (C.2.2.2.1 _ L.2.1) (C.2.2.2.1 _ L.2.2.1) (C.2.2.2.1 _ L.2.2.2) hfr (by rw [ax_sum]; exact hlo) (by show _ ≤ ax_nc r.2 - _; omega) (by show _ ≤ ax_ns r.2 - _; omega) hdg w
theorem ok_mmin (C : OKC Γ cc own ret) {x y : Int32} {index : Nat} (L : ax_ML own index Lib.Math.min.name Lib.Math.min.code) (hfr : 1 ≤ cx_fr Γ) (hlo : (st.map fun v => v.category).sum + 13 ≤ cx_lo Γ) (hdg : decode cc pc = .ok (.invokestatic index, 3)) (k : OK Γ (pc + 3) lv (.int (if y < x then y else x) :: st) f σ) : OK Γ pc lv (.int y :: .int x :: st) f σ :=
  OK.rowC (st := .int y :: .int x :: st) k (fun _ h => ⟨trivial, h.2.2⟩) fun r ad _ _ _ hm h w => va_mmin C.1 C.2.1 (C.2.2.2.2.2.2.2.1.trans h.1.symm) C.2.2.1 (C.2.2.2.1 _ L.1) (C.2.2.2.1 _ L.2.1) (C.2.2.2.1 _ L.2.2.1) (C.2.2.2.1 _ L.2.2.2) hfr (by rw [ax_sum]; exact hlo) (by show _ ≤ ax_nc r.2 - _; omega) (by show _ ≤ ax_ns r.2 - _; omega) hdg w
theorem ax_over111 (C : OKC Γ cc own ret) : va_AO RX3 (cx_s Γ) := C.2.2.2.2.2.2.2.2.2.1.2.2.1
theorem ax_over112 (C : OKC Γ cc own ret) : va_AO RX5 (cx_s Γ) := C.2.2.2.2.2.2.2.2.2.1.2.2.2.1
end OKM
