/-! THROWING, STATICS, CONSTANTS, SWITCHES, COPIES -/
abbrev ax_up : List String := ["java/lang/RuntimeException", "java/lang/Exception"]
def ax_TL (own : String) (ik ic : Nat) (E : String) : Prop := Bundle.fit E = true ∧ Cond.classLink own ik E ∈ ax_ALL ∧ Cond.initialized E ∈ ax_ALL ∧ E ∈ ax_errs ∧ ∀ w ∈ vx_atS own ic E ax_up, w ∈ ax_ALL ∨ w = .castable E E ∨ ∃ Y ∈ ax_ups3, w = .declares (Bundle.initS Y)
theorem ax_TL.of {own : String} {ik ic : Nat} {E : String} (h0 : Bundle.fit E = true) (h1 : Cond.classLink own ik E ∈ ax_ALL) (h2 : Cond.initialized E ∈ ax_ALL) (h4 : E ∈ ax_errs) (h3 : (vx_atS own ic E ax_up).all (fun w => (decide (w ∈ lw_tbl) && goodWord w) || (decide (w = .castable E E) || ax_ups3.any (fun Y => decide (w = .declares (Bundle.initS Y))))) = true) : ax_TL own ik ic E :=
  ⟨h0, h1, h2, h4, fun w hw => by
    have h := List.all_eq_true.mp h3 w hw
    simp only [Bool.and_eq_true, Bool.or_eq_true, decide_eq_true_eq, List.any_eq_true] at h
    exact h.imp (fun h => ax_in h.1 h.2) id⟩
theorem ax_ot {w : Cond} (h : w ∈ ax_ALL) : vx_ot w = true := by
  have h2 := (List.mem_filter.mp h).2
  unfold vx_ot
  rw [h2, Bool.or_true]
theorem ax_ws_use {dA : Nat → ClassId} {ad : Nat → Nat} {σ : AS} {c n : Nat} : ax_ws dA ad (ax_use σ c n) = ax_ws dA ad σ :=
  List.map_congr_left fun k _ => by rw [ax_cell_cong (σ := σ) (τ := ax_use σ c n) (ad := ad) rfl (fun _ => rfl) (fun _ => rfl) (fun _ => rfl)]
/-- the world behind a copy -/
def ax_cI (σ : AS) (a0 sp a dp n : Nat) : AS := ((fun b i => if b = a then va_cpy (ax_I σ a0) (ax_I σ a) sp dp n i else ax_I σ b i), σ.2)
def ax_cJ (σ : AS) (a0 sp a dp n : Nat) : AS := (ax_I σ, (fun b i => if b = a then va_cpy (ax_J σ a0) (ax_J σ a) sp dp n i else ax_J σ b i), σ.2.2)
section OKT
variable {Γ : CX} {cc : ByteArray} {own : String} {ret : Option FieldType} {pc : Nat} {lv : List (Nat × Value)} {st : List Value} {σ : AS}
theorem ok_throwS (C : OKC Γ cc own ret) (T : ∀ z ∈ (cx_c Γ).exceptionTable.toList, False) {E : String} {ik is ic i : Nat} {text : String} (L : ax_TL own ik ic E) (hs : ax_strs[i]? = some (own, is, text))
    (d0 : decode cc pc = .ok (.new ik, 3)) (d3 : decode cc (pc + 3) = .ok (.dup, 1)) (d4 : decode cc (pc + 4) = .ok (.ldc is, 2)) (d6 : decode cc (pc + 6) = .ok (.invokespecial ic, 3)) (d9 : decode cc (pc + 9) = .ok (.athrow, 1))
    (hfr : 5 < cx_fr Γ) (hlo : (st.map fun v => v.category).sum + 82 ≤ cx_lo Γ) : OK Γ pc lv st (tE E σ) σ := by
  intro r hr
  cases hr
  refine ⟨⟨Nat.le_succ _, Nat.le_add_right _ _, Nat.le_refl _⟩, fun ad H locs ls h1 h2 h3 h4 h5 h6 h7 h8 h9 h10 => ?_⟩
  obtain ⟨e1, e2, e3, e4, e5, e6, e7, e8, e9, e10, e11, e12⟩ := C
  obtain ⟨l1, l2, l3, l5, l4⟩ := L
  have ea : ax_nc (ax_use σ 1 6) - ax_nc (cx_w Γ) = ax_nc σ - ax_nc (cx_w Γ) + 1 := by show ax_nc σ + 1 - _ = _; omega
  have eb : ax_ns (ax_use σ 1 6) - ax_ns (cx_w Γ) = ax_ns σ - ax_ns (cx_w Γ) + 6 := by show ax_ns σ + 6 - _ = _; omega
  refine vx_throwS (sa := cx_ad Γ (1000000 + i)) (names := ax_up) (A := cx_A Γ) e1 e2 e9 e3 l1 (by decide +kernel) (e4 _ l2) (e4 _ l3) (e10.2.1 i _ hs) (fun w hw => by rcases l4 w hw with h | rfl | ⟨Y, hY, rfl⟩; exact e4 w h; exact va_Nw.use rfl (e10.2.2.2.2.2.2.1 E l5); exact va_Nw.use rfl (e10.2.2.2.2.2.2.2.1 Y hY)) (fun w hw => ?_) (vx_Zq.narrow e10.1.1 e12) (vx_Zq.narrow e10.1.2.1 e12) h6 (h7.1.trans e8.symm) d0 d3 d4 d6 d9 (fun x hx => (T x hx).elim) hfr ?_ ?_ ?_ e7 (fun t hvm hsz hk => ?_) h6.2.2 ?_ ?_
  · rcases List.mem_cons.mp hw with rfl | hw
    · exact ax_ot l2
    · rcases List.mem_cons.mp hw with rfl | hw
      · exact ax_ot l3
      · rcases l4 w hw with h | rfl | ⟨Y, hY, rfl⟩
        · exact ax_ot h
        · rfl
        · rfl
  · rw [ax_sum]; exact hlo
  · show _ ≤ ax_nc (ax_use σ 1 6) - _; omega
  · show _ ≤ ax_ns (ax_use σ 1 6) - _; omega
  · refine ⟨ad, rfl, h4, by rw [show ((.inr E, ax_use σ 1 6) : AR).2 = ax_use σ 1 6 from rfl]; unfold ax_Rep; rw [ax_ws_use]; exact ⟨va_P.kept h5.1 (fun k q hq => hk q.1 (h5.1 k q hq).lt), h5.2⟩, ⟨Nat.le_trans h6.1 hsz, fun q hq hA => (hk q (Nat.lt_of_lt_of_le hq h6.1)).trans (h6.2.1 q hq hA)⟩, h8⟩
  · show _ ≤ ax_nc (ax_use σ 1 6) - _; omega
  · show _ ≤ ax_ns (ax_use σ 1 6) - _; omega
theorem ok_throwSW (C : OKC Γ cc own ret) (T : ∀ z ∈ (cx_c Γ).exceptionTable.toList, False) {E : String} {ik is ic i : Nat} {text : String} (L : ax_TL own ik ic E) (hs : ax_strs[i]? = some (own, is, text))
    (d0 : decode cc pc = .ok (.new ik, 3)) (d3 : decode cc (pc + 3) = .ok (.dup, 1)) (d4 : decode cc (pc + 4) = .ok (.ldc_w is, 3)) (d6 : decode cc (pc + 7) = .ok (.invokespecial ic, 3)) (d9 : decode cc (pc + 10) = .ok (.athrow, 1))
    (hfr : 5 < cx_fr Γ) (hlo : (st.map fun v => v.category).sum + 82 ≤ cx_lo Γ) : OK Γ pc lv st (tE E σ) σ := by
  intro r hr
  cases hr
  refine ⟨⟨Nat.le_succ _, Nat.le_add_right _ _, Nat.le_refl _⟩, fun ad H locs ls h1 h2 h3 h4 h5 h6 h7 h8 h9 h10 => ?_⟩
  obtain ⟨e1, e2, e3, e4, e5, e6, e7, e8, e9, e10, e11, e12⟩ := C
  obtain ⟨l1, l2, l3, l5, l4⟩ := L
  have ea : ax_nc (ax_use σ 1 6) - ax_nc (cx_w Γ) = ax_nc σ - ax_nc (cx_w Γ) + 1 := by show ax_nc σ + 1 - _ = _; omega
  have eb : ax_ns (ax_use σ 1 6) - ax_ns (cx_w Γ) = ax_ns σ - ax_ns (cx_w Γ) + 6 := by show ax_ns σ + 6 - _ = _; omega
  refine vx_throwSW (sa := cx_ad Γ (1000000 + i)) (names := ax_up) (A := cx_A Γ) e1 e2 e9 e3 l1 (by decide +kernel) (e4 _ l2) (e4 _ l3) (e10.2.1 i _ hs) (fun w hw => by rcases l4 w hw with h | rfl | ⟨Y, hY, rfl⟩; exact e4 w h; exact va_Nw.use rfl (e10.2.2.2.2.2.2.1 E l5); exact va_Nw.use rfl (e10.2.2.2.2.2.2.2.1 Y hY)) (fun w hw => ?_) (vx_Zq.narrow e10.1.1 e12) (vx_Zq.narrow e10.1.2.1 e12) h6 (h7.1.trans e8.symm) d0 d3 d4 d6 d9 (fun x hx => (T x hx).elim) hfr ?_ ?_ ?_ e7 (fun t hvm hsz hk => ?_) h6.2.2 ?_ ?_
  · rcases List.mem_cons.mp hw with rfl | hw
    · exact ax_ot l2
    · rcases List.mem_cons.mp hw with rfl | hw
      · exact ax_ot l3
      · rcases l4 w hw with h | rfl | ⟨Y, hY, rfl⟩
        · exact ax_ot h
        · rfl
        · rfl
  · rw [ax_sum]; exact hlo
  · show _ ≤ ax_nc (ax_use σ 1 6) - _; omega
  · show _ ≤ ax_ns (ax_use σ 1 6) - _; omega
  · refine ⟨ad, rfl, h4, by rw [show ((.inr E, ax_use σ 1 6) : AR).2 = ax_use σ 1 6 from rfl]; unfold ax_Rep; rw [ax_ws_use]; exact ⟨va_P.kept h5.1 (fun k q hq => hk q.1 (h5.1 k q hq).lt), h5.2⟩, ⟨Nat.le_trans h6.1 hsz, fun q hq hA => (hk q (Nat.lt_of_lt_of_le hq h6.1)).trans (h6.2.1 q hq hA)⟩, h8⟩
  · show _ ≤ ax_nc (ax_use σ 1 6) - _; omega
  · show _ ≤ ax_ns (ax_use σ 1 6) - _; omega
/-- a String constant -/
theorem ok_ldcS (C : OKC Γ cc own ret) (i : Nat) {is : Nat} {text : String} (hs : ax_strs[i]? = some (own, is, text)) (hdg : decode cc pc = .ok (.ldc is, 2)) {f : Option AR} (k : OK Γ (pc + 2) lv (.ref (1000000 + i) :: st) f σ) : OK Γ pc lv st f σ := by
  intro r hr
  obtain ⟨m, w⟩ := k r hr
  refine ⟨m, fun ad H locs ls h1 h2 h3 h4 h5 h6 h7 h8 h9 h10 => ?_⟩
  have hw := w ad H locs ls h1 h2 h3 h4 h5 h6 h7 h8 h9 ⟨Or.inr (Nat.le_add_right _ _), h10⟩
  exact va_ldcS C.1 C.2.1 C.2.2.1 (by have h := C.2.2.2.2.2.2.2.2.2.1.2.1 i _ hs; rw [← h4 _ (Or.inr (Nat.le_add_right _ _))] at h; exact h) hdg hw
/-- the JDK's statics that are read -/
theorem ok_getCS (C : OKC Γ cc own ret) {index : Nat} (L : Cond.fieldLink own index "java/lang/String" "COMPACT_STRINGS" "Z" ∈ ax_ALL) (hdg : decode cc pc = .ok (.getstatic index, 3)) {f : Option AR} (k : OK Γ (pc + 3) lv (.int 1 :: st) f σ) : OK Γ pc lv st f σ := by
  intro r hr
  obtain ⟨m, w⟩ := k r hr
  refine ⟨m, fun ad H locs ls h1 h2 h3 h4 h5 h6 h7 h8 h9 h10 => ?_⟩
  obtain ⟨e1, e2, e3, e4, e5, e6, e7, e8, e9, e10, e11, e12⟩ := C
  exact va_gets e1 e2 (e10.1.2.2.2.1.narrow e12) h6 e3 (e4 _ L) (fun _ h => h) hdg (w ad H locs ls h1 h2 h3 h4 h5 h6 h7 h8 h9 ⟨trivial, h10⟩)
theorem ok_getDT (C : OKC Γ cc own ret) {index : Nat} (L : Cond.fieldLink own index "java/lang/Integer" "DigitTens" "[B" ∈ ax_ALL) (hdg : decode cc pc = .ok (.getstatic index, 3)) {f : Option AR} (k : OK Γ (pc + 3) lv (.ref 2000000 :: st) f σ) : OK Γ pc lv st f σ := by
  intro r hr
  obtain ⟨m, w⟩ := k r hr
  refine ⟨m, fun ad H locs ls h1 h2 h3 h4 h5 h6 h7 h8 h9 h10 => ?_⟩
  obtain ⟨e1, e2, e3, e4, e5, e6, e7, e8, e9, e10, e11, e12⟩ := C
  have hw := w ad H locs ls h1 h2 h3 h4 h5 h6 h7 h8 h9 ⟨Or.inr (by decide), h10⟩
  exact va_gets e1 e2 (by have h := e10.1.2.2.2.2.1.narrow e12; rw [← h4 _ (Or.inr (by decide))] at h; exact h) h6 e3 (e4 _ L) (fun _ h => h) hdg hw
theorem ok_getDO (C : OKC Γ cc own ret) {index : Nat} (L : Cond.fieldLink own index "java/lang/Integer" "DigitOnes" "[B" ∈ ax_ALL) (hdg : decode cc pc = .ok (.getstatic index, 3)) {f : Option AR} (k : OK Γ (pc + 3) lv (.ref 2000001 :: st) f σ) : OK Γ pc lv st f σ := by
  intro r hr
  obtain ⟨m, w⟩ := k r hr
  refine ⟨m, fun ad H locs ls h1 h2 h3 h4 h5 h6 h7 h8 h9 h10 => ?_⟩
  obtain ⟨e1, e2, e3, e4, e5, e6, e7, e8, e9, e10, e11, e12⟩ := C
  have hw := w ad H locs ls h1 h2 h3 h4 h5 h6 h7 h8 h9 ⟨Or.inr (by decide), h10⟩
  exact va_gets e1 e2 (by have h := e10.1.2.2.2.2.2.2.1.narrow e12; rw [← h4 _ (Or.inr (by decide))] at h; exact h) h6 e3 (e4 _ L) (fun _ h => h) hdg hw
def kT (h : Nat → Int32) (i : Int32) (g : Int32 → Option AR) : Option AR := if ax_ib i 100 then g (h i.toNatClampNeg) else none
theorem ok_baldT (C : OKC Γ cc own ret) {i : Int32} (hdg : decode cc pc = .ok (.baload, 1)) {g : Int32 → Option AR} (k : ∀ v, OK Γ (pc + 1) lv (.int v :: st) (g v) σ) : OK Γ pc lv (.int i :: .ref 2000000 :: st) (kT ax_tens i g) σ := by
  intro r hr
  unfold kT at hr
  split at hr
  case isFalse => cases hr
  case isTrue hi =>
  obtain ⟨m, w⟩ := k _ r hr
  refine ⟨m, fun ad H locs ls h1 h2 h3 h4 h5 h6 h7 h8 h9 h10 => ?_⟩
  obtain ⟨e1, e2, e3, e4, e5, e6, e7, e8, e9, e10, e11, e12⟩ := C
  have hw := w ad H locs ls h1 h2 h3 h4 h5 h6 h7 h8 h9 ⟨trivial, h10.2.2⟩
  have ht := (e10.1.2.2.2.2.2.1).narrow e12
  rw [← h4 _ (Or.inr (by decide))] at ht
  exact va_tb e1 e2 ht h6 (i := i) hi rfl hdg hw
theorem ok_baldO (C : OKC Γ cc own ret) {i : Int32} (hdg : decode cc pc = .ok (.baload, 1)) {g : Int32 → Option AR} (k : ∀ v, OK Γ (pc + 1) lv (.int v :: st) (g v) σ) : OK Γ pc lv (.int i :: .ref 2000001 :: st) (kT ax_ones i g) σ := by
  intro r hr
  unfold kT at hr
  split at hr
  case isFalse => cases hr
  case isTrue hi =>
  obtain ⟨m, w⟩ := k _ r hr
  refine ⟨m, fun ad H locs ls h1 h2 h3 h4 h5 h6 h7 h8 h9 h10 => ?_⟩
  obtain ⟨e1, e2, e3, e4, e5, e6, e7, e8, e9, e10, e11, e12⟩ := C
  have hw := w ad H locs ls h1 h2 h3 h4 h5 h6 h7 h8 h9 ⟨trivial, h10.2.2⟩
  have ht := (e10.1.2.2.2.2.2.2.2.1).narrow e12
  rw [← h4 _ (Or.inr (by decide))] at ht
  exact va_tb e1 e2 ht h6 (i := i) hi rfl hdg hw
/-- a switch over a table, place by place -/
theorem ok_tsw (C : OKC Γ cc own ret) {x c : Int32} (i : Nat) {dflt lo hi off : Int} {offs : Array Int} {len : Nat} (tgt : Nat) {A B : Option AR} (hdg : decode cc pc = .ok (.tableswitch dflt lo hi offs, len)) (hc : c.toInt = lo + i ∧ c.toInt ≤ hi) (ho : offs[i]? = some off) (ht : (pc : Int) + off = (tgt : Int))
    (kA : OK Γ tgt lv st A σ) (kB : ¬ x = c → OK Γ pc lv (.int x :: st) B σ) : OK Γ pc lv (.int x :: st) (if x = c then A else B) σ := by
  intro r hr
  by_cases h : x = c
  · rw [if_pos h] at hr
    refine OK.row (st := .int x :: st) kA (fun _ h => h.2) (fun _ ad _ _ _ _ w => lv_tableIn C.1 C.2.1 hdg (by rw [h]; omega) (by rw [h]; omega) ?_ ht w) r hr
    rw [h, show (c.toInt - lo).toNat = i by omega]
    exact ho
  · rw [if_neg h] at hr
    exact kB h r hr
theorem ok_tdf (C : OKC Γ cc own ret) {x : Int32} {dflt lo hi : Int} {offs : Array Int} {len : Nat} (tgt : Nat) {f : Option AR} (hdg : decode cc pc = .ok (.tableswitch dflt lo hi offs, len)) (h : x.toInt < lo ∨ hi < x.toInt) (ht : (pc : Int) + dflt = (tgt : Int)) (k : OK Γ tgt lv st f σ) : OK Γ pc lv (.int x :: st) f σ :=
  OK.row k (fun _ h => h.2) fun _ ad _ _ _ _ w => lv_tableOut C.1 C.2.1 hdg h ht w
theorem ax_ne {x c : Int32} (h : ¬ x = c) : x.toInt ≠ c.toInt := fun e => h (Int32.toInt_inj.mp e)
/-- floats -/
theorem ok_fconst0 (C : OKC Γ cc own ret) (hdg : decode cc pc = .ok (.fconst 0, 1)) {f : Option AR} (k : OK Γ (pc + 1) lv (.float 0 :: st) f σ) : OK Γ pc lv st f σ :=
  OK.row k (fun _ h => ⟨trivial, h⟩) fun _ _ _ _ _ _ w => lv_fconst0 C.1 C.2.1 hdg w
theorem ok_dconst0 (C : OKC Γ cc own ret) (hdg : decode cc pc = .ok (.dconst 0, 1)) {f : Option AR} (k : OK Γ (pc + 1) lv (.double 0 :: st) f σ) : OK Γ pc lv st f σ :=
  OK.row k (fun _ h => ⟨trivial, h⟩) fun _ _ _ _ _ _ w => lv_dconst0 C.1 C.2.1 hdg w
theorem ok_i2f (C : OKC Γ cc own ret) {x : Int32} (hdg : decode cc pc = .ok (.i2f, 1)) {f : Option AR} (k : OK Γ (pc + 1) lv (.float (FP.i2f x) :: st) f σ) : OK Γ pc lv (.int x :: st) f σ :=
  OK.row k (fun _ h => ⟨trivial, h.2⟩) fun _ _ _ _ _ _ w => lv_i2f C.1 C.2.1 hdg w
theorem ok_i2d (C : OKC Γ cc own ret) {x : Int32} (hdg : decode cc pc = .ok (.i2d, 1)) {f : Option AR} (k : OK Γ (pc + 1) lv (.double (FP.i2d x) :: st) f σ) : OK Γ pc lv (.int x :: st) f σ :=
  OK.row k (fun _ h => ⟨trivial, h.2⟩) fun _ _ _ _ _ _ w => lv_i2d C.1 C.2.1 hdg w
theorem ok_fdiv (C : OKC Γ cc own ret) {x y : UInt32} (hdg : decode cc pc = .ok (.fdiv, 1)) {f : Option AR} (k : OK Γ (pc + 1) lv (.float (FP.fdiv x y) :: st) f σ) : OK Γ pc lv (.float y :: .float x :: st) (if FP.fdiv x y &&& 0x7fffffff ≤ 0x7f800000 then f else none) σ := by
  intro r hr
  split at hr
  case isFalse => cases hr
  case isTrue h => exact OK.row (st := .float y :: .float x :: st) k (fun _ h => ⟨trivial, h.2.2⟩) (fun _ _ _ _ _ _ w => lv_fdiv C.1 C.2.1 hdg h w) r hr
theorem ok_ddiv (C : OKC Γ cc own ret) {x y : UInt64} (hdg : decode cc pc = .ok (.ddiv, 1)) {f : Option AR} (k : OK Γ (pc + 1) lv (.double (FP.ddiv x y) :: st) f σ) : OK Γ pc lv (.double y :: .double x :: st) (if FP.ddiv x y &&& 0x7fffffffffffffff ≤ 0x7ff0000000000000 then f else none) σ := by
  intro r hr
  split at hr
  case isFalse => cases hr
  case isTrue h => exact OK.row (st := .double y :: .double x :: st) k (fun _ h => ⟨trivial, h.2.2⟩) (fun _ _ _ _ _ _ w => lv_ddiv C.1 C.2.1 hdg h w) r hr
/-- copies: numbers of one kind -/
def cpI (t : Nat) (ty : FieldType) (σ : AS) (a0 : Nat) (sp : Int32) (a : Nat) (dp n : Int32) (g : AS → Option AR) : Option AR :=
  if (a0 < ax_z σ ∧ (ax_H σ a0).1 = t ∧ a < ax_z σ ∧ (ax_H σ a).1 = t) ∧ (¬ sp < 0 ∧ ¬ dp < 0 ∧ ¬ n < 0 ∧ sp.toNatClampNeg + n.toNatClampNeg ≤ (ax_H σ a0).2 ∧ dp.toNatClampNeg + n.toNatClampNeg ≤ (ax_H σ a).2) ∧ (ty = .int ∨ (List.range n.toNatClampNeg).all (fun i => fits ty (.int (ax_I σ a0 (sp.toNatClampNeg + i)))) = true) then
    g (ax_cI σ a0 sp.toNatClampNeg a dp.toNatClampNeg n.toNatClampNeg) else none
def cpJ (σ : AS) (a0 : Nat) (sp : Int32) (a : Nat) (dp n : Int32) (g : AS → Option AR) : Option AR :=
  if (a0 < ax_z σ ∧ (ax_H σ a0).1 = 102 ∧ a < ax_z σ ∧ (ax_H σ a).1 = 102) ∧ (¬ sp < 0 ∧ ¬ dp < 0 ∧ ¬ n < 0 ∧ sp.toNatClampNeg + n.toNatClampNeg ≤ (ax_H σ a0).2 ∧ dp.toNatClampNeg + n.toNatClampNeg ≤ (ax_H σ a).2) then
    g (ax_cJ σ a0 sp.toNatClampNeg a dp.toNatClampNeg n.toNatClampNeg) else none
def ax_CL (own : String) (index : Nat) : Prop := Cond.methodLink own index arraycopyName ∈ ax_ALL ∧ Cond.native arraycopyName ∈ ax_ALL ∧ Cond.static arraycopyName ∈ ax_ALL ∧ Cond.initialized "java/lang/System" ∈ ax_ALL
theorem ok_copyI (C : OKC Γ cc own ret) (t t0 : Nat) {ty : FieldType} {a0 a index : Nat} {sp dp n : Int32} (L : ax_CL own index) (ht : ∀ dA, (ax_ty dA)[t0]? = some (dA t, ty)) (hp : refKind ty = false) (h2 : t ≠ 102) (h4 : t ≠ 104) (h110 : t < 110) (h100 : ¬ t < 100) (hfr : 1 ≤ cx_fr Γ) (hlo : (st.map fun v => v.category).sum + (nativeFrameWords "java/lang/System" "arraycopy" 5 + 11) ≤ cx_lo Γ) (hdg : decode cc pc = .ok (.invokestatic index, 3)) {g : AS → Option AR} (k : ∀ τ, OK Γ (pc + 3) lv st (g τ) τ) :
    OK Γ pc lv (.int n :: .int dp :: .ref a :: .int sp :: .ref a0 :: st) (cpI t ty σ a0 sp a dp n g) σ := by
  intro r hr
  unfold cpI at hr
  split at hr
  case isFalse => cases hr
  case isTrue h =>
    obtain ⟨⟨z1, z2, z3, z4⟩, ⟨n1, n2, n3, n4, n5⟩, hfit⟩ := h
    obtain ⟨m, w⟩ := k _ r hr
    refine ⟨m, fun ad H locs ls h1 h2' h3 h4' h5 h6 h7 h8 h9 h10 => ?_⟩
    refine va_copyi C.1 C.2.1 (C.2.2.2.2.2.2.2.1.trans h7.1.symm) C.2.2.1 (C.2.2.2.1 _ L.1) (C.2.2.2.1 _ L.2.1) (C.2.2.2.1 _ L.2.2.1) (C.2.2.2.1 _ L.2.2.2) C.2.2.2.2.1 h5.1 h5.2 h6 a0 a t0 t0 (f := ax_I σ a0) (g := ax_I σ a) (n0 := (ax_H σ a0).2) (n1 := (ax_H σ a).2)
      ((ax_ws_get z1).trans (by rw [ax_cell_a z2 h100, ax_arr_I h2 h4 h110])) ((ax_ws_get z3).trans (by rw [ax_cell_a z4 h100, ax_arr_I h2 h4 h110])) (ht _) (ht _) hp n1 n2 n3 n4 n5 (fun i hi => ?_) hfr (by rw [ax_sum]; exact hlo) hdg fun H1 locs1 hP hD hS => ?_
    · rcases hfit with rfl | hfit
      · rfl
      · exact List.all_eq_true.mp hfit i (List.mem_range.mpr hi)
    · rw [ax_set_arr (τ := ax_cI σ a0 sp.toNatClampNeg a dp.toNatClampNeg n.toNatClampNeg) z4 h100 rfl rfl (fun b z hb => ⟨if_neg hb, rfl, rfl⟩) (by rw [ax_arr_I h2 h4 h110]; exact congrArg (fun q => Sum.inl (cx_dA Γ t, (ax_H σ a).2, Sum.inl q)) (funext fun z => if_pos rfl))] at hP hD
      exact w ad H1 locs1 ls h1 h2' h3 h4' ⟨hP, hD⟩ hS h7 h8 (ax_lv_mono (σ := σ) (τ := ax_cI σ a0 sp.toNatClampNeg a dp.toNatClampNeg n.toNatClampNeg) (Nat.le_refl (ax_z σ)) h9) (ax_st_mono (σ := σ) (τ := ax_cI σ a0 sp.toNatClampNeg a dp.toNatClampNeg n.toNatClampNeg) (Nat.le_refl (ax_z σ)) h10.2.2.2.2.2)
theorem ok_copyJ (C : OKC Γ cc own ret) {a0 a index : Nat} {sp dp n : Int32} (L : ax_CL own index) (hfr : 1 ≤ cx_fr Γ) (hlo : (st.map fun v => v.category).sum + (nativeFrameWords "java/lang/System" "arraycopy" 5 + 11) ≤ cx_lo Γ) (hdg : decode cc pc = .ok (.invokestatic index, 3)) {g : AS → Option AR} (k : ∀ τ, OK Γ (pc + 3) lv st (g τ) τ) :
    OK Γ pc lv (.int n :: .int dp :: .ref a :: .int sp :: .ref a0 :: st) (cpJ σ a0 sp a dp n g) σ := by
  intro r hr
  unfold cpJ at hr
  split at hr
  case isFalse => cases hr
  case isTrue h =>
    obtain ⟨⟨z1, z2, z3, z4⟩, ⟨n1, n2, n3, n4, n5⟩⟩ := h
    obtain ⟨m, w⟩ := k _ r hr
    refine ⟨m, fun ad H locs ls h1 h2' h3 h4' h5 h6 h7 h8 h9 h10 => ?_⟩
    refine va_copyl C.1 C.2.1 (C.2.2.2.2.2.2.2.1.trans h7.1.symm) C.2.2.1 (C.2.2.2.1 _ L.1) (C.2.2.2.1 _ L.2.1) (C.2.2.2.1 _ L.2.2.1) (C.2.2.2.1 _ L.2.2.2) C.2.2.2.2.1 h5.1 h5.2 h6 a0 a 2 2 (f := ax_J σ a0) (g := ax_J σ a) (n0 := (ax_H σ a0).2) (n1 := (ax_H σ a).2) (ty := .long)
      ((ax_ws_get z1).trans (by rw [ax_cell_a z2 (by decide), ax_arr_J])) ((ax_ws_get z3).trans (by rw [ax_cell_a z4 (by decide), ax_arr_J])) rfl rfl rfl n1 n2 n3 n4 n5 (fun i hi => rfl) hfr (by rw [ax_sum]; exact hlo) hdg fun H1 locs1 hP hD hS => ?_
    rw [ax_set_arr (τ := ax_cJ σ a0 sp.toNatClampNeg a dp.toNatClampNeg n.toNatClampNeg) z4 (by decide) rfl rfl (fun b z hb => ⟨rfl, if_neg hb, rfl⟩) (by rw [ax_arr_J]; exact congrArg (fun q => Sum.inl (cx_dA Γ 102, (ax_H σ a).2, Sum.inr (Sum.inl q))) (funext fun z => if_pos rfl))] at hP hD
    exact w ad H1 locs1 ls h1 h2' h3 h4' ⟨hP, hD⟩ hS h7 h8 (ax_lv_mono (σ := σ) (τ := ax_cJ σ a0 sp.toNatClampNeg a dp.toNatClampNeg n.toNatClampNeg) (Nat.le_refl (ax_z σ)) h9) (ax_st_mono (σ := σ) (τ := ax_cJ σ a0 sp.toNatClampNeg a dp.toNatClampNeg n.toNatClampNeg) (Nat.le_refl (ax_z σ)) h10.2.2.2.2.2)
end OKT
