theorem va_AOA.moved {ty : FieldType} {u U : State} (hvm : u.vm.Alike U.vm) (h : va_AOA ty u) : va_AOA ty U := by
  have h1 : (Cond.arrayOver (.array ty)).before #[] (u.setVm U.vm) = true := (Cond.arrayOver_setVmC hvm (.array ty)).trans h
  have h2 : (Cond.arrayOver (.array ty)).before #[] U = (Cond.arrayOver (.array ty)).before #[] (u.setVm U.vm) := rfl
  exact h2.trans h1
/-- the tables' words that every method is given -/
def ax_more : List Cond := [.selects RJ4 yJ5_ensureCapacityInternal_d00df yJ5_ensureCapacityInternal_d00df, .selects RJ4 yJ5_newCapacity_0f7a4 yJ5_newCapacity_0f7a4, .selects RJ4 yJ5_putStringAt_47b60 yJ5_putStringAt_47b60, .selects RJ4 yJ5_inflateIfNeededFor_a7421 yJ5_inflateIfNeededFor_a7421]
def ax_ALL : List Cond := (ax_more ++ lw_tbl).filter goodWord
theorem ax_in {w : Cond} (h : w ∈ lw_tbl) (hg : goodWord w = true) : w ∈ ax_ALL := List.mem_filter.mpr ⟨List.mem_append_right _ h, hg⟩
theorem ax_mE : Cond.selects RJ4 yJ5_ensureCapacityInternal_d00df yJ5_ensureCapacityInternal_d00df ∈ ax_ALL := List.mem_filter.mpr ⟨List.mem_append_left _ List.mem_cons_self, by decide +kernel⟩
theorem ax_mN : Cond.selects RJ4 yJ5_newCapacity_0f7a4 yJ5_newCapacity_0f7a4 ∈ ax_ALL := List.mem_filter.mpr ⟨List.mem_append_left _ (List.mem_cons_of_mem _ List.mem_cons_self), by decide +kernel⟩
theorem ax_mP : Cond.selects RJ4 yJ5_putStringAt_47b60 yJ5_putStringAt_47b60 ∈ ax_ALL := List.mem_filter.mpr ⟨List.mem_append_left _ (List.mem_cons_of_mem _ (List.mem_cons_of_mem _ List.mem_cons_self)), by decide +kernel⟩
theorem ax_mI : Cond.selects RJ4 yJ5_inflateIfNeededFor_a7421 yJ5_inflateIfNeededFor_a7421 ∈ ax_ALL := List.mem_filter.mpr ⟨List.mem_append_left _ (List.mem_cons_of_mem _ (List.mem_cons_of_mem _ (List.mem_cons_of_mem _ List.mem_cons_self))), by decide +kernel⟩
theorem ax_goodIn {x : Cond} {ws : List Cond} (h : ∀ w ∈ ws, w ∈ ax_ALL) : GoodIn (x :: ax_ALL) ws := fun w hw => ⟨List.mem_cons_of_mem _ (h w hw), good_of_word (List.mem_filter.mp (h w hw)).2⟩
theorem ax_goodIn' {ws : List Cond} (h : ∀ w ∈ ws, w ∈ ax_ALL) : GoodIn ax_ALL ws := fun w hw => ⟨h w hw, good_of_word (List.mem_filter.mp (h w hw)).2⟩
/-! THE JUDGEMENT: from this place of a method's body, with these locals and this stack and this world, the machine comes to the end that f tells. -/
/-- the String constants of the class and of its model: who names them, at which entry, their text; the i-th is the cell 1000000 + i -/
def ax_strs : List (String × Nat × String) := [("ChaseLocker", 75, "there are not so many bytes in the buffer"), ("ChaseLocker", 86, "the text has an error"), ("ChaseLocker", 150, "there is no such count"), ("ChaseLocker", 170, "there is no such setting"), ("ChaseLocker", 206, "there is no such property of a row"), ("ChaseLocker", 236, "there is no such property of a kind"), ("ChaseLocker", 259, "there is no such part of a choice"), ("ChaseLocker", 332, "the greatest length is out of range"), ("ChaseLocker", 340, "the number of impressions is out of range"), ("ChaseLocker", 376, "the block does not go in"), ("ChaseLocker", 387, "the piece does not go in"), ("ChaseLocker", 397, "it is so already"), ("ChaseLocker", 399, "the quoin does not go in"), ("ChaseLocker", 409, "there is no quoin, or it can't be opened so"), ("ChaseLocker", 411, "the quoin would be too long"), ("ChaseLocker", 413, "there is no filling"), ("ChaseLocker", 415, "the row has no quoin"), ("ChaseLocker", 423, "so many can't be bought"), ("ChaseLocker", 430, "there is no change to undo"), ("ChaseLocker", 436, "nothing is saved there"), ("ChaseLocker", 438, "no text was loaded"), ("ChaseLocker", 440, "there is no such row"), ("ChaseLocker", 442, "there is no such kind"), ("ChaseLocker", 444, "there is no such index"), ("ChaseLocker", 446, "the length is out of range"), ("ChaseLocker", 448, "so many can't be made"), ("ChaseLocker$Reader", 78, "chase"), ("ChaseLocker$Reader", 103, "rules"), ("ChaseLocker$Reader", 114, "wood"), ("ChaseLocker$Reader", 124, "metal"), ("ChaseLocker$Reader", 126, "row"), ("ChaseLocker$Reader", 114, "wood"), ("ChaseLocker$Reader", 124, "metal"), ("ChaseLocker$Reader", 126, "row"), ("ChaseLocker$Reader", 78, "chase"), ("ChaseLocker$Reader", 103, "rules"), ("ChaseLockerLaw$World", 9, "chase "), ("ChaseLockerLaw$World", 80, ";rules "), ("ChaseLockerLaw$World", 92, ";metal "), ("ChaseLockerLaw$World", 94, ";wood "), ("ChaseLockerLaw$World", 96, ";row "), ("ChaseLockerLaw", 291, " ["), ("ChaseLockerLaw", 296, " m"), ("ChaseLockerLaw", 298, " w"), ("ChaseLockerLaw", 300, " q")]
/-- the bytes of those that are read: from the 26th on -/
def ax_byts : List (List Int32) := [[99, 104, 97, 115, 101], [114, 117, 108, 101, 115], [119, 111, 111, 100], [109, 101, 116, 97, 108], [114, 111, 119], [119, 111, 111, 100], [109, 101, 116, 97, 108], [114, 111, 119], [99, 104, 97, 115, 101], [114, 117, 108, 101, 115], [99, 104, 97, 115, 101, 32], [59, 114, 117, 108, 101, 115, 32], [59, 109, 101, 116, 97, 108, 32], [59, 119, 111, 111, 100, 32], [59, 114, 111, 119, 32], [32, 91], [32, 109], [32, 119], [32, 113]]
def ax_byt (i : Nat) : List Int32 := ax_byts.getD (i - 26) []
/-- a String constant that is read, at the cell a -/
def ax_Str (b : List Int32) (a v : Nat) (A : Nat → Prop) (U : State) (H : Heap) : Prop :=
  va_O "java/lang/String" a A U H ∧ va_OF "java/lang/String" "coder" "B" (.int 0) a A U H ∧ va_OF "java/lang/String" "value" "[B" (.ref v) a A U H ∧ va_T .byte v b.length (fun j => .int (b.getD j 0)) A U H
theorem ax_Str.moved {b : List Int32} {a v : Nat} {A : Nat → Prop} {u U : State} {H : Heap} (hvm : u.vm.Alike U.vm) (h : ax_Str b a v A u H) : ax_Str b a v A U H := by
  obtain ⟨h1, h2, h3, h4⟩ := h
  exact ⟨h1.moved hvm, h2.moved hvm, h3.moved hvm, h4.moved hvm⟩
theorem ax_Str.kept {b : List Int32} {a v : Nat} {A : Nat → Prop} {U : State} {H H1 : Heap} (h : ax_Str b a v A U H) (hq : ∀ a : Nat, a < H.size → ¬ A a → H1[a]? = H[a]?) : ax_Str b a v A U H1 := by
  obtain ⟨h1, h2, h3, h4⟩ := h
  exact ⟨h1.kept hq, h2.kept hq, h3.kept hq, h4.kept hq⟩
/-- what a digit's place is in the JDK's two tables of digits -/
def ax_tens (j : Nat) : Int32 := Int32.ofNat (48 + j / 10)
def ax_ones (j : Nat) : Int32 := Int32.ofNat (48 + j % 10)
/-- what the world has from the start on, and keeps, as the heap is H -/
def ax_KH (B0 : Nat) (ad : Nat → Nat) (U : State) (H : Heap) : Prop :=
  vx_Zq Bundle.tN "UNASSIGNED_STACK" Bundle.steD (fun q => B0 ≤ q) U H ∧ vx_Zq Bundle.tN "SUPPRESSED_SENTINEL" Bundle.listD (fun q => B0 ≤ q) U H ∧
  (∀ i, 26 ≤ i → i < 45 → ax_Str (ax_byt i) (ad (1000000 + i)) (ad (3000000 + i)) (fun q => B0 ≤ q) U H) ∧
  va_Z "java/lang/String" "COMPACT_STRINGS" "Z" (.int 1) (fun q => B0 ≤ q) U H ∧
  va_Z "java/lang/Integer" "DigitTens" "[B" (.ref (ad 2000000)) (fun q => B0 ≤ q) U H ∧ va_T .byte (ad 2000000) 100 (fun j => .int (ax_tens j)) (fun q => B0 ≤ q) U H ∧
  va_Z "java/lang/Integer" "DigitOnes" "[B" (.ref (ad 2000001)) (fun q => B0 ≤ q) U H ∧ va_T .byte (ad 2000001) 100 (fun j => .int (ax_ones j)) (fun q => B0 ≤ q) U H ∧
  (va_Z "jdk/internal/util/Preconditions" "SIOOBE_FORMATTER" "Ljava/util/function/BiFunction;" .null (fun q => B0 ≤ q) U H ∨ va_Z "jdk/internal/util/Preconditions" "SIOOBE_FORMATTER" "Ljava/util/function/BiFunction;" (.ref (ad 4000000)) (fun q => B0 ≤ q) U H) ∧
  (va_X (ad 5000000) (ad 6000000) (fun j => Int32.ofNat (ad (6000001 + j))) U H ∧ ad 5000000 < H.size ∧ ¬ B0 ≤ ad 5000000)
theorem ax_KH.moved {B0 : Nat} {ad : Nat → Nat} {u U : State} {H : Heap} (hvm : u.vm.Alike U.vm) (h : ax_KH B0 ad u H) : ax_KH B0 ad U H := by
  obtain ⟨h1, h2, h3, h4, h5, h6, h7, h8, h9, hx1, hx2, hx3⟩ := h
  exact ⟨vx_Zq.moved hvm h1, vx_Zq.moved hvm h2, fun i a b => (h3 i a b).moved hvm, h4.moved hvm, h5.moved hvm, h6.moved hvm, h7.moved hvm, h8.moved hvm, h9.imp (fun z => z.moved hvm) (fun z => z.moved hvm), hx1.moved hvm, hx2, hx3⟩
theorem ax_KH.kept {B0 : Nat} {ad : Nat → Nat} {U : State} {H H1 : Heap} (h : ax_KH B0 ad U H) (hq : ∀ a : Nat, a < H.size → ¬ B0 ≤ a → H1[a]? = H[a]?) : ax_KH B0 ad U H1 := by
  obtain ⟨h1, h2, h3, h4, h5, h6, h7, h8, h9, hx1, hx2, hx3⟩ := h
  exact ⟨vx_Zq.kept h1 hq, vx_Zq.kept h2 hq, fun i a b => (h3 i a b).kept hq, h4.kept hq, h5.kept hq, h6.kept hq, h7.kept hq, h8.kept hq, h9.imp (fun z => z.kept hq) (fun z => z.kept hq), hx1.kept (hq _ hx2 hx3), by have := hq _ hx2 hx3; obtain ⟨scr, e1, -⟩ := hx1; rw [e1] at this; exact (Array.getElem?_eq_some_iff.mp this).1, hx3⟩
theorem ax_KH.at {B0 : Nat} {ad ad' : Nat → Nat} {U : State} {H : Heap} (h : ax_KH B0 ad U H) (hc : ∀ k, 1000000 ≤ k → ad' k = ad k) : ax_KH B0 ad' U H := by
  obtain ⟨h1, h2, h3, h4, h5, h6, h7, h8, h9, hx1, hx2, hx3⟩ := h
  exact ⟨h1, h2, fun i a b => by rw [hc _ (by omega), hc _ (by omega)]; exact h3 i a b, h4, by rw [hc _ (by omega)]; exact h5, by rw [hc _ (by omega)]; exact h6, by rw [hc _ (by omega)]; exact h7, by rw [hc _ (by omega)]; exact h8, h9.imp id (fun z => by rw [hc _ (by omega)]; exact z), by rw [hc _ (by omega), hc _ (by omega), show (fun j => Int32.ofNat (ad' (6000001 + j))) = fun j => Int32.ofNat (ad (6000001 + j)) from funext fun j => by rw [hc _ (by omega)]]; exact hx1, by rw [hc _ (by omega)]; exact hx2, by rw [hc _ (by omega)]; exact hx3⟩
/-- the script, as the names of cells tell it -/
def ax_scr (ad : Nat → Nat) : Nat × (Nat → Int32) := (ad 6000000, fun j => Int32.ofNat (ad (6000001 + j)))
theorem ax_scr_at {ad ad' : Nat → Nat} (hc : ∀ k, 1000000 ≤ k → ad' k = ad k) : ax_scr ad' = ax_scr ad := Prod.ext (hc _ (by omega)) (funext fun j => by show Int32.ofNat (ad' (6000001 + j)) = Int32.ofNat (ad (6000001 + j)); rw [hc _ (by omega)])
/-- the private constructors that a nest mate calls -/
def ax_nests : List (String × Nat × MethodName × String) := [(RX6, 18, yX4_init, "ChaseLocker"), (RX6, 57, yX1_init, "ChaseLocker"), (RX6, 9, yX2_init, "ChaseLocker"), (RX5, 21, yX3_init, "ChaseLocker"), (RX19, 132, yX18_init, "ChaseLockerLaw")]
/-- the private fields that a nest mate uses -/
def ax_fnests : List (String × Nat × String × String × String × String) := [(RL, 319, RX19, "text", "Ljava/lang/StringBuilder;", "ChaseLockerLaw"), (RL, 134, RX19, "set", "[I", "ChaseLockerLaw"), (RL, 181, RX19, "size", "[I", "ChaseLockerLaw"), (RL, 178, RX19, "left", "[I", "ChaseLockerLaw"), (RL, 248, RX19, "order", "[I", "ChaseLockerLaw"), (RL, 203, RX19, "count", "[I", "ChaseLockerLaw"), (RL, 193, RX19, "metal", "[Z", "ChaseLockerLaw"), (RL, 163, RX19, "blocks", "[[I", "ChaseLockerLaw"), (RL, 167, RX19, "pieces", "[[I", "ChaseLockerLaw"), (RL, 142, RX19, "many", "[I", "ChaseLockerLaw"), (RL, 145, RX19, "used", "[I", "ChaseLockerLaw"), (RL, 140, RX19, "open", "[I", "ChaseLockerLaw"), (RL, 160, RX19, "up", "[I", "ChaseLockerLaw"), (RL, 151, RX19, "slack", "[I", "ChaseLockerLaw"), (RL, 170, RX19, "kinds", "I", "ChaseLockerLaw"), (RL, 197, RX19, "quoins", "I", "ChaseLockerLaw"), (RX19, 141, RX18, "many", "[I", "ChaseLockerLaw"), (RX19, 136, RX18, "pieces", "I", "ChaseLockerLaw"), (RX19, 138, RX18, "opening", "I", "ChaseLockerLaw"), (RX19, 133, RX18, "ways", "I", "ChaseLockerLaw")]
/-- the exceptions that are thrown -/
def ax_errs : List String := ["java/lang/IllegalStateException", "java/lang/IllegalArgumentException", "java/lang/IndexOutOfBoundsException"]
/-- the classes above them -/
def ax_ups3 : List String := ["java/lang/RuntimeException", "java/lang/Exception", "java/lang/Throwable"]
/-- .. and that the String constants are named -/
def ax_KF (B0 : Nat) (ad : Nat → Nat) (U : State) : Prop := ax_KH B0 ad U U.heap ∧ (∀ (i : Nat) (q : String × Nat × String), ax_strs[i]? = some q → vk_R q.1 q.2.1 q.2.2 (ad (1000000 + i)) U) ∧ va_AO RX3 U ∧ va_AO RX5 U ∧ (va_AOA .int U ∧ va_Nw (.castable "[B" "java/lang/Cloneable") U ∧ ∀ q ∈ ax_fnests, va_Nw (.fieldLinkNest q.1 q.2.1 q.2.2.1 q.2.2.2.1 q.2.2.2.2.1 q.2.2.2.2.2) U) ∧ (∀ q ∈ ax_nests, va_Nw (.methodLinkNest q.1 q.2.1 q.2.2.1 q.2.2.2) U) ∧ (∀ E ∈ ax_errs, va_Nw (.castable E E) U) ∧ (∀ Y ∈ ax_ups3, va_Nw (.declares (Bundle.initS Y)) U) ∧ ∀ E ∈ ax_errs, ∀ E' ∈ ax_errs, E ≠ E' → va_Nc E E' U
/-- the arrays' classes -/
abbrev ax_ty (dA : Nat → ClassId) : List (ClassId × FieldType) := [(dA 100, .int), (dA 101, .boolean), (dA 102, .long), (dA 103, .byte), (dA 103, .byte), (dA 105, .byte), (dA 110, .array .int), (dA 111, .object RX3), (dA 112, .object RX5)]
abbrev CX : Type := Program × Launch × Env × State × MethodId × Array Value × List Frame × Method × Code × va_G × (Nat → ClassId) × Nat × AS × (Nat → Nat) × Nat × Nat × Nat
abbrev cx_p (Γ : CX) : Program := Γ.1
abbrev cx_l (Γ : CX) : Launch := Γ.2.1
abbrev cx_e (Γ : CX) : Env := Γ.2.2.1
abbrev cx_s (Γ : CX) : State := Γ.2.2.2.1
abbrev cx_m (Γ : CX) : MethodId := Γ.2.2.2.2.1
abbrev cx_a (Γ : CX) : Array Value := Γ.2.2.2.2.2.1
abbrev cx_below (Γ : CX) : List Frame := Γ.2.2.2.2.2.2.1
abbrev cx_meth (Γ : CX) : Method := Γ.2.2.2.2.2.2.2.1
abbrev cx_c (Γ : CX) : Code := Γ.2.2.2.2.2.2.2.2.1
abbrev cx_D (Γ : CX) : va_G := Γ.2.2.2.2.2.2.2.2.2.1
abbrev cx_dA (Γ : CX) : Nat → ClassId := Γ.2.2.2.2.2.2.2.2.2.2.1
abbrev cx_B (Γ : CX) : Nat := Γ.2.2.2.2.2.2.2.2.2.2.2.1
abbrev cx_w (Γ : CX) : AS := Γ.2.2.2.2.2.2.2.2.2.2.2.2.1
abbrev cx_ad (Γ : CX) : Nat → Nat := Γ.2.2.2.2.2.2.2.2.2.2.2.2.2.1
abbrev cx_nL (Γ : CX) : Nat := Γ.2.2.2.2.2.2.2.2.2.2.2.2.2.2.1
abbrev cx_fr (Γ : CX) : Nat := Γ.2.2.2.2.2.2.2.2.2.2.2.2.2.2.2.1
abbrev cx_lo (Γ : CX) : Nat := Γ.2.2.2.2.2.2.2.2.2.2.2.2.2.2.2.2
/-- the cells that a body may write: its world's, and new ones -/
abbrev cx_A (Γ : CX) : Nat → Prop := va_A (ax_ws (cx_dA Γ) (cx_ad Γ) (cx_w Γ)) (cx_s Γ).heap.size
/-- the heap holds the world σ, its cells at the addresses ad, all of them in A -/
def ax_Rep (D : va_G) (dA : Nat → ClassId) (A : Nat → Prop) (ad : Nat → Nat) (σ : AS) (H : Heap) : Prop := va_P D vwCl (ax_ws dA ad σ) H ∧ va_D A (ax_ws dA ad σ)
/-- a value's reference is a cell of the world, or one of the constants -/
def ax_sv (σ : AS) (v : Value) : Prop := match v with
  | .ref k => k < ax_z σ ∨ 1000000 ≤ k
  | _ => True
def ax_st (σ : AS) : List Value → Prop
  | [] => True
  | v :: st => ax_sv σ v ∧ ax_st σ st
def ax_lv (σ : AS) (lv : List (Nat × Value)) : Prop := ∀ q ∈ lv, ax_sv σ q.2
theorem ax_sv_mono {σ τ : AS} (h : ax_z σ ≤ ax_z τ) {v : Value} (hv : ax_sv σ v) : ax_sv τ v := by
  cases v <;> first | trivial | exact hv.elim (fun q => Or.inl (Nat.lt_of_lt_of_le q h)) Or.inr
theorem ax_st_mono {σ τ : AS} (h : ax_z σ ≤ ax_z τ) : ∀ {st : List Value}, ax_st σ st → ax_st τ st
  | [], _ => trivial
  | _ :: _, hs => ⟨ax_sv_mono h hs.1, ax_st_mono h hs.2⟩
theorem ax_lv_mono {σ τ : AS} (h : ax_z σ ≤ ax_z τ) {lv : List (Nat × Value)} (hs : ax_lv σ lv) : ax_lv τ lv := fun q hq => ax_sv_mono h (hs q hq)
/-- what the world's fields hold are cells of the world -/
def ax_cl (σ : AS) : Prop := ∀ a j q, a < ax_z σ → ax_P σ a j = some q → q < ax_z σ ∨ 1000000 ≤ q
/-- a method's start -/
def ax_Pc (D : va_G) (dA : Nat → ClassId) (B0 : Nat) (ad : Nat → Nat) (as : List Value) (σ : AS) (sz : Nat) : Array Value → State → Prop := fun v U =>
  v = (as.map (ax_cv ad)).toArray ∧ U.heap.size = sz ∧ ax_Rep D dA (fun q => B0 ≤ q) ad σ U.heap ∧ va_K D vwCl (ax_ty dA) U ∧ B0 ≤ sz ∧ ax_KF B0 ad U ∧ ax_cl σ ∧ ax_st σ as
/-- a method's end, returned -/
def ax_Qc (D : va_G) (dA : Nat → ClassId) (A : Nat → Prop) (ad0 : Nat → Nat) (σ0 : AS) (r : AR) : Array Value → State → Outcome → State → Prop := fun _ st o t =>
  ∃ (ad : Nat → Nat) (v : Option Value), r.1 = .inl v ∧ o = .returned (v.map (ax_cv ad)) ∧ (∀ k, k < ax_z σ0 ∨ 1000000 ≤ k → ad k = ad0 k) ∧ ax_Rep D dA A ad r.2 t.heap ∧ va_F A st t ∧ ax_cl r.2 ∧ ax_st r.2 v.toList
/-- a method's end, thrown -/
def ax_Xc (D : va_G) (dA : Nat → ClassId) (A : Nat → Prop) (ad0 : Nat → Nat) (σ0 : AS) (r : AR) : String → State → State → Prop := fun E st t =>
  ∃ (ad : Nat → Nat), r.1 = .inr E ∧ (∀ k, k < ax_z σ0 ∨ 1000000 ≤ k → ad k = ad0 k) ∧ ax_Rep D dA A ad r.2 t.heap ∧ va_F A st t ∧ ax_cl r.2
/-- the contract of a method: what f says of these arguments and this world is what the machine does -/
def Ct (l : Launch) (D : va_G) (dA : Nat → ClassId) (B0 : Nat) (y : MethodName) (ws : List Cond) (fr lo : Nat) (as : List Value) (f : AS → Option AR) : Prop :=
  ∀ (ad : Nat → Nat) (σ : AS) (r : AR), f σ = some r → ∀ sz : Nat,
    vx_Met l y ws { frames := fr, cells := ax_nc r.2 - ax_nc σ, slots := ax_ns r.2 - ax_ns σ, locals := lo } (ax_Pc D dA B0 ad as σ sz) (ax_Qc D dA (va_A (ax_ws dA ad σ) sz) ad σ r) (ax_Xc D dA (va_A (ax_ws dA ad σ) sz) ad σ r) (ax_nc r.2 - ax_nc σ) (ax_ns r.2 - ax_ns σ) (va_A (ax_ws dA ad σ) sz)
/-- .. of one that reads the script: what f says of these arguments and this world is what the machine does -/
def CtS (l : Launch) (D : va_G) (dA : Nat → ClassId) (B0 : Nat) (y : MethodName) (ws : List Cond) (fr lo : Nat) (as : List Value) (f : Nat × (Nat → Int32) → AS → Option AR) : Prop :=
  ∀ (ad : Nat → Nat) (σ : AS) (r : AR), f (ax_scr ad) σ = some r → ∀ sz : Nat,
    vx_Met l y ws { frames := fr, cells := ax_nc r.2 - ax_nc σ, slots := ax_ns r.2 - ax_ns σ, locals := lo } (ax_Pc D dA B0 ad as σ sz) (ax_Qc D dA (va_A (ax_ws dA ad σ) sz) ad σ r) (ax_Xc D dA (va_A (ax_ws dA ad σ) sz) ad σ r) (ax_nc r.2 - ax_nc σ) (ax_ns r.2 - ax_ns σ) (va_A (ax_ws dA ad σ) sz)
/-- what is known in a body -/
def OKC (Γ : CX) (cc : ByteArray) (own : String) (ret : Option FieldType) : Prop :=
  (cx_p Γ).tables.exec = Jvm.exec ∧ (cx_c Γ).code = cc ∧ (cx_s Γ).vm.findClass own = some (cx_m Γ).cls ∧ (∀ w ∈ ax_ALL, w.before (cx_a Γ) (cx_s Γ) = true) ∧ va_K (cx_D Γ) vwCl (ax_ty (cx_dA Γ)) (cx_s Γ) ∧ (cx_meth Γ).sig.returnType = ret ∧ (cx_meth Γ).locks = false ∧ (cx_c Γ).maxLocals = cx_nL Γ ∧ (cx_l Γ).stackTraces = false ∧ ax_KF (cx_B Γ) (cx_ad Γ) (cx_s Γ) ∧ cx_B Γ ≤ (cx_s Γ).heap.size ∧ ∀ q, cx_A Γ q → cx_B Γ ≤ q
abbrev cx_R (Γ : CX) (r : AR) : Room := { frames := cx_fr Γ, cells := ax_nc r.2 - ax_nc (cx_w Γ), slots := ax_ns r.2 - ax_ns (cx_w Γ), locals := cx_lo Γ }
abbrev cx_Q (Γ : CX) (r : AR) : State → Prop := vx_MQ (cx_below Γ) (ax_Qc (cx_D Γ) (cx_dA Γ) (cx_A Γ) (cx_ad Γ) (cx_w Γ) r) (ax_Xc (cx_D Γ) (cx_dA Γ) (cx_A Γ) (cx_ad Γ) (cx_w Γ) r) (cx_a Γ) (cx_s Γ) (ax_nc r.2 - ax_nc (cx_w Γ)) (ax_ns r.2 - ax_ns (cx_w Γ)) (cx_A Γ)
/-- the machine at a place of the body, for an end r -/
def WK (Γ : CX) (pc : Nat) (lv : List (Nat × Value)) (st : List Value) (σ : AS) (r : AR) : Prop :=
  ∀ (ad : Nat → Nat) (H : Heap) (locs : List Loc) (ls : Array Slot), ax_nc (cx_w Γ) ≤ ax_nc σ → ax_ns (cx_w Γ) ≤ ax_ns σ → ax_z (cx_w Γ) ≤ ax_z σ → (∀ k, k < ax_z (cx_w Γ) ∨ 1000000 ≤ k → ad k = cx_ad Γ k) → ax_Rep (cx_D Γ) (cx_dA Γ) (cx_A Γ) ad σ H → va_S (cx_A Γ) (cx_s Γ).heap H locs → lv_has ls (cx_nL Γ) (lv.map (fun q => (q.1, ax_cv ad q.2))) → ax_cl σ → ax_lv σ lv → ax_st σ st →
    W (cx_p Γ) (cx_l Γ) (cx_e Γ) (cx_R Γ r) (cx_s Γ) (cx_m Γ) (cx_a Γ) (cx_below Γ) (cx_meth Γ) (cx_c Γ) H locs (ax_nc σ - ax_nc (cx_w Γ)) (ax_ns σ - ax_ns (cx_w Γ)) (cx_Q Γ r) (F0 (cx_m Γ) pc ls (st.map (ax_cv ad)))
def OK (Γ : CX) (pc : Nat) (lv : List (Nat × Value)) (st : List Value) (f : Option AR) (σ : AS) : Prop :=
  ∀ r : AR, f = some r → (ax_nc σ ≤ ax_nc r.2 ∧ ax_ns σ ≤ ax_ns r.2 ∧ ax_z σ ≤ ax_z r.2) ∧ WK Γ pc lv st σ r
theorem OK.none {Γ : CX} {pc : Nat} {lv : List (Nat × Value)} {st : List Value} {σ : AS} : OK Γ pc lv st none σ := fun _ h => nomatch h
section OKR
variable {Γ : CX} {cc : ByteArray} {own : String} {ret : Option FieldType} {pc : Nat} {lv : List (Nat × Value)} {st : List Value} {f : Option AR} {σ : AS}
/-- a row of the kit that touches neither heap nor locals, turned to this judgement -/
theorem OK.row {pc' : Nat} {st' : List Value} (k : OK Γ pc' lv st' f σ) (hs : ax_lv σ lv → ax_st σ st → ax_st σ st')
    (h : ∀ (r : AR) (ad : Nat → Nat) (H : Heap) (locs : List Loc) (ls : Array Slot), lv_has ls (cx_nL Γ) (lv.map (fun q => (q.1, ax_cv ad q.2))) → W (cx_p Γ) (cx_l Γ) (cx_e Γ) (cx_R Γ r) (cx_s Γ) (cx_m Γ) (cx_a Γ) (cx_below Γ) (cx_meth Γ) (cx_c Γ) H locs (ax_nc σ - ax_nc (cx_w Γ)) (ax_ns σ - ax_ns (cx_w Γ)) (cx_Q Γ r) (F0 (cx_m Γ) pc' ls (st'.map (ax_cv ad))) → W (cx_p Γ) (cx_l Γ) (cx_e Γ) (cx_R Γ r) (cx_s Γ) (cx_m Γ) (cx_a Γ) (cx_below Γ) (cx_meth Γ) (cx_c Γ) H locs (ax_nc σ - ax_nc (cx_w Γ)) (ax_ns σ - ax_ns (cx_w Γ)) (cx_Q Γ r) (F0 (cx_m Γ) pc ls (st.map (ax_cv ad)))) : OK Γ pc lv st f σ := by
  intro r hr
  obtain ⟨m, w⟩ := k r hr
  exact ⟨m, fun ad H locs ls h1 h2 h3 h4 h5 h6 h7 h8 h9 h10 => h r ad H locs ls h7 (w ad H locs ls h1 h2 h3 h4 h5 h6 h7 h8 h9 (hs h9 h10))⟩
theorem ok_iconst (C : OKC Γ cc own ret) {n : Int} {v : Int32} (hdg : decode cc pc = .ok (.iconst n, 1)) (hv : Int32.ofInt n = v) (k : OK Γ (pc + 1) lv (.int v :: st) f σ) : OK Γ pc lv (st) f σ :=
  OK.row k (fun _ h => ⟨trivial, h⟩) fun _ _ _ _ _ _ w => lv_iconst C.1 C.2.1 hdg hv w
theorem ok_bipush (C : OKC Γ cc own ret) {n : Int} {v : Int32} (hdg : decode cc pc = .ok (.bipush n, 2)) (hv : (Int8.ofInt n).toInt32 = v) (k : OK Γ (pc + 2) lv (.int v :: st) f σ) : OK Γ pc lv (st) f σ :=
  OK.row k (fun _ h => ⟨trivial, h⟩) fun _ _ _ _ _ _ w => lv_bipush C.1 C.2.1 hdg hv w
theorem ok_sipush (C : OKC Γ cc own ret) {n : Int} {v : Int32} (hdg : decode cc pc = .ok (.sipush n, 3)) (hv : (Int16.ofInt n).toInt32 = v) (k : OK Γ (pc + 3) lv (.int v :: st) f σ) : OK Γ pc lv (st) f σ :=
  OK.row k (fun _ h => ⟨trivial, h⟩) fun _ _ _ _ _ _ w => lv_sipush C.1 C.2.1 hdg hv w
theorem ok_lconst (C : OKC Γ cc own ret) {n : Fin 2} {v : Int64} (hdg : decode cc pc = .ok (.lconst n, 1)) (hv : Int64.ofNat (n : Nat) = v) (k : OK Γ (pc + 1) lv (.long v :: st) f σ) : OK Γ pc lv (st) f σ :=
  OK.row k (fun _ h => ⟨trivial, h⟩) fun _ _ _ _ _ _ w => lv_lconst C.1 C.2.1 hdg hv w
theorem ok_iadd (C : OKC Γ cc own ret) {x y : Int32} (hdg : decode cc pc = .ok (.iadd, 1))  (k : OK Γ (pc + 1) lv (.int (x + y) :: st) f σ) : OK Γ pc lv (.int y :: .int x :: st) f σ :=
  OK.row k (fun _ h => ⟨trivial, h.2.2⟩) fun _ _ _ _ _ _ w => lv_iadd C.1 C.2.1 hdg  w
theorem ok_isub (C : OKC Γ cc own ret) {x y : Int32} (hdg : decode cc pc = .ok (.isub, 1))  (k : OK Γ (pc + 1) lv (.int (x - y) :: st) f σ) : OK Γ pc lv (.int y :: .int x :: st) f σ :=
  OK.row k (fun _ h => ⟨trivial, h.2.2⟩) fun _ _ _ _ _ _ w => lv_isub C.1 C.2.1 hdg  w
theorem ok_imul (C : OKC Γ cc own ret) {x y : Int32} (hdg : decode cc pc = .ok (.imul, 1))  (k : OK Γ (pc + 1) lv (.int (x * y) :: st) f σ) : OK Γ pc lv (.int y :: .int x :: st) f σ :=
  OK.row k (fun _ h => ⟨trivial, h.2.2⟩) fun _ _ _ _ _ _ w => lv_imul C.1 C.2.1 hdg  w
theorem ok_iand (C : OKC Γ cc own ret) {x y : Int32} (hdg : decode cc pc = .ok (.iand, 1))  (k : OK Γ (pc + 1) lv (.int (x &&& y) :: st) f σ) : OK Γ pc lv (.int y :: .int x :: st) f σ :=
  OK.row k (fun _ h => ⟨trivial, h.2.2⟩) fun _ _ _ _ _ _ w => lv_iand C.1 C.2.1 hdg  w
theorem ok_ior (C : OKC Γ cc own ret) {x y : Int32} (hdg : decode cc pc = .ok (.ior, 1))  (k : OK Γ (pc + 1) lv (.int (x ||| y) :: st) f σ) : OK Γ pc lv (.int y :: .int x :: st) f σ :=
  OK.row k (fun _ h => ⟨trivial, h.2.2⟩) fun _ _ _ _ _ _ w => lv_ior C.1 C.2.1 hdg  w
theorem ok_ixor (C : OKC Γ cc own ret) {x y : Int32} (hdg : decode cc pc = .ok (.ixor, 1))  (k : OK Γ (pc + 1) lv (.int (x ^^^ y) :: st) f σ) : OK Γ pc lv (.int y :: .int x :: st) f σ :=
  OK.row k (fun _ h => ⟨trivial, h.2.2⟩) fun _ _ _ _ _ _ w => lv_ixor C.1 C.2.1 hdg  w
theorem ok_ishl (C : OKC Γ cc own ret) {x y : Int32} (hdg : decode cc pc = .ok (.ishl, 1))  (k : OK Γ (pc + 1) lv (.int (x <<< (y &&& 31)) :: st) f σ) : OK Γ pc lv (.int y :: .int x :: st) f σ :=
  OK.row k (fun _ h => ⟨trivial, h.2.2⟩) fun _ _ _ _ _ _ w => lv_ishl C.1 C.2.1 hdg  w
theorem ok_ishr (C : OKC Γ cc own ret) {x y : Int32} (hdg : decode cc pc = .ok (.ishr, 1))  (k : OK Γ (pc + 1) lv (.int (x >>> (y &&& 31)) :: st) f σ) : OK Γ pc lv (.int y :: .int x :: st) f σ :=
  OK.row k (fun _ h => ⟨trivial, h.2.2⟩) fun _ _ _ _ _ _ w => lv_ishr C.1 C.2.1 hdg  w
theorem ok_ladd (C : OKC Γ cc own ret) {x y : Int64} (hdg : decode cc pc = .ok (.ladd, 1))  (k : OK Γ (pc + 1) lv (.long (x + y) :: st) f σ) : OK Γ pc lv (.long y :: .long x :: st) f σ :=
  OK.row k (fun _ h => ⟨trivial, h.2.2⟩) fun _ _ _ _ _ _ w => lv_ladd C.1 C.2.1 hdg  w
theorem ok_lsub (C : OKC Γ cc own ret) {x y : Int64} (hdg : decode cc pc = .ok (.lsub, 1))  (k : OK Γ (pc + 1) lv (.long (x - y) :: st) f σ) : OK Γ pc lv (.long y :: .long x :: st) f σ :=
  OK.row k (fun _ h => ⟨trivial, h.2.2⟩) fun _ _ _ _ _ _ w => lv_lsub C.1 C.2.1 hdg  w
theorem ok_lmul (C : OKC Γ cc own ret) {x y : Int64} (hdg : decode cc pc = .ok (.lmul, 1))  (k : OK Γ (pc + 1) lv (.long (x * y) :: st) f σ) : OK Γ pc lv (.long y :: .long x :: st) f σ :=
  OK.row k (fun _ h => ⟨trivial, h.2.2⟩) fun _ _ _ _ _ _ w => lv_lmul C.1 C.2.1 hdg  w
theorem ok_land (C : OKC Γ cc own ret) {x y : Int64} (hdg : decode cc pc = .ok (.land, 1))  (k : OK Γ (pc + 1) lv (.long (x &&& y) :: st) f σ) : OK Γ pc lv (.long y :: .long x :: st) f σ :=
  OK.row k (fun _ h => ⟨trivial, h.2.2⟩) fun _ _ _ _ _ _ w => lv_land C.1 C.2.1 hdg  w
theorem ok_lor (C : OKC Γ cc own ret) {x y : Int64} (hdg : decode cc pc = .ok (.lor, 1))  (k : OK Γ (pc + 1) lv (.long (x ||| y) :: st) f σ) : OK Γ pc lv (.long y :: .long x :: st) f σ :=
  OK.row k (fun _ h => ⟨trivial, h.2.2⟩) fun _ _ _ _ _ _ w => lv_lor C.1 C.2.1 hdg  w
theorem ok_lxor (C : OKC Γ cc own ret) {x y : Int64} (hdg : decode cc pc = .ok (.lxor, 1))  (k : OK Γ (pc + 1) lv (.long (x ^^^ y) :: st) f σ) : OK Γ pc lv (.long y :: .long x :: st) f σ :=
  OK.row k (fun _ h => ⟨trivial, h.2.2⟩) fun _ _ _ _ _ _ w => lv_lxor C.1 C.2.1 hdg  w
theorem ok_ineg (C : OKC Γ cc own ret) {x : Int32} (hdg : decode cc pc = .ok (.ineg, 1))  (k : OK Γ (pc + 1) lv (.int (-x) :: st) f σ) : OK Γ pc lv (.int x :: st) f σ :=
  OK.row k (fun _ h => ⟨trivial, h.2⟩) fun _ _ _ _ _ _ w => lv_ineg C.1 C.2.1 hdg  w
theorem ok_i2l (C : OKC Γ cc own ret) {x : Int32} (hdg : decode cc pc = .ok (.i2l, 1))  (k : OK Γ (pc + 1) lv (.long (x.toInt64) :: st) f σ) : OK Γ pc lv (.int x :: st) f σ :=
  OK.row k (fun _ h => ⟨trivial, h.2⟩) fun _ _ _ _ _ _ w => lv_i2l C.1 C.2.1 hdg rfl w
theorem ok_l2i (C : OKC Γ cc own ret) {x : Int64} (hdg : decode cc pc = .ok (.l2i, 1))  (k : OK Γ (pc + 1) lv (.int (x.toInt32) :: st) f σ) : OK Γ pc lv (.long x :: st) f σ :=
  OK.row k (fun _ h => ⟨trivial, h.2⟩) fun _ _ _ _ _ _ w => lv_l2i C.1 C.2.1 hdg rfl w
theorem ok_i2b (C : OKC Γ cc own ret) {x : Int32} (hdg : decode cc pc = .ok (.i2b, 1))  (k : OK Γ (pc + 1) lv (.int (x.toInt8.toInt32) :: st) f σ) : OK Γ pc lv (.int x :: st) f σ :=
  OK.row k (fun _ h => ⟨trivial, h.2⟩) fun _ _ _ _ _ _ w => lv_i2b C.1 C.2.1 hdg rfl w
theorem ok_i2c (C : OKC Γ cc own ret) {x : Int32} (hdg : decode cc pc = .ok (.i2c, 1))  (k : OK Γ (pc + 1) lv (.int ((x.toUInt32 % 65536).toInt32) :: st) f σ) : OK Γ pc lv (.int x :: st) f σ :=
  OK.row k (fun _ h => ⟨trivial, h.2⟩) fun _ _ _ _ _ _ w => lv_i2c C.1 C.2.1 hdg rfl w
theorem ok_iushr (C : OKC Γ cc own ret) {x y : Int32} (hdg : decode cc pc = .ok (.iushr, 1))  (k : OK Γ (pc + 1) lv (.int ((x.toUInt32 >>> (y.toUInt32 &&& Int32.toUInt32 31)).toInt32) :: st) f σ) : OK Γ pc lv (.int y :: .int x :: st) f σ :=
  OK.row k (fun _ h => ⟨trivial, h.2.2⟩) fun _ _ _ _ _ _ w => lv_iushr C.1 C.2.1 hdg rfl w
theorem ok_lushr (C : OKC Γ cc own ret) {x : Int64} {y : Int32} (hdg : decode cc pc = .ok (.lushr, 1))  (k : OK Γ (pc + 1) lv (.long ((x.toUInt64 >>> (y.toInt64.toUInt64 &&& Int64.toUInt64 63)).toInt64) :: st) f σ) : OK Γ pc lv (.int y :: .long x :: st) f σ :=
  OK.row k (fun _ h => ⟨trivial, h.2.2⟩) fun _ _ _ _ _ _ w => lv_lushr C.1 C.2.1 hdg rfl w
theorem ok_lshl (C : OKC Γ cc own ret) {x : Int64} {y : Int32} (hdg : decode cc pc = .ok (.lshl, 1))  (k : OK Γ (pc + 1) lv (.long (x <<< (y.toInt64 &&& 63)) :: st) f σ) : OK Γ pc lv (.int y :: .long x :: st) f σ :=
  OK.row k (fun _ h => ⟨trivial, h.2.2⟩) fun _ _ _ _ _ _ w => lv_lshl C.1 C.2.1 hdg rfl w
theorem ok_iload_n (C : OKC Γ cc own ret) {i : Fin 4} (j : Nat) {x : Int32} (hdg : decode cc pc = .ok (.iload_n i, 1)) (hl : lv[j]? = some ((i : Nat), .int x)) (k : OK Γ (pc + 1) lv (.int x :: st) f σ) : OK Γ pc lv st f σ :=
  OK.row k (fun _ h => ⟨trivial, h⟩) fun _ ad _ _ _ h w => lv_iload_n C.1 C.2.1 hdg rfl (lv_at h j (by rw [List.getElem?_map, hl]; rfl)) w
theorem ok_iload (C : OKC Γ cc own ret) {i : Nat} (j : Nat) {x : Int32} (hdg : decode cc pc = .ok (.iload i, 2)) (hl : lv[j]? = some (i, .int x)) (k : OK Γ (pc + 2) lv (.int x :: st) f σ) : OK Γ pc lv st f σ :=
  OK.row k (fun _ h => ⟨trivial, h⟩) fun _ ad _ _ _ h w => lv_iload C.1 C.2.1 hdg (lv_at h j (by rw [List.getElem?_map, hl]; rfl)) w
theorem ok_lload_n (C : OKC Γ cc own ret) {i : Fin 4} (j : Nat) {x : Int64} (hdg : decode cc pc = .ok (.lload_n i, 1)) (hl : lv[j]? = some ((i : Nat), .long x)) (k : OK Γ (pc + 1) lv (.long x :: st) f σ) : OK Γ pc lv st f σ :=
  OK.row k (fun _ h => ⟨trivial, h⟩) fun _ ad _ _ _ h w => lv_lload_n C.1 C.2.1 hdg rfl (lv_at h j (by rw [List.getElem?_map, hl]; rfl)) w
theorem ok_lload (C : OKC Γ cc own ret) {i : Nat} (j : Nat) {x : Int64} (hdg : decode cc pc = .ok (.lload i, 2)) (hl : lv[j]? = some (i, .long x)) (k : OK Γ (pc + 2) lv (.long x :: st) f σ) : OK Γ pc lv st f σ :=
  OK.row k (fun _ h => ⟨trivial, h⟩) fun _ ad _ _ _ h w => lv_lload C.1 C.2.1 hdg (lv_at h j (by rw [List.getElem?_map, hl]; rfl)) w
theorem ok_fload_n (C : OKC Γ cc own ret) {i : Fin 4} (j : Nat) {x : UInt32} (hdg : decode cc pc = .ok (.fload_n i, 1)) (hl : lv[j]? = some ((i : Nat), .float x)) (k : OK Γ (pc + 1) lv (.float x :: st) f σ) : OK Γ pc lv st f σ :=
  OK.row k (fun _ h => ⟨trivial, h⟩) fun _ ad _ _ _ h w => lv_fload_n C.1 C.2.1 hdg rfl (lv_at h j (by rw [List.getElem?_map, hl]; rfl)) w
theorem ok_fload (C : OKC Γ cc own ret) {i : Nat} (j : Nat) {x : UInt32} (hdg : decode cc pc = .ok (.fload i, 2)) (hl : lv[j]? = some (i, .float x)) (k : OK Γ (pc + 2) lv (.float x :: st) f σ) : OK Γ pc lv st f σ :=
  OK.row k (fun _ h => ⟨trivial, h⟩) fun _ ad _ _ _ h w => lv_fload C.1 C.2.1 hdg (lv_at h j (by rw [List.getElem?_map, hl]; rfl)) w
theorem ok_dload_n (C : OKC Γ cc own ret) {i : Fin 4} (j : Nat) {x : UInt64} (hdg : decode cc pc = .ok (.dload_n i, 1)) (hl : lv[j]? = some ((i : Nat), .double x)) (k : OK Γ (pc + 1) lv (.double x :: st) f σ) : OK Γ pc lv st f σ :=
  OK.row k (fun _ h => ⟨trivial, h⟩) fun _ ad _ _ _ h w => lv_dload_n C.1 C.2.1 hdg rfl (lv_at h j (by rw [List.getElem?_map, hl]; rfl)) w
theorem ok_dload (C : OKC Γ cc own ret) {i : Nat} (j : Nat) {x : UInt64} (hdg : decode cc pc = .ok (.dload i, 2)) (hl : lv[j]? = some (i, .double x)) (k : OK Γ (pc + 2) lv (.double x :: st) f σ) : OK Γ pc lv st f σ :=
  OK.row k (fun _ h => ⟨trivial, h⟩) fun _ ad _ _ _ h w => lv_dload C.1 C.2.1 hdg (lv_at h j (by rw [List.getElem?_map, hl]; rfl)) w
theorem ok_aload_n (C : OKC Γ cc own ret) {i : Fin 4} (j : Nat) {x : Nat} (hdg : decode cc pc = .ok (.aload_n i, 1)) (hl : lv[j]? = some ((i : Nat), .ref x)) (k : OK Γ (pc + 1) lv (.ref x :: st) f σ) : OK Γ pc lv st f σ :=
  OK.row k (fun hlv h => ⟨hlv _ (List.mem_of_getElem? hl), h⟩) fun _ ad _ _ _ h w => lv_aload_n C.1 C.2.1 hdg rfl (lv_at h j (by rw [List.getElem?_map, hl]; rfl)) w
theorem ok_aload (C : OKC Γ cc own ret) {i : Nat} (j : Nat) {x : Nat} (hdg : decode cc pc = .ok (.aload i, 2)) (hl : lv[j]? = some (i, .ref x)) (k : OK Γ (pc + 2) lv (.ref x :: st) f σ) : OK Γ pc lv st f σ :=
  OK.row k (fun hlv h => ⟨hlv _ (List.mem_of_getElem? hl), h⟩) fun _ ad _ _ _ h w => lv_aload C.1 C.2.1 hdg (lv_at h j (by rw [List.getElem?_map, hl]; rfl)) w
theorem ax_lv_st (ad : Nat → Nat) (i : Nat) (v : Value) (lv : List (Nat × Value)) : ((i, v) :: lv.filter (fun q => !(q.1 == i) && !(q.1 + 1 == i && q.2.category == 2))).map (fun q => (q.1, ax_cv ad q.2)) = (i, ax_cv ad v) :: (lv.map (fun q => (q.1, ax_cv ad q.2))).filter (fun q => !(q.1 == i) && !(q.1 + 1 == i && q.2.category == 2)) := by
  have hc : ∀ z : Value, (ax_cv ad z).category = z.category := fun z => by cases z <;> rfl
  rw [List.map_cons, List.filter_map]
  congr 2
  apply List.filter_congr
  intro q _
  simp only [Function.comp, hc]
theorem ax_lv_st2 (ad : Nat → Nat) (i : Nat) (v : Value) (lv : List (Nat × Value)) : ((i, v) :: lv.filter (fun q => !(q.1 == i) && (!(q.1 == i + 1) && !(q.1 + 1 == i && q.2.category == 2)))).map (fun q => (q.1, ax_cv ad q.2)) = (i, ax_cv ad v) :: (lv.map (fun q => (q.1, ax_cv ad q.2))).filter (fun q => !(q.1 == i) && (!(q.1 == i + 1) && !(q.1 + 1 == i && q.2.category == 2))) := by
  have hc : ∀ z : Value, (ax_cv ad z).category = z.category := fun z => by cases z <;> rfl
  rw [List.map_cons, List.filter_map]
  congr 2
  apply List.filter_congr
  intro q _
  simp only [Function.comp, hc]
/-- a row that changes the locals -/
theorem ax_lv_f {σ : AS} {lv lv' : List (Nat × Value)} {i : Nat} {v : Value} {p : Nat × Value → Bool} (hl : (i, v) :: lv.filter p = lv') (h : ax_lv σ lv) (hv : ax_sv σ v) : ax_lv σ lv' := by
  subst hl
  intro q hq
  rcases List.mem_cons.mp hq with rfl | hq
  · exact hv
  · exact h q (List.mem_filter.mp hq).1
theorem OK.rowL {pc' : Nat} {st' : List Value} {lv' : List (Nat × Value)} (k : OK Γ pc' lv' st' f σ) (hs : ax_lv σ lv → ax_st σ st → ax_lv σ lv' ∧ ax_st σ st')
    (h : ∀ (r : AR) (ad : Nat → Nat) (H : Heap) (locs : List Loc) (ls : Array Slot), lv_has ls (cx_nL Γ) (lv.map (fun q => (q.1, ax_cv ad q.2))) → (∀ ls : Array Slot, lv_has ls (cx_nL Γ) (lv'.map (fun q => (q.1, ax_cv ad q.2))) → W (cx_p Γ) (cx_l Γ) (cx_e Γ) (cx_R Γ r) (cx_s Γ) (cx_m Γ) (cx_a Γ) (cx_below Γ) (cx_meth Γ) (cx_c Γ) H locs (ax_nc σ - ax_nc (cx_w Γ)) (ax_ns σ - ax_ns (cx_w Γ)) (cx_Q Γ r) (F0 (cx_m Γ) pc' ls (st'.map (ax_cv ad)))) → W (cx_p Γ) (cx_l Γ) (cx_e Γ) (cx_R Γ r) (cx_s Γ) (cx_m Γ) (cx_a Γ) (cx_below Γ) (cx_meth Γ) (cx_c Γ) H locs (ax_nc σ - ax_nc (cx_w Γ)) (ax_ns σ - ax_ns (cx_w Γ)) (cx_Q Γ r) (F0 (cx_m Γ) pc ls (st.map (ax_cv ad)))) : OK Γ pc lv st f σ := by
  intro r hr
  obtain ⟨m, w⟩ := k r hr
  exact ⟨m, fun ad H locs ls h1 h2 h3 h4 h5 h6 h7 h8 h9 h10 => h r ad H locs ls h7 (fun ls' h7' => w ad H locs ls' h1 h2 h3 h4 h5 h6 h7' h8 (hs h9 h10).1 (hs h9 h10).2)⟩
theorem ok_istore (C : OKC Γ cc own ret) {i : Nat} {x : Int32} (lv' : List (Nat × Value)) (hdg : decode cc pc = .ok (.istore i, 2)) (hn : i < cx_nL Γ) (hl : (i, Value.int x) :: lv.filter (fun q => !(q.1 == i) && !(q.1 + 1 == i && q.2.category == 2)) = lv') (k : OK Γ (pc + 2) lv' st f σ) : OK Γ pc lv (.int x :: st) f σ :=
  OK.rowL k (fun hlv h => ⟨ax_lv_f hl hlv h.1, h.2⟩) fun _ ad _ _ _ h w => lv_istore C.1 C.2.1 hdg h hn (by rw [← hl]; exact (ax_lv_st ad i (.int x) lv).symm) w
theorem ok_istore_n (C : OKC Γ cc own ret) {i : Nat} {i4 : Fin 4} {x : Int32} (lv' : List (Nat × Value)) (hdg : decode cc pc = .ok (.istore_n i4, 1)) (hi : (i4 : Nat) = i) (hn : i < cx_nL Γ) (hl : (i, Value.int x) :: lv.filter (fun q => !(q.1 == i) && !(q.1 + 1 == i && q.2.category == 2)) = lv') (k : OK Γ (pc + 1) lv' st f σ) : OK Γ pc lv (.int x :: st) f σ :=
  OK.rowL k (fun hlv h => ⟨ax_lv_f hl hlv h.1, h.2⟩) fun _ ad _ _ _ h w => lv_istore_n C.1 C.2.1 hdg hi h hn (by rw [← hl]; exact (ax_lv_st ad i (.int x) lv).symm) w
theorem ok_fstore (C : OKC Γ cc own ret) {i : Nat} {x : UInt32} (lv' : List (Nat × Value)) (hdg : decode cc pc = .ok (.fstore i, 2)) (hn : i < cx_nL Γ) (hl : (i, Value.float x) :: lv.filter (fun q => !(q.1 == i) && !(q.1 + 1 == i && q.2.category == 2)) = lv') (k : OK Γ (pc + 2) lv' st f σ) : OK Γ pc lv (.float x :: st) f σ :=
  OK.rowL k (fun hlv h => ⟨ax_lv_f hl hlv h.1, h.2⟩) fun _ ad _ _ _ h w => lv_fstore C.1 C.2.1 hdg h hn (by rw [← hl]; exact (ax_lv_st ad i (.float x) lv).symm) w
theorem ok_fstore_n (C : OKC Γ cc own ret) {i : Nat} {i4 : Fin 4} {x : UInt32} (lv' : List (Nat × Value)) (hdg : decode cc pc = .ok (.fstore_n i4, 1)) (hi : (i4 : Nat) = i) (hn : i < cx_nL Γ) (hl : (i, Value.float x) :: lv.filter (fun q => !(q.1 == i) && !(q.1 + 1 == i && q.2.category == 2)) = lv') (k : OK Γ (pc + 1) lv' st f σ) : OK Γ pc lv (.float x :: st) f σ :=
  OK.rowL k (fun hlv h => ⟨ax_lv_f hl hlv h.1, h.2⟩) fun _ ad _ _ _ h w => lv_fstore_n C.1 C.2.1 hdg hi h hn (by rw [← hl]; exact (ax_lv_st ad i (.float x) lv).symm) w
theorem ok_astore (C : OKC Γ cc own ret) {i : Nat} {x : Nat} (lv' : List (Nat × Value)) (hdg : decode cc pc = .ok (.astore i, 2)) (hn : i < cx_nL Γ) (hl : (i, Value.ref x) :: lv.filter (fun q => !(q.1 == i) && !(q.1 + 1 == i && q.2.category == 2)) = lv') (k : OK Γ (pc + 2) lv' st f σ) : OK Γ pc lv (.ref x :: st) f σ :=
  OK.rowL k (fun hlv h => ⟨ax_lv_f hl hlv h.1, h.2⟩) fun _ ad _ _ _ h w => lv_astore C.1 C.2.1 hdg h hn (by rw [← hl]; exact (ax_lv_st ad i (.ref x) lv).symm) w
theorem ok_astore_n (C : OKC Γ cc own ret) {i : Nat} {i4 : Fin 4} {x : Nat} (lv' : List (Nat × Value)) (hdg : decode cc pc = .ok (.astore_n i4, 1)) (hi : (i4 : Nat) = i) (hn : i < cx_nL Γ) (hl : (i, Value.ref x) :: lv.filter (fun q => !(q.1 == i) && !(q.1 + 1 == i && q.2.category == 2)) = lv') (k : OK Γ (pc + 1) lv' st f σ) : OK Γ pc lv (.ref x :: st) f σ :=
  OK.rowL k (fun hlv h => ⟨ax_lv_f hl hlv h.1, h.2⟩) fun _ ad _ _ _ h w => lv_astore_n C.1 C.2.1 hdg hi h hn (by rw [← hl]; exact (ax_lv_st ad i (.ref x) lv).symm) w
theorem ok_lstore (C : OKC Γ cc own ret) {i : Nat} {x : Int64} (lv' : List (Nat × Value)) (hdg : decode cc pc = .ok (.lstore i, 2)) (hn : i + 1 < cx_nL Γ) (hl : (i, Value.long x) :: lv.filter (fun q => !(q.1 == i) && (!(q.1 == i + 1) && !(q.1 + 1 == i && q.2.category == 2))) = lv') (k : OK Γ (pc + 2) lv' st f σ) : OK Γ pc lv (.long x :: st) f σ :=
  OK.rowL k (fun hlv h => ⟨ax_lv_f hl hlv h.1, h.2⟩) fun _ ad _ _ _ h w => lv_lstore C.1 C.2.1 hdg h hn (by rw [← hl]; exact (ax_lv_st2 ad i (.long x) lv).symm) w
theorem ok_lstore_n (C : OKC Γ cc own ret) {i : Nat} {i4 : Fin 4} {x : Int64} (lv' : List (Nat × Value)) (hdg : decode cc pc = .ok (.lstore_n i4, 1)) (hi : (i4 : Nat) = i) (hn : i + 1 < cx_nL Γ) (hl : (i, Value.long x) :: lv.filter (fun q => !(q.1 == i) && (!(q.1 == i + 1) && !(q.1 + 1 == i && q.2.category == 2))) = lv') (k : OK Γ (pc + 1) lv' st f σ) : OK Γ pc lv (.long x :: st) f σ :=
  OK.rowL k (fun hlv h => ⟨ax_lv_f hl hlv h.1, h.2⟩) fun _ ad _ _ _ h w => lv_lstore_n C.1 C.2.1 hdg hi h hn (by rw [← hl]; exact (ax_lv_st2 ad i (.long x) lv).symm) w
theorem ok_dstore (C : OKC Γ cc own ret) {i : Nat} {x : UInt64} (lv' : List (Nat × Value)) (hdg : decode cc pc = .ok (.dstore i, 2)) (hn : i + 1 < cx_nL Γ) (hl : (i, Value.double x) :: lv.filter (fun q => !(q.1 == i) && (!(q.1 == i + 1) && !(q.1 + 1 == i && q.2.category == 2))) = lv') (k : OK Γ (pc + 2) lv' st f σ) : OK Γ pc lv (.double x :: st) f σ :=
  OK.rowL k (fun hlv h => ⟨ax_lv_f hl hlv h.1, h.2⟩) fun _ ad _ _ _ h w => lv_dstore C.1 C.2.1 hdg h hn (by rw [← hl]; exact (ax_lv_st2 ad i (.double x) lv).symm) w
theorem ok_dstore_n (C : OKC Γ cc own ret) {i : Nat} {i4 : Fin 4} {x : UInt64} (lv' : List (Nat × Value)) (hdg : decode cc pc = .ok (.dstore_n i4, 1)) (hi : (i4 : Nat) = i) (hn : i + 1 < cx_nL Γ) (hl : (i, Value.double x) :: lv.filter (fun q => !(q.1 == i) && (!(q.1 == i + 1) && !(q.1 + 1 == i && q.2.category == 2))) = lv') (k : OK Γ (pc + 1) lv' st f σ) : OK Γ pc lv (.double x :: st) f σ :=
  OK.rowL k (fun hlv h => ⟨ax_lv_f hl hlv h.1, h.2⟩) fun _ ad _ _ _ h w => lv_dstore_n C.1 C.2.1 hdg hi h hn (by rw [← hl]; exact (ax_lv_st2 ad i (.double x) lv).symm) w
theorem ok_iinc (C : OKC Γ cc own ret) {i : Nat} {n : Int} (j : Nat) {x v : Int32} (lv' : List (Nat × Value)) (hdg : decode cc pc = .ok (.iinc i n, 3)) (hj : lv[j]? = some (i, .int x)) (hv : x + Int32.ofInt n = v) (hn : i < cx_nL Γ) (hl : (i, Value.int v) :: lv.filter (fun q => !(q.1 == i) && !(q.1 + 1 == i && q.2.category == 2)) = lv') (k : OK Γ (pc + 3) lv' st f σ) : OK Γ pc lv st f σ :=
  OK.rowL k (fun hlv h => ⟨ax_lv_f hl hlv trivial, h⟩) fun _ ad _ _ _ h w => lv_iinc C.1 C.2.1 hdg h (k := j) (by rw [List.getElem?_map, hj]; rfl) hv hn (by rw [← hl]; exact (ax_lv_st ad i (.int v) lv).symm) w
theorem ax_cat (ad : Nat → Nat) (z : Value) : (ax_cv ad z).category = z.category := by cases z <;> rfl
theorem ok_dup (C : OKC Γ cc own ret) {va : Value} (hdg : decode cc pc = .ok (.dup, 1)) (hva : va.category = 1) (k : OK Γ (pc + 1) lv (va :: va :: st) f σ) : OK Γ pc lv (va :: st) f σ :=
  OK.row k (fun _ h => ⟨h.1, h.1, h.2⟩) fun _ ad _ _ _ _ w => lv_dup C.1 C.2.1 hdg ((ax_cat ad va).trans hva) w
theorem ok_pop (C : OKC Γ cc own ret) {va : Value} (hdg : decode cc pc = .ok (.pop, 1)) (hva : va.category = 1) (k : OK Γ (pc + 1) lv st f σ) : OK Γ pc lv (va :: st) f σ :=
  OK.row k (fun _ h => h.2) fun _ ad _ _ _ _ w => lv_pop C.1 C.2.1 hdg ((ax_cat ad va).trans hva) w
theorem ok_dup_x1 (C : OKC Γ cc own ret) {va vb : Value} (hdg : decode cc pc = .ok (.dup_x1, 1)) (hva : va.category = 1) (hvb : vb.category = 1) (k : OK Γ (pc + 1) lv (va :: vb :: va :: st) f σ) : OK Γ pc lv (va :: vb :: st) f σ :=
  OK.row k (fun _ h => ⟨h.1, h.2.1, h.1, h.2.2⟩) fun _ ad _ _ _ _ w => lv_dup_x1 C.1 C.2.1 hdg ((ax_cat ad va).trans hva) ((ax_cat ad vb).trans hvb) w
theorem ok_dup2 (C : OKC Γ cc own ret) {va vb : Value} (hdg : decode cc pc = .ok (.dup2, 1)) (hva : va.category = 1) (hvb : vb.category = 1) (k : OK Γ (pc + 1) lv (va :: vb :: va :: vb :: st) f σ) : OK Γ pc lv (va :: vb :: st) f σ :=
  OK.row k (fun _ h => ⟨h.1, h.2.1, h.1, h.2.1, h.2.2⟩) fun _ ad _ _ _ _ w => lv_dup2_11 C.1 C.2.1 hdg ((ax_cat ad va).trans hva) ((ax_cat ad vb).trans hvb) w
theorem ok_goto (C : OKC Γ cc own ret) {off : Int} (tgt : Nat) (hdg : decode cc pc = .ok (.goto off, 3)) (ht : (pc : Int) + off = (tgt : Int)) (k : OK Γ tgt lv st f σ) : OK Γ pc lv st f σ :=
  OK.row k (fun _ h => h) fun _ _ _ _ _ _ w => lv_goto C.1 C.2.1 hdg ht w
theorem ok_ldc (C : OKC Γ cc own ret) {index : Nat} {v : Int32} (hconst : Jvm.Cond.constant own index v ∈ ax_ALL) (hdg : decode cc pc = .ok (.ldc index, 2)) (k : OK Γ (pc + 2) lv (.int v :: st) f σ) : OK Γ pc lv st f σ :=
  OK.row k (fun _ h => ⟨trivial, h⟩) fun _ _ _ _ _ _ w => lv_ldc C.1 C.2.1 C.2.2.1 (C.2.2.2.1 _ hconst) hdg w
theorem ok_ldcw (C : OKC Γ cc own ret) {index : Nat} {v : Int32} (hconst : Jvm.Cond.constant own index v ∈ ax_ALL) (hdg : decode cc pc = .ok (.ldc_w index, 3)) (k : OK Γ (pc + 3) lv (.int v :: st) f σ) : OK Γ pc lv st f σ :=
  OK.row k (fun _ h => ⟨trivial, h⟩) fun _ _ _ _ _ _ w => lv_ldcw C.1 C.2.1 C.2.2.1 (C.2.2.2.1 _ hconst) hdg w
theorem ok_ldc2 (C : OKC Γ cc own ret) {index : Nat} {v : Int64} (hconst : Jvm.Cond.constantLong own index v ∈ ax_ALL) (hdg : decode cc pc = .ok (.ldc2_w index, 3)) (k : OK Γ (pc + 3) lv (.long v :: st) f σ) : OK Γ pc lv st f σ :=
  OK.row k (fun _ h => ⟨trivial, h⟩) fun _ _ _ _ _ _ w => lv_ldc2 C.1 C.2.1 C.2.2.1 (C.2.2.2.1 _ hconst) hdg w
theorem OK.row2 {c : Prop} [Decidable c] {pc1 pc2 : Nat} {st1 st2 : List Value} {A B : Option AR} (k1 : OK Γ pc1 lv st1 A σ) (k2 : OK Γ pc2 lv st2 B σ) (hs : ax_st σ st → ax_st σ st1 ∧ ax_st σ st2)
    (h : ∀ (r : AR) (ad : Nat → Nat) (H : Heap) (locs : List Loc) (ls : Array Slot), (c → W (cx_p Γ) (cx_l Γ) (cx_e Γ) (cx_R Γ r) (cx_s Γ) (cx_m Γ) (cx_a Γ) (cx_below Γ) (cx_meth Γ) (cx_c Γ) H locs (ax_nc σ - ax_nc (cx_w Γ)) (ax_ns σ - ax_ns (cx_w Γ)) (cx_Q Γ r) (F0 (cx_m Γ) pc1 ls (st1.map (ax_cv ad)))) → (¬ c → W (cx_p Γ) (cx_l Γ) (cx_e Γ) (cx_R Γ r) (cx_s Γ) (cx_m Γ) (cx_a Γ) (cx_below Γ) (cx_meth Γ) (cx_c Γ) H locs (ax_nc σ - ax_nc (cx_w Γ)) (ax_ns σ - ax_ns (cx_w Γ)) (cx_Q Γ r) (F0 (cx_m Γ) pc2 ls (st2.map (ax_cv ad)))) → W (cx_p Γ) (cx_l Γ) (cx_e Γ) (cx_R Γ r) (cx_s Γ) (cx_m Γ) (cx_a Γ) (cx_below Γ) (cx_meth Γ) (cx_c Γ) H locs (ax_nc σ - ax_nc (cx_w Γ)) (ax_ns σ - ax_ns (cx_w Γ)) (cx_Q Γ r) (F0 (cx_m Γ) pc ls (st.map (ax_cv ad)))) : OK Γ pc lv st (if c then A else B) σ := by
  intro r hr
  by_cases hc : c
  · rw [if_pos hc] at hr
    obtain ⟨m, w⟩ := k1 r hr
    exact ⟨m, fun ad H locs ls h1 h2 h3 h4 h5 h6 h7 h8 h9 h10 => h r ad H locs ls (fun _ => w ad H locs ls h1 h2 h3 h4 h5 h6 h7 h8 h9 (hs h10).1) (fun q => absurd hc q)⟩
  · rw [if_neg hc] at hr
    obtain ⟨m, w⟩ := k2 r hr
    exact ⟨m, fun ad H locs ls h1 h2 h3 h4 h5 h6 h7 h8 h9 h10 => h r ad H locs ls (fun q => absurd q hc) (fun _ => w ad H locs ls h1 h2 h3 h4 h5 h6 h7 h8 h9 (hs h10).2)⟩
theorem ok_if_eq (C : OKC Γ cc own ret) {x : Int32} {off : Int} (tgt : Nat) {A B : Option AR} (hdg : decode cc pc = .ok (.ifCond .eq off, 3)) (ht : (pc : Int) + off = (tgt : Int)) (kt : OK Γ tgt lv st A σ) (kf : OK Γ (pc + 3) lv st B σ) : OK Γ pc lv (.int x :: st) (if x = 0 then A else B) σ :=
  OK.row2 kt kf (fun h => ⟨h.2, h.2⟩) fun _ _ _ _ _ a b => lv_if_eq C.1 C.2.1 hdg ht a b
theorem ok_icmp_eq (C : OKC Γ cc own ret) {x y : Int32} {off : Int} (tgt : Nat) {A B : Option AR} (hdg : decode cc pc = .ok (.if_icmp .eq off, 3)) (ht : (pc : Int) + off = (tgt : Int)) (kt : OK Γ tgt lv st A σ) (kf : OK Γ (pc + 3) lv st B σ) : OK Γ pc lv (.int y :: .int x :: st) (if x = y then A else B) σ :=
  OK.row2 kt kf (fun h => ⟨h.2.2, h.2.2⟩) fun _ _ _ _ _ a b => lv_icmp_eq C.1 C.2.1 hdg ht a b
theorem ok_if_lt (C : OKC Γ cc own ret) {x : Int32} {off : Int} (tgt : Nat) {A B : Option AR} (hdg : decode cc pc = .ok (.ifCond .lt off, 3)) (ht : (pc : Int) + off = (tgt : Int)) (kt : OK Γ tgt lv st A σ) (kf : OK Γ (pc + 3) lv st B σ) : OK Γ pc lv (.int x :: st) (if x < 0 then A else B) σ :=
  OK.row2 kt kf (fun h => ⟨h.2, h.2⟩) fun _ _ _ _ _ a b => lv_if_lt C.1 C.2.1 hdg ht a b
theorem ok_icmp_lt (C : OKC Γ cc own ret) {x y : Int32} {off : Int} (tgt : Nat) {A B : Option AR} (hdg : decode cc pc = .ok (.if_icmp .lt off, 3)) (ht : (pc : Int) + off = (tgt : Int)) (kt : OK Γ tgt lv st A σ) (kf : OK Γ (pc + 3) lv st B σ) : OK Γ pc lv (.int y :: .int x :: st) (if x < y then A else B) σ :=
  OK.row2 kt kf (fun h => ⟨h.2.2, h.2.2⟩) fun _ _ _ _ _ a b => lv_icmp_lt C.1 C.2.1 hdg ht a b
theorem ok_if_ge (C : OKC Γ cc own ret) {x : Int32} {off : Int} (tgt : Nat) {A B : Option AR} (hdg : decode cc pc = .ok (.ifCond .ge off, 3)) (ht : (pc : Int) + off = (tgt : Int)) (kt : OK Γ tgt lv st A σ) (kf : OK Γ (pc + 3) lv st B σ) : OK Γ pc lv (.int x :: st) (if 0 ≤ x then A else B) σ :=
  OK.row2 kt kf (fun h => ⟨h.2, h.2⟩) fun _ _ _ _ _ a b => lv_if_ge C.1 C.2.1 hdg ht a b
theorem ok_icmp_ge (C : OKC Γ cc own ret) {x y : Int32} {off : Int} (tgt : Nat) {A B : Option AR} (hdg : decode cc pc = .ok (.if_icmp .ge off, 3)) (ht : (pc : Int) + off = (tgt : Int)) (kt : OK Γ tgt lv st A σ) (kf : OK Γ (pc + 3) lv st B σ) : OK Γ pc lv (.int y :: .int x :: st) (if y ≤ x then A else B) σ :=
  OK.row2 kt kf (fun h => ⟨h.2.2, h.2.2⟩) fun _ _ _ _ _ a b => lv_icmp_ge C.1 C.2.1 hdg ht a b
theorem ok_if_gt (C : OKC Γ cc own ret) {x : Int32} {off : Int} (tgt : Nat) {A B : Option AR} (hdg : decode cc pc = .ok (.ifCond .gt off, 3)) (ht : (pc : Int) + off = (tgt : Int)) (kt : OK Γ tgt lv st A σ) (kf : OK Γ (pc + 3) lv st B σ) : OK Γ pc lv (.int x :: st) (if 0 < x then A else B) σ :=
  OK.row2 kt kf (fun h => ⟨h.2, h.2⟩) fun _ _ _ _ _ a b => lv_if_gt C.1 C.2.1 hdg ht a b
theorem ok_icmp_gt (C : OKC Γ cc own ret) {x y : Int32} {off : Int} (tgt : Nat) {A B : Option AR} (hdg : decode cc pc = .ok (.if_icmp .gt off, 3)) (ht : (pc : Int) + off = (tgt : Int)) (kt : OK Γ tgt lv st A σ) (kf : OK Γ (pc + 3) lv st B σ) : OK Γ pc lv (.int y :: .int x :: st) (if y < x then A else B) σ :=
  OK.row2 kt kf (fun h => ⟨h.2.2, h.2.2⟩) fun _ _ _ _ _ a b => lv_icmp_gt C.1 C.2.1 hdg ht a b
theorem ok_if_le (C : OKC Γ cc own ret) {x : Int32} {off : Int} (tgt : Nat) {A B : Option AR} (hdg : decode cc pc = .ok (.ifCond .le off, 3)) (ht : (pc : Int) + off = (tgt : Int)) (kt : OK Γ tgt lv st A σ) (kf : OK Γ (pc + 3) lv st B σ) : OK Γ pc lv (.int x :: st) (if x ≤ 0 then A else B) σ :=
  OK.row2 kt kf (fun h => ⟨h.2, h.2⟩) fun _ _ _ _ _ a b => lv_if_le C.1 C.2.1 hdg ht a b
theorem ok_icmp_le (C : OKC Γ cc own ret) {x y : Int32} {off : Int} (tgt : Nat) {A B : Option AR} (hdg : decode cc pc = .ok (.if_icmp .le off, 3)) (ht : (pc : Int) + off = (tgt : Int)) (kt : OK Γ tgt lv st A σ) (kf : OK Γ (pc + 3) lv st B σ) : OK Γ pc lv (.int y :: .int x :: st) (if x ≤ y then A else B) σ :=
  OK.row2 kt kf (fun h => ⟨h.2.2, h.2.2⟩) fun _ _ _ _ _ a b => lv_icmp_le C.1 C.2.1 hdg ht a b
theorem ok_if_ne (C : OKC Γ cc own ret) {x : Int32} {off : Int} (tgt : Nat) {A B : Option AR} (hdg : decode cc pc = .ok (.ifCond .ne off, 3)) (ht : (pc : Int) + off = (tgt : Int)) (kt : OK Γ tgt lv st A σ) (kf : OK Γ (pc + 3) lv st B σ) : OK Γ pc lv (.int x :: st) (if x = 0 then B else A) σ :=
  OK.row2 kf kt (fun h => ⟨h.2, h.2⟩) fun _ _ _ _ _ a b => lv_if_ne C.1 C.2.1 hdg ht b a
theorem ok_icmp_ne (C : OKC Γ cc own ret) {x y : Int32} {off : Int} (tgt : Nat) {A B : Option AR} (hdg : decode cc pc = .ok (.if_icmp .ne off, 3)) (ht : (pc : Int) + off = (tgt : Int)) (kt : OK Γ tgt lv st A σ) (kf : OK Γ (pc + 3) lv st B σ) : OK Γ pc lv (.int y :: .int x :: st) (if x = y then B else A) σ :=
  OK.row2 kf kt (fun h => ⟨h.2.2, h.2.2⟩) fun _ _ _ _ _ a b => lv_icmp_ne C.1 C.2.1 hdg ht b a
theorem ok_idiv (C : OKC Γ cc own ret) {x y : Int32} (hdg : decode cc pc = .ok (.idiv, 1)) (k : OK Γ (pc + 1) lv (.int (x / y) :: st) f σ) : OK Γ pc lv (.int y :: .int x :: st) (if y = 0 then none else f) σ := by
  intro r hr
  by_cases hc : y = 0
  · rw [if_pos hc] at hr; cases hr
  · rw [if_neg hc] at hr
    exact OK.row (st := .int y :: .int x :: st) k (fun _ h => ⟨trivial, h.2.2⟩) (fun _ _ _ _ _ _ w => lv_idiv C.1 C.2.1 hdg hc w) r hr
theorem ok_irem (C : OKC Γ cc own ret) {x y : Int32} (hdg : decode cc pc = .ok (.irem, 1)) (k : OK Γ (pc + 1) lv (.int (x - x / y * y) :: st) f σ) : OK Γ pc lv (.int y :: .int x :: st) (if y = 0 then none else f) σ := by
  intro r hr
  by_cases hc : y = 0
  · rw [if_pos hc] at hr; cases hr
  · rw [if_neg hc] at hr
    exact OK.row (st := .int y :: .int x :: st) k (fun _ h => ⟨trivial, h.2.2⟩) (fun _ _ _ _ _ _ w => lv_irem C.1 C.2.1 hdg hc w) r hr
end OKR
