/-! THE LAW: its walk, over the class's world and its model's, side by side -/
def zz_w : AS := (fun _ _ => 0, fun _ _ => 0, fun _ _ => none, fun _ => (0, 0), 0, 0, 0)
/-- an end that takes all the room that the claim gives -/
def zz_r : AR := (.inl none, (fun _ _ => 0, fun _ _ => 0, fun _ _ => none, fun _ => (0, 0), 0, 601024, 7293033))
/-- the two worlds lie apart in the heap -/
def zz_2 (Γ : CX) (a1 a2 : Nat → Nat) (σ1 σ2 : AS) (H : Heap) (locs : List Loc) : Prop :=
  (∀ k, 1000000 ≤ k → a1 k = cx_ad Γ k) ∧ (∀ k, 1000000 ≤ k → a2 k = cx_ad Γ k) ∧ ax_Rep (cx_D Γ) (cx_dA Γ) (cx_A Γ) a1 σ1 H ∧ ax_Rep (cx_D Γ) (cx_dA Γ) (cx_A Γ) a2 σ2 H ∧ (∀ i j, i < ax_z σ1 → j < ax_z σ2 → a1 i ≠ a2 j) ∧ va_S (cx_A Γ) (cx_s Γ).heap H locs ∧ ax_cl σ1 ∧ ax_cl σ2
/-- what the law's names of cells are: the script, the class's object, its model's, the two rows of one answer -/
def zz_ad (b : Nat) (a1 a2 : Nat → Nat) : Nat → Nat := fun k => if k = 0 then b else if k = 1 then a1 0 else if k = 2 then a2 0 else if k = 3 then a1 455 else a1 456
/-- what is known in the law's body -/
def zz_C (Γ : CX) (b L : Nat) (xs : Nat → Int32) : Prop := OKC Γ cL_law RL (some .boolean) ∧ (cx_nL Γ = 9 ∧ cx_fr Γ = 2048 ∧ cx_lo Γ = 84000 ∧ cx_w Γ = zz_w) ∧ va_X b L xs (cx_s Γ) (cx_s Γ).heap ∧ b < (cx_s Γ).heap.size ∧ ¬ cx_A Γ b
/-- from this place, with these worlds, the machine comes to an end with Q -/
def LW (Γ : CX) (b : Nat) (Q : State → Prop) (pc : Nat) (lv : List (Nat × Value)) (st : List Value) (σ1 σ2 : AS) : Prop :=
  ∀ (a1 a2 : Nat → Nat) (H : Heap) (locs : List Loc) (ls : Array Slot), zz_2 Γ a1 a2 σ1 σ2 H locs → 457 ≤ ax_z σ1 → 0 < ax_z σ2 → lv_has ls (cx_nL Γ) (lv.map (fun q => (q.1, ax_cv (zz_ad b a1 a2) q.2))) →
    W (cx_p Γ) (cx_l Γ) (cx_e Γ) (cx_R Γ zz_r) (cx_s Γ) (cx_m Γ) (cx_a Γ) (cx_below Γ) (cx_meth Γ) (cx_c Γ) H locs (ax_nc σ1 + ax_nc σ2) (ax_ns σ1 + ax_ns σ2) Q (F0 (cx_m Γ) pc ls (st.map (ax_cv (zz_ad b a1 a2))))
theorem ax_ws_inv {dA : Nat → ClassId} {ad : Nat → Nat} {σ : AS} {k : Nat} {q : Nat × va_E} (h : (ax_ws dA ad σ)[k]? = some q) : k < ax_z σ ∧ q.1 = ad k := by
  by_cases hk : k < ax_z σ
  · rw [ax_ws_get hk] at h
    cases h
    exact ⟨hk, rfl⟩
  · unfold ax_ws at h
    rw [List.getElem?_eq_none (by simp; omega)] at h
    cases h
theorem zz_2.swap {Γ : CX} {a1 a2 : Nat → Nat} {σ1 σ2 : AS} {H : Heap} {locs : List Loc} (h : zz_2 Γ a1 a2 σ1 σ2 H locs) : zz_2 Γ a2 a1 σ2 σ1 H locs := by
  obtain ⟨h1, h2, h3, h4, h5, h6, h7, h8⟩ := h
  exact ⟨h2, h1, h4, h3, fun i j hi hj e => h5 j i hj hi e.symm, h6, h8, h7⟩
theorem zz_2.step {Γ : CX} {a1 a2 a3 : Nat → Nat} {σ1 σ2 τ : AS} {H H1 : Heap} {locs locs1 : List Loc} (h : zz_2 Γ a1 a2 σ1 σ2 H locs) (ha : ∀ k, k < ax_z σ1 ∨ 1000000 ≤ k → a3 k = a1 k) (hR : ax_Rep (cx_D Γ) (cx_dA Γ) (va_A (ax_ws (cx_dA Γ) a1 σ1) H.size) a3 τ H1) (hk : ∀ q : Nat, q < H.size → ¬ va_A (ax_ws (cx_dA Γ) a1 σ1) H.size q → H1[q]? = H[q]?) (hS : va_S (cx_A Γ) (cx_s Γ).heap H1 locs1) (hcl : ax_cl τ) : zz_2 Γ a3 a2 τ σ2 H1 locs1 := by
  obtain ⟨h1, h2, h3, h4, h5, h6, h7, h8⟩ := h
  have hAq := ax_inA h3 h6
  have hlt : ∀ j, j < ax_z σ2 → a2 j < H.size := fun j hj => (h4.1 j _ (ax_ws_get hj)).lt
  have hno : ∀ j, j < ax_z σ2 → ¬ va_A (ax_ws (cx_dA Γ) a1 σ1) H.size (a2 j) := by
    intro j hj q
    rcases q with ⟨i, e, hi⟩ | q
    · obtain ⟨x, y⟩ := ax_ws_inv hi
      exact h5 i j x hj y.symm
    · exact absurd (hlt j hj) (Nat.not_lt.mpr q)
  refine ⟨fun k hk => (ha k (Or.inr hk)).trans (h1 k hk), h2, ⟨hR.1, hR.2.weaken (fun _ q _ h => hAq q.1 h)⟩, ⟨h4.1.kept (fun k q hq => ?_), h4.2⟩, fun i j hi hj e => ?_, hS, hcl, h8⟩
  · obtain ⟨x, y⟩ := ax_ws_inv hq
    rw [y]
    exact hk _ (hlt k x) (hno k x)
  · have hq := hR.2.2 i _ (ax_ws_get hi)
    dsimp only at hq
    rw [e] at hq
    exact hno j hj hq
theorem zz_met {l : Launch} {D : va_G} {dA : Nat → ClassId} {B0 fr lo : Nat} {y : MethodName} {ws : List Cond} {as : List Value} {F : AS → Option AR} {ad : Nat → Nat} {σ τ : AS} {v : Option Value} (h : Ct l D dA B0 y ws fr lo as F) (hF : F σ = some (.inl v, τ)) (sz : Nat) :
    Met l y ws { frames := fr, cells := ax_nc τ - ax_nc σ, slots := ax_ns τ - ax_ns σ, locals := lo } (ax_Pc D dA B0 ad as σ sz) (ax_Qc D dA (va_A (ax_ws dA ad σ) sz) ad σ (.inl v, τ)) (ax_nc τ - ax_nc σ) (ax_ns τ - ax_ns σ) (va_A (ax_ws dA ad σ) sz) :=
  MetFree.mono (h ad σ (.inl v, τ) hF sz) (fun _ _ q => q) (fun _ _ _ _ _ q => q) (fun a st o t _ hq => by
    rcases hq with hq | ⟨q, ho, E, ce, L, ⟨ad', hE, -⟩, -⟩
    · exact hq
    · cases hE)
/-- behind a call that returned, over the first of two worlds -/
theorem zz_run {Γ : CX} {cc : ByteArray} {own : String} {ret : Option FieldType} (C : OKC Γ cc own ret) {R : Room} {Q : State → Prop} {a1 a2 : Nat → Nat} {σ1 σ2 τ : AS} {H : Heap} {locs : List Loc} {ls : Array Slot} {cells slots mc ms pc : Nat} {st0 rest : List Value} {v : Option Value} {a : Array Value} (h2 : zz_2 Γ a1 a2 σ1 σ2 H locs)
    (hr : va_Run (cx_p Γ) (cx_l Γ) (cx_e Γ) R (cx_s Γ) (cx_m Γ) (cx_a Γ) (cx_below Γ) (cx_meth Γ) (cx_c Γ) H locs cells slots mc ms (F0 (cx_m Γ) pc ls st0) rest (ax_Qc (cx_D Γ) (cx_dA Γ) (va_A (ax_ws (cx_dA Γ) a1 σ1) H.size) a1 σ1 (.inl v, τ) a) (va_A (ax_ws (cx_dA Γ) a1 σ1) H.size))
    (kk : ∀ (a3 : Nat → Nat) (H1 : Heap) (locs1 : List Loc), (∀ k, k < ax_z σ1 ∨ 1000000 ≤ k → a3 k = a1 k) → zz_2 Γ a3 a2 τ σ2 H1 locs1 → W (cx_p Γ) (cx_l Γ) (cx_e Γ) R (cx_s Γ) (cx_m Γ) (cx_a Γ) (cx_below Γ) (cx_meth Γ) (cx_c Γ) H1 locs1 (cells + mc) (slots + ms) Q (F0 (cx_m Γ) (pc + 3) ls ((v.map (ax_cv a3)).toList ++ rest))) :
    W (cx_p Γ) (cx_l Γ) (cx_e Γ) R (cx_s Γ) (cx_m Γ) (cx_a Γ) (cx_below Γ) (cx_meth Γ) (cx_c Γ) H locs cells slots Q (F0 (cx_m Γ) pc ls st0) := by
  intro T0 hT0 X
  have hAq := ax_inA h2.2.2.1 h2.2.2.2.2.2.1
  obtain ⟨v', st₀, t, T', L, h0, X', hL, e1, e2, ⟨a3, v9, hv, ho, had, hR, hF, hcl, -⟩, stp⟩ := hr T0 hT0 X
  cases hv
  cases ho
  obtain ⟨k1, k2, k3⟩ := vx_keep h0 e1 h2.2.2.2.2.2.1 (fun q _ hq => hAq q hq) hAq hL hF
  obtain ⟨t2, x1, x2⟩ := kk a3 T'.heap (locs ++ L) had (h2.step had ⟨by rw [e1]; exact hR.1, hR.2⟩ k2 k3 hcl) T' rfl X'
  exact ⟨t2, stp t2 x1, x2⟩
section ZZR
variable {Γ : CX} {b L : Nat} {xs : Nat → Int32} {Q : State → Prop} {pc : Nat} {lv : List (Nat × Value)} {st : List Value} {σ1 σ2 : AS}
theorem LW.row {pc' : Nat} {st' : List Value} (k : LW Γ b Q pc' lv st' σ1 σ2)
    (h : ∀ (ad : Nat → Nat) (H : Heap) (locs : List Loc) (ls : Array Slot), lv_has ls (cx_nL Γ) (lv.map (fun q => (q.1, ax_cv ad q.2))) → W (cx_p Γ) (cx_l Γ) (cx_e Γ) (cx_R Γ zz_r) (cx_s Γ) (cx_m Γ) (cx_a Γ) (cx_below Γ) (cx_meth Γ) (cx_c Γ) H locs (ax_nc σ1 + ax_nc σ2) (ax_ns σ1 + ax_ns σ2) Q (F0 (cx_m Γ) pc' ls (st'.map (ax_cv ad))) → W (cx_p Γ) (cx_l Γ) (cx_e Γ) (cx_R Γ zz_r) (cx_s Γ) (cx_m Γ) (cx_a Γ) (cx_below Γ) (cx_meth Γ) (cx_c Γ) H locs (ax_nc σ1 + ax_nc σ2) (ax_ns σ1 + ax_ns σ2) Q (F0 (cx_m Γ) pc ls (st.map (ax_cv ad)))) : LW Γ b Q pc lv st σ1 σ2 :=
  fun a1 a2 H locs ls h1 h2 h3 h4 => h (zz_ad b a1 a2) H locs ls h4 (k a1 a2 H locs ls h1 h2 h3 h4)
theorem LW.rowL {pc' : Nat} {st' : List Value} {lv' : List (Nat × Value)} (k : LW Γ b Q pc' lv' st' σ1 σ2)
    (h : ∀ (ad : Nat → Nat) (H : Heap) (locs : List Loc) (ls : Array Slot), lv_has ls (cx_nL Γ) (lv.map (fun q => (q.1, ax_cv ad q.2))) → (∀ ls : Array Slot, lv_has ls (cx_nL Γ) (lv'.map (fun q => (q.1, ax_cv ad q.2))) → W (cx_p Γ) (cx_l Γ) (cx_e Γ) (cx_R Γ zz_r) (cx_s Γ) (cx_m Γ) (cx_a Γ) (cx_below Γ) (cx_meth Γ) (cx_c Γ) H locs (ax_nc σ1 + ax_nc σ2) (ax_ns σ1 + ax_ns σ2) Q (F0 (cx_m Γ) pc' ls (st'.map (ax_cv ad)))) → W (cx_p Γ) (cx_l Γ) (cx_e Γ) (cx_R Γ zz_r) (cx_s Γ) (cx_m Γ) (cx_a Γ) (cx_below Γ) (cx_meth Γ) (cx_c Γ) H locs (ax_nc σ1 + ax_nc σ2) (ax_ns σ1 + ax_ns σ2) Q (F0 (cx_m Γ) pc ls (st.map (ax_cv ad)))) : LW Γ b Q pc lv st σ1 σ2 :=
  fun a1 a2 H locs ls h1 h2 h3 h4 => h (zz_ad b a1 a2) H locs ls h4 (fun ls' h4' => k a1 a2 H locs ls' h1 h2 h3 h4')
theorem zz_iconst (C : zz_C Γ b L xs) {n : Int} {v : Int32} (hdg : decode cL_law pc = .ok (.iconst n, 1)) (hv : Int32.ofInt n = v) (k : LW Γ b Q (pc + 1) lv (.int v :: st) σ1 σ2) : LW Γ b Q pc lv st σ1 σ2 :=
  LW.row k fun _ _ _ _ _ w => lv_iconst C.1.1 C.1.2.1 hdg hv w
theorem zz_bipush (C : zz_C Γ b L xs) {n : Int} {v : Int32} (hdg : decode cL_law pc = .ok (.bipush n, 2)) (hv : (Int8.ofInt n).toInt32 = v) (k : LW Γ b Q (pc + 2) lv (.int v :: st) σ1 σ2) : LW Γ b Q pc lv st σ1 σ2 :=
  LW.row k fun _ _ _ _ _ w => lv_bipush C.1.1 C.1.2.1 hdg hv w
theorem zz_lconst (C : zz_C Γ b L xs) {n : Fin 2} {v : Int64} (hdg : decode cL_law pc = .ok (.lconst n, 1)) (hv : Int64.ofNat (n : Nat) = v) (k : LW Γ b Q (pc + 1) lv (.long v :: st) σ1 σ2) : LW Γ b Q pc lv st σ1 σ2 :=
  LW.row k fun _ _ _ _ _ w => lv_lconst C.1.1 C.1.2.1 hdg hv w
theorem zz_iadd (C : zz_C Γ b L xs) {x y : Int32} (hdg : decode cL_law pc = .ok (.iadd, 1)) (k : LW Γ b Q (pc + 1) lv (.int (x + y) :: st) σ1 σ2) : LW Γ b Q pc lv (.int y :: .int x :: st) σ1 σ2 :=
  LW.row k fun _ _ _ _ _ w => lv_iadd C.1.1 C.1.2.1 hdg w
theorem zz_isub (C : zz_C Γ b L xs) {x y : Int32} (hdg : decode cL_law pc = .ok (.isub, 1)) (k : LW Γ b Q (pc + 1) lv (.int (x - y) :: st) σ1 σ2) : LW Γ b Q pc lv (.int y :: .int x :: st) σ1 σ2 :=
  LW.row k fun _ _ _ _ _ w => lv_isub C.1.1 C.1.2.1 hdg w
theorem zz_iand (C : zz_C Γ b L xs) {x y : Int32} (hdg : decode cL_law pc = .ok (.iand, 1)) (k : LW Γ b Q (pc + 1) lv (.int (x &&& y) :: st) σ1 σ2) : LW Γ b Q pc lv (.int y :: .int x :: st) σ1 σ2 :=
  LW.row k fun _ _ _ _ _ w => lv_iand C.1.1 C.1.2.1 hdg w
theorem zz_i2l (C : zz_C Γ b L xs) {x : Int32} (hdg : decode cL_law pc = .ok (.i2l, 1)) (k : LW Γ b Q (pc + 1) lv (.long x.toInt64 :: st) σ1 σ2) : LW Γ b Q pc lv (.int x :: st) σ1 σ2 :=
  LW.row k fun _ _ _ _ _ w => lv_i2l C.1.1 C.1.2.1 hdg rfl w
theorem zz_f2d (C : zz_C Γ b L xs) {x : UInt32} (hdg : decode cL_law pc = .ok (.f2d, 1)) (hn : FP.f2d x &&& 0x7fffffffffffffff ≤ 0x7ff0000000000000) (k : LW Γ b Q (pc + 1) lv (.double (FP.f2d x) :: st) σ1 σ2) : LW Γ b Q pc lv (.float x :: st) σ1 σ2 :=
  LW.row k fun _ _ _ _ _ w => lv_f2d C.1.1 C.1.2.1 hdg hn w
theorem zz_iload (C : zz_C Γ b L xs) {i : Nat} (j : Nat) {x : Int32} (hdg : decode cL_law pc = .ok (.iload i, 2)) (hl : lv[j]? = some (i, .int x)) (k : LW Γ b Q (pc + 2) lv (.int x :: st) σ1 σ2) : LW Γ b Q pc lv st σ1 σ2 :=
  LW.row k fun _ _ _ _ h w => lv_iload C.1.1 C.1.2.1 hdg (lv_at h j (by rw [List.getElem?_map, hl]; rfl)) w
theorem zz_fload (C : zz_C Γ b L xs) {i : Nat} (j : Nat) {x : UInt32} (hdg : decode cL_law pc = .ok (.fload i, 2)) (hl : lv[j]? = some (i, .float x)) (k : LW Γ b Q (pc + 2) lv (.float x :: st) σ1 σ2) : LW Γ b Q pc lv st σ1 σ2 :=
  LW.row k fun _ _ _ _ h w => lv_fload C.1.1 C.1.2.1 hdg (lv_at h j (by rw [List.getElem?_map, hl]; rfl)) w
theorem zz_dload (C : zz_C Γ b L xs) {i : Nat} (j : Nat) {x : UInt64} (hdg : decode cL_law pc = .ok (.dload i, 2)) (hl : lv[j]? = some (i, .double x)) (k : LW Γ b Q (pc + 2) lv (.double x :: st) σ1 σ2) : LW Γ b Q pc lv st σ1 σ2 :=
  LW.row k fun _ _ _ _ h w => lv_dload C.1.1 C.1.2.1 hdg (lv_at h j (by rw [List.getElem?_map, hl]; rfl)) w
theorem zz_aload (C : zz_C Γ b L xs) {i : Nat} (j : Nat) {x : Nat} (hdg : decode cL_law pc = .ok (.aload i, 2)) (hl : lv[j]? = some (i, .ref x)) (k : LW Γ b Q (pc + 2) lv (.ref x :: st) σ1 σ2) : LW Γ b Q pc lv st σ1 σ2 :=
  LW.row k fun _ _ _ _ h w => lv_aload C.1.1 C.1.2.1 hdg (lv_at h j (by rw [List.getElem?_map, hl]; rfl)) w
theorem zz_aload_n (C : zz_C Γ b L xs) {i : Fin 4} (j : Nat) {x : Nat} (hdg : decode cL_law pc = .ok (.aload_n i, 1)) (hl : lv[j]? = some ((i : Nat), .ref x)) (k : LW Γ b Q (pc + 1) lv (.ref x :: st) σ1 σ2) : LW Γ b Q pc lv st σ1 σ2 :=
  LW.row k fun _ _ _ _ h w => lv_aload_n C.1.1 C.1.2.1 hdg rfl (lv_at h j (by rw [List.getElem?_map, hl]; rfl)) w
theorem zz_istore (C : zz_C Γ b L xs) {i : Nat} {x : Int32} (lv' : List (Nat × Value)) (hdg : decode cL_law pc = .ok (.istore i, 2)) (hn : i < 9) (hl : (i, Value.int x) :: lv.filter (fun q => !(q.1 == i) && !(q.1 + 1 == i && q.2.category == 2)) = lv') (k : LW Γ b Q (pc + 2) lv' st σ1 σ2) : LW Γ b Q pc lv (.int x :: st) σ1 σ2 :=
  LW.rowL k fun ad _ _ _ h w => lv_istore C.1.1 C.1.2.1 hdg h (by rw [C.2.1.1]; exact hn) (by rw [← hl]; exact (ax_lv_st ad i (.int x) lv).symm) w
theorem zz_fstore (C : zz_C Γ b L xs) {i : Nat} {x : UInt32} (lv' : List (Nat × Value)) (hdg : decode cL_law pc = .ok (.fstore i, 2)) (hn : i < 9) (hl : (i, Value.float x) :: lv.filter (fun q => !(q.1 == i) && !(q.1 + 1 == i && q.2.category == 2)) = lv') (k : LW Γ b Q (pc + 2) lv' st σ1 σ2) : LW Γ b Q pc lv (.float x :: st) σ1 σ2 :=
  LW.rowL k fun ad _ _ _ h w => lv_fstore C.1.1 C.1.2.1 hdg h (by rw [C.2.1.1]; exact hn) (by rw [← hl]; exact (ax_lv_st ad i (.float x) lv).symm) w
theorem zz_dstore (C : zz_C Γ b L xs) {i : Nat} {x : UInt64} (lv' : List (Nat × Value)) (hdg : decode cL_law pc = .ok (.dstore i, 2)) (hn : i + 1 < 9) (hl : (i, Value.double x) :: lv.filter (fun q => !(q.1 == i) && (!(q.1 == i + 1) && !(q.1 + 1 == i && q.2.category == 2))) = lv') (k : LW Γ b Q (pc + 2) lv' st σ1 σ2) : LW Γ b Q pc lv (.double x :: st) σ1 σ2 :=
  LW.rowL k fun ad _ _ _ h w => lv_dstore C.1.1 C.1.2.1 hdg h (by rw [C.2.1.1]; exact hn) (by rw [← hl]; exact (ax_lv_st2 ad i (.double x) lv).symm) w
theorem zz_iinc (C : zz_C Γ b L xs) {i : Nat} {n : Int} (j : Nat) {x v : Int32} (lv' : List (Nat × Value)) (hdg : decode cL_law pc = .ok (.iinc i n, 3)) (hj : lv[j]? = some (i, .int x)) (hv : x + Int32.ofInt n = v) (hn : i < 9) (hl : (i, Value.int v) :: lv.filter (fun q => !(q.1 == i) && !(q.1 + 1 == i && q.2.category == 2)) = lv') (k : LW Γ b Q (pc + 3) lv' st σ1 σ2) : LW Γ b Q pc lv st σ1 σ2 :=
  LW.rowL k fun ad _ _ _ h w => lv_iinc C.1.1 C.1.2.1 hdg h (k := j) (by rw [List.getElem?_map, hj]; rfl) hv (by rw [C.2.1.1]; exact hn) (by rw [← hl]; exact (ax_lv_st ad i (.int v) lv).symm) w
theorem zz_sub {lv' : List (Nat × Value)} (is : List Nat) (hs : is.filterMap (fun i => lv[i]?) = lv') (k : LW Γ b Q pc lv' st σ1 σ2) : LW Γ b Q pc lv st σ1 σ2 :=
  fun a1 a2 H locs ls h1 h2 h3 h4 => k a1 a2 H locs ls h1 h2 h3 (lv_sub h4 is (by
    unfold lv_pick
    rw [← hs, List.map_filterMap]
    congr 1
    funext i
    rw [List.getElem?_map]))
theorem zz_goto (C : zz_C Γ b L xs) {off : Int} (tgt : Nat) (hdg : decode cL_law pc = .ok (.goto off, 3)) (ht : (pc : Int) + off = (tgt : Int)) (k : LW Γ b Q tgt lv st σ1 σ2) : LW Γ b Q pc lv st σ1 σ2 :=
  LW.row k fun _ _ _ _ _ w => lv_goto C.1.1 C.1.2.1 hdg ht w
theorem zz_eqT (C : zz_C Γ b L xs) {x : Int32} {off : Int} (tgt : Nat) (hdg : decode cL_law pc = .ok (.ifCond .eq off, 3)) (ht : (pc : Int) + off = (tgt : Int)) (hx : x = 0) (k : LW Γ b Q tgt lv st σ1 σ2) : LW Γ b Q pc lv (.int x :: st) σ1 σ2 :=
  LW.row k fun _ _ _ _ _ w => lv_if_eq C.1.1 C.1.2.1 hdg ht (fun _ => w) (fun h => absurd hx h)
theorem zz_eqF (C : zz_C Γ b L xs) {x : Int32} {off : Int} (tgt : Nat) (hdg : decode cL_law pc = .ok (.ifCond .eq off, 3)) (ht : (pc : Int) + off = (tgt : Int)) (hx : ¬ x = 0) (k : LW Γ b Q (pc + 3) lv st σ1 σ2) : LW Γ b Q pc lv (.int x :: st) σ1 σ2 :=
  LW.row k fun _ _ _ _ _ w => lv_if_eq C.1.1 C.1.2.1 hdg ht (fun h => absurd h hx) (fun _ => w)
theorem zz_neT (C : zz_C Γ b L xs) {x : Int32} {off : Int} (tgt : Nat) (hdg : decode cL_law pc = .ok (.ifCond .ne off, 3)) (ht : (pc : Int) + off = (tgt : Int)) (hx : ¬ x = 0) (k : LW Γ b Q tgt lv st σ1 σ2) : LW Γ b Q pc lv (.int x :: st) σ1 σ2 :=
  LW.row k fun _ _ _ _ _ w => lv_if_ne C.1.1 C.1.2.1 hdg ht (fun _ => w) (fun h => absurd h hx)
theorem zz_neF (C : zz_C Γ b L xs) {x : Int32} {off : Int} (tgt : Nat) (hdg : decode cL_law pc = .ok (.ifCond .ne off, 3)) (ht : (pc : Int) + off = (tgt : Int)) (hx : x = 0) (k : LW Γ b Q (pc + 3) lv st σ1 σ2) : LW Γ b Q pc lv (.int x :: st) σ1 σ2 :=
  LW.row k fun _ _ _ _ _ w => lv_if_ne C.1.1 C.1.2.1 hdg ht (fun h => absurd hx h) (fun _ => w)
theorem zz_icmpT (C : zz_C Γ b L xs) {x y : Int32} {off : Int} (tgt : Nat) (hdg : decode cL_law pc = .ok (.if_icmp .eq off, 3)) (ht : (pc : Int) + off = (tgt : Int)) (hx : x = y) (k : LW Γ b Q tgt lv st σ1 σ2) : LW Γ b Q pc lv (.int y :: .int x :: st) σ1 σ2 :=
  LW.row k fun _ _ _ _ _ w => lv_icmp_eq C.1.1 C.1.2.1 hdg ht (fun _ => w) (fun h => absurd hx h)
theorem zz_icmpgt (C : zz_C Γ b L xs) {x y : Int32} {off : Int} (tgt : Nat) (hdg : decode cL_law pc = .ok (.if_icmp .gt off, 3)) (ht : (pc : Int) + off = (tgt : Int)) (k1 : y < x → LW Γ b Q tgt lv st σ1 σ2) (k2 : ¬ y < x → LW Γ b Q (pc + 3) lv st σ1 σ2) : LW Γ b Q pc lv (.int y :: .int x :: st) σ1 σ2 :=
  fun a1 a2 H locs ls h1 h2 h3 h4 => lv_icmp_gt C.1.1 C.1.2.1 hdg ht (fun h => k1 h a1 a2 H locs ls h1 h2 h3 h4) (fun h => k2 h a1 a2 H locs ls h1 h2 h3 h4)
theorem zz_lcmp (C : zz_C Γ b L xs) {x y : Int64} (hdg : decode cL_law pc = .ok (.lcmp, 1)) (k : LW Γ b Q (pc + 1) lv (.int (lg_cmp x y) :: st) σ1 σ2) : LW Γ b Q pc lv (.long y :: .long x :: st) σ1 σ2 :=
  LW.row k fun _ _ _ _ _ w => W.lcmp C.1.1 C.1.2.1 hdg w
theorem zz_dcmp (C : zz_C Γ b L xs) {x y : UInt64} {op : CmpOp} (hdg : decode cL_law pc = .ok (.dcmp op, 1)) (k : LW Γ b Q (pc + 1) lv (.int (Op.cmpValue (FP.dcmp x y) op) :: st) σ1 σ2) : LW Γ b Q pc lv (.double y :: .double x :: st) σ1 σ2 :=
  LW.row k fun _ _ _ _ _ w => lv_dcmp C.1.1 C.1.2.1 hdg w
theorem zz_tabIn (C : zz_C Γ b L xs) {dflt lo hi : Int} {offs : Array Int} {len : Nat} {x : Int32} {off : Int} (tgt : Nat) (hdg : decode cL_law pc = .ok (.tableswitch dflt lo hi offs, len)) (h1 : ¬ x.toInt < lo) (h2 : ¬ hi < x.toInt) (ho : offs[(x.toInt - lo).toNat]? = some off) (ht : (pc : Int) + off = (tgt : Int)) (k : LW Γ b Q tgt lv st σ1 σ2) : LW Γ b Q pc lv (.int x :: st) σ1 σ2 :=
  LW.row k fun _ _ _ _ _ w => lv_tableIn C.1.1 C.1.2.1 hdg h1 h2 ho ht w
theorem zz_tabOut (C : zz_C Γ b L xs) {dflt lo hi : Int} {offs : Array Int} {len : Nat} {x : Int32} (tgt : Nat) (hdg : decode cL_law pc = .ok (.tableswitch dflt lo hi offs, len)) (h1 : x.toInt < lo ∨ hi < x.toInt) (ht : (pc : Int) + dflt = (tgt : Int)) (k : LW Γ b Q tgt lv st σ1 σ2) : LW Γ b Q pc lv (.int x :: st) σ1 σ2 :=
  LW.row k fun _ _ _ _ _ w => lv_tableOut C.1.1 C.1.2.1 hdg h1 ht w
/-- the script's ints -/
theorem zz_sld (C : zz_C Γ b L xs) {i : Int32} (hin : vp_in i L) (hdg : decode cL_law pc = .ok (.iaload, 1)) (k : LW Γ b Q (pc + 1) lv (.int (xs i.toNatClampNeg) :: st) σ1 σ2) : LW Γ b Q pc lv (.int i :: .ref 0 :: st) σ1 σ2 :=
  fun a1 a2 H locs ls h1 h2 h3 h4 => va_sld C.1.1 C.1.2.1 C.2.2.1 C.2.2.2.1 C.2.2.2.2 h1.2.2.2.2.2.1 hin hdg (k a1 a2 H locs ls h1 h2 h3 h4)
theorem zz_slen (C : zz_C Γ b L xs) (hdg : decode cL_law pc = .ok (.arraylength, 1)) (k : LW Γ b Q (pc + 1) lv (.int (Int32.ofNat L) :: st) σ1 σ2) : LW Γ b Q pc lv (.ref 0 :: st) σ1 σ2 :=
  fun a1 a2 H locs ls h1 h2 h3 h4 => va_slen C.1.1 C.1.2.1 C.2.2.1 C.2.2.2.1 C.2.2.2.2 h1.2.2.2.2.2.1 hdg (k a1 a2 H locs ls h1 h2 h3 h4)
/-- the answer that a wrapper laid down -/
theorem zz_lald (C : zz_C Γ b L xs) (ho : ax_H σ1 455 = (102, 1)) (hdg : decode cL_law pc = .ok (.laload, 1)) (k : LW Γ b Q (pc + 1) lv (.long (ax_J σ1 455 0) :: st) σ1 σ2) : LW Γ b Q pc lv (.int 0 :: .ref 3 :: st) σ1 σ2 :=
  fun a1 a2 H locs ls h1 h2 h3 h4 => by
    have hc : ax_cell (cx_dA Γ) a1 σ1 455 = .inl (cx_dA Γ 102, 1, .inr (.inl (ax_J σ1 455))) := by rw [ax_cell_a (by rw [ho]) (by decide), ho]; rfl
    have hw := k a1 a2 H locs ls h1 h2 h3 h4
    have hv : vp_in 0 1 := show ¬ ((0 : Int32) < 0 ∨ 1 ≤ (0 : Int32).toNatClampNeg) by decide
    exact va_lald (i := 0) (n := 1) (f := ax_J σ1 455) (a := a1 455) C.1.1 C.1.2.1 C.1.2.2.2.2.1 h1.2.2.1.1 455 2 ((ax_ws_get (show 455 < ax_z σ1 by omega)).trans (by rw [hc])) rfl hv hdg hw
theorem zz_dald (C : zz_C Γ b L xs) (ho : ax_H σ1 456 = (104, 1)) (hdg : decode cL_law pc = .ok (.daload, 1)) (k : LW Γ b Q (pc + 1) lv (.double (ax_J σ1 456 0).toUInt64 :: st) σ1 σ2) : LW Γ b Q pc lv (.int 0 :: .ref 4 :: st) σ1 σ2 :=
  fun a1 a2 H locs ls h1 h2 h3 h4 => by
    have hc : ax_cell (cx_dA Γ) a1 σ1 456 = .inl (cx_dA Γ 104, 1, .inr (.inr (.inr (.inl (fun j => (ax_J σ1 456 j).toUInt64))))) := by rw [ax_cell_a (by rw [ho]) (by decide), ho]; rfl
    have hw := k a1 a2 H locs ls h1 h2 h3 h4
    have hv : vp_in 0 1 := show ¬ ((0 : Int32) < 0 ∨ 1 ≤ (0 : Int32).toNatClampNeg) by decide
    exact va_dald (i := 0) (n := 1) (f := fun j => (ax_J σ1 456 j).toUInt64) (a := a1 456) C.1.1 C.1.2.1 C.1.2.2.2.2.1 h1.2.2.1.1 456 4 ((ax_ws_get (show 456 < ax_z σ1 by omega)).trans (by rw [hc])) rfl hv hdg hw
end ZZR
