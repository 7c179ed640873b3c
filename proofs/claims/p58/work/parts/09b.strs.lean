/-! STRING CONSTANTS: the i-th is the cell 1000000 + i, its bytes the cell 3000000 + i -/
def sK (w : Nat) (x : Option AR) : Option AR := if 1000026 ≤ w ∧ w < 1000045 then x else none
def sN (v : Nat) (g : Int32 → Option AR) : Option AR := if 3000026 ≤ v ∧ v < 3000045 then g (Int32.ofNat (ax_byt (v - 3000000)).length) else none
def sA (v : Nat) (i : Int32) (g : Int32 → Option AR) : Option AR := if (3000026 ≤ v ∧ v < 3000045) ∧ ax_ib i (ax_byt (v - 3000000)).length then g ((ax_byt (v - 3000000)).getD i.toNatClampNeg 0) else none
def cK (σ : AS) (b : Nat) (x : Option AR) (g : Option Value → AS → Option AR) : Option AR := if 1000026 ≤ b ∧ b < 1000045 then cS σ x g else none
def rB (v : Int32) (σ : AS) : Option AR := some (.inl (some (.int v.toInt8.toInt32)), σ)
def rC (v : Int32) (σ : AS) : Option AR := some (.inl (some (.int ((v.toUInt32 % 65536).toInt32))), σ)
section WRET
variable {p : Program} {l : Launch} {e : Env} {R : Room} {s : State} {m : MethodId} {args : Array Value} {below : List Frame} {meth : Method} {c : Code} {H : Heap} {locs : List Loc} {cells slots : Nat}
theorem ax_bret {cc : ByteArray} {Qc : Array Value → State → Outcome → State → Prop} {free : Addr → Prop} {v : Int32} (hexec : p.tables.exec = Jvm.exec) (hb : c.code = cc) (hr : meth.sig.returnType = some .byte)
    (hq : ∀ t : State, t.heap = H → s.WarmedH t.vm → Qc args s (.returned (some (.int v.toInt8.toInt32))) t) (hf : ∀ q ∈ locs, free q.base)
    {pc : Nat} {ls : Array Slot} (hdg : decode cc pc = .ok (.ireturn, 1)) (hlocks : meth.locks = false := by assumption) : W p l e R s m args below meth c H locs cells slots (MQ below Qc args s cells slots free) (F0 m pc ls [.int v]) := by
  intro T hT X
  have hlocks : meth.locks = false := hlocks
  obtain ⟨fs, hret, hrun, hended, hW, hframe⟩ := X.leave (v := some (.int v.toInt8.toInt32)) (fun h => by rw [hr] at h; cases h)
  have hmeth' : T.vm.method? m = some meth := X.method'
  refine ⟨T.setFrames fs, ?_, .returned (some (.int v.toInt8.toInt32)), hrun, hended, hq _ hT hW, locs, ⟨⟨_, rfl⟩, hW, hframe⟩, hf⟩
  jvm_step X.here [X.here.top, hexec, hb, hdg, hmeth', hr, narrow]
  (try refine ⟨rfl, ?_⟩); (try refine ⟨rfl, ?_⟩)
  first | (intro acts; rw [hret _ acts rfl rfl rfl]) | rw [hret _ _ rfl rfl rfl]
  exact Steps.refl _
theorem ax_cret {cc : ByteArray} {Qc : Array Value → State → Outcome → State → Prop} {free : Addr → Prop} {v : Int32} (hexec : p.tables.exec = Jvm.exec) (hb : c.code = cc) (hr : meth.sig.returnType = some .char)
    (hq : ∀ t : State, t.heap = H → s.WarmedH t.vm → Qc args s (.returned (some (.int ((v.toUInt32 % 65536).toInt32)))) t) (hf : ∀ q ∈ locs, free q.base)
    {pc : Nat} {ls : Array Slot} (hdg : decode cc pc = .ok (.ireturn, 1)) (hlocks : meth.locks = false := by assumption) : W p l e R s m args below meth c H locs cells slots (MQ below Qc args s cells slots free) (F0 m pc ls [.int v]) := by
  intro T hT X
  have hlocks : meth.locks = false := hlocks
  obtain ⟨fs, hret, hrun, hended, hW, hframe⟩ := X.leave (v := some (.int ((v.toUInt32 % 65536).toInt32))) (fun h => by rw [hr] at h; cases h)
  have hmeth' : T.vm.method? m = some meth := X.method'
  refine ⟨T.setFrames fs, ?_, .returned (some (.int ((v.toUInt32 % 65536).toInt32))), hrun, hended, hq _ hT hW, locs, ⟨⟨_, rfl⟩, hW, hframe⟩, hf⟩
  jvm_step X.here [X.here.top, hexec, hb, hdg, hmeth', hr, narrow]
  (try refine ⟨rfl, ?_⟩); (try refine ⟨rfl, ?_⟩)
  first | (intro acts; rw [hret _ acts rfl rfl rfl]) | rw [hret _ _ rfl rfl rfl]
  exact Steps.refl _
end WRET
def ax_UL (own : String) (index : Nat) (C0 : String) (y : MethodName) (bytes : ByteArray) (maxL : Nat) (ret : Option FieldType) (n : Nat) : Prop :=
  ax_VL own index y bytes maxL ret n ∧ Cond.instanceMethod y ∈ ax_ALL ∧ Cond.sameMethod y.cls y.cls y.name y.desc ∈ ax_ALL ∧ Cond.selects C0 y y ∈ ax_ALL
def ax_SL (own : String) (index : Nat) (y : MethodName) (bytes : ByteArray) (maxL : Nat) (ret : Option FieldType) (n : Nat) : Prop :=
  ax_VL own index y bytes maxL ret n ∧ Cond.instanceMethod y ∈ ax_ALL ∧ Cond.sameMethod y.cls y.cls y.name y.desc ∈ ax_ALL ∧ Cond.superclass own y.cls ∈ ax_ALL ∧ y.name ≠ "<init>"
/-- a private method is what is found for it, in whatever class -/
theorem ax_selp {C0 : String} {y : MethodName} {s : State} {args : Array Value} {n : Nat} (hy : y.cls ≠ "java/lang/invoke/MethodHandle" ∧ y.cls ≠ "java/lang/invoke/VarHandle")
    (hins : (Cond.instantiable C0 n).before args s = true) (hpriv : (Cond.privateMethod y).before args s = true) (hinst : (Cond.instanceMethod y).before args s = true) (hsame : (Cond.sameMethod y.cls y.cls y.name y.desc).before args s = true) :
    (Cond.selects C0 y y).before args s = true := by
  obtain ⟨c, k, hc, hk, -, hniab, -, -⟩ := Cond.instantiable_spec hins
  obtain ⟨mk, methM, hnamed, hmethM, -, -⟩ := Cond.instanceMethod_spec hinst
  have hfound : s.methodFound? y.cls y.name y.desc = some mk := State.methodFound?_of_named hnamed hy
  have hsel : selectMethod {} s.vm c mk = .method mk := selectMethod_private hmethM (Cond.privateMethod_at hpriv mk methM hnamed hmethM)
  obtain ⟨cn, ck, r1, hcn, hck, hni, hf, hn1⟩ := Cond.sameMethod_found hsame
  have hcls : mk.cls = cn := Option.some.inj ((findClass_of_methodNamed hnamed).symm.trans hcn)
  simp only [Cond.before, Cond.holds, Cond.value, hc, hfound, hnamed, hsel, hcls, hck]
  simp; exact hni
/-- the words at the start -/
theorem ax_ALLof {s : State} {args : Array Value} (h : ∀ w ∈ lw_tbl, w.before args s = true) : ∀ w ∈ ax_ALL, w.before args s = true := by
  intro w hw
  have hw := (List.mem_filter.mp hw).1
  rcases List.mem_append.mp hw with hw | hw
  · have hins := h (Cond.instantiable RJ4 4) (List.mem_append_right _ (List.mem_of_getElem? (i := 231) (by decide +kernel)))
    rcases List.mem_cons.mp hw with rfl | hw
    · exact ax_selp ⟨by decide, by decide⟩ hins (h _ (List.mem_append_right _ (List.mem_of_getElem? (i := 439) (by decide +kernel)))) (h _ (List.mem_append_right _ (List.mem_of_getElem? (i := 440) (by decide +kernel)))) (h _ (List.mem_append_right _ (List.mem_of_getElem? (i := 1663) (by decide +kernel))))
    · rcases List.mem_cons.mp hw with rfl | hw
      · exact ax_selp ⟨by decide, by decide⟩ hins (h _ (List.mem_append_right _ (List.mem_of_getElem? (i := 443) (by decide +kernel)))) (h _ (List.mem_append_right _ (List.mem_of_getElem? (i := 444) (by decide +kernel)))) (h _ (List.mem_append_right _ (List.mem_of_getElem? (i := 1664) (by decide +kernel))))
      · rcases List.mem_cons.mp hw with rfl | hw
        · exact ax_selp ⟨by decide, by decide⟩ hins (h _ (List.mem_append_right _ (List.mem_of_getElem? (i := 504) (by decide +kernel)))) (h _ (List.mem_append_right _ (List.mem_of_getElem? (i := 505) (by decide +kernel)))) (h _ (List.mem_append_right _ (List.mem_of_getElem? (i := 1665) (by decide +kernel))))
        · rcases List.mem_cons.mp hw with rfl | hw
          · exact ax_selp ⟨by decide, by decide⟩ hins (h _ (List.mem_append_right _ (List.mem_of_getElem? (i := 508) (by decide +kernel)))) (h _ (List.mem_append_right _ (List.mem_of_getElem? (i := 509) (by decide +kernel)))) (h _ (List.mem_append_right _ (List.mem_of_getElem? (i := 1666) (by decide +kernel))))
          · cases hw
  · exact h w hw
theorem ax_ws_newM {dA : Nat → ClassId} {ad : Nat → Nat} {σ : AS} {n k q : Nat} {r : Nat → Nat} (hcl : ax_cl σ) (hz : ax_z σ < 900000) (hn : n < 1000) :
    ax_ws dA (fun a => if a = ax_z σ then q else if ax_z σ ≤ a ∧ a ≤ ax_z σ + n then r (a - (ax_z σ + 1)) else ad a) (ax_newM σ n k) = (ax_ws dA ad σ ++ [(q, .inl (dA 110, n, .inr (.inr (.inr (.inr (fun i => if i < n then some (r i) else none))))))]) ++ (List.range n).map (fun i => (r i, .inl (dA 100, k, .inl (fun _ => 0)))) := by
  unfold ax_ws
  show (List.range (ax_z σ + 1 + n)).map _ = _
  rw [List.range_add, List.map_append, List.range_succ, List.map_append, List.map_map]
  congr 1
  · congr 1
    · apply List.map_congr_left
      intro a ha
      have ha : a < ax_z σ := List.mem_range.mp ha
      have h1 : a ≠ ax_z σ := Nat.ne_of_lt ha
      have h2 : ¬ (ax_z σ ≤ a ∧ a ≤ ax_z σ + n) := by omega
      rw [ax_cell_cong (σ := σ) (ad := ad) ((if_neg h1).trans (if_neg h2)) (fun j => if_neg h2) (fun j => if_neg h2) (fun j => ?_)]
      · exact congrArg (fun z => (z, ax_cell dA ad σ a)) ((if_neg h1).trans (if_neg h2))
      show ((if a = ax_z σ then _ else if ax_z σ ≤ a ∧ a ≤ ax_z σ + n then none else ax_P σ a j) : Option Nat).map _ = _
      rw [if_neg h1, if_neg h2]
      cases hp : ax_P σ a j with
      | none => rfl
      | some v =>
        have hv := hcl a j v ha hp
        show some (if v = ax_z σ then q else if ax_z σ ≤ v ∧ v ≤ ax_z σ + n then r (v - (ax_z σ + 1)) else ad v) = some (ad v)
        rw [if_neg (by omega), if_neg (by omega)]
    · show [(if ax_z σ = ax_z σ then q else _, _)] = _
      rw [if_pos rfl]
      have hH : ax_H (ax_newM σ n k) (ax_z σ) = (110, n) := if_pos rfl
      rw [ax_cell_a (t := 110) (congrArg Prod.fst hH) (by decide), congrArg Prod.snd hH, ax_arr_R (by decide)]
      have e : (fun j => (ax_P (ax_newM σ n k) (ax_z σ) j).map (fun a => if a = ax_z σ then q else if ax_z σ ≤ a ∧ a ≤ ax_z σ + n then r (a - (ax_z σ + 1)) else ad a)) = fun i => if i < n then some (r i) else none := by
        funext j
        show ((if ax_z σ = ax_z σ then (if j < n then some (ax_z σ + 1 + j) else none) else _) : Option Nat).map _ = _
        rw [if_pos rfl]
        by_cases hj : j < n
        · rw [if_pos hj, if_pos hj]
          show some (if ax_z σ + 1 + j = ax_z σ then q else if ax_z σ ≤ ax_z σ + 1 + j ∧ ax_z σ + 1 + j ≤ ax_z σ + n then r (ax_z σ + 1 + j - (ax_z σ + 1)) else _) = _
          rw [if_neg (by omega), if_pos (by omega), Nat.add_sub_cancel_left]
        · rw [if_neg hj, if_neg hj]
          rfl
      rw [e]
  · apply List.map_congr_left
    intro i hi
    have hi : i < n := List.mem_range.mp hi
    have h1 : ax_z σ + 1 + i ≠ ax_z σ := by omega
    have h2 : ax_z σ ≤ ax_z σ + 1 + i ∧ ax_z σ + 1 + i ≤ ax_z σ + n := by omega
    show (if ax_z σ + 1 + i = ax_z σ then q else if ax_z σ ≤ ax_z σ + 1 + i ∧ ax_z σ + 1 + i ≤ ax_z σ + n then r (ax_z σ + 1 + i - (ax_z σ + 1)) else _, _) = _
    rw [if_neg h1, if_pos h2, Nat.add_sub_cancel_left]
    have hH : ax_H (ax_newM σ n k) (ax_z σ + 1 + i) = (100, k) := (if_neg h1).trans (if_pos h2)
    show (r i, ax_cell dA _ (ax_newM σ n k) (ax_z σ + 1 + i)) = _
    rw [ax_cell_a (t := 100) (congrArg Prod.fst hH) (by decide), congrArg Prod.snd hH, ax_arr_I (by decide) (by decide) (by decide), ax_z0 (σ := ax_newM σ n k) (k := ax_z σ + 1 + i) (fun j => if_pos h2)]
theorem ax_cl_newM {σ : AS} {n k : Nat} (h : ax_cl σ) : ax_cl (ax_newM σ n k) := by
  intro a j q ha hp
  have hp : (if a = ax_z σ then (if j < n then some (ax_z σ + 1 + j) else none) else if ax_z σ ≤ a ∧ a ≤ ax_z σ + n then none else ax_P σ a j) = some q := hp
  have ha : a < ax_z σ + 1 + n := ha
  show q < ax_z σ + 1 + n ∨ _
  split at hp
  · split at hp
    · cases hp; left; omega
    · cases hp
  · split at hp
    · cases hp
    · exact (h a j q (by omega) hp).imp (fun z => by omega) id
theorem ax_inner (c : ClassId) (N : Nat) : Jvm.Free.Multi.innerC c N (.int 0) = arrV c N (fun _ => .int 0) := by
  unfold Jvm.Free.Multi.innerC arrV
  congr 1
  apply Array.ext
  · rw [Array.size_replicate, Array.size_ofFn]
  · intro i h1 h2
    rw [Array.getElem_replicate, Array.getElem_ofFn]
section OKS
variable {Γ : CX} {cc : ByteArray} {own : String} {ret : Option FieldType} {pc : Nat} {lv : List (Nat × Value)} {st : List Value} {σ : AS} {f : Option AR}
theorem ok_kval (C : OKC Γ cc own ret) {w index : Nat} (L : Cond.fieldLink own index "java/lang/String" "value" "[B" ∈ ax_ALL) (hdg : decode cc pc = .ok (.getfield index, 3)) (k : OK Γ (pc + 3) lv (.ref (w + 2000000) :: st) f σ) : OK Γ pc lv (.ref w :: st) (sK w f) σ := by
  intro r hr
  unfold sK at hr
  split at hr
  case isFalse => cases hr
  case isTrue hw =>
  obtain ⟨m, x⟩ := k r hr
  refine ⟨m, fun ad H locs ls h1 h2 h3 h4 h5 h6 h7 h8 h9 h10 => ?_⟩
  obtain ⟨e1, e2, e3, e4, e5, e6, e7, e8, e9, e10, e11, e12⟩ := C
  have hs := e10.1.2.2.1 (w - 1000000) (by omega) (by omega)
  rw [show 1000000 + (w - 1000000) = w by omega, show 3000000 + (w - 1000000) = w + 2000000 by omega] at hs
  have hv := hs.2.2.1.narrow e12
  rw [← h4 w (Or.inr (by omega)), ← h4 (w + 2000000) (Or.inr (by omega))] at hv
  exact vk_getf e1 e2 hv h6 e3 (e4 _ L) (fun _ h => h) hdg (x ad H locs ls h1 h2 h3 h4 h5 h6 h7 h8 h9 ⟨Or.inr (show 1000000 ≤ w + 2000000 by omega), h10.2⟩)
theorem ok_kcod (C : OKC Γ cc own ret) {w index : Nat} (L : Cond.fieldLink own index "java/lang/String" "coder" "B" ∈ ax_ALL) (hdg : decode cc pc = .ok (.getfield index, 3)) (k : OK Γ (pc + 3) lv (.int 0 :: st) f σ) : OK Γ pc lv (.ref w :: st) (sK w f) σ := by
  intro r hr
  unfold sK at hr
  split at hr
  case isFalse => cases hr
  case isTrue hw =>
  obtain ⟨m, x⟩ := k r hr
  refine ⟨m, fun ad H locs ls h1 h2 h3 h4 h5 h6 h7 h8 h9 h10 => ?_⟩
  obtain ⟨e1, e2, e3, e4, e5, e6, e7, e8, e9, e10, e11, e12⟩ := C
  have hs := e10.1.2.2.1 (w - 1000000) (by omega) (by omega)
  rw [show 1000000 + (w - 1000000) = w by omega] at hs
  have hv := hs.2.1.narrow e12
  rw [← h4 w (Or.inr (by omega))] at hv
  exact vk_getf e1 e2 hv h6 e3 (e4 _ L) (fun _ h => h) hdg (x ad H locs ls h1 h2 h3 h4 h5 h6 h7 h8 h9 ⟨trivial, h10.2⟩)
theorem ok_klen (C : OKC Γ cc own ret) {v : Nat} (hdg : decode cc pc = .ok (.arraylength, 1)) {g : Int32 → Option AR} (k : ∀ n, OK Γ (pc + 1) lv (.int n :: st) (g n) σ) : OK Γ pc lv (.ref v :: st) (sN v g) σ := by
  intro r hr
  unfold sN at hr
  split at hr
  case isFalse => cases hr
  case isTrue hw =>
  obtain ⟨m, x⟩ := k _ r hr
  refine ⟨m, fun ad H locs ls h1 h2 h3 h4 h5 h6 h7 h8 h9 h10 => ?_⟩
  obtain ⟨e1, e2, e3, e4, e5, e6, e7, e8, e9, e10, e11, e12⟩ := C
  have hs := e10.1.2.2.1 (v - 3000000) (by omega) (by omega)
  rw [show 3000000 + (v - 3000000) = v by omega] at hs
  have hv := hs.2.2.2.narrow e12
  rw [← h4 v (Or.inr (by omega))] at hv
  exact va_tlen e1 e2 hv h6 rfl hdg (x ad H locs ls h1 h2 h3 h4 h5 h6 h7 h8 h9 ⟨trivial, h10.2⟩)
theorem ok_kbld (C : OKC Γ cc own ret) {v : Nat} {i : Int32} (hdg : decode cc pc = .ok (.baload, 1)) {g : Int32 → Option AR} (k : ∀ n, OK Γ (pc + 1) lv (.int n :: st) (g n) σ) : OK Γ pc lv (.int i :: .ref v :: st) (sA v i g) σ := by
  intro r hr
  unfold sA at hr
  split at hr
  case isFalse => cases hr
  case isTrue hw =>
  obtain ⟨hw, hi⟩ := hw
  obtain ⟨m, x⟩ := k _ r hr
  refine ⟨m, fun ad H locs ls h1 h2 h3 h4 h5 h6 h7 h8 h9 h10 => ?_⟩
  obtain ⟨e1, e2, e3, e4, e5, e6, e7, e8, e9, e10, e11, e12⟩ := C
  have hs := e10.1.2.2.1 (v - 3000000) (by omega) (by omega)
  rw [show 3000000 + (v - 3000000) = v by omega] at hs
  have hv := hs.2.2.2.narrow e12
  rw [← h4 v (Or.inr (by omega))] at hv
  exact va_tb e1 e2 hv h6 (i := i) hi rfl hdg (x ad H locs ls h1 h2 h3 h4 h5 h6 h7 h8 h9 ⟨trivial, h10.2.2⟩)
theorem ok_getSF (C : OKC Γ cc own ret) {index : Nat} (L : Cond.fieldLink own index "jdk/internal/util/Preconditions" "SIOOBE_FORMATTER" "Ljava/util/function/BiFunction;" ∈ ax_ALL) (hdg : decode cc pc = .ok (.getstatic index, 3)) (k0 : OK Γ (pc + 3) lv (.null :: st) f σ) (k : OK Γ (pc + 3) lv (.ref 4000000 :: st) f σ) : OK Γ pc lv st f σ := by
  intro r hr
  obtain ⟨m, w⟩ := k r hr
  obtain ⟨-, w0⟩ := k0 r hr
  refine ⟨m, fun ad H locs ls h1 h2 h3 h4 h5 h6 h7 h8 h9 h10 => ?_⟩
  obtain ⟨e1, e2, e3, e4, e5, e6, e7, e8, e9, e10, e11, e12⟩ := C
  rcases e10.1.2.2.2.2.2.2.2.2.1 with hz | hz
  · exact va_gets e1 e2 (hz.narrow e12) h6 e3 (e4 _ L) (fun _ h => h) hdg (w0 ad H locs ls h1 h2 h3 h4 h5 h6 h7 h8 h9 ⟨trivial, h10⟩)
  · have hz := hz.narrow e12
    rw [← h4 _ (Or.inr (by decide))] at hz
    exact va_gets e1 e2 hz h6 e3 (e4 _ L) (fun _ h => h) hdg (w ad H locs ls h1 h2 h3 h4 h5 h6 h7 h8 h9 ⟨Or.inr (by decide), h10⟩)
theorem ok_breturn (C : OKC Γ cc own (some .byte)) {v : Int32} (hdg : decode cc pc = .ok (.ireturn, 1)) : OK Γ pc lv [.int v] (rB v σ) σ := by
  intro r hr
  cases hr
  refine ⟨⟨Nat.le_refl _, Nat.le_refl _, Nat.le_refl _⟩, fun ad H locs ls h1 h2 h3 h4 h5 h6 h7 h8 h9 h10 => ?_⟩
  obtain ⟨e1, e2, e3, e4, e5, e6, e7, -⟩ := C
  exact vx_ret (ax_bret (v := v) e1 e2 e6 (fun t ht hW => ⟨ad, some (.int _), rfl, rfl, h4, ⟨by rw [ht]; exact h5.1, h5.2⟩, h6.F ht, h8, trivial, trivial⟩) h6.2.2 hdg e7)
theorem ok_creturn (C : OKC Γ cc own (some .char)) {v : Int32} (hdg : decode cc pc = .ok (.ireturn, 1)) : OK Γ pc lv [.int v] (rC v σ) σ := by
  intro r hr
  cases hr
  refine ⟨⟨Nat.le_refl _, Nat.le_refl _, Nat.le_refl _⟩, fun ad H locs ls h1 h2 h3 h4 h5 h6 h7 h8 h9 h10 => ?_⟩
  obtain ⟨e1, e2, e3, e4, e5, e6, e7, -⟩ := C
  exact vx_ret (ax_cret (v := v) e1 e2 e6 (fun t ht hW => ⟨ad, some (.int _), rfl, rfl, h4, ⟨by rw [ht]; exact h5.1, h5.2⟩, h6.F ht, h8, trivial, trivial⟩) h6.2.2 hdg e7)
/-- a method of a String constant -/
theorem ok_callK (C : OKC Γ cc own ret) (T : ∀ z ∈ (cx_c Γ).exceptionTable.toList, False) (As : List Value) {b index maxL n fr' lo' : Nat} {y : MethodName} {bytes : ByteArray} {ret' : Option FieldType} {F : AS → Option AR}
    (hM : Ct (cx_l Γ) (cx_D Γ) (cx_dA Γ) (cx_B Γ) y (.code y bytes maxL ret' :: ax_ALL) fr' lo' (.ref b :: As) F) (L : ax_VL own index y bytes maxL ret' n) (I : ax_VI y) (hy : y.cls = "java/lang/String") (hn : As.length = n)
    (hroom : fr' + 1 ≤ cx_fr Γ ∧ 8 + (maxL + 11) + lo' ≤ cx_lo Γ) (hst : (st.map fun v => v.category).sum ≤ 8) (hdg : decode cc pc = .ok (.invokevirtual index, 3)) {g : Option Value → AS → Option AR}
    (k : ∀ v τ, OK Γ (pc + 3) lv (v.toList ++ st) (g v τ) τ) : OK Γ pc lv (As.reverse ++ .ref b :: st) (cK σ b (F σ) g) σ := by
  by_cases h : 1000026 ≤ b ∧ b < 1000045
  case neg =>
    intro r hr
    unfold cK at hr
    rw [if_neg h] at hr
    cases hr
  unfold cK
  rw [if_pos h]
  refine ok_ran (as := .ref b :: As) (rest := st) C T (fun r r1 h1 ad H locs ls hls had h5 h6 h8 hs hf => ?_) (fun hs => (ax_st_split hs).2.2) k
  have hsa : ax_st σ (.ref b :: As) := ⟨(ax_st_split hs).2.1, ax_st_rev (ax_st_split hs).1⟩
  have hr := vx_runV (rest := st.map (ax_cv ad)) (g := F0 (cx_m Γ) pc ls ((As.reverse ++ .ref b :: st).map (ax_cv ad))) (ax_fix C) (hM ad σ r1 h1 H.size) (C := y.cls) (b := ad b) (As := As.map (ax_cv ad)) (R := cx_R Γ r) (H := H) (locs := locs) (cells := ax_nc σ - ax_nc (cx_w Γ)) (slots := ax_ns σ - ax_ns (cx_w Γ)) (e := cx_e Γ) (below := cx_below Γ) (meth := cx_meth Γ) (n := n)
    ⟨ax_callB C.2.2.2.1 L hroom, C.2.2.2.1 _ I.1, C.2.2.2.1 _ I.2⟩
    ⟨ax_Pc.blind, by
      obtain ⟨e1, e2, e3, e4, e5, e6, e7, e8, e9, e10, e11, e12⟩ := C
      have hz := e10.1.2.2.1 (b - 1000000) (by omega) (by omega)
      rw [show 1000000 + (b - 1000000) = b by omega] at hz
      obtain ⟨cell, x1, x2, x3, -⟩ := (hz.1.narrow e12).kept h6.2.1
      rw [had b (by omega)]
      exact ⟨cell, x1, x2, by rw [hy]; exact x3⟩, fun U hU hW => ax_pre C h5 h6 h8 hsa had U hU hW⟩ rfl (by rw [List.length_map]; exact hn) hls (by rw [List.map_append, List.map_reverse]; rfl) (ax_hd st hst _ _ _ _) hdg hf
  exact hr
/-- a method that a superclass declares, of an object of ours -/
theorem ok_callU (C : OKC Γ cc own ret) (T : ∀ z ∈ (cx_c Γ).exceptionTable.toList, False) (As : List Value) {b ci index maxL n fr' lo' : Nat} {y : MethodName} {bytes : ByteArray} {ret' : Option FieldType} {F : AS → Option AR} {C0 : String} {T0 : u_T} {N0 : Nat}
    (hM : Ct (cx_l Γ) (cx_D Γ) (cx_dA Γ) (cx_B Γ) y (.code y bytes maxL ret' :: ax_ALL) fr' lo' (.ref b :: As) F) (L : ax_UL own index C0 y bytes maxL ret' n) (hc : vwCl[ci]? = some (C0, T0, N0)) (hci : ci < 100) (hn : As.length = n)
    (hroom : fr' + 1 ≤ cx_fr Γ ∧ 8 + (maxL + 11) + lo' ≤ cx_lo Γ) (hst : (st.map fun v => v.category).sum ≤ 8) (hdg : decode cc pc = .ok (.invokevirtual index, 3)) {g : Option Value → AS → Option AR}
    (k : ∀ v τ, OK Γ (pc + 3) lv (v.toList ++ st) (g v τ) τ) : OK Γ pc lv (As.reverse ++ .ref b :: st) (cV σ b ci (F σ) g) σ := by
  by_cases h : b < ax_z σ ∧ (ax_H σ b).1 = ci
  case neg =>
    intro r hr
    unfold cV at hr
    rw [if_neg h] at hr
    cases hr
  unfold cV
  rw [if_pos h]
  refine ok_ran (as := .ref b :: As) (rest := st) C T (fun r r1 h1 ad H locs ls hls had h5 h6 h8 hs hf => ?_) (fun hs => (ax_st_split hs).2.2) k
  have hsa : ax_st σ (.ref b :: As) := ⟨(ax_st_split hs).2.1, ax_st_rev (ax_st_split hs).1⟩
  have w1 := C.2.2.2.1
  have hsel : (Cond.selects C0 y y).before (cx_a Γ) (cx_s Γ) = true := w1 _ L.2.2.2
  have hcw : va_CU (cx_R Γ r) (cx_s Γ) (cx_a Γ) own C0 y.cls index y y bytes maxL ret' (.code y bytes maxL ret' :: ax_ALL) { frames := fr', cells := ax_nc r1.2 - ax_nc σ, slots := ax_ns r1.2 - ax_ns σ, locals := lo' } (ax_nc r1.2 - ax_nc σ) (ax_ns r1.2 - ax_ns σ) n :=
    ⟨⟨rfl, rfl, hroom.1, hroom.2, pay_in w1 (ax_goodC L.1.2.2.1), List.mem_cons_self⟩, w1 _ L.1.2.2.1, w1 _ L.1.2.1, ⟨L.1.2.2.2.1, L.1.2.2.2.2.1⟩, fun sig h => by
      have h2 := L.1.2.2.2.2.2
      rw [h] at h2
      exact (Option.some.inj h2).symm, w1 _ L.1.1, w1 _ L.2.2.1, va_Decl.of (w1 _ L.2.1) (w1 _ L.1.2.2.1), hsel, w1 _ L.2.1⟩
  have hr := vx_runU (rest := st.map (ax_cv ad)) (g := F0 (cx_m Γ) pc ls ((As.reverse ++ .ref b :: st).map (ax_cv ad))) (ax_fix C) (hM ad σ r1 h1 H.size) (C := C0) (b := ad b) (As := As.map (ax_cv ad)) (R := cx_R Γ r) (H := H) (locs := locs) (cells := ax_nc σ - ax_nc (cx_w Γ)) (slots := ax_ns σ - ax_ns (cx_w Γ)) (e := cx_e Γ) (below := cx_below Γ) (meth := cx_meth Γ) (n := n)
    hcw
    ⟨ax_Pc.blind, by
      obtain ⟨cell, x1, x2, x3⟩ := va_recv C.2.2.2.2.1 h5.1 hc (q0 := b) (fs := ax_flds ad σ b (ax_tags ci) 0) ((ax_ws_get h.1).trans (by rw [ax_cell_o h.2 hci]))
      exact ⟨cell, x1, x2, x3⟩, fun U hU hW => ax_pre C h5 h6 h8 hsa had U hU hW⟩ rfl (by rw [List.length_map]; exact hn) hls (by rw [List.map_append, List.map_reverse]; rfl) (ax_hd st hst _ _ _ _) hdg hf
  exact hr
/-- a method of the superclass, called as such -/
theorem ok_callSU (C : OKC Γ cc own ret) (T : ∀ z ∈ (cx_c Γ).exceptionTable.toList, False) (As : List Value) {b ci index maxL n fr' lo' : Nat} {y : MethodName} {bytes : ByteArray} {ret' : Option FieldType} {F : AS → Option AR} {C0 : String} {T0 : u_T} {N0 : Nat}
    (hM : Ct (cx_l Γ) (cx_D Γ) (cx_dA Γ) (cx_B Γ) y (.code y bytes maxL ret' :: ax_ALL) fr' lo' (.ref b :: As) F) (L : ax_SL own index y bytes maxL ret' n) (hc : vwCl[ci]? = some (C0, T0, N0)) (hci : ci < 100) (hn : As.length = n)
    (hroom : fr' + 1 ≤ cx_fr Γ ∧ 8 + (maxL + 11) + lo' ≤ cx_lo Γ) (hst : (st.map fun v => v.category).sum ≤ 8) (hdg : decode cc pc = .ok (.invokespecial index, 3)) {g : Option Value → AS → Option AR}
    (k : ∀ v τ, OK Γ (pc + 3) lv (v.toList ++ st) (g v τ) τ) : OK Γ pc lv (As.reverse ++ .ref b :: st) (cV σ b ci (F σ) g) σ := by
  by_cases h : b < ax_z σ ∧ (ax_H σ b).1 = ci
  case neg =>
    intro r hr
    unfold cV at hr
    rw [if_neg h] at hr
    cases hr
  unfold cV
  rw [if_pos h]
  refine ok_ran (as := .ref b :: As) (rest := st) C T (fun r r1 h1 ad H locs ls hls had h5 h6 h8 hs hf => ?_) (fun hs => (ax_st_split hs).2.2) k
  have hsa : ax_st σ (.ref b :: As) := ⟨(ax_st_split hs).2.1, ax_st_rev (ax_st_split hs).1⟩
  have w1 := C.2.2.2.1
  have hcw : va_CS (cx_R Γ r) (cx_s Γ) (cx_a Γ) own index y bytes maxL ret' (.code y bytes maxL ret' :: ax_ALL) { frames := fr', cells := ax_nc r1.2 - ax_nc σ, slots := ax_ns r1.2 - ax_ns σ, locals := lo' } (ax_nc r1.2 - ax_nc σ) (ax_ns r1.2 - ax_ns σ) n :=
    ⟨⟨rfl, rfl, hroom.1, hroom.2, pay_in w1 (ax_goodC L.1.2.2.1), List.mem_cons_self⟩, w1 _ L.1.1, w1 _ L.2.2.1, w1 _ L.2.2.2.1, w1 _ L.2.1, w1 _ L.1.2.1, w1 _ L.1.2.2.1, L.2.2.2.2, fun sig h => by
      have h2 := L.1.2.2.2.2.2
      rw [h] at h2
      exact (Option.some.inj h2).symm⟩
  have hr := vx_runSU (C.2.2.2.2.1.1 ci _ hc).2 (rest := st.map (ax_cv ad)) (g := F0 (cx_m Γ) pc ls ((As.reverse ++ .ref b :: st).map (ax_cv ad))) (ax_fix C) (hM ad σ r1 h1 H.size) (C := C0) (b := ad b) (As := As.map (ax_cv ad)) (R := cx_R Γ r) (H := H) (locs := locs) (cells := ax_nc σ - ax_nc (cx_w Γ)) (slots := ax_ns σ - ax_ns (cx_w Γ)) (e := cx_e Γ) (below := cx_below Γ) (meth := cx_meth Γ) (n := n)
    hcw
    ⟨ax_Pc.blind, by
      obtain ⟨cell, x1, x2, x3⟩ := va_recv C.2.2.2.2.1 h5.1 hc (q0 := b) (fs := ax_flds ad σ b (ax_tags ci) 0) ((ax_ws_get h.1).trans (by rw [ax_cell_o h.2 hci]))
      exact ⟨cell, x1, x2, x3⟩, fun U hU hW => ax_pre C h5 h6 h8 hsa had U hU hW⟩ rfl (by rw [List.length_map]; exact hn) hls (by rw [List.map_append, List.map_reverse]; rfl) (ax_hd st hst _ _ _ _) hdg hf
  exact hr
theorem ok_newM (C : OKC Γ cc own ret) {index : Nat} {n k : Int32} (Lk : Cond.classLink own index "[[I" ∈ ax_ALL) (harr : Cond.arrayClass .int ∈ ax_ALL) (hdg : decode cc pc = .ok (.multianewarray index 2, 4)) {g : Nat → AS → Option AR} (kk : ∀ q τ, OK Γ (pc + 4) lv (.ref q :: st) (g q τ) τ) : OK Γ pc lv (.int k :: .int n :: st) (nM σ n k g) σ := by
  intro r hr
  unfold nM at hr
  split at hr
  case isFalse => cases hr
  case isTrue hz =>
    obtain ⟨rfl, rfl, hz⟩ := hz
    obtain ⟨m, w⟩ := kk _ _ r hr
    have m1 : ax_nc σ + 1 + 11 ≤ ax_nc r.2 := m.1
    have m2 : ax_ns σ + 11 + 11 * 501 ≤ ax_ns r.2 := m.2.1
    have m3 : ax_z σ + 1 + 11 ≤ ax_z r.2 := m.2.2
    refine ⟨⟨by omega, by omega, by omega⟩, fun ad H locs ls h1 h2 h3 h4 h5 h6 h7 h8 h9 h10 => ?_⟩
    refine va_mna (X := ax_ws (cx_dA Γ) ad σ) (L := []) (f := fun _ => .inl (0, 0, .inl (fun _ => 0))) (ty := .int) (cy := cx_dA Γ 100) (N' := 11) (K' := 501) (z := (501, .inl (fun _ => 0))) C.1 C.2.1 C.2.2.1 (C.2.2.2.1 _ Lk) C.2.2.2.2.2.2.2.2.2.1.2.2.2.2.1.1 (C.2.2.2.1 _ harr) ((C.2.2.2.2.1.2 0 _ rfl).2) C.2.2.2.2.1 (by show va_P _ _ (ax_ws _ _ _ ++ []) _; rw [List.append_nil]; exact h5.1) (by show va_D _ (ax_ws _ _ _ ++ []); rw [List.append_nil]; exact h5.2) h6 cx_new (by decide) (by decide) (by decide) (by decide) (by decide) (by decide) (by decide) rfl rfl (by show _ ≤ ax_nc r.2 - _; omega) (by show _ ≤ ax_ns r.2 - _; omega) (fun c => by rw [vp_cell_i]; exact ax_inner c 501) hdg fun q rr cA H1 hinj hout hK hP hD hS => ?_
    have e1 := (C.2.2.2.2.1.2 6 (cx_dA Γ 110, .array .int) rfl).2
    have e2 := (hK.2 (ax_ty (cx_dA Γ)).length (cA, .array .int) (by rw [List.getElem?_append_right (Nat.le_refl _), Nat.sub_self]; rfl)).2
    have hcA : cA = cx_dA Γ 110 := Option.some.inj (e2.symm.trans e1)
    subst hcA
    have hpl : va_pl ([] ++ (List.range 11).map rr) (vr_up (fun _ => .inl (0, 0, .inl (fun _ => 0))) ((List.range 11).map rr) (.inl (cx_dA Γ 100, ((501, .inl (fun _ => 0)) : vp_A)))) = (List.range 11).map (fun i => (rr i, .inl (cx_dA Γ 100, 501, .inl (fun _ => 0)))) := by
      unfold va_pl
      rw [List.nil_append, List.map_map]
      apply List.map_congr_left
      intro i hi
      show (rr i, vr_up _ _ _ (rr i)) = _
      rw [vr_up_in (List.mem_map_of_mem hi)]
    rw [hpl] at hP hD
    have hws := ax_ws_newM (dA := cx_dA Γ) (ad := ad) (n := 11) (k := 501) (q := q) (r := rr) h8 hz (by decide)
    rw [← hws] at hP hD
    have had : ∀ k, k < ax_z σ ∨ 1000000 ≤ k → (fun a => if a = ax_z σ then q else if ax_z σ ≤ a ∧ a ≤ ax_z σ + 11 then rr (a - (ax_z σ + 1)) else ad a) k = ad k := fun k hk => (if_neg (by omega)).trans (if_neg (by omega))
    have hw := w (fun a => if a = ax_z σ then q else if ax_z σ ≤ a ∧ a ≤ ax_z σ + 11 then rr (a - (ax_z σ + 1)) else ad a) H1 locs ls (by show _ ≤ ax_nc σ + 1 + 11; omega) (by show _ ≤ ax_ns σ + 11 + 11 * 501; omega) (by show _ ≤ ax_z σ + 1 + 11; omega)
      (fun k hk => (had k (hk.imp (fun z => Nat.lt_of_lt_of_le z h3) id)).trans (h4 k hk)) ⟨hP, hD⟩ hS (by rw [ax_lv_cong had h9]; exact h7) (ax_cl_newM h8) (ax_lv_mono (σ := σ) (τ := ax_newM σ 11 501) (by show _ ≤ ax_z σ + 1 + 11; omega) h9) ⟨Or.inl (by show _ < ax_z σ + 1 + 11; omega), ax_st_mono (σ := σ) (τ := ax_newM σ 11 501) (by show _ ≤ ax_z σ + 1 + 11; omega) h10.2.2⟩
    rw [List.map_cons, ax_st_cong had h10.2.2] at hw
    have e0 : ax_cv (fun a => if a = ax_z σ then q else if ax_z σ ≤ a ∧ a ≤ ax_z σ + 11 then rr (a - (ax_z σ + 1)) else ad a) (.ref (ax_z σ)) = .ref q := congrArg Value.ref (if_pos rfl)
    rw [e0] at hw
    have ea : ax_nc (ax_newM σ 11 501) - ax_nc (cx_w Γ) = ax_nc σ - ax_nc (cx_w Γ) + (1 + 11) := by show ax_nc σ + 1 + 11 - _ = _; omega
    have eb : ax_ns (ax_newM σ 11 501) - ax_ns (cx_w Γ) = ax_ns σ - ax_ns (cx_w Γ) + 11 + 11 * 501 := by show ax_ns σ + 11 + 11 * 501 - _ = _; omega
    rw [ea, eb] at hw
    exact hw
end OKS
