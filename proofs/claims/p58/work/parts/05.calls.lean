/-! ENDS, CALLS, ENTRY -/
def rZ (v : Int32) (σ : AS) : Option AR := if v = 0 ∨ v = 1 then some (.inl (some (.int v)), σ) else none
/-- what a call gave: returned, thrown (not caught here), or nothing known -/
abbrev ax_le (σ τ : AS) : Prop := ax_nc σ ≤ ax_nc τ ∧ ax_ns σ ≤ ax_ns τ ∧ ax_z σ ≤ ax_z τ
def cS (σ : AS) (x : Option AR) (g : Option Value → AS → Option AR) : Option AR := match x with
  | some (.inl v, τ) => if ax_le σ τ then g v τ else none
  | some (.inr E, τ) => if ax_le σ τ then some (.inr E, τ) else none
  | none => none
def cV (σ : AS) (b ci : Nat) (x : Option AR) (g : Option Value → AS → Option AR) : Option AR := if b < ax_z σ ∧ (ax_H σ b).1 = ci then cS σ x g else none
def qI (g : Int32 → AS → Option AR) : Option Value → AS → Option AR := fun v τ => match v with | some (.int i) => g i τ | _ => none
def qV (g : AS → Option AR) : Option Value → AS → Option AR := fun v τ => match v with | none => g τ | _ => none
def qR (g : Nat → AS → Option AR) : Option Value → AS → Option AR := fun v τ => match v with | some (.ref i) => g i τ | _ => none
def qF (g : UInt32 → AS → Option AR) : Option Value → AS → Option AR := fun v τ => match v with | some (.float i) => g i τ | _ => none
def qD (g : UInt64 → AS → Option AR) : Option Value → AS → Option AR := fun v τ => match v with | some (.double i) => g i τ | _ => none
def tE (E : String) (σ : AS) : Option AR := some (.inr E, ax_use σ 1 6)
theorem ax_args (ad : Nat → Nat) : ∀ (as : List Value) (i : Nat), lv_args i (as.map (ax_cv ad)) = (lv_args i as).map (fun q => (q.1, ax_cv ad q.2))
  | [], _ => rfl
  | v :: as, i => by
    have h := ax_cat ad v
    simp only [List.map_cons, lv_args, h]
    split <;> simp [ax_args ad as]
theorem ax_sum (ad : Nat → Nat) (st : List Value) : ((st.map (ax_cv ad)).map fun v => v.category).sum = (st.map fun v => v.category).sum := by
  rw [List.map_map]
  congr 1
  apply List.map_congr_left
  intro v _
  exact ax_cat ad v
theorem ax_KF.blind {B0 : Nat} {ad : Nat → Nat} {U : State} {g : JFrame} {mk : MethodId} {a : Array Value} (h : ax_KF B0 ad U) : ax_KF B0 ad (U.calling g mk a) :=
  ⟨ax_KH.moved (u := U) (U := U.calling g mk a) (Vm.Alike.refl U.vm) h.1, fun i q hq => vk_R.same (u := U) rfl (h.2.1 i q hq), va_AO.moved (u := U) (U := U.calling g mk a) (Vm.Alike.refl U.vm) h.2.2.1, va_AO.moved (u := U) (U := U.calling g mk a) (Vm.Alike.refl U.vm) h.2.2.2.1, ⟨va_AOA.moved (u := U) (U := U.calling g mk a) (Vm.Alike.refl U.vm) h.2.2.2.2.1.1, va_Nw.same (u := U) rfl rfl h.2.2.2.2.1.2.1, fun q hq => va_Nw.same (u := U) rfl rfl (h.2.2.2.2.1.2.2 q hq)⟩, fun q hq => va_Nw.same (u := U) rfl rfl (h.2.2.2.2.2.1 q hq), fun q hq => va_Nw.same (u := U) rfl rfl (h.2.2.2.2.2.2.1 q hq), fun q hq => va_Nw.same (u := U) rfl rfl (h.2.2.2.2.2.2.2.1 q hq), fun x hx y hy n => va_Nc.moved (u := U) (U := U.calling g mk a) (Vm.Alike.refl U.vm) (h.2.2.2.2.2.2.2.2 x hx y hy n)⟩
theorem ax_KF.call {B0 : Nat} {ad ad' : Nat → Nat} {s U : State} {H : Heap} (hW : s.WarmedH U.vm) (hh : U.heap = H) (h : ax_KF B0 ad s) (hs : ∀ q, q < s.heap.size → ¬ B0 ≤ q → H[q]? = s.heap[q]?) (hc : ∀ k, 1000000 ≤ k → ad' k = ad k) : ax_KF B0 ad' U :=
  ⟨by rw [hh]; exact ((h.1.kept hs).moved hW.alike).at hc, fun i q hq => by rw [hc _ (by omega)]; exact vk_R.warm hW (h.2.1 i q hq), va_AO.moved hW.alike h.2.2.1, va_AO.moved hW.alike h.2.2.2.1, ⟨va_AOA.moved hW.alike h.2.2.2.2.1.1, va_Nw.warmC hW h.2.2.2.2.1.2.1, fun q hq => va_Nw.warmF hW (h.2.2.2.2.1.2.2 q hq)⟩, fun q hq => va_Nw.warmM hW (h.2.2.2.2.2.1 q hq), fun q hq => va_Nw.warmC hW (h.2.2.2.2.2.2.1 q hq), fun q hq => va_Nw.warmD hW (h.2.2.2.2.2.2.2.1 q hq), fun a ha b hb n => va_Nc.moved hW.alike (h.2.2.2.2.2.2.2.2 a ha b hb n)⟩
theorem ax_Pc.blind {D : va_G} {dA : Nat → ClassId} {B0 : Nat} {ad : Nat → Nat} {as : List Value} {σ : AS} {sz : Nat} : FrameBlind (ax_Pc D dA B0 ad as σ sz) := fun a U g mk q => by
  obtain ⟨q0, q1, q2, q3, q4, q5, q6⟩ := q
  exact ⟨q0, q1, q2, va_K.moved (u := U) (U := U.calling g mk a) (Vm.Alike.refl U.vm) q3, q4, q5.blind, q6⟩
section OKE
variable {Γ : CX} {cc : ByteArray} {own : String} {ret : Option FieldType} {pc : Nat} {lv : List (Nat × Value)} {st : List Value} {σ : AS}
theorem ok_ireturn (C : OKC Γ cc own (some .int)) {v : Int32} (hdg : decode cc pc = .ok (.ireturn, 1)) : OK Γ pc lv [.int v] (some (.inl (some (.int v)), σ)) σ := by
  intro r hr
  cases hr
  refine ⟨⟨Nat.le_refl _, Nat.le_refl _, Nat.le_refl _⟩, fun ad H locs ls h1 h2 h3 h4 h5 h6 h7 h8 h9 h10 => ?_⟩
  obtain ⟨e1, e2, e3, e4, e5, e6, e7, -⟩ := C
  exact vx_ret (W.iret (v := v) e1 e2 e6 (fun t ht hW => ⟨ad, some (.int v), rfl, rfl, h4, ⟨by rw [ht]; exact h5.1, h5.2⟩, h6.F ht, h8, h10⟩) h6.2.2 hdg e7)
theorem ok_zreturn (C : OKC Γ cc own (some .boolean)) {v : Int32} (hdg : decode cc pc = .ok (.ireturn, 1)) : OK Γ pc lv [.int v] (rZ v σ) σ := by
  intro r hr
  unfold rZ at hr
  split at hr
  case isFalse => cases hr
  case isTrue hv =>
  cases hr
  refine ⟨⟨Nat.le_refl _, Nat.le_refl _, Nat.le_refl _⟩, fun ad H locs ls h1 h2 h3 h4 h5 h6 h7 h8 h9 h10 => ?_⟩
  obtain ⟨e1, e2, e3, e4, e5, e6, e7, -⟩ := C
  exact vx_ret (W.zret (v := v) e1 e2 e6 (by rcases hv with e | e <;> rw [e] <;> rfl) (fun t ht hW => ⟨ad, some (.int v), rfl, rfl, h4, ⟨by rw [ht]; exact h5.1, h5.2⟩, h6.F ht, h8, h10⟩) h6.2.2 hdg e7)
theorem ok_vreturn (C : OKC Γ cc own none) (hdg : decode cc pc = .ok (.return_, 1)) : OK Γ pc lv [] (some (.inl none, σ)) σ := by
  intro r hr
  cases hr
  refine ⟨⟨Nat.le_refl _, Nat.le_refl _, Nat.le_refl _⟩, fun ad H locs ls h1 h2 h3 h4 h5 h6 h7 h8 h9 h10 => ?_⟩
  obtain ⟨e1, e2, e3, e4, e5, e6, e7, -⟩ := C
  exact vx_ret (W.vret e1 e2 e6 (fun t ht hW => ⟨ad, none, rfl, rfl, h4, ⟨by rw [ht]; exact h5.1, h5.2⟩, h6.F ht, h8, trivial⟩) h6.2.2 hdg e7)
theorem ok_areturn {rt : FieldType} (C : OKC Γ cc own (some rt)) (hrt : (∃ n, rt = .object n) ∨ ∃ t, rt = .array t) {q : Nat} (hdg : decode cc pc = .ok (.areturn, 1)) : OK Γ pc lv [.ref q] (some (.inl (some (.ref q)), σ)) σ := by
  intro r hr
  cases hr
  refine ⟨⟨Nat.le_refl _, Nat.le_refl _, Nat.le_refl _⟩, fun ad H locs ls h1 h2 h3 h4 h5 h6 h7 h8 h9 h10 => ?_⟩
  obtain ⟨e1, e2, e3, e4, e5, e6, e7, -⟩ := C
  exact vx_ret (W.aret (v := .ref (ad q)) e1 e2 e6 hrt (Or.inr ⟨_, rfl⟩) (fun t ht hW => ⟨ad, some (.ref q), rfl, rfl, h4, ⟨by rw [ht]; exact h5.1, h5.2⟩, h6.F ht, h8, h10⟩) h6.2.2 hdg e7)
theorem ok_freturn (C : OKC Γ cc own (some .float)) {v : UInt32} (hdg : decode cc pc = .ok (.freturn, 1)) : OK Γ pc lv [.float v] (some (.inl (some (.float v)), σ)) σ := by
  intro r hr
  cases hr
  refine ⟨⟨Nat.le_refl _, Nat.le_refl _, Nat.le_refl _⟩, fun ad H locs ls h1 h2 h3 h4 h5 h6 h7 h8 h9 h10 => ?_⟩
  obtain ⟨e1, e2, e3, e4, e5, e6, e7, -⟩ := C
  exact vx_ret (W.fret (v := v) e1 e2 e6 (fun t ht hW => ⟨ad, some (.float v), rfl, rfl, h4, ⟨by rw [ht]; exact h5.1, h5.2⟩, h6.F ht, h8, h10⟩) h6.2.2 hdg e7)
theorem ok_dreturn (C : OKC Γ cc own (some .double)) {v : UInt64} (hdg : decode cc pc = .ok (.dreturn, 1)) : OK Γ pc lv [.double v] (some (.inl (some (.double v)), σ)) σ := by
  intro r hr
  cases hr
  refine ⟨⟨Nat.le_refl _, Nat.le_refl _, Nat.le_refl _⟩, fun ad H locs ls h1 h2 h3 h4 h5 h6 h7 h8 h9 h10 => ?_⟩
  obtain ⟨e1, e2, e3, e4, e5, e6, e7, -⟩ := C
  exact vx_ret (W.dret (v := v) e1 e2 e6 (fun t ht hW => ⟨ad, some (.double v), rfl, rfl, h4, ⟨by rw [ht]; exact h5.1, h5.2⟩, h6.F ht, h8, h10⟩) h6.2.2 hdg e7)
/-- what is known of a call: all words of it are the tables' -/
def ax_VL (own : String) (index : Nat) (y : MethodName) (bytes : ByteArray) (maxL : Nat) (ret : Option FieldType) (n : Nat) : Prop :=
  Cond.methodLink own index y ∈ ax_ALL ∧ Cond.initialized y.cls ∈ ax_ALL ∧ Cond.code y bytes maxL ret ∈ ax_ALL ∧ (y.cls ≠ "java/lang/invoke/MethodHandle" ∧ y.cls ≠ "java/lang/invoke/VarHandle" ∧ (parseMethodDescriptor y.desc).map (fun d => d.parameters.length) = some n)
def ax_VI (y : MethodName) : Prop := Cond.instanceMethod y ∈ ax_ALL ∧ Cond.selects y.cls y y ∈ ax_ALL
theorem ax_goodC {y : MethodName} {bytes : ByteArray} {maxL : Nat} {ret : Option FieldType} (h : Cond.code y bytes maxL ret ∈ ax_ALL) : GoodIn ax_ALL (Cond.code y bytes maxL ret :: ax_ALL) :=
  ax_goodIn' fun w hw => by rcases List.mem_cons.mp hw with rfl | hw <;> assumption
theorem ax_callB {Γ : CX} {own : String} {index : Nat} {y : MethodName} {bytes : ByteArray} {maxL : Nat} {ret' : Option FieldType} {n fr' lo' mc ms : Nat} {r : AR} (hts : ∀ w ∈ ax_ALL, w.before (cx_a Γ) (cx_s Γ) = true) (L : ax_VL own index y bytes maxL ret' n) (hroom : fr' + 1 ≤ cx_fr Γ ∧ 8 + (maxL + 11) + lo' ≤ cx_lo Γ) :
    CallB (cx_R Γ r) (cx_s Γ) (cx_a Γ) own index y bytes maxL ret' (.code y bytes maxL ret' :: ax_ALL) { frames := fr', cells := mc, slots := ms, locals := lo' } mc ms n :=
  callB_of n hts (ax_goodC L.2.2.1) rfl rfl rfl (hts _ L.2.1) (hts _ L.1) L.2.2.2 hroom
theorem ax_cv_cong {σ : AS} {ad ad' : Nat → Nat} (h : ∀ k, k < ax_z σ ∨ 1000000 ≤ k → ad' k = ad k) {v : Value} (hv : ax_sv σ v) : ax_cv ad' v = ax_cv ad v := by
  cases v with
  | ref k => exact congrArg Value.ref (h k hv)
  | _ => rfl
theorem ax_st_cong {σ : AS} {ad ad' : Nat → Nat} (h : ∀ k, k < ax_z σ ∨ 1000000 ≤ k → ad' k = ad k) : ∀ {st : List Value}, ax_st σ st → st.map (ax_cv ad') = st.map (ax_cv ad)
  | [], _ => rfl
  | v :: st, hs => by
    rw [List.map_cons, List.map_cons, ax_cv_cong h hs.1, ax_st_cong h hs.2]
theorem ax_lv_cong {σ : AS} {ad ad' : Nat → Nat} (h : ∀ k, k < ax_z σ ∨ 1000000 ≤ k → ad' k = ad k) {lv : List (Nat × Value)} (hs : ax_lv σ lv) : lv.map (fun q => (q.1, ax_cv ad' q.2)) = lv.map (fun q => (q.1, ax_cv ad q.2)) := by
  apply List.map_congr_left
  intro q hq
  rw [ax_cv_cong h (hs q hq)]
theorem ax_st_app {σ : AS} : ∀ {a b : List Value}, ax_st σ a → ax_st σ b → ax_st σ (a ++ b)
  | [], _, _, hb => hb
  | _ :: _, _, ha, hb => ⟨ha.1, ax_st_app ha.2 hb⟩
theorem ax_st_split {σ : AS} : ∀ {a b : List Value}, ax_st σ (a ++ b) → ax_st σ a ∧ ax_st σ b
  | [], _, h => ⟨trivial, h⟩
  | _ :: a, _, h => ⟨⟨h.1, (ax_st_split (a := a) h.2).1⟩, (ax_st_split (a := a) h.2).2⟩
theorem ax_st_rev {σ : AS} : ∀ {a : List Value}, ax_st σ a.reverse → ax_st σ a
  | [], _ => trivial
  | v :: a, h => by
    rw [List.reverse_cons] at h
    exact ⟨(ax_st_split h).2.1, ax_st_rev (ax_st_split h).1⟩
/-- the state that a callee begins at -/
theorem ax_pre {Γ : CX} {cc : ByteArray} {own : String} {ret : Option FieldType} {σ : AS} {ad : Nat → Nat} {H : Heap} {locs : List Loc} {as : List Value} (C : OKC Γ cc own ret) (h5 : ax_Rep (cx_D Γ) (cx_dA Γ) (cx_A Γ) ad σ H) (h6 : va_S (cx_A Γ) (cx_s Γ).heap H locs) (h8 : ax_cl σ) (hs : ax_st σ as) (had : ∀ k, 1000000 ≤ k → ad k = cx_ad Γ k) :
    ∀ U : State, U.heap = H → (cx_s Γ).WarmedH U.vm → ax_Pc (cx_D Γ) (cx_dA Γ) (cx_B Γ) ad as σ H.size (as.map (ax_cv ad)).toArray U := by
  obtain ⟨e1, e2, e3, e4, e5, e6, e7, e8, e9, e10, e11, e12⟩ := C
  intro U hU hW
  exact ⟨rfl, by rw [hU], ⟨by rw [hU]; exact h5.1, h5.2.weaken (fun _ q _ h => e12 q.1 h)⟩, va_K.moved hW.alike e5, Nat.le_trans e11 h6.1, e10.call hW hU (fun q h1 h2 => h6.2.1 q h1 (fun z => h2 (e12 q z))) had, h8, hs⟩
/-- a run of a call, whichever instruction it is -/
def ax_Ran (Γ : CX) (pc : Nat) (as st0 rest : List Value) (σ : AS) (r r1 : AR) : Prop :=
  ∀ (ad : Nat → Nat) (H : Heap) (locs : List Loc) (ls : Array Slot), ls.size = cx_nL Γ → (∀ k, 1000000 ≤ k → ad k = cx_ad Γ k) → ax_Rep (cx_D Γ) (cx_dA Γ) (cx_A Γ) ad σ H → va_S (cx_A Γ) (cx_s Γ).heap H locs → ax_cl σ → ax_st σ st0 → (ax_nc σ - ax_nc (cx_w Γ) + (ax_nc r1.2 - ax_nc σ) ≤ ax_nc r.2 - ax_nc (cx_w Γ) ∧ ax_ns σ - ax_ns (cx_w Γ) + (ax_ns r1.2 - ax_ns σ) ≤ ax_ns r.2 - ax_ns (cx_w Γ)) →
      vx_Run (cx_p Γ) (cx_l Γ) (cx_e Γ) (cx_R Γ r) (cx_s Γ) (cx_m Γ) (cx_a Γ) (cx_below Γ) (cx_meth Γ) (cx_c Γ) H locs (ax_nc σ - ax_nc (cx_w Γ)) (ax_ns σ - ax_ns (cx_w Γ)) (ax_nc r1.2 - ax_nc σ) (ax_ns r1.2 - ax_ns σ) (F0 (cx_m Γ) pc ls (st0.map (ax_cv ad))) (rest.map (ax_cv ad)) (ax_Qc (cx_D Γ) (cx_dA Γ) (va_A (ax_ws (cx_dA Γ) ad σ) H.size) ad σ r1 (as.map (ax_cv ad)).toArray) (ax_Xc (cx_D Γ) (cx_dA Γ) (va_A (ax_ws (cx_dA Γ) ad σ) H.size) ad σ r1) (va_A (ax_ws (cx_dA Γ) ad σ) H.size)
theorem ax_inA {Γ : CX} {σ : AS} {ad : Nat → Nat} {H : Heap} {locs : List Loc} (h5 : ax_Rep (cx_D Γ) (cx_dA Γ) (cx_A Γ) ad σ H) (h6 : va_S (cx_A Γ) (cx_s Γ).heap H locs) : ∀ q, va_A (ax_ws (cx_dA Γ) ad σ) H.size q → cx_A Γ q := by
  intro q hq
  rcases hq with ⟨i, e, hi⟩ | hq
  · exact h5.2.2 i (q, e) hi
  · exact Or.inr (Nat.le_trans h6.1 hq)
/-- behind any call: its two ends -/
theorem ok_ran {as st0 rest : List Value} {x : Option AR} {g : Option Value → AS → Option AR}
    (C : OKC Γ cc own ret) (T : ∀ z ∈ (cx_c Γ).exceptionTable.toList, False)
    (hcall : ∀ r r1 : AR, x = some r1 → ax_Ran Γ pc as st0 rest σ r r1) (hrest : ax_st σ st0 → ax_st σ rest)
    (k : ∀ v τ, OK Γ (pc + 3) lv (v.toList ++ rest) (g v τ) τ) : OK Γ pc lv st0 (cS σ x g) σ := by
  intro r hr
  match x, hr, hcall with
  | some (.inl v, τ), hr, hcall =>
    have hr : (if ax_le σ τ then g v τ else none) = some r := hr
    split at hr
    case isFalse => cases hr
    case isTrue hm =>
    obtain ⟨m, w⟩ := k v τ r hr
    obtain ⟨m1, m2, m3⟩ := hm
    refine ⟨⟨Nat.le_trans m1 m.1, Nat.le_trans m2 m.2.1, Nat.le_trans m3 m.2.2⟩, fun ad H locs ls h1 h2 h3 h4 h5 h6 h7 h8 h9 h10 => ?_⟩
    have hAq := ax_inA h5 h6
    have hr1 := hcall r (.inl v, τ) rfl ad H locs ls h7.1 (fun z hz => h4 z (Or.inr hz)) h5 h6 h8 h10 ⟨by have := m.1; dsimp only; omega, by have := m.2.1; dsimp only; omega⟩
    dsimp only at hr1
    intro T0 hT0 X
    rcases hr1 T0 hT0 X with ⟨v', st₀, t, T', L, h0, X', hL, e1, e2, ⟨ad', v9, hv, ho, had, hR, hF, hcl, hsv⟩, stp⟩ | ⟨q, st₀, t, T', L, E, ce, h0, X', hL, e1, e2, ⟨ad', hE, -⟩, -⟩
    · cases hv
      cases ho
      obtain ⟨k1, k2, k3⟩ := vx_keep h0 e1 h6 (fun q _ hq => hAq q hq) hAq hL hF
      have hw := w ad' T'.heap (locs ++ L) ls (Nat.le_trans h1 m1) (Nat.le_trans h2 m2) (Nat.le_trans h3 m3) (fun z hz => (had z (hz.imp (fun q => Nat.lt_of_lt_of_le q h3) id)).trans (h4 z hz)) ⟨by rw [e1]; exact hR.1, hR.2.weaken (fun _ q _ h => hAq q.1 h)⟩ k3 (by rw [ax_lv_cong had h9]; exact h7) hcl (ax_lv_mono m3 h9) (ax_st_app hsv (ax_st_mono m3 (hrest h10)))
      rw [List.map_append, ax_st_cong had (hrest h10)] at hw
      have hlist : (v.toList).map (ax_cv ad') = (v.map (ax_cv ad')).toList := by cases v <;> rfl
      rw [hlist] at hw
      have ea : ax_nc σ - ax_nc (cx_w Γ) + (ax_nc τ - ax_nc σ) = ax_nc τ - ax_nc (cx_w Γ) := by omega
      have eb : ax_ns σ - ax_ns (cx_w Γ) + (ax_ns τ - ax_ns σ) = ax_ns τ - ax_ns (cx_w Γ) := by omega
      rw [ea, eb] at X'
      obtain ⟨t2, a1, b1⟩ := hw T' rfl X'
      exact ⟨t2, stp t2 a1, b1⟩
    · cases hE
  | some (.inr E, τ), hr, hcall =>
    have hr : (if ax_le σ τ then some ((.inr E : Option Value ⊕ String), τ) else none) = some r := hr
    split at hr
    case isFalse => cases hr
    case isTrue hm =>
    cases hr
    obtain ⟨m1, m2, m3⟩ := hm
    refine ⟨⟨m1, m2, m3⟩, fun ad H locs ls h1 h2 h3 h4 h5 h6 h7 h8 h9 h10 => ?_⟩
    have hAq := ax_inA h5 h6
    have hr1 := hcall (.inr E, τ) (.inr E, τ) rfl ad H locs ls h7.1 (fun z hz => h4 z (Or.inr hz)) h5 h6 h8 h10 ⟨by dsimp only; omega, by dsimp only; omega⟩
    dsimp only at hr1
    intro T0 hT0 X
    rcases hr1 T0 hT0 X with ⟨v', st₀, t, T', L, h0, X', hL, e1, e2, ⟨ad', v9, hv, -⟩, -⟩ | ⟨q, st₀, t, T', L, E', ce, h0, X', hL, e1, e2, ⟨ad', hE, had, hR, hF, hcl⟩, hce, hcv, hcc, stp⟩
    · cases hv
    · cases hE
      obtain ⟨k1, k2, k3⟩ := vx_keep h0 e1 h6 (fun q _ hq => hAq q hq) hAq hL hF
      have ea : ax_nc σ - ax_nc (cx_w Γ) + (ax_nc τ - ax_nc σ) = ax_nc τ - ax_nc (cx_w Γ) := by omega
      have eb : ax_ns σ - ax_ns (cx_w Γ) + (ax_ns τ - ax_ns σ) = ax_ns τ - ax_ns (cx_w Γ) := by omega
      rw [ea, eb] at X'
      have hout := vx_out (p := cx_p Γ) (l := cx_l Γ) (e := cx_e Γ) (R := cx_R Γ (.inr E, τ)) (s := cx_s Γ) (m := cx_m Γ) (args := cx_a Γ) (below := cx_below Γ) (meth := cx_meth Γ) (c := cx_c Γ) (H := T'.heap) (locs := locs ++ L) (cells := ax_nc τ - ax_nc (cx_w Γ)) (slots := ax_ns τ - ax_ns (cx_w Γ)) (free := cx_A Γ) (ls := ls) (rest := rest.map (ax_cv ad)) (pc := pc) (E := E) (ce := ce) (q := q) (mc := ax_nc τ - ax_nc (cx_w Γ)) (ms := ax_ns τ - ax_ns (cx_w Γ))
        (Qc := ax_Qc (cx_D Γ) (cx_dA Γ) (cx_A Γ) (cx_ad Γ) (cx_w Γ) (.inr E, τ)) (XC := ax_Xc (cx_D Γ) (cx_dA Γ) (cx_A Γ) (cx_ad Γ) (cx_w Γ) (.inr E, τ))
        (fun x hx => (T x hx).elim) C.2.2.2.2.2.2.1 (by rw [e1]; exact hce) hcv hcc
        (fun t9 ht9 hvm => ⟨ad', rfl, fun z hz => (had z (hz.imp (fun q => Nat.lt_of_lt_of_le q h3) id)).trans (h4 z hz), ⟨by rw [ht9, e1]; exact hR.1, hR.2.weaken (fun _ q _ h => hAq q.1 h)⟩, k3.F ht9, hcl⟩) k3.2.2 (Nat.le_refl _) (Nat.le_refl _)
      obtain ⟨t2, a1, b1⟩ := hout T' rfl X'
      exact ⟨t2, stp.trans a1, b1⟩
  | none, hr, _ => cases hr
end OKE
