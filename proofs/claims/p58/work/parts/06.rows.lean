section OKF
variable {Γ : CX} {cc : ByteArray} {own : String} {ret : Option FieldType} {pc : Nat} {lv : List (Nat × Value)} {st : List Value} {σ : AS}
theorem ax_fix (C : OKC Γ cc own ret) : CallFix (cx_p Γ) (cx_m Γ) (cx_c Γ) cc (cx_nL Γ) (cx_s Γ) (cx_a Γ) ax_ALL own := ⟨C.1, C.2.1, C.2.2.2.2.2.2.2.1, C.2.2.1, C.2.2.2.1⟩
theorem ax_hd {ad : Nat → Nat} (st : List Value) (h : (st.map fun v => v.category).sum ≤ 8) (m : MethodId) (pc : Nat) (ls : Array Slot) (st0 : List Value) : 2 * (F0 m pc ls st0).monitorRoom + ((st.map (ax_cv ad)).map fun v => v.category).sum ≤ 8 := by
  rw [ax_sum]
  show 2 * 0 + _ ≤ 8
  omega
/-- an object's own method, or one of another class that is not inherited -/
theorem ok_callV (C : OKC Γ cc own ret) (T : ∀ z ∈ (cx_c Γ).exceptionTable.toList, False) (As : List Value) {b ci index maxL n fr' lo' : Nat} {y : MethodName} {bytes : ByteArray} {ret' : Option FieldType} {F : AS → Option AR} {C0 : String} {T0 : u_T} {N0 : Nat}
    (hM : Ct (cx_l Γ) (cx_D Γ) (cx_dA Γ) (cx_B Γ) y (.code y bytes maxL ret' :: ax_ALL) fr' lo' (.ref b :: As) F) (L : ax_VL own index y bytes maxL ret' n) (I : ax_VI y) (hc : vwCl[ci]? = some (C0, T0, N0)) (hy : y.cls = C0) (hci : ci < 100) (hn : As.length = n)
    (hroom : fr' + 1 ≤ cx_fr Γ ∧ 8 + (maxL + 11) + lo' ≤ cx_lo Γ) (hst : (st.map fun v => v.category).sum ≤ 8) (hdg : decode cc pc = .ok (.invokevirtual index, 3)) {g : Option Value → AS → Option AR}
    (k : ∀ v τ, OK Γ (pc + 3) lv (v.toList ++ st) (g v τ) τ) : OK Γ pc lv (As.reverse ++ .ref b :: st) (cV σ b ci (F σ) g) σ := by
  by_cases h : b < ax_z σ ∧ (ax_H σ b).1 = ci
  case neg =>
    intro r hr
    unfold cV at hr
    rw [if_neg h] at hr
    cases hr
  unfold cV
  rw [if_pos h]
  refine ok_ran (as := .ref b :: As) (rest := st) C T (fun r r1 h1 ad H locs ls hls had h5 h6 h8 hs hf => ?_) (fun hs => (ax_st_split hs).2.2) k
  have hsa : ax_st σ (.ref b :: As) := ⟨(ax_st_split hs).2.1, ax_st_rev (ax_st_split hs).1⟩
  have hr := vx_runV (rest := st.map (ax_cv ad)) (g := F0 (cx_m Γ) pc ls ((As.reverse ++ .ref b :: st).map (ax_cv ad))) (ax_fix C) (hM ad σ r1 h1 H.size) (C := y.cls) (b := ad b) (As := As.map (ax_cv ad)) (R := cx_R Γ r) (H := H) (locs := locs) (cells := ax_nc σ - ax_nc (cx_w Γ)) (slots := ax_ns σ - ax_ns (cx_w Γ)) (e := cx_e Γ) (below := cx_below Γ) (meth := cx_meth Γ) (n := n)
    ⟨ax_callB C.2.2.2.1 L hroom, C.2.2.2.1 _ I.1, C.2.2.2.1 _ I.2⟩
    ⟨ax_Pc.blind, by
      obtain ⟨cell, x1, x2, x3⟩ := va_recv C.2.2.2.2.1 h5.1 hc (q0 := b) (fs := ax_flds ad σ b (ax_tags ci) 0) ((ax_ws_get h.1).trans (by rw [ax_cell_o h.2 hci]))
      exact ⟨cell, x1, x2, by rw [hy]; exact x3⟩, fun U hU hW => ax_pre C h5 h6 h8 hsa had U hU hW⟩ rfl (by rw [List.length_map]; exact hn) hls (by rw [List.map_append, List.map_reverse]; rfl) (ax_hd st hst _ _ _ _) hdg hf
  exact hr
/-- a static method -/
theorem ok_callS (C : OKC Γ cc own ret) (T : ∀ z ∈ (cx_c Γ).exceptionTable.toList, False) (As : List Value) {index maxL n fr' lo' : Nat} {y : MethodName} {bytes : ByteArray} {ret' : Option FieldType} {F : AS → Option AR}
    (hM : Ct (cx_l Γ) (cx_D Γ) (cx_dA Γ) (cx_B Γ) y (.code y bytes maxL ret' :: ax_ALL) fr' lo' As F) (L : ax_VL own index y bytes maxL ret' n) (I : Cond.static y ∈ ax_ALL) (hn : As.length = n)
    (hroom : fr' + 1 ≤ cx_fr Γ ∧ 8 + (maxL + 11) + lo' ≤ cx_lo Γ) (hst : (st.map fun v => v.category).sum ≤ 8) (hdg : decode cc pc = .ok (.invokestatic index, 3)) {g : Option Value → AS → Option AR}
    (k : ∀ v τ, OK Γ (pc + 3) lv (v.toList ++ st) (g v τ) τ) : OK Γ pc lv (As.reverse ++ st) (cS σ (F σ) g) σ := by
  refine ok_ran (as := As) (rest := st) C T (fun r r1 h1 ad H locs ls hls had h5 h6 h8 hs hf => ?_) (fun hs => (ax_st_split hs).2) k
  have hr := vx_runS (rest := st.map (ax_cv ad)) (g := F0 (cx_m Γ) pc ls ((As.reverse ++ st).map (ax_cv ad))) (ax_fix C) (hM ad σ r1 h1 H.size) (As := As.map (ax_cv ad)) (R := cx_R Γ r) (H := H) (locs := locs) (cells := ax_nc σ - ax_nc (cx_w Γ)) (slots := ax_ns σ - ax_ns (cx_w Γ)) (e := cx_e Γ) (below := cx_below Γ) (meth := cx_meth Γ) (n := n)
    ⟨ax_callB C.2.2.2.1 L hroom, C.2.2.2.1 _ I⟩
    ⟨ax_Pc.blind, fun U hU hW => ax_pre C h5 h6 h8 (ax_st_rev (ax_st_split hs).1) had U hU hW⟩ rfl (by rw [List.length_map]; exact hn) hls (by rw [List.map_append, List.map_reverse]) (ax_hd st hst _ _ _ _) hdg hf
  exact hr
/-- a constructor -/
theorem ok_callI (C : OKC Γ cc own ret) (T : ∀ z ∈ (cx_c Γ).exceptionTable.toList, False) (As : List Value) {b index maxL n fr' lo' : Nat} {y : MethodName} {bytes : ByteArray} {F : AS → Option AR}
    (hM : Ct (cx_l Γ) (cx_D Γ) (cx_dA Γ) (cx_B Γ) y (.code y bytes maxL none :: ax_ALL) fr' lo' (.ref b :: As) F) (L : ax_VL own index y bytes maxL none n) (I : Cond.instanceMethod y ∈ ax_ALL) (hy : y.name = "<init>") (hn : As.length = n)
    (hroom : fr' + 1 ≤ cx_fr Γ ∧ 8 + (maxL + 11) + lo' ≤ cx_lo Γ) (hst : (st.map fun v => v.category).sum ≤ 8) (hdg : decode cc pc = .ok (.invokespecial index, 3)) {g : Option Value → AS → Option AR}
    (k : ∀ v τ, OK Γ (pc + 3) lv (v.toList ++ st) (g v τ) τ) : OK Γ pc lv (As.reverse ++ .ref b :: st) (cS σ (F σ) g) σ := by
  refine ok_ran (as := .ref b :: As) (rest := st) C T (fun r r1 h1 ad H locs ls hls had h5 h6 h8 hs hf => ?_) (fun hs => (ax_st_split hs).2.2) k
  have hsa : ax_st σ (.ref b :: As) := ⟨(ax_st_split hs).2.1, ax_st_rev (ax_st_split hs).1⟩
  have hr := vx_runI (rest := st.map (ax_cv ad)) (g := F0 (cx_m Γ) pc ls ((As.reverse ++ .ref b :: st).map (ax_cv ad))) (ax_fix C) (hM ad σ r1 h1 H.size) (b := ad b) (As := As.map (ax_cv ad)) (R := cx_R Γ r) (H := H) (locs := locs) (cells := ax_nc σ - ax_nc (cx_w Γ)) (slots := ax_ns σ - ax_ns (cx_w Γ)) (e := cx_e Γ) (below := cx_below Γ) (meth := cx_meth Γ) (n := n)
    ⟨ax_callB C.2.2.2.1 L hroom, hy, C.2.2.2.1 _ I⟩
    ⟨ax_Pc.blind, fun U hU hW => ax_pre C h5 h6 h8 hsa had U hU hW⟩ rfl (by rw [List.length_map]; exact hn) hls (by rw [List.map_append, List.map_reverse]; rfl) (ax_hd st hst _ _ _ _) hdg hf
  exact hr
/-- a nest mate's private constructor -/
def ax_NL (own : String) (index : Nat) (y : MethodName) (host : String) (bytes : ByteArray) (maxL : Nat) (n : Nat) : Prop :=
  (own, index, y, host) ∈ ax_nests ∧ Cond.initialized y.cls ∈ ax_ALL ∧ Cond.code y bytes maxL none ∈ ax_ALL ∧ (y.cls ≠ "java/lang/invoke/MethodHandle" ∧ y.cls ≠ "java/lang/invoke/VarHandle" ∧ (parseMethodDescriptor y.desc).map (fun d => d.parameters.length) = some n)
theorem ok_callIN (C : OKC Γ cc own ret) (T : ∀ z ∈ (cx_c Γ).exceptionTable.toList, False) (As : List Value) {b index maxL n fr' lo' : Nat} {y : MethodName} {bytes : ByteArray} {F : AS → Option AR}
    (hM : Ct (cx_l Γ) (cx_D Γ) (cx_dA Γ) (cx_B Γ) y (.code y bytes maxL none :: ax_ALL) fr' lo' (.ref b :: As) F) {host : String} (L : ax_NL own index y host bytes maxL n) (I : Cond.instanceMethod y ∈ ax_ALL) (hy : y.name = "<init>") (hn : As.length = n)
    (hroom : fr' + 1 ≤ cx_fr Γ ∧ 8 + (maxL + 11) + lo' ≤ cx_lo Γ) (hst : (st.map fun v => v.category).sum ≤ 8) (hdg : decode cc pc = .ok (.invokespecial index, 3)) {g : Option Value → AS → Option AR}
    (k : ∀ v τ, OK Γ (pc + 3) lv (v.toList ++ st) (g v τ) τ) : OK Γ pc lv (As.reverse ++ .ref b :: st) (cS σ (F σ) g) σ := by
  refine ok_ran (as := .ref b :: As) (rest := st) C T (fun r r1 h1 ad H locs ls hls had h5 h6 h8 hs hf => ?_) (fun hs => (ax_st_split hs).2.2) k
  have hsa : ax_st σ (.ref b :: As) := ⟨(ax_st_split hs).2.1, ax_st_rev (ax_st_split hs).1⟩
  have hlk := C.2.2.2.2.2.2.2.2.2.1.2.2.2.2.2.1 _ L.1
  have hr := vx_runIN (rest := st.map (ax_cv ad)) (g := F0 (cx_m Γ) pc ls ((As.reverse ++ .ref b :: st).map (ax_cv ad))) (host := host) (ax_fix C) (hM ad σ r1 h1 H.size) (b := ad b) (As := As.map (ax_cv ad)) (R := cx_R Γ r) (H := H) (locs := locs) (cells := ax_nc σ - ax_nc (cx_w Γ)) (slots := ax_ns σ - ax_ns (cx_w Γ)) (e := cx_e Γ) (below := cx_below Γ) (meth := cx_meth Γ) (n := n)
    ⟨va_cnB n C.2.2.2.1 (ax_goodC L.2.2.1) rfl rfl rfl hlk (C.2.2.2.1 _ L.2.1) L.2.2.2 hroom, hy, C.2.2.2.1 _ I⟩
    ⟨ax_Pc.blind, fun U hU hW => ax_pre C h5 h6 h8 hsa had U hU hW⟩ rfl (by rw [List.length_map]; exact hn) hls (by rw [List.map_append, List.map_reverse]; rfl) (ax_hd st hst _ _ _ _) hdg hf
  exact hr
theorem ok_objInit (C : OKC Γ cc own ret) {b index : Nat} (L : Cond.methodLink own index Lib.objectInit ∈ ax_ALL) (L2 : Cond.instanceMethod Lib.objectInit ∈ ax_ALL) (L3 : Cond.code Lib.objectInit ⟨#[0xb1]⟩ 1 none ∈ ax_ALL) (hfr : 1 ≤ cx_fr Γ) (hlo : (st.map fun v => v.category).sum + 12 ≤ cx_lo Γ) (hdg : decode cc pc = .ok (.invokespecial index, 3)) {f : Option AR} (k : OK Γ (pc + 3) lv st f σ) : OK Γ pc lv (.ref b :: st) f σ :=
  OK.row k (fun _ h => h.2) fun _ ad _ _ ls h w => W.objInit C.1 C.2.1 C.2.2.1 (C.2.2.2.1 _ L) (C.2.2.2.1 _ L2) (C.2.2.2.1 _ L3) (g := F0 (cx_m Γ) pc ls (.ref (ad b) :: st.map (ax_cv ad))) rfl (h.1.trans C.2.2.2.2.2.2.2.1.symm) rfl hdg hfr (by show 2 * 0 + ((st.map (ax_cv ad)).map fun v => v.category).sum + 12 ≤ cx_lo Γ; rw [ax_sum]; omega) w
/-- ends of calls -/
theorem ok_qI {p2 : Nat} {g : Int32 → AS → Option AR} (h : ∀ i τ, OK Γ p2 lv (.int i :: st) (g i τ) τ) : ∀ v τ, OK Γ p2 lv (v.toList ++ st) (qI g v τ) τ := by
  intro v τ
  rcases v with _ | v
  · exact OK.none
  · cases v <;> first | exact h _ τ | exact OK.none
theorem ok_qV {p2 : Nat} {g : AS → Option AR} (h : ∀ τ, OK Γ p2 lv st (g τ) τ) : ∀ v τ, OK Γ p2 lv (v.toList ++ st) (qV g v τ) τ := by
  intro v τ
  rcases v with _ | v
  · exact h τ
  · exact OK.none
theorem ok_qR {p2 : Nat} {g : Nat → AS → Option AR} (h : ∀ i τ, OK Γ p2 lv (.ref i :: st) (g i τ) τ) : ∀ v τ, OK Γ p2 lv (v.toList ++ st) (qR g v τ) τ := by
  intro v τ
  rcases v with _ | v
  · exact OK.none
  · cases v <;> first | exact h _ τ | exact OK.none
theorem ok_qF {p2 : Nat} {g : UInt32 → AS → Option AR} (h : ∀ i τ, OK Γ p2 lv (.float i :: st) (g i τ) τ) : ∀ v τ, OK Γ p2 lv (v.toList ++ st) (qF g v τ) τ := by
  intro v τ
  rcases v with _ | v
  · exact OK.none
  · cases v <;> first | exact h _ τ | exact OK.none
theorem ok_qD {p2 : Nat} {g : UInt64 → AS → Option AR} (h : ∀ i τ, OK Γ p2 lv (.double i :: st) (g i τ) τ) : ∀ v τ, OK Γ p2 lv (v.toList ++ st) (qD g v τ) τ := by
  intro v τ
  rcases v with _ | v
  · exact OK.none
  · cases v <;> first | exact h _ τ | exact OK.none
end OKF
theorem ax_lgsl (ad : Nat → Nat) : ∀ (as : List Value), (lg_sl (as.map (ax_cv ad))).length = (lg_sl as).length
  | [] => rfl
  | v :: as => by
    have ih := ax_lgsl ad as
    unfold lg_sl at ih ⊢
    rw [List.map_cons, List.flatMap_cons, List.flatMap_cons, List.length_append, List.length_append, ih, ax_cat]
    congr 1
    split <;> rfl
/-- a contract out of its body's walk -/
theorem Ct.of {l : Launch} {D : va_G} {dA : Nat → ClassId} {B0 : Nat} {y : MethodName} {cc : ByteArray} {maxL fr lo : Nat} {ret : Option FieldType} {as : List Value} {F : AS → Option AR} (hl : l.stackTraces = false) (hy : plainName y.cls = true) (hlen : (lg_sl as).length ≤ maxL)
    (body : ∀ Γ : CX, OKC Γ cc y.cls ret → cx_l Γ = l → cx_D Γ = D → cx_dA Γ = dA → cx_B Γ = B0 → cx_nL Γ = maxL → cx_fr Γ = fr → cx_lo Γ = lo → (∀ z ∈ (cx_c Γ).exceptionTable.toList, False) → (cx_meth Γ).name = y.name → OK Γ 0 (lv_args 0 as) [] (F (cx_w Γ)) (cx_w Γ)) : Ct l D dA B0 y (.code y cc maxL ret :: ax_ALL) fr lo as F := by
  intro ad σ r hr
  show ∀ sz : Nat, vx_Met l y (.code y cc maxL ret :: ax_ALL) { frames := fr, cells := ax_nc r.2 - ax_nc σ, slots := ax_ns r.2 - ax_ns σ, locals := lo } (ax_Pc D dA B0 ad as σ sz) (ax_Qc D dA (va_A (ax_ws dA ad σ) sz) ad σ r) (ax_Xc D dA (va_A (ax_ws dA ad σ) sz) ad σ r) (ax_nc r.2 - ax_nc σ) (ax_ns r.2 - ax_ns σ) (va_A (ax_ws dA ad σ) sz)
  · intro sz
    refine vx_ofW (cc := cc) (maxL := maxL) (ret := ret) hy rfl ?_
    intro p e s m args below meth c s₁ B hml htab hv
    obtain ⟨rfl, hsz, hR, hK, hB0, hKF, hcl, hst⟩ := hv
    subst hsz
    have hts : ∀ w ∈ ax_ALL, w.before (as.map (ax_cv ad)).toArray s = true := fun w hw => atoms_spec (ws := .code y cc maxL ret :: ax_ALL) B.pre w (List.mem_cons_of_mem _ hw)
    have hown : s.vm.findClass y.cls = some m.cls := findClass_of_methodNamed B.named
    have hAB : ∀ q, va_A (ax_ws dA ad σ) s.heap.size q → B0 ≤ q := by
      intro q hq
      rcases hq with ⟨i, e, hi⟩ | hq
      · exact hR.2.2 i (q, e) hi
      · exact Nat.le_trans hB0 hq
    have hok := body (p, l, e, s, m, (as.map (ax_cv ad)).toArray, below, meth, c, D, dA, B0, σ, ad, maxL, fr, lo)
      ⟨B.exec, B.bytes, hown, hts, hK, B.returns, B.notSynchronized, hml, hl, hKF, hB0, hAB⟩ rfl rfl rfl rfl rfl rfl rfl htab (name_of_methodNamed B.named B.method).1 r hr
    have hent := lv_entry (as.map (ax_cv ad)) (n := maxL) (by rw [ax_lgsl]; exact hlen)
    rw [lg_entry_eq]
    rw [ax_args] at hent
    have hw := hok.2 ad s.heap [] _ (Nat.le_refl _) (Nat.le_refl _) (Nat.le_refl _) (fun _ _ => rfl) ⟨hR.1, hR.2.self⟩ va_S.rf hent hcl (by
      have hlv : ∀ (as : List Value) (i : Nat), ax_st σ as → ax_lv σ (lv_args i as) := by
        intro as
        induction as with
        | nil => intro _ _ q hq; cases hq
        | cons v as ih =>
          intro i h q hq
          unfold lv_args at hq
          rcases List.mem_cons.mp hq with rfl | hq
          · exact h.1
          · exact ih _ h.2 q hq
      exact hlv as 0 hst) trivial
    have e1 : ax_nc σ - ax_nc σ = 0 := Nat.sub_self _
    have e2 : ax_ns σ - ax_ns σ = 0 := Nat.sub_self _
    have hw' := hw
    unfold cx_R cx_Q cx_A at hw'
    dsimp only [cx_w] at hw'
    rw [e1, e2] at hw'
    exact hw'
