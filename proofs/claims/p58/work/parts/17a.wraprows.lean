/-! METHODS WITH HANDLERS: a call whose throw is caught here, and what the handler gives back. -/
/-- the row at a place that a handler begins: what it catches, what it gives -/
def ax_HX (own : String) (pc nL : Nat) (cc : ByteArray) (z : String × Int32 × (Nat × Nat × Nat × Nat)) : Prop :=
  z.1 ∈ ax_errs ∧ z.2.2.2.2.2 ≠ 0 ∧ Cond.classLink own z.2.2.2.2.2 z.1 ∈ ax_ALL ∧ (z.2.2.1 ≤ pc ∧ pc < z.2.2.2.1) ∧
  ∃ (n : Int) (w : Nat), ((∃ i, decode cc z.2.2.2.2.1 = .ok (.astore i, 2) ∧ i < nL ∧ w = 2) ∨ (∃ i : Fin 4, decode cc z.2.2.2.2.1 = .ok (.astore_n i, 1) ∧ (i : Nat) < nL ∧ w = 1)) ∧ decode cc (z.2.2.2.2.1 + w) = .ok (.iconst n, 1) ∧ Int32.ofInt n = z.2.1 ∧ decode cc (z.2.2.2.2.1 + w + 1) = .ok (.ireturn, 1)
def hF (hh : List (String × Int32 × (Nat × Nat × Nat × Nat))) (E : String) (τ : AS) : Option AR := match hh with
  | [] => none
  | z :: hh => if E = z.1 then some (.inl (some (.int z.2.1)), τ) else hF hh E τ
def cH (σ : AS) (b ci : Nat) (x : Option AR) (hh : List (String × Int32 × (Nat × Nat × Nat × Nat))) (g : Option Value → AS → Option AR) : Option AR := if b < ax_z σ ∧ (ax_H σ b).1 = ci then (match x with
  | some (.inl v, τ) => if ax_le σ τ then g v τ else none
  | some (.inr E, τ) => if ax_le σ τ then hF hh E τ else none
  | none => none) else none
def uD (σ : AS) (a : Nat) (i : Int32) (x : UInt64) (g : AS → Option AR) : Option AR := if a < ax_z σ ∧ (ax_H σ a).1 = 104 ∧ ax_ib i (ax_H σ a).2 then g (ax_setJ σ a i.toNatClampNeg x.toInt64) else none
theorem ax_arr_D {dA : Nat → ClassId} {ad : Nat → Nat} {σ : AS} {a n : Nat} : ax_arr dA ad σ a 104 n = .inl (dA 104, n, .inr (.inr (.inr (.inl (fun j => (ax_J σ a j).toUInt64))))) := rfl
theorem ax_updD (σ : AS) (a i : Nat) (x : UInt64) : (fun j => (ax_J (ax_setJ σ a i x.toInt64) a j).toUInt64) = vf_upd (fun j => (ax_J σ a j).toUInt64) i x := by
  funext z
  show (ax_up2 σ.2.1 a i x.toInt64 a z).toUInt64 = if z = i then x else (σ.2.1 a z).toUInt64
  by_cases h : z = i
  · subst h
    rw [ax_up2_s, if_pos rfl]
    rfl
  · rw [ax_up2_n _ _ (fun q => h q.2), if_neg h]
section OKW
variable {Γ : CX} {cc : ByteArray} {own : String} {ret : Option FieldType} {pc : Nat} {lv : List (Nat × Value)} {st : List Value} {σ : AS} {f : Option AR}
theorem ok_f2d (C : OKC Γ cc own ret) {x : UInt32} (hdg : decode cc pc = .ok (.f2d, 1)) (k : OK Γ (pc + 1) lv (.double (FP.f2d x) :: st) f σ) : OK Γ pc lv (.float x :: st) (if FP.f2d x &&& 0x7fffffffffffffff ≤ 0x7ff0000000000000 then f else none) σ := by
  intro r hr
  split at hr
  case isFalse => cases hr
  case isTrue h => exact OK.row (st := .float x :: st) k (fun _ h => ⟨trivial, h.2⟩) (fun _ _ _ _ _ _ w => lv_f2d C.1 C.2.1 hdg h w) r hr
/-- the handlers, one behind the other -/
theorem ax_hF (C : OKC Γ cc own (some .int)) {H : Heap} {locs : List Loc} {ls : Array Slot} {τ : AS} {r : AR} {E : String} {ce : Cell} {q : Addr} {ad : Nat → Nat} {rest : List Value}
    (hE : E ∈ ax_errs) (hls : lv_has ls (cx_nL Γ) (lv.map (fun q => (q.1, ax_cv ad q.2)))) (hce : H[q]? = some ce) (hcv : ce.vm = .none) (hcc : (cx_s Γ).vm.findClass E = some ce.cls)
    (had : ∀ k, k < ax_z (cx_w Γ) ∨ 1000000 ≤ k → ad k = cx_ad Γ k) (h5 : ax_Rep (cx_D Γ) (cx_dA Γ) (cx_A Γ) ad τ H) (h6 : va_S (cx_A Γ) (cx_s Γ).heap H locs) (h8 : ax_cl τ) :
    ∀ (hh pre : List (String × Int32 × (Nat × Nat × Nat × Nat))), (∀ z ∈ pre, z.1 ≠ E) → (∀ z ∈ pre ++ hh, ax_HX own pc (cx_nL Γ) cc z) → (cx_c Γ).exceptionTable.toList = tableOf ((pre ++ hh).map fun z => z.2.2) → hF hh E τ = some r →
    vx_W (cx_p Γ) (cx_l Γ) (cx_e Γ) (cx_R Γ r) (cx_s Γ) (cx_m Γ) (cx_a Γ) (cx_below Γ) (cx_meth Γ) (cx_c Γ) H locs (ax_nc τ - ax_nc (cx_w Γ)) (ax_ns τ - ax_ns (cx_w Γ)) (cx_Q Γ r) (F0 (cx_m Γ) pc ls rest) q
  | [], _, _, _, _, hr => by cases hr
  | z :: hh, pre, hp, hX, hT, hr => by
    unfold hF at hr
    by_cases he : E = z.1
    · rw [if_pos he] at hr
      cases hr
      obtain ⟨x1, x2, x3, x4, n, w, x5, x6, x7, x8⟩ := hX z (List.mem_append_right _ List.mem_cons_self)
      refine vx_catch (name := z.1) (E := E) C.2.2.1 (tableOf (pre.map fun z => z.2.2)) ⟨z.2.2.1, z.2.2.2.1, z.2.2.2.2.1, z.2.2.2.2.2⟩ (tableOf (hh.map fun z => z.2.2)) (by rw [hT]; unfold tableOf; rw [List.map_append, List.map_append]; rfl) ?_ ?_ x2 (C.2.2.2.1 _ x3) ?_ hce hcv hcc ?_
      · intro t ht
        right
        obtain ⟨t1, ht1, rfl⟩ := List.mem_map.mp ht
        obtain ⟨t2, ht2, rfl⟩ := List.mem_map.mp ht1
        obtain ⟨y1, y2, y3, -⟩ := hX t2 (List.mem_append_left _ ht2)
        exact ⟨y2, t2.1, C.2.2.2.1 _ y3, C.2.2.2.2.2.2.2.2.2.1.2.2.2.2.2.2.2.2 E hE t2.1 y1 (fun q => hp t2 ht2 q.symm)⟩
      · unfold covers
        simp only [Bool.and_eq_true, decide_eq_true_eq]
        exact x4
      · rw [← he]
        exact C.2.2.2.2.2.2.2.2.2.1.2.2.2.2.2.2.1 E hE
      · have hend : ∀ ls' : Array Slot, W (cx_p Γ) (cx_l Γ) (cx_e Γ) (cx_R Γ (.inl (some (.int z.2.1)), τ)) (cx_s Γ) (cx_m Γ) (cx_a Γ) (cx_below Γ) (cx_meth Γ) (cx_c Γ) H locs (ax_nc τ - ax_nc (cx_w Γ)) (ax_ns τ - ax_ns (cx_w Γ)) (cx_Q Γ (.inl (some (.int z.2.1)), τ)) (F0 (cx_m Γ) (z.2.2.2.2.1 + w) ls' []) := by
          intro ls'
          obtain ⟨e1, e2, e3, e4, e5, e6, e7, -⟩ := C
          refine lv_iconst e1 e2 x6 x7 ?_
          exact vx_ret (W.iret (v := z.2.1) e1 e2 e6 (fun t ht hW => ⟨ad, some (.int z.2.1), rfl, rfl, had, ⟨by rw [ht]; exact h5.1, h5.2⟩, h6.F ht, h8, trivial, trivial⟩) h6.2.2 x8 e7)
        rcases x5 with ⟨i, x5, xi, rfl⟩ | ⟨i, x5, xi, rfl⟩
        · exact lv_astore C.1 C.2.1 x5 hls xi rfl fun ls' _ => hend ls'
        · exact lv_astore_n C.1 C.2.1 x5 rfl hls xi rfl fun ls' _ => hend ls'
    · rw [if_neg he] at hr
      exact ax_hF C hE hls hce hcv hcc had h5 h6 h8 hh (pre ++ [z]) (fun t ht => by rcases List.mem_append.mp ht with h | h
                                                                                    · exact hp t h
                                                                                    · rw [List.mem_singleton.mp h]; exact fun q => he q.symm) (fun t ht => hX t (by rw [List.append_assoc] at ht; exact ht)) (by rw [hT, List.append_assoc]; rfl) hr
theorem hF_mem {E : String} {τ : AS} {r : AR} : ∀ {hh : List (String × Int32 × (Nat × Nat × Nat × Nat))}, (∀ z ∈ hh, z.1 ∈ ax_errs) → hF hh E τ = some r → E ∈ ax_errs
  | [], _, h => by cases h
  | z :: hh, hz, h => by
    unfold hF at h
    split at h
    case isTrue he => rw [he]; exact hz z List.mem_cons_self
    case isFalse => exact hF_mem (fun t ht => hz t (List.mem_cons_of_mem _ ht)) h
theorem hF_end {E : String} {τ : AS} {r : AR} : ∀ {hh : List (String × Int32 × (Nat × Nat × Nat × Nat))}, hF hh E τ = some r → r.2 = τ
  | [], h => by cases h
  | z :: hh, h => by
    unfold hF at h
    split at h
    · cases h; rfl
    · exact hF_end h
theorem ok_ranH {as st0 rest : List Value} {x : Option AR} {g : Option Value → AS → Option AR} {hh : List (String × Int32 × (Nat × Nat × Nat × Nat))}
    (C : OKC Γ cc own (some .int)) (HX : ∀ z ∈ hh, ax_HX own pc (cx_nL Γ) cc z) (HT : (cx_c Γ).exceptionTable.toList = tableOf (hh.map fun z => z.2.2))
    (hcall : ∀ r r1 : AR, x = some r1 → ax_Ran Γ pc as st0 rest σ r r1) (hrest : ax_st σ st0 → ax_st σ rest)
    (k : ∀ v τ, OK Γ (pc + 3) lv (v.toList ++ rest) (g v τ) τ) : OK Γ pc lv st0 (match (x : Option AR) with
      | some (.inl v, τ) => if ax_le σ τ then g v τ else none
      | some (.inr E, τ) => if ax_le σ τ then hF hh E τ else none
      | none => none) σ := by
  intro r hr
  match x, hr, hcall with
  | some (.inl v, τ), hr, hcall =>
    have hr : (if ax_le σ τ then g v τ else none) = some r := hr
    split at hr
    case isFalse => cases hr
    case isTrue hm =>
    obtain ⟨m, w⟩ := k v τ r hr
    obtain ⟨m1, m2, m3⟩ := hm
    refine ⟨⟨Nat.le_trans m1 m.1, Nat.le_trans m2 m.2.1, Nat.le_trans m3 m.2.2⟩, fun ad H locs ls h1 h2 h3 h4 h5 h6 h7 h8 h9 h10 => ?_⟩
    have hAq := ax_inA h5 h6
    have hr1 := hcall r (.inl v, τ) rfl ad H locs ls h7.1 (fun z hz => h4 z (Or.inr hz)) h5 h6 h8 h10 ⟨by have := m.1; dsimp only; omega, by have := m.2.1; dsimp only; omega⟩
    dsimp only at hr1
    intro T0 hT0 X
    rcases hr1 T0 hT0 X with ⟨v', st₀, t, T', L, h0, X', hL, e1, e2, ⟨ad', v9, hv, ho, had, hR, hF, hcl, hsv⟩, stp⟩ | ⟨q, st₀, t, T', L, E, ce, h0, X', hL, e1, e2, ⟨ad', hE, -⟩, -⟩
    · cases hv
      cases ho
      obtain ⟨k1, k2, k3⟩ := vx_keep h0 e1 h6 (fun q _ hq => hAq q hq) hAq hL hF
      have hw := w ad' T'.heap (locs ++ L) ls (Nat.le_trans h1 m1) (Nat.le_trans h2 m2) (Nat.le_trans h3 m3) (fun z hz => (had z (hz.imp (fun q => Nat.lt_of_lt_of_le q h3) id)).trans (h4 z hz)) ⟨by rw [e1]; exact hR.1, hR.2.weaken (fun _ q _ h => hAq q.1 h)⟩ k3 (by rw [ax_lv_cong had h9]; exact h7) hcl (ax_lv_mono m3 h9) (ax_st_app hsv (ax_st_mono m3 (hrest h10)))
      rw [List.map_append, ax_st_cong had (hrest h10)] at hw
      have hlist : (v.toList).map (ax_cv ad') = (v.map (ax_cv ad')).toList := by cases v <;> rfl
      rw [hlist] at hw
      have ea : ax_nc σ - ax_nc (cx_w Γ) + (ax_nc τ - ax_nc σ) = ax_nc τ - ax_nc (cx_w Γ) := by omega
      have eb : ax_ns σ - ax_ns (cx_w Γ) + (ax_ns τ - ax_ns σ) = ax_ns τ - ax_ns (cx_w Γ) := by omega
      rw [ea, eb] at X'
      obtain ⟨t2, a1, b1⟩ := hw T' rfl X'
      exact ⟨t2, stp t2 a1, b1⟩
    · cases hE
  | some (.inr E, τ), hr, hcall =>
    have hr : (if ax_le σ τ then hF hh E τ else none) = some r := hr
    split at hr
    case isFalse => cases hr
    case isTrue hm =>
    have hend := hF_end hr
    have hEm := hF_mem (fun z hz => (HX z hz).1) hr
    obtain ⟨m1, m2, m3⟩ := hm
    refine ⟨by rw [hend]; exact ⟨m1, m2, m3⟩, fun ad H locs ls h1 h2 h3 h4 h5 h6 h7 h8 h9 h10 => ?_⟩
    have hAq := ax_inA h5 h6
    have hr1 := hcall r (.inr E, τ) rfl ad H locs ls h7.1 (fun z hz => h4 z (Or.inr hz)) h5 h6 h8 h10 ⟨by rw [hend]; dsimp only; omega, by rw [hend]; dsimp only; omega⟩
    dsimp only at hr1
    intro T0 hT0 X
    rcases hr1 T0 hT0 X with ⟨v', st₀, t, T', L, h0, X', hL, e1, e2, ⟨ad', v9, hv, -⟩, -⟩ | ⟨q, st₀, t, T', L, E', ce, h0, X', hL, e1, e2, ⟨ad', hE, had, hR, hF, hcl⟩, hce, hcv, hcc, stp⟩
    · cases hv
    · cases hE
      obtain ⟨k1, k2, k3⟩ := vx_keep h0 e1 h6 (fun q _ hq => hAq q hq) hAq hL hF
      have ea : ax_nc σ - ax_nc (cx_w Γ) + (ax_nc τ - ax_nc σ) = ax_nc τ - ax_nc (cx_w Γ) := by omega
      have eb : ax_ns σ - ax_ns (cx_w Γ) + (ax_ns τ - ax_ns σ) = ax_ns τ - ax_ns (cx_w Γ) := by omega
      rw [ea, eb] at X'
      have hout := ax_hF (lv := lv) (pc := pc) (ls := ls) (rest := rest.map (ax_cv ad)) C hEm (by rw [ax_lv_cong had h9]; exact h7) (by rw [e1]; exact hce) hcv hcc (fun z hz => (had z (hz.imp (fun q => Nat.lt_of_lt_of_le q h3) id)).trans (h4 z hz)) ⟨by rw [e1]; exact hR.1, hR.2.weaken (fun _ q _ h => hAq q.1 h)⟩ k3 hcl hh [] (fun z hz => absurd hz List.not_mem_nil) HX HT hr
      obtain ⟨t2, a1, b1⟩ := hout T' rfl X'
      exact ⟨t2, stp.trans a1, b1⟩
  | none, hr, _ => cases hr
/-- a method of the class, its throws caught here -/
theorem ok_callVH (C : OKC Γ cc own (some .int)) (hh : List (String × Int32 × (Nat × Nat × Nat × Nat))) (HX : ∀ z ∈ hh, ax_HX own pc (cx_nL Γ) cc z) (HT : (cx_c Γ).exceptionTable.toList = tableOf (hh.map fun z => z.2.2)) (As : List Value) {b ci index maxL n fr' lo' : Nat} {y : MethodName} {bytes : ByteArray} {ret' : Option FieldType} {F : AS → Option AR} {C0 : String} {T0 : u_T} {N0 : Nat}
    (hM : Ct (cx_l Γ) (cx_D Γ) (cx_dA Γ) (cx_B Γ) y (.code y bytes maxL ret' :: ax_ALL) fr' lo' (.ref b :: As) F) (L : ax_VL own index y bytes maxL ret' n) (I : ax_VI y) (hc : vwCl[ci]? = some (C0, T0, N0)) (hy : y.cls = C0) (hci : ci < 100) (hn : As.length = n)
    (hroom : fr' + 1 ≤ cx_fr Γ ∧ 8 + (maxL + 11) + lo' ≤ cx_lo Γ) (hst : (st.map fun v => v.category).sum ≤ 8) (hdg : decode cc pc = .ok (.invokevirtual index, 3)) {g : Option Value → AS → Option AR}
    (k : ∀ v τ, OK Γ (pc + 3) lv (v.toList ++ st) (g v τ) τ) : OK Γ pc lv (As.reverse ++ .ref b :: st) (cH σ b ci (F σ) hh g) σ := by
  by_cases h : b < ax_z σ ∧ (ax_H σ b).1 = ci
  case neg =>
    intro r hr
    unfold cH at hr
    rw [if_neg h] at hr
    cases hr
  unfold cH
  rw [if_pos h]
  refine ok_ranH (as := .ref b :: As) (rest := st) C HX HT (fun r r1 h1 ad H locs ls hls had h5 h6 h8 hs hf => ?_) (fun hs => (ax_st_split hs).2.2) k
  have hsa : ax_st σ (.ref b :: As) := ⟨(ax_st_split hs).2.1, ax_st_rev (ax_st_split hs).1⟩
  have hr := vx_runV (rest := st.map (ax_cv ad)) (g := F0 (cx_m Γ) pc ls ((As.reverse ++ .ref b :: st).map (ax_cv ad))) (ax_fix C) (hM ad σ r1 h1 H.size) (C := y.cls) (b := ad b) (As := As.map (ax_cv ad)) (R := cx_R Γ r) (H := H) (locs := locs) (cells := ax_nc σ - ax_nc (cx_w Γ)) (slots := ax_ns σ - ax_ns (cx_w Γ)) (e := cx_e Γ) (below := cx_below Γ) (meth := cx_meth Γ) (n := n)
    ⟨ax_callB C.2.2.2.1 L hroom, C.2.2.2.1 _ I.1, C.2.2.2.1 _ I.2⟩
    ⟨ax_Pc.blind, by
      obtain ⟨cell, x1, x2, x3⟩ := va_recv C.2.2.2.2.1 h5.1 hc (q0 := b) (fs := ax_flds ad σ b (ax_tags ci) 0) ((ax_ws_get h.1).trans (by rw [ax_cell_o h.2 hci]))
      exact ⟨cell, x1, x2, by rw [hy]; exact x3⟩, fun U hU hW => ax_pre C h5 h6 h8 hsa had U hU hW⟩ rfl (by rw [List.length_map]; exact hn) hls (by rw [List.map_append, List.map_reverse]; rfl) (ax_hd st hst _ _ _ _) hdg hf
  exact hr
end OKW
