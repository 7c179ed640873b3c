/-! THE START: what holds ahead of the first call -/
theorem z_w0 : zz_w = CW e0C (fun _ _ => 0) (fun _ _ => 0) := rfl
theorem z_new {c : CC} {A : AI} {J : JI} (t n : Nat) : ax_new (CW c A J) t n = CW (nwC c t n) (nwA c A) (nwJ c J) := k_new
theorem z_m0 : ax_new zz_w 11 41 = PW (fun _ _ => none) 1 (1, 41) (fun _ _ => 0) := by
  have e1 : (fun (a : Nat) (b : Nat) => if a = 0 then (0 : Int32) else 0) = IW (fun _ _ => 0) := by
    funext a b
    rw [ite_self]
    rfl
  have e2 : (fun (a : Nat) (b : Nat) => if a = 0 then (0 : Int64) else 0) = fun _ _ => 0 := by
    funext a b
    rw [ite_self]
  have e3 : (fun (a : Nat) (b : Nat) => if a = 0 then (none : Option Nat) else none) = fun _ _ => none := by
    funext a b
    rw [ite_self]
  have e4 : (fun a : Nat => if a = 0 then (11, 41) else (0, 0)) = fun a => if a < 1 then nH a else (0, 0) := by
    funext a
    by_cases q : a = 0
    · rw [if_pos q, if_pos (by omega), q]
      rfl
    · rw [if_neg q, if_neg (by omega)]
  show ((fun (a : Nat) (b : Nat) => if a = 0 then (0 : Int32) else 0), (fun (a : Nat) (b : Nat) => if a = 0 then (0 : Int64) else 0), (fun (a : Nat) (b : Nat) => if a = 0 then (none : Option Nat) else none), (fun a : Nat => if a = 0 then (11, 41) else (0, 0)), 1, 1, 41) = _
  rw [e1, e2, e3, e4]
  rfl
abbrev z_M : AI := up (up (fun _ _ => 0) 0 20 (-1)) 0 37 (-1)
theorem z_M0 (b : Nat) (z : Int) (h : ¬ (b = 0 ∧ z = 20)) (h2 : ¬ (b = 0 ∧ z = 37)) : z_M b z = 0 := (up_n _ _ _ _ _ _ h2).trans (up_n _ _ _ _ _ _ h)
set_option maxHeartbeats 4000000 in
theorem z_Inv : ∃ (c : CC) (A : AI) (J : JI), fX6_init 0 (ax_new zz_w 10 11) = some (Sum.inl none, CW c A J) ∧ (c.2.2.1 = 455 ∧ 1 ≤ c.2.2.2.1 ∧ c.2.2.2.1 ≤ 1000 ∧ 11 ≤ c.2.2.2.2 ∧ c.2.2.2.2 ≤ 100000) ∧ Inv 2000 200000 0 377 381 376 16 (nwC (nwC c 102 1) 104 1) (nwA (nwC c 102 1) (nwA c A)) (nwJ (nwC c 102 1) (nwJ c J)) z_M (z_M 3) := by
  obtain ⟨c, A, J, e, hP, ⟨k1, k2, k3, k4, k5, k6, k7⟩, ⟨k8, k9, k10, k11⟩, ⟨k12, k13⟩, ⟨k14, k15, k16⟩, ⟨z1, z2, z3, z4, z5⟩, f0, f1, f21, f374, f375, f376⟩ := c_init
  have x1 : exc c (nwC c 102 1) := exc.new _ _ _
  have x2 : exc (nwC c 102 1) (nwC (nwC c 102 1) 104 1) := exc.new _ _ _
  have x := x1.trans x2
  have oA : okc (nwC c 102 1) 455 102 1 := by rw [← z1]; exact nw_o _ _
  have oB : okc (nwC (nwC c 102 1) 104 1) 456 104 1 := by
    have := nw_o (c := nwC c 102 1) 104 1
    rw [show (nwC c 102 1).2.2.1 = 456 from by show c.2.2.1 + 1 = 456; omega] at this
    exact this
  have t1 : oth c A (nwA c A) J (nwJ c J) := oth.nw 102 1
  have t2 : oth (nwC c 102 1) (nwA c A) (nwA (nwC c 102 1) (nwA c A)) (nwJ c J) (nwJ (nwC c 102 1) (nwJ c J)) := oth.nw 104 1
  have t := t1.trans t2 (Nat.le_succ _)
  have y1 : (nwC (nwC c 102 1) 104 1).2.2.1 = c.2.2.1 + 1 + 1 := rfl
  have y2 : (nwC (nwC c 102 1) 104 1).2.2.2.1 = c.2.2.2.1 + 1 + 1 := rfl
  have y3 : (nwC (nwC c 102 1) 104 1).2.2.2.2 = c.2.2.2.2 + 1 + 1 := rfl
  have hp : ∀ q ∈ [(9, 381), (8, 377), (7, 375), (6, 374), (5, 373), (4, 338), (3, 303), (2, 21), (1, 4), (0, 1)], ptr (nwC (nwC c 102 1) 104 1) 0 q.1 q.2 := fun q hq => ptr_x hP.1 (hP.2 q hq) x
  refine ⟨c, A, J, ?_, ⟨z1, z2, z3, z4, z5⟩, ?_⟩
  · rw [z_w0, z_new]
    exact e
  generalize nwC (nwC c 102 1) 104 1 = c2 at x x2 oB y1 y2 y3 hp ⊢
  generalize nwA (nwC c 102 1) (nwA c A) = A2 at t ⊢
  generalize nwJ (nwC c 102 1) (nwJ c J) = J2 at t ⊢
  have gA : ∀ (b : Nat) (z : Int), b < 455 → A2 b z = A b z := fun b z h => t.1 b z (by omega)
  refine ⟨⟨⟨okc_x hP.1 x, hp (0, 1) (by decide), hp (1, 4) (by decide), hp (2, 21) (by decide), hp (3, 303) (by decide), hp (4, 338) (by decide), hp (5, 373) (by decide), hp (6, 374) (by decide), hp (7, 375) (by decide), hp (8, 377) (by decide), hp (9, 381) (by decide)⟩,
    ⟨k1.x x, k2.x x, k3.x x, k4.x x, k5.x x, k6.x x, k7.x x⟩, ⟨okc_x k8 x, ptr_x k8 k9 x, ptr_x k8 k10 x, okc_x k11 x⟩, ⟨Or.inl ⟨rfl, rfl⟩, k12.x x, k13.x x⟩, ⟨okc_x k14 x, ptr_x k14 k15 x, okc_x k16 x, Or.inl rfl⟩, okc_x oA x2, oB⟩,
    ⟨by omega, by omega, by omega⟩, ⟨?_, ?_, ?_⟩, ?_, ⟨⟨?_, ?_, ?_⟩, fun k a b => ?_, ?_, ?_⟩, ⟨⟨?_, ?_, ?_, ?_⟩, ⟨?_, by omega, by omega⟩, fun k a b => ⟨fun q => ?_, ?_, ?_⟩⟩, fun h => ?_, fun _ => ⟨?_, ?_, ?_, fun k a b => ⟨⟨?_, ?_⟩, ?_, ?_⟩⟩, ⟨⟨?_, ?_, ?_⟩, ⟨?_, ?_⟩, fun i a b => ?_⟩, ⟨fun j a b => ⟨?_, ?_, ?_⟩, fun h => ?_, fun h => ?_⟩⟩
  · rw [gA 0 10 (by omega), f0, z_M0 _ _ (by omega) (by omega)]
  · rw [z_M0 _ _ (by omega) (by omega)]; omega
  · rw [z_M0 _ _ (by omega) (by omega)]; omega
  · exact up_s _ _ _ _
  · rw [gA 1 2 (by omega), f1.1, z_M0 _ _ (by omega) (by omega)]
  · rw [z_M0 _ _ (by omega) (by omega)]; omega
  · rw [z_M0 _ _ (by omega) (by omega)]; omega
  · rw [z_M0 _ _ (by omega) (by omega)] at b
    omega
  · rw [gA 1 3 (by omega), f1.2.1, z_M0 _ _ (by omega) (by omega)]
  · rw [gA 1 4 (by omega), f1.2.2]
    exact ((up_n _ _ _ _ _ _ (by omega)).trans (up_s _ _ _ _)).symm
  · rw [gA 375 3 (by omega), f375, z_M0 _ _ (by omega) (by omega)]
  · rw [z_M0 _ _ (by omega) (by omega)]; omega
  · rw [z_M0 _ _ (by omega) (by omega)]; omega
  · rw [gA 375 1 (by omega), f375]
  · rw [z_M0 _ _ (by omega) (by omega)]; omega
  · rw [z_M0 _ _ (by omega) (by omega)] at q
    omega
  · rw [gA 376 k (by omega), f376]; omega
  · rw [gA 376 k (by omega), f376]; omega
  · rw [z_M0 _ _ (by omega) (by omega)] at h
    omega
  · exact z_M0 _ _ (by omega) (by omega)
  · exact z_M0 _ _ (by omega) (by omega)
  · exact z_M0 _ _ (by omega) (by omega)
  · rw [z_M0 _ _ (by omega) (by omega)]; omega
  · rw [z_M0 _ _ (by omega) (by omega)]; omega
  · rw [z_M0 _ _ (by omega) (by omega)]; omega
  · rw [z_M0 _ _ (by omega) (by omega)]; omega
  · rw [gA 21 2 (by omega), f21, z_M0 _ _ (by omega) (by omega)]
  · rw [z_M0 _ _ (by omega) (by omega)]; omega
  · rw [z_M0 _ _ (by omega) (by omega)]; omega
  · rw [gA 21 1 (by omega), f21]; omega
  · rw [gA 21 1 (by omega), f21]; omega
  · rw [z_M0 _ _ (by omega) (by omega)] at b
    omega
  · rw [gA 374 j (by omega), f374, z_M0 _ _ (by omega) (by omega)]
  · rw [z_M0 _ _ (by omega) (by omega)]; omega
  · rw [z_M0 _ _ (by omega) (by omega)]; omega
  · rw [z_M0 _ _ (by omega) (by omega)] at h
    omega
  · rw [z_M0 _ _ (by omega) (by omega)] at h
    omega
/-! THE LAW, from its first row to its loop -/
set_option maxHeartbeats 4000000 in
theorem zz_walk {Γ : CX} {b L : Nat} {xs : Nat → Int32} {Q : State → Prop} {ls : Array Slot} (C : zz_C Γ b L xs) (hL : L ≤ 3072) (hend : ∀ (lv : List (Nat × Value)) (σ1 σ2 : AS), ax_nc σ1 + ax_nc σ2 ≤ 601024 ∧ ax_ns σ1 + ax_ns σ2 ≤ 7293033 → LW Γ b Q 3410 lv [] σ1 σ2) (hls : lv_has ls (cx_nL Γ) [(0, .ref b)]) :
    W (cx_p Γ) (cx_l Γ) (cx_e Γ) (cx_R Γ zz_r) (cx_s Γ) (cx_m Γ) (cx_a Γ) (cx_below Γ) (cx_meth Γ) (cx_c Γ) (cx_s Γ).heap [] 0 0 Q (F0 (cx_m Γ) 0 ls []) := by
  obtain ⟨c, A, J, e1, ⟨z1, z2, z3, z4, z5⟩, hI⟩ := z_Inv
  obtain ⟨K, ⟨q1, q2⟩, e2⟩ := m_start (1, 41)
  have q1 : K.1 = 17 := q1
  have q2 : K.2 = 63079 := q2
  have hB : zz_B 2000 200000 K := ⟨by omega, by omega⟩
  obtain ⟨r1, r2⟩ := zz_room C
  have hx := C.1.1
  have hb := C.1.2.1
  have h9 : ∀ i, i < 9 → i < cx_nL Γ := fun i h => by rw [C.2.1.1]; exact h
  have hR : ∀ fr lo : Nat, fr ≤ 2048 ∧ lo ≤ 84000 → fr ≤ cx_fr Γ ∧ lo ≤ cx_lo Γ := fun fr lo h => by rw [C.2.1.2.1, C.2.1.2.2.1]; exact h
  have h0 : zz_2 Γ (cx_ad Γ) (cx_ad Γ) zz_w zz_w (cx_s Γ).heap [] :=
    ⟨fun _ _ => rfl, fun _ _ => rfl, ⟨fun k q h => absurd (ax_ws_inv h).1 (Nat.not_lt_zero _), fun i j p q h _ _ => absurd (ax_ws_inv h).1 (Nat.not_lt_zero _), fun k q h => absurd (ax_ws_inv h).1 (Nat.not_lt_zero _)⟩, ⟨fun k q h => absurd (ax_ws_inv h).1 (Nat.not_lt_zero _), fun i j p q h _ _ => absurd (ax_ws_inv h).1 (Nat.not_lt_zero _), fun k q h => absurd (ax_ws_inv h).1 (Nat.not_lt_zero _)⟩, fun i j hi _ => absurd hi (Nat.not_lt_zero _), va_S.rf, fun a j q h _ => absurd h (Nat.not_lt_zero _), fun a j q h _ => absurd h (Nat.not_lt_zero _)⟩
  refine zz_new C.1 h0 ax_DF10 ⟨_, rfl⟩ zi_cl6 (by decide) dL_law_0 (by rw [r1, r2]; exact ⟨Nat.le_of_ble_eq_true rfl, Nat.le_of_ble_eq_true rfl⟩) (fun x1 H1 h1 => ?_)
  obtain ⟨a1, ha1⟩ : ∃ a1 : Nat → Nat, a1 = fun k => if k = ax_z zz_w then x1 else cx_ad Γ k := ⟨_, rfl⟩
  rw [← ha1] at h1
  have g0 : a1 0 = x1 := by rw [ha1]; exact if_pos rfl
  clear ha1
  refine lv_dup hx hb dL_law_3 rfl ?_
  rw [← g0]
  refine zz_I C.1 h1 (ctX6_init (zz_st C) 0) vzX6_init zivzX6_init rfl e1 (by decide) hls.1 (hR _ _ (by decide)) (Nat.le_of_ble_eq_true rfl) (by
    rw [r1, r2]
    show 0 + 1 + (c.2.2.2.1 - (0 + 1)) ≤ 601024 ∧ 0 + 11 + (c.2.2.2.2 - (0 + 11)) ≤ 7293033
    omega) dL_law_4 (fun a3 H2 locs2 had h2 => ?_)
  have g1 : a3 0 = a1 0 := had 0 (Or.inl (by decide))
  rw [← g1]
  refine W.widen (k := c.2.2.2.1) (n := c.2.2.2.2) (by
    show 0 + 1 + (c.2.2.2.1 - (0 + 1)) ≤ _
    omega) (by
    show 0 + 11 + (c.2.2.2.2 - (0 + 11)) ≤ _
    omega) ?_
  clear g0 g1 h1 had
  refine lv_astore_n (lv' := [(1, .ref (a3 0)), (0, .ref b)]) hx hb dL_law_7 rfl hls (h9 _ (by decide)) rfl (fun ls hls => ?_)
  refine zz_new C.1 h2.swap ax_DF11 ⟨_, rfl⟩ zi_cl7 (by decide) dL_law_8 (by rw [r1, r2]; omega) (fun x2 H3 h3 => ?_)
  obtain ⟨a2, ha2⟩ : ∃ a2 : Nat → Nat, a2 = fun k => if k = ax_z zz_w then x2 else cx_ad Γ k := ⟨_, rfl⟩
  rw [← ha2] at h3
  have g0 : a2 0 = x2 := by rw [ha2]; exact if_pos rfl
  clear ha2
  refine lv_dup hx hb dL_law_11 rfl ?_
  rw [← g0]
  refine zz_I C.1 h3 (ctX7_init (zz_st C) 0) vzX7_init zivzX7_init rfl (by rw [z_m0]; exact e2) (by decide) hls.1 (hR _ _ (by decide)) (Nat.le_of_ble_eq_true rfl) (by
    rw [r1, r2]
    show c.2.2.2.1 + 1 + (K.1 - (0 + 1)) ≤ 601024 ∧ c.2.2.2.2 + 41 + (K.2 - (0 + 41)) ≤ 7293033
    omega) dL_law_12 (fun a4 H4 locs4 had h4 => ?_)
  have g1 : a4 0 = a2 0 := had 0 (Or.inl (by decide))
  rw [← g1]
  refine W.widen (k := c.2.2.2.1 + K.1) (n := c.2.2.2.2 + K.2) (by
    show c.2.2.2.1 + 1 + (K.1 - (0 + 1)) ≤ _
    omega) (by
    show c.2.2.2.2 + 41 + (K.2 - (0 + 41)) ≤ _
    omega) ?_
  clear g0 g1 h3 had
  refine lv_astore_n (lv' := [(2, .ref (a4 0)), (1, .ref (a3 0)), (0, .ref b)]) hx hb dL_law_15 rfl hls (h9 _ (by decide)) rfl (fun ls hls => ?_)
  refine lv_iconst (v := 1) hx hb dL_law_16 (by decide) ?_
  refine zz_newa C.1 h4.swap 102 2 (atype := .long) .long (1, .inr (.inl (fun _ => 0))) zi_aL rfl (fun _ => rfl) (by decide) (fun _ => rfl) (by decide) (fun _ _ h => h) (fun dA ad σ k _ h _ => by rw [ax_arr_J, show ax_J σ k = fun _ => 0 from funext h]) (by show c.2.2.1 < 1000000; omega) dL_law_17 (by rw [r1, r2]; omega) (fun x3 H5 h5 => ?_)
  rw [z_new] at h5
  have w1 : ax_z (CW c A J) = 455 := z1
  rw [w1] at h5
  obtain ⟨a5, ha5⟩ : ∃ a5 : Nat → Nat, a5 = fun k => if k = 455 then x3 else a3 k := ⟨_, rfl⟩
  rw [← ha5] at h5
  have g0 : a5 0 = a3 0 := by rw [ha5]; exact if_neg (by decide)
  have g455 : a5 455 = x3 := by rw [ha5]; exact if_pos rfl
  clear ha5
  rw [← g455]
  refine lv_astore_n (lv' := [(3, .ref (a5 455)), (2, .ref (a4 0)), (1, .ref (a3 0)), (0, .ref b)]) hx hb dL_law_19 rfl hls (h9 _ (by decide)) rfl (fun ls hls => ?_)
  refine lv_iconst (v := 1) hx hb dL_law_20 (by decide) ?_
  refine zz_newa C.1 h5 104 4 (atype := .double) .double (1, .inr (.inr (.inr (.inl (fun _ => 0))))) zi_aD rfl (fun _ => rfl) (by decide) (fun _ => rfl) (by decide) (fun _ _ h => h) (fun dA ad σ k _ h _ => by
    rw [ax_arr_D, show ax_J σ k = fun _ => 0 from funext h]
    rfl) (by show c.2.2.1 + 1 < 1000000; omega) dL_law_21 (by rw [r1, r2]; omega) (fun x4 H6 h6 => ?_)
  rw [z_new] at h6
  have w2 : ax_z (CW (nwC c 102 1) (nwA c A) (nwJ c J)) = 456 := by
    show c.2.2.1 + 1 = 456
    omega
  rw [w2] at h6
  obtain ⟨a6, ha6⟩ : ∃ a6 : Nat → Nat, a6 = fun k => if k = 456 then x4 else a5 k := ⟨_, rfl⟩
  rw [← ha6] at h6
  have g00 : a6 0 = a5 0 := by rw [ha6]; exact if_neg (by decide)
  have g45 : a6 455 = a5 455 := by rw [ha6]; exact if_neg (by decide)
  have g46 : a6 456 = x4 := by rw [ha6]; exact if_pos rfl
  clear ha6
  rw [← g46]
  refine lv_astore (lv' := [(4, .ref (a6 456)), (3, .ref (a5 455)), (2, .ref (a4 0)), (1, .ref (a3 0)), (0, .ref b)]) hx hb dL_law_23 hls (h9 _ (by decide)) rfl (fun ls hls => ?_)
  refine lv_iconst (v := 0) hx hb dL_law_25 (by decide) ?_
  refine lv_istore (lv' := [(5, .int 0), (4, .ref (a6 456)), (3, .ref (a5 455)), (2, .ref (a4 0)), (1, .ref (a3 0)), (0, .ref b)]) hx hb dL_law_26 hls (h9 _ (by decide)) rfl (fun ls hls => ?_)
  have hlv : lv_has ls (cx_nL Γ) [(0, .ref b), (1, .ref (a3 0)), (2, .ref (a4 0)), (3, .ref (a5 455)), (4, .ref (a6 456)), (5, .int 0)] := lv_sub hls [5, 4, 3, 2, 1, 0] rfl
  have hW := zz_loop C hL hB hend 513 0 (by omega) (by omega) _ _ _ _ _ _ _ _ _ hI
  rw [mg_self] at hW
  have hw := hW a6 a4 H6 locs4 ls h6 (by show 457 ≤ c.2.2.1 + 1 + 1; omega) (show 0 < 17 by decide) (by
    rw [← g0, ← g00, ← g45] at hlv
    exact hlv)
  refine W.widen (k := c.2.2.2.1 + 1 + 1 + K.1) (n := c.2.2.2.2 + 1 + 1 + K.2) (by omega) (by omega) ?_
  exact hw
