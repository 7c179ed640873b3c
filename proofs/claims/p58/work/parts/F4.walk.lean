/-! THE LAW, from its first row to its end -/
def zz_C (Γ : CX) : Prop := OKC Γ cL_law RL (some .boolean) ∧ (cx_nL Γ = 6 ∧ cx_fr Γ = 2048 ∧ cx_lo Γ = 84000 ∧ cx_w Γ = zz_w) ∧ (∀ z ∈ (cx_c Γ).exceptionTable.toList, False) ∧ (cx_meth Γ).name = yL_law.name
theorem zz_room {Γ : CX} (C : zz_C Γ) : (cx_R Γ zz_r).cells = 410000 ∧ (cx_R Γ zz_r).slots = 2020000 := by
  have h1 : ax_nc (cx_w Γ) = 0 := by rw [C.2.1.2.2.2]; rfl
  have h2 : ax_ns (cx_w Γ) = 0 := by rw [C.2.1.2.2.2]; rfl
  exact ⟨by show 410000 - ax_nc (cx_w Γ) = _; rw [h1], by show 2020000 - ax_ns (cx_w Γ) = _; rw [h2]⟩
set_option maxHeartbeats 4000000 in
theorem zz_walk {Γ : CX} {Q : State → Prop} {ls : Array Slot} (C : zz_C Γ) (hs : (ax_scr (cx_ad Γ)).1 < 2147483648) (hQ : ∀ (r : AR), r.1 = .inl (some (.int 1)) → ax_nc r.2 = 410000 → ax_ns r.2 = 2020000 → ∀ t, cx_Q Γ r t → Q t) (hls : lv_has ls (cx_nL Γ) [(0, .ref (cx_ad Γ 5000000))]) :
    W (cx_p Γ) (cx_l Γ) (cx_e Γ) (cx_R Γ zz_r) (cx_s Γ) (cx_m Γ) (cx_a Γ) (cx_below Γ) (cx_meth Γ) (cx_c Γ) (cx_s Γ).heap [] 0 0 Q (F0 (cx_m Γ) 0 ls []) := by
  obtain ⟨c, cd, c1, A, Ad, A1, J, Jd, J1, e1, e2, e3, ⟨z1, z2, z3⟩, ⟨y1, y2, y3⟩, ⟨w0, w1, w2, w3⟩, hL⟩ := z_start (ax_scr (cx_ad Γ)) hs
  obtain ⟨r1, r2⟩ := zz_room C
  have hx := C.1.1
  have hb := C.1.2.1
  have hst := C.1.2.2.2.2.2.2.2.2.1
  have h6 : ∀ i, i < 6 → i < cx_nL Γ := fun i h => by rw [C.2.1.1]; exact h
  have hR : ∀ fr lo : Nat, fr ≤ 2048 ∧ lo ≤ 84000 → fr ≤ cx_fr Γ ∧ lo ≤ cx_lo Γ := fun fr lo h => by rw [C.2.1.2.1, C.2.1.2.2.1]; exact h
  have hno : ∀ (dA : Nat → ClassId) (ad : Nat → Nat) (k : Nat) (q : Nat × va_E), ¬ (ax_ws dA ad zz_w)[k]? = some q := fun dA ad k q h => absurd (ax_ws_inv h).1 (Nat.not_lt_zero _)
  have h0 : zz_2 Γ (cx_ad Γ) (cx_ad Γ) zz_w zz_w (cx_s Γ).heap [] :=
    ⟨fun _ _ => rfl, fun _ _ => rfl, ⟨fun k q h => absurd h (hno _ _ _ _), fun i j p q h _ _ => absurd h (hno _ _ _ _), fun k q h => absurd h (hno _ _ _ _)⟩, ⟨fun k q h => absurd h (hno _ _ _ _), fun i j p q h _ _ => absurd h (hno _ _ _ _), fun k q h => absurd h (hno _ _ _ _)⟩, fun i j hi _ => absurd hi (Nat.not_lt_zero _), va_S.rf, fun a j q h _ => absurd h (Nat.not_lt_zero _), fun a j q h _ => absurd h (Nat.not_lt_zero _)⟩
  -- the draws
  refine zz_new C.1 h0 (C0 := RX17) ax_DF11 ⟨_, rfl⟩ kw_1109 (by decide) dL_law_0 (by rw [r1, r2]; exact ⟨Nat.le_of_ble_eq_true rfl, Nat.le_of_ble_eq_true rfl⟩) (fun x1 H1 h1 => ?_)
  obtain ⟨a1, ha1⟩ : ∃ a1 : Nat → Nat, a1 = fun k => if k = ax_z zz_w then x1 else cx_ad Γ k := ⟨_, rfl⟩
  rw [← ha1] at h1
  have g0 : a1 0 = x1 := by rw [ha1]; exact if_pos rfl
  clear ha1
  have g5 : a1 5000000 = cx_ad Γ 5000000 := h1.1 _ (by decide)
  refine lv_dup hx hb dL_law_3 rfl ?_
  refine lv_aload_n hx hb dL_law_4 rfl (lv_at hls 0 rfl) ?_
  rw [← g0, ← g5]
  refine zz_I C.1 h1 [.ref 5000000] (x := 0) (rest := [.ref (a1 0)]) (τ := CW cd Ad Jd) (zz_met (ctX17_init hst 0 5000000) e2 H1.size) vlL_309 rfl kw_1111 rfl ⟨Or.inl (by decide), Or.inr (by decide), trivial⟩ hls.1 (hR _ _ (by decide)) (Nat.le_of_ble_eq_true rfl) (by
    rw [r1, r2]
    show 0 + 1 + (cd.2.2.2.1 - (0 + 1)) ≤ 410000 ∧ 0 + 2 + (cd.2.2.2.2 - (0 + 2)) ≤ 2020000
    omega) dL_law_5 (fun a3 H2 locs2 had h2 => ?_)
  have g1 : a3 0 = a1 0 := had 0 (Or.inl (by decide))
  rw [← g1]
  refine W.widen (k := 1) (n := 2) (by
    show 0 + 1 + (cd.2.2.2.1 - (0 + 1)) ≤ _
    omega) (by
    show 0 + 2 + (cd.2.2.2.2 - (0 + 2)) ≤ _
    omega) ?_
  clear g0 g1 g5 h1 had
  refine lv_astore_n (lv' := [(1, .ref (a3 0)), (0, .ref (cx_ad Γ 5000000))]) hx hb dL_law_8 rfl hls (h6 _ (by decide)) rfl (fun ls hls => ?_)
  -- the World
  refine zz_new C.1 h2 (C0 := RX19) ax_DF13 ⟨_, rfl⟩ kw_1028 (by show cd.2.2.1 < 1000000; omega) dL_law_9 (by rw [r1, r2]; exact ⟨Nat.le_of_ble_eq_true rfl, Nat.le_of_ble_eq_true rfl⟩) (fun x2 H3 h3 => ?_)
  have wz : ax_z (CW cd Ad Jd) = 1 := y1
  rw [wz] at h3
  obtain ⟨a4, ha4⟩ : ∃ a4 : Nat → Nat, a4 = fun k => if k = 1 then x2 else a3 k := ⟨_, rfl⟩
  rw [← ha4] at h3
  have g0 : a4 0 = a3 0 := by rw [ha4]; exact if_neg (by decide)
  have g1 : a4 1 = x2 := by rw [ha4]; exact if_pos rfl
  clear ha4
  refine lv_dup hx hb dL_law_12 rfl ?_
  refine lv_aload_n hx hb dL_law_13 rfl (lv_at hls 0 rfl) ?_
  rw [← g0, ← g1]
  have hsc : ax_scr a4 = ax_scr (cx_ad Γ) := ax_scr_at h3.1
  have nz : ax_nc (ax_new (CW cd Ad Jd) 13 16) = 2 ∧ ax_ns (ax_new (CW cd Ad Jd) 13 16) = 18 ∧ ax_z (ax_new (CW cd Ad Jd) 13 16) = 2 := ⟨by show cd.2.2.2.1 + 1 = 2; omega, by show cd.2.2.2.2 + 16 = 18; omega, by show cd.2.2.1 + 1 = 2; omega⟩
  have tz : ax_nc (CW c1 A1 J1) ≤ 1000 ∧ ax_ns (CW c1 A1 J1) ≤ 10000 := ⟨w2, w3⟩
  refine zz_I C.1 h3 [.ref 0] (x := 1) (rest := [.ref (a4 1)]) (τ := CW c1 A1 J1) (zz_metS (ctX19_init hst 1 0) (by rw [hsc]; exact e3) H3.size) vlL_312 rfl kw_1114 rfl ⟨Or.inl (by show 1 < ax_z (ax_new (CW cd Ad Jd) 13 16); omega), Or.inl (by show 0 < ax_z (ax_new (CW cd Ad Jd) 13 16); omega), trivial⟩ hls.1 (hR _ _ (by decide)) (Nat.le_of_ble_eq_true rfl) (by
    rw [r1, r2]
    omega) dL_law_14 (fun a5 H4 locs4 had h4 => ?_)
  have g2 : a5 0 = a4 0 := had 0 (Or.inl (by omega))
  have g3 : a5 1 = a4 1 := had 1 (Or.inl (by omega))
  rw [← g3]
  rw [← g0, ← g2] at hls
  refine W.widen (k := 1002) (n := 10018) (by omega) (by omega) ?_
  clear g0 g1 g2 g3 h3 had hsc h2
  refine lv_astore_n (lv' := [(2, .ref (a5 1)), (1, .ref (a5 0)), (0, .ref (cx_ad Γ 5000000))]) hx hb dL_law_17 rfl hls (h6 _ (by decide)) rfl (fun ls hls => ?_)
  -- the class's object
  refine zz_new C.1 h4.swap (C0 := RX6) ax_DF10 ⟨_, rfl⟩ kw_1116 (by decide) dL_law_18 (by rw [r1, r2]; exact ⟨Nat.le_of_ble_eq_true rfl, Nat.le_of_ble_eq_true rfl⟩) (fun x3 H5 h5 => ?_)
  obtain ⟨a6, ha6⟩ : ∃ a6 : Nat → Nat, a6 = fun k => if k = ax_z zz_w then x3 else cx_ad Γ k := ⟨_, rfl⟩
  rw [← ha6] at h5
  have g0 : a6 0 = x3 := by rw [ha6]; exact if_pos rfl
  clear ha6
  refine lv_dup hx hb dL_law_21 rfl ?_
  rw [← g0]
  have tc : ax_nc (CW c A J) ≤ 1000 ∧ ax_ns (CW c A J) ≤ 100000 := ⟨z2, z3⟩
  refine zz_I C.1 h5 [] (x := 0) (rest := [.ref (a6 0)]) (τ := CW c A J) (zz_met (ctX6_init hst 0) e1 H5.size) vlL_315 rfl kw_1118 rfl ⟨Or.inl (by decide), trivial⟩ hls.1 (hR _ _ (by decide)) (Nat.le_of_ble_eq_true rfl) (by
    rw [r1, r2]
    omega) dL_law_22 (fun a7 H6 locs6 had h6' => ?_)
  have g1 : a7 0 = a6 0 := had 0 (Or.inl (by decide))
  rw [← g1]
  refine W.widen (k := 20000) (n := 200000) (by omega) (by omega) ?_
  clear g0 g1 h5 had h4
  refine lv_astore_n (lv' := [(3, .ref (a7 0)), (2, .ref (a5 1)), (1, .ref (a5 0)), (0, .ref (cx_ad Γ 5000000))]) hx hb dL_law_25 rfl hls (h6 _ (by decide)) rfl (fun ls hls => ?_)
  -- the two worlds are one
  obtain ⟨hRep, hcl⟩ := zz_mg h6' z1 w1
  obtain ⟨σ, n1, n2, eL⟩ := hL
  have hok := (oL_law_26 C.1 C.2.2.1 C.2.1.1 ⟨C.2.1.2.1, C.2.1.2.2.1⟩ C.2.2.2 rfl 455 456 0 (CW (mgC c c1) (mgA A A1) (mgJ J J1)) _ eL).2
  have m1 : ax_nc (ax_use σ (410000 - ax_nc σ) (2020000 - ax_ns σ)) = ax_nc σ + (410000 - ax_nc σ) := rfl
  have m2 : ax_ns (ax_use σ (410000 - ax_nc σ) (2020000 - ax_ns σ)) = ax_ns σ + (2020000 - ax_ns σ) := rfl
  have v0 : ax_nc (cx_w Γ) = 0 ∧ ax_ns (cx_w Γ) = 0 ∧ ax_z (cx_w Γ) = 0 := by rw [C.2.1.2.2.2]; exact ⟨rfl, rfl, rfl⟩
  have zm : ax_z (CW (mgC c c1) (mgA A A1) (mgJ J J1)) = 455 + c1.2.2.1 := rfl
  have hw := hok (zz_am Γ a7 a5) H6 locs6 ls (by omega) (by omega) (by omega) (fun k hk => (if_neg (by omega)).trans (if_neg (by omega))) hRep h6'.2.2.2.2.2.1 (by
    have := lv_sub hls [2, 1, 0] rfl
    exact this) hcl (fun q hq => by
    rcases List.mem_cons.mp hq with rfl | hq
    · exact Or.inl (by show 455 < ax_z (CW (mgC c c1) (mgA A A1) (mgJ J J1)); omega)
    rcases List.mem_cons.mp hq with rfl | hq
    · exact Or.inl (by show 456 < ax_z (CW (mgC c c1) (mgA A A1) (mgJ J J1)); omega)
    rcases List.mem_cons.mp hq with rfl | hq
    · exact Or.inl (by show 0 < ax_z (CW (mgC c c1) (mgA A A1) (mgJ J J1)); omega)
    exact absurd hq List.not_mem_nil) trivial
  have eR : cx_R Γ (.inl (some (.int 1)), ax_use σ (410000 - ax_nc σ) (2020000 - ax_ns σ)) = cx_R Γ zz_r := by
    show ({ frames := _, cells := ax_nc (ax_use σ (410000 - ax_nc σ) (2020000 - ax_ns σ)) - ax_nc (cx_w Γ), slots := ax_ns (ax_use σ (410000 - ax_nc σ) (2020000 - ax_ns σ)) - ax_ns (cx_w Γ), locals := _ } : Room) = { frames := _, cells := 410000 - ax_nc (cx_w Γ), slots := 2020000 - ax_ns (cx_w Γ), locals := _ }
    rw [show ax_nc (ax_use σ (410000 - ax_nc σ) (2020000 - ax_ns σ)) = 410000 by omega, show ax_ns (ax_use σ (410000 - ax_nc σ) (2020000 - ax_ns σ)) = 2020000 by omega]
  rw [eR, show ax_nc (CW (mgC c c1) (mgA A A1) (mgJ J J1)) - ax_nc (cx_w Γ) = 20000 by rw [v0.1]; rfl, show ax_ns (CW (mgC c c1) (mgA A A1) (mgJ J J1)) - ax_ns (cx_w Γ) = 200000 by rw [v0.2.1]; rfl] at hw
  intro T hT X
  obtain ⟨t, k1, k2⟩ := hw T hT X
  exact ⟨t, k1, hQ _ rfl (by show ax_nc (ax_use σ (410000 - ax_nc σ) (2020000 - ax_ns σ)) = 410000; omega) (by show ax_ns (ax_use σ (410000 - ax_nc σ) (2020000 - ax_ns σ)) = 2020000; omega) t k2⟩
