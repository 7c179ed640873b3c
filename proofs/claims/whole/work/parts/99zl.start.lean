set_option maxHeartbeats 4000000 in
/-- THE LAW: from the entry, for every script of at most 3072 ints, it comes to its end with true -/
theorem whole_start {p : Program} {e : Env} {s : State} {m : MethodId} {below : List Frame} {meth : Method} {c : Code} (l : Launch) (hflags : l.flags = flags0) {b L : Nat} {xs : Nat → Int32} (hL : L ≤ 3072) (C0 : lw_At p s m meth c b L xs) : W p l e room_1 s m #[Value.ref b] below meth c s.heap [] 0 0 (lw_Z below #[Value.ref b] s) (entryFrame m ([Value.ref b] : List Value).toArray 9) := by
  obtain ⟨hx, hb, hr, hml, hown, hts, hX, hbl, hlocks, hgv⟩ := C0
  have hst : l.stackTraces = false := by
    show (!l.flags.contains noTraceFlag) = false
    rw [hflags]
    decide +kernel
  obtain ⟨D, dA, hK⟩ := zk_K hts
  obtain ⟨ad0, hKF⟩ := zk_KF hts (flat_of_before _ hgv)
  have hA0 : ∀ q, va_A (ax_ws dA ad0 zz_w) s.heap.size q → s.heap.size ≤ q := by
    intro q hq
    rcases hq with ⟨k, e, h⟩ | h
    · exact absurd (ax_ws_inv h).1 (Nat.not_lt_zero _)
    · exact h
  have C : zz_C (p, l, e, s, m, #[Value.ref b], below, meth, c, D, dA, s.heap.size, zz_w, ad0, 9, 2048, 84000) b L xs :=
    ⟨⟨hx, hb, hown, ax_ALLof hts, hK, hr, hlocks, hml, hst, hKF, Nat.le_refl _, hA0⟩, ⟨rfl, rfl, rfl, rfl⟩, hX, hbl, fun h => absurd (hA0 _ h) (Nat.not_le.mpr hbl)⟩
  have hl := lv_entry ([.ref b]) (n := 9) (Nat.le_of_ble_eq_true rfl)
  rw [lg_entry_eq]
  generalize (lg_sl ([.ref b]) ++ List.replicate (9 - (lg_sl ([.ref b])).length) Slot.unset).toArray = ls at hl ⊢
  have hl : lv_has ls 9 [(0, .ref b)] := hl
  refine zz_walk C hL (fun lv σ1 σ2 hc a1 a2 H locs ls h1 h2 h3 h4 => ?_) hl
  refine lv_iconst (v := 1) hx hb dL_law_3410 (by decide) ?_
  refine va_forget (fun q hq => hA0 _ (h1.2.2.2.2.2.1.2.2 q hq)) ?_
  refine W.widen (k := 601024) (n := 7293033) hc.1 hc.2 ?_
  refine W.base ?_
  exact lw_ret (Drawn.sameBut.refl s.drawn lw_cs) hx hb hr hlocks dL_law_3411
