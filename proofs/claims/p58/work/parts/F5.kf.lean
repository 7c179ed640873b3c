/-! THE START: constants, statics, classes, out of the claim's premises -/
def zk_T : Jvm.Cond := Jvm.Cond.and given_1 narrow_1
theorem zk_lo {s : State} {A : Array Value} {own tx : String} {k : Nat} (h1 : (Cond.stringRef own k tx).before A s = true) (h2 : (Cond.exactly (.string own k) "java/lang/String").before A s = true) : ∃ a : Nat, vk_R own k tx a s := by
  obtain ⟨a, c, cA, kA, q1, -⟩ := Cond.exactly_spec (args := A) (first := s) (o := none) (s := s) (idx := []) (t := .string own k) (cls := "java/lang/String") h2
  exact ⟨a, vk_R.of h1 q1⟩
theorem zk_hi {s : State} {A : Array Value} {own tx : String} {k n B0 : Nat} {byt : List Int32} (hn : n = byt.length ∧ n < 2 ^ 31) (h1 : (Cond.stringRef own k tx).before A s = true) (h2 : (Cond.exactly (.string own k) "java/lang/String").before A s = true) (h3 : (Cond.eq (.field (.string own k) "java/lang/String" "coder" "B") (.int 0)).before A s = true) (h4 : (Cond.arrayOf (.field (.string own k) "java/lang/String" "value" "[B") .byte).before A s = true) (h5 : (Cond.eq (.length (.field (.string own k) "java/lang/String" "value" "[B")) (.int (Int32.ofNat n))).before A s = true)
    (h6 : ∀ j : Nat, j < n → (Cond.eq (.elem (.field (.string own k) "java/lang/String" "value" "[B") (.int (Int32.ofNat j))) (.int (byt.getD j 0))).before A s = true) (hA : ∀ a : Nat, a < s.heap.size → ¬ B0 ≤ a) : ∃ q : Nat × Nat, vk_R own k tx q.1 s ∧ ax_Str byt q.1 q.2 (fun q => B0 ≤ q) s s.heap := by
  have e0 : ∀ i : Nat, i < 1 → i = 0 := fun i h => by omega
  obtain ⟨adK, adV, hS, hK⟩ := vk_Sof (args := A) (s := s) (N := 1) (tm := fun _ => .string own k) (len := [n]) (byt := [byt]) (A := fun q => B0 ≤ q) (fun i hi => by rw [e0 i hi]; exact hn.2) (fun i _ => h2) (fun i _ => h3) (fun i _ => h4) (fun i hi => by rw [e0 i hi]; exact h5) (fun i hi => by rw [e0 i hi]; exact h6) (fun i j hi hj hne => absurd ((e0 i hi).trans (e0 j hj).symm) hne) hA
  obtain ⟨g1, g2, g3, g4⟩ := hS.1 0 (by omega)
  refine ⟨(adK 0, adV 0), vk_R.of h1 (hK 0 (by omega)), g1, g2, g3, ?_⟩
  have g5 : va_T .byte (adV 0) n (fun j => .int (byt.getD j 0)) (fun q => B0 ≤ q) s s.heap := g4
  rw [hn.1] at g5
  exact g5
section ZKF
variable {s : State} {b : Nat}
theorem zk_out (a : Nat) (h : a < s.heap.size) : ¬ s.heap.size ≤ a := Nat.not_le.mpr h
def zk_S (s : State) (i : Nat) : Prop := ∃ q : Nat × Nat, ∀ x : String × Nat × String, ax_strs[i]? = some x → vk_R x.1 x.2.1 x.2.2 q.1 s ∧ (26 ≤ i → ax_Str (ax_byt i) q.1 q.2 (fun q => s.heap.size ≤ q) s s.heap)
theorem zk_s0 (hts : ∀ w ∈ lw_tbl, w.before #[Value.ref b] s = true) (hf : ∀ w ∈ flatC zk_T, w.before #[Value.ref b] s = true) : zk_S s 0 := by
  obtain ⟨a, h⟩ := zk_lo (own := "ChaseLocker") (k := 75) (tx := "there are not so many bytes in the buffer") (hts (.stringRef "ChaseLocker" 75 "there are not so many bytes in the buffer") (List.mem_append_right _ (List.mem_of_getElem? (i := 759) (by decide +kernel)))) (hf _ (List.mem_of_getElem? (i := 348) (by decide +kernel)))
  refine ⟨(a, 0), fun x hx => ?_⟩
  have hx : some (("ChaseLocker", 75, "there are not so many bytes in the buffer") : String × Nat × String) = some x := hx
  cases hx
  exact ⟨h, fun h => absurd h (by decide)⟩
theorem zk_s1 (hts : ∀ w ∈ lw_tbl, w.before #[Value.ref b] s = true) (hf : ∀ w ∈ flatC zk_T, w.before #[Value.ref b] s = true) : zk_S s 1 := by
  obtain ⟨a, h⟩ := zk_lo (own := "ChaseLocker") (k := 86) (tx := "the text has an error") (hts (.stringRef "ChaseLocker" 86 "the text has an error") (List.mem_append_right _ (List.mem_of_getElem? (i := 906) (by decide +kernel)))) (hf _ (List.mem_of_getElem? (i := 435) (by decide +kernel)))
  refine ⟨(a, 0), fun x hx => ?_⟩
  have hx : some (("ChaseLocker", 86, "the text has an error") : String × Nat × String) = some x := hx
  cases hx
  exact ⟨h, fun h => absurd h (by decide)⟩
theorem zk_s2 (hts : ∀ w ∈ lw_tbl, w.before #[Value.ref b] s = true) (hf : ∀ w ∈ flatC zk_T, w.before #[Value.ref b] s = true) : zk_S s 2 := by
  obtain ⟨a, h⟩ := zk_lo (own := "ChaseLocker") (k := 150) (tx := "there is no such count") (hts (.stringRef "ChaseLocker" 150 "there is no such count") (List.mem_append_right _ (List.mem_of_getElem? (i := 986) (by decide +kernel)))) (hf _ (List.mem_of_getElem? (i := 482) (by decide +kernel)))
  refine ⟨(a, 0), fun x hx => ?_⟩
  have hx : some (("ChaseLocker", 150, "there is no such count") : String × Nat × String) = some x := hx
  cases hx
  exact ⟨h, fun h => absurd h (by decide)⟩
theorem zk_s3 (hts : ∀ w ∈ lw_tbl, w.before #[Value.ref b] s = true) (hf : ∀ w ∈ flatC zk_T, w.before #[Value.ref b] s = true) : zk_S s 3 := by
  obtain ⟨a, h⟩ := zk_lo (own := "ChaseLocker") (k := 170) (tx := "there is no such setting") (hts (.stringRef "ChaseLocker" 170 "there is no such setting") (List.mem_append_right _ (List.mem_of_getElem? (i := 991) (by decide +kernel)))) (hf _ (List.mem_of_getElem? (i := 508) (by decide +kernel)))
  refine ⟨(a, 0), fun x hx => ?_⟩
  have hx : some (("ChaseLocker", 170, "there is no such setting") : String × Nat × String) = some x := hx
  cases hx
  exact ⟨h, fun h => absurd h (by decide)⟩
theorem zk_s4 (hts : ∀ w ∈ lw_tbl, w.before #[Value.ref b] s = true) (hf : ∀ w ∈ flatC zk_T, w.before #[Value.ref b] s = true) : zk_S s 4 := by
  obtain ⟨a, h⟩ := zk_lo (own := "ChaseLocker") (k := 206) (tx := "there is no such property of a row") (hts (.stringRef "ChaseLocker" 206 "there is no such property of a row") (List.mem_append_right _ (List.mem_of_getElem? (i := 1007) (by decide +kernel)))) (hf _ (List.mem_of_getElem? (i := 560) (by decide +kernel)))
  refine ⟨(a, 0), fun x hx => ?_⟩
  have hx : some (("ChaseLocker", 206, "there is no such property of a row") : String × Nat × String) = some x := hx
  cases hx
  exact ⟨h, fun h => absurd h (by decide)⟩
theorem zk_s5 (hts : ∀ w ∈ lw_tbl, w.before #[Value.ref b] s = true) (hf : ∀ w ∈ flatC zk_T, w.before #[Value.ref b] s = true) : zk_S s 5 := by
  obtain ⟨a, h⟩ := zk_lo (own := "ChaseLocker") (k := 236) (tx := "there is no such property of a kind") (hts (.stringRef "ChaseLocker" 236 "there is no such property of a kind") (List.mem_append_right _ (List.mem_of_getElem? (i := 1041) (by decide +kernel)))) (hf _ (List.mem_of_getElem? (i := 649) (by decide +kernel)))
  refine ⟨(a, 0), fun x hx => ?_⟩
  have hx : some (("ChaseLocker", 236, "there is no such property of a kind") : String × Nat × String) = some x := hx
  cases hx
  exact ⟨h, fun h => absurd h (by decide)⟩
theorem zk_s6 (hts : ∀ w ∈ lw_tbl, w.before #[Value.ref b] s = true) (hf : ∀ w ∈ flatC zk_T, w.before #[Value.ref b] s = true) : zk_S s 6 := by
  obtain ⟨a, h⟩ := zk_lo (own := "ChaseLocker") (k := 259) (tx := "there is no such part of a choice") (hts (.stringRef "ChaseLocker" 259 "there is no such part of a choice") (List.mem_append_right _ (List.mem_of_getElem? (i := 1046) (by decide +kernel)))) (hf _ (List.mem_of_getElem? (i := 688) (by decide +kernel)))
  refine ⟨(a, 0), fun x hx => ?_⟩
  have hx : some (("ChaseLocker", 259, "there is no such part of a choice") : String × Nat × String) = some x := hx
  cases hx
  exact ⟨h, fun h => absurd h (by decide)⟩
theorem zk_s7 (hts : ∀ w ∈ lw_tbl, w.before #[Value.ref b] s = true) (hf : ∀ w ∈ flatC zk_T, w.before #[Value.ref b] s = true) : zk_S s 7 := by
  obtain ⟨a, h⟩ := zk_lo (own := "ChaseLocker") (k := 332) (tx := "the greatest length is out of range") (hts (.stringRef "ChaseLocker" 332 "the greatest length is out of range") (List.mem_append_right _ (List.mem_of_getElem? (i := 1170) (by decide +kernel)))) (hf _ (List.mem_of_getElem? (i := 800) (by decide +kernel)))
  refine ⟨(a, 0), fun x hx => ?_⟩
  have hx : some (("ChaseLocker", 332, "the greatest length is out of range") : String × Nat × String) = some x := hx
  cases hx
  exact ⟨h, fun h => absurd h (by decide)⟩
theorem zk_s8 (hts : ∀ w ∈ lw_tbl, w.before #[Value.ref b] s = true) (hf : ∀ w ∈ flatC zk_T, w.before #[Value.ref b] s = true) : zk_S s 8 := by
  obtain ⟨a, h⟩ := zk_lo (own := "ChaseLocker") (k := 340) (tx := "the number of impressions is out of range") (hts (.stringRef "ChaseLocker" 340 "the number of impressions is out of range") (List.mem_append_right _ (List.mem_of_getElem? (i := 1127) (by decide +kernel)))) (hf _ (List.mem_of_getElem? (i := 755) (by decide +kernel)))
  refine ⟨(a, 0), fun x hx => ?_⟩
  have hx : some (("ChaseLocker", 340, "the number of impressions is out of range") : String × Nat × String) = some x := hx
  cases hx
  exact ⟨h, fun h => absurd h (by decide)⟩
theorem zk_s9 (hts : ∀ w ∈ lw_tbl, w.before #[Value.ref b] s = true) (hf : ∀ w ∈ flatC zk_T, w.before #[Value.ref b] s = true) : zk_S s 9 := by
  obtain ⟨a, h⟩ := zk_lo (own := "ChaseLocker") (k := 376) (tx := "the block does not go in") (hts (.stringRef "ChaseLocker" 376 "the block does not go in") (List.mem_append_right _ (List.mem_of_getElem? (i := 1197) (by decide +kernel)))) (hf _ (List.mem_of_getElem? (i := 839) (by decide +kernel)))
  refine ⟨(a, 0), fun x hx => ?_⟩
  have hx : some (("ChaseLocker", 376, "the block does not go in") : String × Nat × String) = some x := hx
  cases hx
  exact ⟨h, fun h => absurd h (by decide)⟩
theorem zk_s10 (hts : ∀ w ∈ lw_tbl, w.before #[Value.ref b] s = true) (hf : ∀ w ∈ flatC zk_T, w.before #[Value.ref b] s = true) : zk_S s 10 := by
  obtain ⟨a, h⟩ := zk_lo (own := "ChaseLocker") (k := 387) (tx := "the piece does not go in") (hts (.stringRef "ChaseLocker" 387 "the piece does not go in") (List.mem_append_right _ (List.mem_of_getElem? (i := 1222) (by decide +kernel)))) (hf _ (List.mem_of_getElem? (i := 867) (by decide +kernel)))
  refine ⟨(a, 0), fun x hx => ?_⟩
  have hx : some (("ChaseLocker", 387, "the piece does not go in") : String × Nat × String) = some x := hx
  cases hx
  exact ⟨h, fun h => absurd h (by decide)⟩
theorem zk_s11 (hts : ∀ w ∈ lw_tbl, w.before #[Value.ref b] s = true) (hf : ∀ w ∈ flatC zk_T, w.before #[Value.ref b] s = true) : zk_S s 11 := by
  obtain ⟨a, h⟩ := zk_lo (own := "ChaseLocker") (k := 397) (tx := "it is so already") (hts (.stringRef "ChaseLocker" 397 "it is so already") (List.mem_append_right _ (List.mem_of_getElem? (i := 1254) (by decide +kernel)))) (hf _ (List.mem_of_getElem? (i := 895) (by decide +kernel)))
  refine ⟨(a, 0), fun x hx => ?_⟩
  have hx : some (("ChaseLocker", 397, "it is so already") : String × Nat × String) = some x := hx
  cases hx
  exact ⟨h, fun h => absurd h (by decide)⟩
theorem zk_s12 (hts : ∀ w ∈ lw_tbl, w.before #[Value.ref b] s = true) (hf : ∀ w ∈ flatC zk_T, w.before #[Value.ref b] s = true) : zk_S s 12 := by
  obtain ⟨a, h⟩ := zk_lo (own := "ChaseLocker") (k := 399) (tx := "the quoin does not go in") (hts (.stringRef "ChaseLocker" 399 "the quoin does not go in") (List.mem_append_right _ (List.mem_of_getElem? (i := 1255) (by decide +kernel)))) (hf _ (List.mem_of_getElem? (i := 915) (by decide +kernel)))
  refine ⟨(a, 0), fun x hx => ?_⟩
  have hx : some (("ChaseLocker", 399, "the quoin does not go in") : String × Nat × String) = some x := hx
  cases hx
  exact ⟨h, fun h => absurd h (by decide)⟩
theorem zk_s13 (hts : ∀ w ∈ lw_tbl, w.before #[Value.ref b] s = true) (hf : ∀ w ∈ flatC zk_T, w.before #[Value.ref b] s = true) : zk_S s 13 := by
  obtain ⟨a, h⟩ := zk_lo (own := "ChaseLocker") (k := 409) (tx := "there is no quoin, or it can't be opened so") (hts (.stringRef "ChaseLocker" 409 "there is no quoin, or it can't be opened so") (List.mem_append_right _ (List.mem_of_getElem? (i := 1265) (by decide +kernel)))) (hf _ (List.mem_of_getElem? (i := 943) (by decide +kernel)))
  refine ⟨(a, 0), fun x hx => ?_⟩
  have hx : some (("ChaseLocker", 409, "there is no quoin, or it can't be opened so") : String × Nat × String) = some x := hx
  cases hx
  exact ⟨h, fun h => absurd h (by decide)⟩
theorem zk_s14 (hts : ∀ w ∈ lw_tbl, w.before #[Value.ref b] s = true) (hf : ∀ w ∈ flatC zk_T, w.before #[Value.ref b] s = true) : zk_S s 14 := by
  obtain ⟨a, h⟩ := zk_lo (own := "ChaseLocker") (k := 411) (tx := "the quoin would be too long") (hts (.stringRef "ChaseLocker" 411 "the quoin would be too long") (List.mem_append_right _ (List.mem_of_getElem? (i := 1266) (by decide +kernel)))) (hf _ (List.mem_of_getElem? (i := 990) (by decide +kernel)))
  refine ⟨(a, 0), fun x hx => ?_⟩
  have hx : some (("ChaseLocker", 411, "the quoin would be too long") : String × Nat × String) = some x := hx
  cases hx
  exact ⟨h, fun h => absurd h (by decide)⟩
theorem zk_s15 (hts : ∀ w ∈ lw_tbl, w.before #[Value.ref b] s = true) (hf : ∀ w ∈ flatC zk_T, w.before #[Value.ref b] s = true) : zk_S s 15 := by
  obtain ⟨a, h⟩ := zk_lo (own := "ChaseLocker") (k := 413) (tx := "there is no filling") (hts (.stringRef "ChaseLocker" 413 "there is no filling") (List.mem_append_right _ (List.mem_of_getElem? (i := 1271) (by decide +kernel)))) (hf _ (List.mem_of_getElem? (i := 1021) (by decide +kernel)))
  refine ⟨(a, 0), fun x hx => ?_⟩
  have hx : some (("ChaseLocker", 413, "there is no filling") : String × Nat × String) = some x := hx
  cases hx
  exact ⟨h, fun h => absurd h (by decide)⟩
theorem zk_s16 (hts : ∀ w ∈ lw_tbl, w.before #[Value.ref b] s = true) (hf : ∀ w ∈ flatC zk_T, w.before #[Value.ref b] s = true) : zk_S s 16 := by
  obtain ⟨a, h⟩ := zk_lo (own := "ChaseLocker") (k := 415) (tx := "the row has no quoin") (hts (.stringRef "ChaseLocker" 415 "the row has no quoin") (List.mem_append_right _ (List.mem_of_getElem? (i := 1287) (by decide +kernel)))) (hf _ (List.mem_of_getElem? (i := 1044) (by decide +kernel)))
  refine ⟨(a, 0), fun x hx => ?_⟩
  have hx : some (("ChaseLocker", 415, "the row has no quoin") : String × Nat × String) = some x := hx
  cases hx
  exact ⟨h, fun h => absurd h (by decide)⟩
theorem zk_s17 (hts : ∀ w ∈ lw_tbl, w.before #[Value.ref b] s = true) (hf : ∀ w ∈ flatC zk_T, w.before #[Value.ref b] s = true) : zk_S s 17 := by
  obtain ⟨a, h⟩ := zk_lo (own := "ChaseLocker") (k := 423) (tx := "so many can't be bought") (hts (.stringRef "ChaseLocker" 423 "so many can't be bought") (List.mem_append_right _ (List.mem_of_getElem? (i := 1314) (by decide +kernel)))) (hf _ (List.mem_of_getElem? (i := 1093) (by decide +kernel)))
  refine ⟨(a, 0), fun x hx => ?_⟩
  have hx : some (("ChaseLocker", 423, "so many can't be bought") : String × Nat × String) = some x := hx
  cases hx
  exact ⟨h, fun h => absurd h (by decide)⟩
theorem zk_s18 (hts : ∀ w ∈ lw_tbl, w.before #[Value.ref b] s = true) (hf : ∀ w ∈ flatC zk_T, w.before #[Value.ref b] s = true) : zk_S s 18 := by
  obtain ⟨a, h⟩ := zk_lo (own := "ChaseLocker") (k := 430) (tx := "there is no change to undo") (hts (.stringRef "ChaseLocker" 430 "there is no change to undo") (List.mem_append_right _ (List.mem_of_getElem? (i := 1319) (by decide +kernel)))) (hf _ (List.mem_of_getElem? (i := 1120) (by decide +kernel)))
  refine ⟨(a, 0), fun x hx => ?_⟩
  have hx : some (("ChaseLocker", 430, "there is no change to undo") : String × Nat × String) = some x := hx
  cases hx
  exact ⟨h, fun h => absurd h (by decide)⟩
theorem zk_s19 (hts : ∀ w ∈ lw_tbl, w.before #[Value.ref b] s = true) (hf : ∀ w ∈ flatC zk_T, w.before #[Value.ref b] s = true) : zk_S s 19 := by
  obtain ⟨a, h⟩ := zk_lo (own := "ChaseLocker") (k := 436) (tx := "nothing is saved there") (hts (.stringRef "ChaseLocker" 436 "nothing is saved there") (List.mem_append_right _ (List.mem_of_getElem? (i := 1332) (by decide +kernel)))) (hf _ (List.mem_of_getElem? (i := 1150) (by decide +kernel)))
  refine ⟨(a, 0), fun x hx => ?_⟩
  have hx : some (("ChaseLocker", 436, "nothing is saved there") : String × Nat × String) = some x := hx
  cases hx
  exact ⟨h, fun h => absurd h (by decide)⟩
theorem zk_s20 (hts : ∀ w ∈ lw_tbl, w.before #[Value.ref b] s = true) (hf : ∀ w ∈ flatC zk_T, w.before #[Value.ref b] s = true) : zk_S s 20 := by
  obtain ⟨a, h⟩ := zk_lo (own := "ChaseLocker") (k := 438) (tx := "no text was loaded") (hts (.stringRef "ChaseLocker" 438 "no text was loaded") (List.mem_append_right _ (List.mem_of_getElem? (i := 958) (by decide +kernel)))) (hf _ (List.mem_of_getElem? (i := 460) (by decide +kernel)))
  refine ⟨(a, 0), fun x hx => ?_⟩
  have hx : some (("ChaseLocker", 438, "no text was loaded") : String × Nat × String) = some x := hx
  cases hx
  exact ⟨h, fun h => absurd h (by decide)⟩
theorem zk_s21 (hts : ∀ w ∈ lw_tbl, w.before #[Value.ref b] s = true) (hf : ∀ w ∈ flatC zk_T, w.before #[Value.ref b] s = true) : zk_S s 21 := by
  obtain ⟨a, h⟩ := zk_lo (own := "ChaseLocker") (k := 440) (tx := "there is no such row") (hts (.stringRef "ChaseLocker" 440 "there is no such row") (List.mem_append_right _ (List.mem_of_getElem? (i := 1000) (by decide +kernel)))) (hf _ (List.mem_of_getElem? (i := 536) (by decide +kernel)))
  refine ⟨(a, 0), fun x hx => ?_⟩
  have hx : some (("ChaseLocker", 440, "there is no such row") : String × Nat × String) = some x := hx
  cases hx
  exact ⟨h, fun h => absurd h (by decide)⟩
theorem zk_s22 (hts : ∀ w ∈ lw_tbl, w.before #[Value.ref b] s = true) (hf : ∀ w ∈ flatC zk_T, w.before #[Value.ref b] s = true) : zk_S s 22 := by
  obtain ⟨a, h⟩ := zk_lo (own := "ChaseLocker") (k := 442) (tx := "there is no such kind") (hts (.stringRef "ChaseLocker" 442 "there is no such kind") (List.mem_append_right _ (List.mem_of_getElem? (i := 1036) (by decide +kernel)))) (hf _ (List.mem_of_getElem? (i := 624) (by decide +kernel)))
  refine ⟨(a, 0), fun x hx => ?_⟩
  have hx : some (("ChaseLocker", 442, "there is no such kind") : String × Nat × String) = some x := hx
  cases hx
  exact ⟨h, fun h => absurd h (by decide)⟩
theorem zk_s23 (hts : ∀ w ∈ lw_tbl, w.before #[Value.ref b] s = true) (hf : ∀ w ∈ flatC zk_T, w.before #[Value.ref b] s = true) : zk_S s 23 := by
  obtain ⟨a, h⟩ := zk_lo (own := "ChaseLocker") (k := 444) (tx := "there is no such index") (hts (.stringRef "ChaseLocker" 444 "there is no such index") (List.mem_append_right _ (List.mem_of_getElem? (i := 1015) (by decide +kernel)))) (hf _ (List.mem_of_getElem? (i := 598) (by decide +kernel)))
  refine ⟨(a, 0), fun x hx => ?_⟩
  have hx : some (("ChaseLocker", 444, "there is no such index") : String × Nat × String) = some x := hx
  cases hx
  exact ⟨h, fun h => absurd h (by decide)⟩
theorem zk_s24 (hts : ∀ w ∈ lw_tbl, w.before #[Value.ref b] s = true) (hf : ∀ w ∈ flatC zk_T, w.before #[Value.ref b] s = true) : zk_S s 24 := by
  obtain ⟨a, h⟩ := zk_lo (own := "ChaseLocker") (k := 446) (tx := "the length is out of range") (hts (.stringRef "ChaseLocker" 446 "the length is out of range") (List.mem_append_right _ (List.mem_of_getElem? (i := 1109) (by decide +kernel)))) (hf _ (List.mem_of_getElem? (i := 725) (by decide +kernel)))
  refine ⟨(a, 0), fun x hx => ?_⟩
  have hx : some (("ChaseLocker", 446, "the length is out of range") : String × Nat × String) = some x := hx
  cases hx
  exact ⟨h, fun h => absurd h (by decide)⟩
theorem zk_s25 (hts : ∀ w ∈ lw_tbl, w.before #[Value.ref b] s = true) (hf : ∀ w ∈ flatC zk_T, w.before #[Value.ref b] s = true) : zk_S s 25 := by
  obtain ⟨a, h⟩ := zk_lo (own := "ChaseLocker") (k := 448) (tx := "so many can't be made") (hts (.stringRef "ChaseLocker" 448 "so many can't be made") (List.mem_append_right _ (List.mem_of_getElem? (i := 1296) (by decide +kernel)))) (hf _ (List.mem_of_getElem? (i := 1068) (by decide +kernel)))
  refine ⟨(a, 0), fun x hx => ?_⟩
  have hx : some (("ChaseLocker", 448, "so many can't be made") : String × Nat × String) = some x := hx
  cases hx
  exact ⟨h, fun h => absurd h (by decide)⟩
theorem zk_s26 (hts : ∀ w ∈ lw_tbl, w.before #[Value.ref b] s = true) (hf : ∀ w ∈ flatC zk_T, w.before #[Value.ref b] s = true) : zk_S s 26 := by
  have h6 : ∀ j : Nat, j < 5 → (flatC zk_T)[397 + j]? = some (Cond.eq (.elem (.field (.string "ChaseLocker$Reader" 78) "java/lang/String" "value" "[B") (.int (Int32.ofNat j))) (.int ((ax_byt 26).getD j 0))) := by decide +kernel
  obtain ⟨q, h⟩ := zk_hi (own := "ChaseLocker$Reader") (k := 78) (tx := "chase") (n := 5) (byt := ax_byt 26) (B0 := s.heap.size) (by decide) (hts (.stringRef "ChaseLocker$Reader" 78 "chase") (List.mem_append_right _ (List.mem_of_getElem? (i := 826) (by decide +kernel)))) (hf _ (List.mem_of_getElem? (i := 393) (by decide +kernel))) (hf _ (List.mem_of_getElem? (i := 394) (by decide +kernel))) (hf _ (List.mem_of_getElem? (i := 395) (by decide +kernel))) (hf _ (List.mem_of_getElem? (i := 396) (by decide +kernel))) (fun j hj => hf _ (List.mem_of_getElem? (h6 j hj))) zk_out
  refine ⟨q, fun x hx => ?_⟩
  have hx : some (("ChaseLocker$Reader", 78, "chase") : String × Nat × String) = some x := hx
  cases hx
  exact ⟨h.1, fun _ => h.2⟩
theorem zk_s27 (hts : ∀ w ∈ lw_tbl, w.before #[Value.ref b] s = true) (hf : ∀ w ∈ flatC zk_T, w.before #[Value.ref b] s = true) : zk_S s 27 := by
  have h6 : ∀ j : Nat, j < 5 → (flatC zk_T)[406 + j]? = some (Cond.eq (.elem (.field (.string "ChaseLocker$Reader" 103) "java/lang/String" "value" "[B") (.int (Int32.ofNat j))) (.int ((ax_byt 27).getD j 0))) := by decide +kernel
  obtain ⟨q, h⟩ := zk_hi (own := "ChaseLocker$Reader") (k := 103) (tx := "rules") (n := 5) (byt := ax_byt 27) (B0 := s.heap.size) (by decide) (hts (.stringRef "ChaseLocker$Reader" 103 "rules") (List.mem_append_right _ (List.mem_of_getElem? (i := 853) (by decide +kernel)))) (hf _ (List.mem_of_getElem? (i := 402) (by decide +kernel))) (hf _ (List.mem_of_getElem? (i := 403) (by decide +kernel))) (hf _ (List.mem_of_getElem? (i := 404) (by decide +kernel))) (hf _ (List.mem_of_getElem? (i := 405) (by decide +kernel))) (fun j hj => hf _ (List.mem_of_getElem? (h6 j hj))) zk_out
  refine ⟨q, fun x hx => ?_⟩
  have hx : some (("ChaseLocker$Reader", 103, "rules") : String × Nat × String) = some x := hx
  cases hx
  exact ⟨h.1, fun _ => h.2⟩
theorem zk_s28 (hts : ∀ w ∈ lw_tbl, w.before #[Value.ref b] s = true) (hf : ∀ w ∈ flatC zk_T, w.before #[Value.ref b] s = true) : zk_S s 28 := by
  have h6 : ∀ j : Nat, j < 4 → (flatC zk_T)[415 + j]? = some (Cond.eq (.elem (.field (.string "ChaseLocker$Reader" 114) "java/lang/String" "value" "[B") (.int (Int32.ofNat j))) (.int ((ax_byt 28).getD j 0))) := by decide +kernel
  obtain ⟨q, h⟩ := zk_hi (own := "ChaseLocker$Reader") (k := 114) (tx := "wood") (n := 4) (byt := ax_byt 28) (B0 := s.heap.size) (by decide) (hts (.stringRef "ChaseLocker$Reader" 114 "wood") (List.mem_append_right _ (List.mem_of_getElem? (i := 858) (by decide +kernel)))) (hf _ (List.mem_of_getElem? (i := 411) (by decide +kernel))) (hf _ (List.mem_of_getElem? (i := 412) (by decide +kernel))) (hf _ (List.mem_of_getElem? (i := 413) (by decide +kernel))) (hf _ (List.mem_of_getElem? (i := 414) (by decide +kernel))) (fun j hj => hf _ (List.mem_of_getElem? (h6 j hj))) zk_out
  refine ⟨q, fun x hx => ?_⟩
  have hx : some (("ChaseLocker$Reader", 114, "wood") : String × Nat × String) = some x := hx
  cases hx
  exact ⟨h.1, fun _ => h.2⟩
theorem zk_s29 (hts : ∀ w ∈ lw_tbl, w.before #[Value.ref b] s = true) (hf : ∀ w ∈ flatC zk_T, w.before #[Value.ref b] s = true) : zk_S s 29 := by
  have h6 : ∀ j : Nat, j < 5 → (flatC zk_T)[423 + j]? = some (Cond.eq (.elem (.field (.string "ChaseLocker$Reader" 124) "java/lang/String" "value" "[B") (.int (Int32.ofNat j))) (.int ((ax_byt 29).getD j 0))) := by decide +kernel
  obtain ⟨q, h⟩ := zk_hi (own := "ChaseLocker$Reader") (k := 124) (tx := "metal") (n := 5) (byt := ax_byt 29) (B0 := s.heap.size) (by decide) (hts (.stringRef "ChaseLocker$Reader" 124 "metal") (List.mem_append_right _ (List.mem_of_getElem? (i := 875) (by decide +kernel)))) (hf _ (List.mem_of_getElem? (i := 419) (by decide +kernel))) (hf _ (List.mem_of_getElem? (i := 420) (by decide +kernel))) (hf _ (List.mem_of_getElem? (i := 421) (by decide +kernel))) (hf _ (List.mem_of_getElem? (i := 422) (by decide +kernel))) (fun j hj => hf _ (List.mem_of_getElem? (h6 j hj))) zk_out
  refine ⟨q, fun x hx => ?_⟩
  have hx : some (("ChaseLocker$Reader", 124, "metal") : String × Nat × String) = some x := hx
  cases hx
  exact ⟨h.1, fun _ => h.2⟩
theorem zk_s30 (hts : ∀ w ∈ lw_tbl, w.before #[Value.ref b] s = true) (hf : ∀ w ∈ flatC zk_T, w.before #[Value.ref b] s = true) : zk_S s 30 := by
  have h6 : ∀ j : Nat, j < 3 → (flatC zk_T)[432 + j]? = some (Cond.eq (.elem (.field (.string "ChaseLocker$Reader" 126) "java/lang/String" "value" "[B") (.int (Int32.ofNat j))) (.int ((ax_byt 30).getD j 0))) := by decide +kernel
  obtain ⟨q, h⟩ := zk_hi (own := "ChaseLocker$Reader") (k := 126) (tx := "row") (n := 3) (byt := ax_byt 30) (B0 := s.heap.size) (by decide) (hts (.stringRef "ChaseLocker$Reader" 126 "row") (List.mem_append_right _ (List.mem_of_getElem? (i := 876) (by decide +kernel)))) (hf _ (List.mem_of_getElem? (i := 428) (by decide +kernel))) (hf _ (List.mem_of_getElem? (i := 429) (by decide +kernel))) (hf _ (List.mem_of_getElem? (i := 430) (by decide +kernel))) (hf _ (List.mem_of_getElem? (i := 431) (by decide +kernel))) (fun j hj => hf _ (List.mem_of_getElem? (h6 j hj))) zk_out
  refine ⟨q, fun x hx => ?_⟩
  have hx : some (("ChaseLocker$Reader", 126, "row") : String × Nat × String) = some x := hx
  cases hx
  exact ⟨h.1, fun _ => h.2⟩
theorem zk_s31 (hts : ∀ w ∈ lw_tbl, w.before #[Value.ref b] s = true) (hf : ∀ w ∈ flatC zk_T, w.before #[Value.ref b] s = true) : zk_S s 31 := by
  have h6 : ∀ j : Nat, j < 4 → (flatC zk_T)[415 + j]? = some (Cond.eq (.elem (.field (.string "ChaseLocker$Reader" 114) "java/lang/String" "value" "[B") (.int (Int32.ofNat j))) (.int ((ax_byt 31).getD j 0))) := by decide +kernel
  obtain ⟨q, h⟩ := zk_hi (own := "ChaseLocker$Reader") (k := 114) (tx := "wood") (n := 4) (byt := ax_byt 31) (B0 := s.heap.size) (by decide) (hts (.stringRef "ChaseLocker$Reader" 114 "wood") (List.mem_append_right _ (List.mem_of_getElem? (i := 858) (by decide +kernel)))) (hf _ (List.mem_of_getElem? (i := 411) (by decide +kernel))) (hf _ (List.mem_of_getElem? (i := 412) (by decide +kernel))) (hf _ (List.mem_of_getElem? (i := 413) (by decide +kernel))) (hf _ (List.mem_of_getElem? (i := 414) (by decide +kernel))) (fun j hj => hf _ (List.mem_of_getElem? (h6 j hj))) zk_out
  refine ⟨q, fun x hx => ?_⟩
  have hx : some (("ChaseLocker$Reader", 114, "wood") : String × Nat × String) = some x := hx
  cases hx
  exact ⟨h.1, fun _ => h.2⟩
theorem zk_s32 (hts : ∀ w ∈ lw_tbl, w.before #[Value.ref b] s = true) (hf : ∀ w ∈ flatC zk_T, w.before #[Value.ref b] s = true) : zk_S s 32 := by
  have h6 : ∀ j : Nat, j < 5 → (flatC zk_T)[423 + j]? = some (Cond.eq (.elem (.field (.string "ChaseLocker$Reader" 124) "java/lang/String" "value" "[B") (.int (Int32.ofNat j))) (.int ((ax_byt 32).getD j 0))) := by decide +kernel
  obtain ⟨q, h⟩ := zk_hi (own := "ChaseLocker$Reader") (k := 124) (tx := "metal") (n := 5) (byt := ax_byt 32) (B0 := s.heap.size) (by decide) (hts (.stringRef "ChaseLocker$Reader" 124 "metal") (List.mem_append_right _ (List.mem_of_getElem? (i := 875) (by decide +kernel)))) (hf _ (List.mem_of_getElem? (i := 419) (by decide +kernel))) (hf _ (List.mem_of_getElem? (i := 420) (by decide +kernel))) (hf _ (List.mem_of_getElem? (i := 421) (by decide +kernel))) (hf _ (List.mem_of_getElem? (i := 422) (by decide +kernel))) (fun j hj => hf _ (List.mem_of_getElem? (h6 j hj))) zk_out
  refine ⟨q, fun x hx => ?_⟩
  have hx : some (("ChaseLocker$Reader", 124, "metal") : String × Nat × String) = some x := hx
  cases hx
  exact ⟨h.1, fun _ => h.2⟩
theorem zk_s33 (hts : ∀ w ∈ lw_tbl, w.before #[Value.ref b] s = true) (hf : ∀ w ∈ flatC zk_T, w.before #[Value.ref b] s = true) : zk_S s 33 := by
  have h6 : ∀ j : Nat, j < 3 → (flatC zk_T)[432 + j]? = some (Cond.eq (.elem (.field (.string "ChaseLocker$Reader" 126) "java/lang/String" "value" "[B") (.int (Int32.ofNat j))) (.int ((ax_byt 33).getD j 0))) := by decide +kernel
  obtain ⟨q, h⟩ := zk_hi (own := "ChaseLocker$Reader") (k := 126) (tx := "row") (n := 3) (byt := ax_byt 33) (B0 := s.heap.size) (by decide) (hts (.stringRef "ChaseLocker$Reader" 126 "row") (List.mem_append_right _ (List.mem_of_getElem? (i := 876) (by decide +kernel)))) (hf _ (List.mem_of_getElem? (i := 428) (by decide +kernel))) (hf _ (List.mem_of_getElem? (i := 429) (by decide +kernel))) (hf _ (List.mem_of_getElem? (i := 430) (by decide +kernel))) (hf _ (List.mem_of_getElem? (i := 431) (by decide +kernel))) (fun j hj => hf _ (List.mem_of_getElem? (h6 j hj))) zk_out
  refine ⟨q, fun x hx => ?_⟩
  have hx : some (("ChaseLocker$Reader", 126, "row") : String × Nat × String) = some x := hx
  cases hx
  exact ⟨h.1, fun _ => h.2⟩
theorem zk_s34 (hts : ∀ w ∈ lw_tbl, w.before #[Value.ref b] s = true) (hf : ∀ w ∈ flatC zk_T, w.before #[Value.ref b] s = true) : zk_S s 34 := by
  have h6 : ∀ j : Nat, j < 5 → (flatC zk_T)[397 + j]? = some (Cond.eq (.elem (.field (.string "ChaseLocker$Reader" 78) "java/lang/String" "value" "[B") (.int (Int32.ofNat j))) (.int ((ax_byt 34).getD j 0))) := by decide +kernel
  obtain ⟨q, h⟩ := zk_hi (own := "ChaseLocker$Reader") (k := 78) (tx := "chase") (n := 5) (byt := ax_byt 34) (B0 := s.heap.size) (by decide) (hts (.stringRef "ChaseLocker$Reader" 78 "chase") (List.mem_append_right _ (List.mem_of_getElem? (i := 826) (by decide +kernel)))) (hf _ (List.mem_of_getElem? (i := 393) (by decide +kernel))) (hf _ (List.mem_of_getElem? (i := 394) (by decide +kernel))) (hf _ (List.mem_of_getElem? (i := 395) (by decide +kernel))) (hf _ (List.mem_of_getElem? (i := 396) (by decide +kernel))) (fun j hj => hf _ (List.mem_of_getElem? (h6 j hj))) zk_out
  refine ⟨q, fun x hx => ?_⟩
  have hx : some (("ChaseLocker$Reader", 78, "chase") : String × Nat × String) = some x := hx
  cases hx
  exact ⟨h.1, fun _ => h.2⟩
theorem zk_s35 (hts : ∀ w ∈ lw_tbl, w.before #[Value.ref b] s = true) (hf : ∀ w ∈ flatC zk_T, w.before #[Value.ref b] s = true) : zk_S s 35 := by
  have h6 : ∀ j : Nat, j < 5 → (flatC zk_T)[406 + j]? = some (Cond.eq (.elem (.field (.string "ChaseLocker$Reader" 103) "java/lang/String" "value" "[B") (.int (Int32.ofNat j))) (.int ((ax_byt 35).getD j 0))) := by decide +kernel
  obtain ⟨q, h⟩ := zk_hi (own := "ChaseLocker$Reader") (k := 103) (tx := "rules") (n := 5) (byt := ax_byt 35) (B0 := s.heap.size) (by decide) (hts (.stringRef "ChaseLocker$Reader" 103 "rules") (List.mem_append_right _ (List.mem_of_getElem? (i := 853) (by decide +kernel)))) (hf _ (List.mem_of_getElem? (i := 402) (by decide +kernel))) (hf _ (List.mem_of_getElem? (i := 403) (by decide +kernel))) (hf _ (List.mem_of_getElem? (i := 404) (by decide +kernel))) (hf _ (List.mem_of_getElem? (i := 405) (by decide +kernel))) (fun j hj => hf _ (List.mem_of_getElem? (h6 j hj))) zk_out
  refine ⟨q, fun x hx => ?_⟩
  have hx : some (("ChaseLocker$Reader", 103, "rules") : String × Nat × String) = some x := hx
  cases hx
  exact ⟨h.1, fun _ => h.2⟩
theorem zk_s36 (hts : ∀ w ∈ lw_tbl, w.before #[Value.ref b] s = true) (hf : ∀ w ∈ flatC zk_T, w.before #[Value.ref b] s = true) : zk_S s 36 := by
  have h6 : ∀ j : Nat, j < 6 → (flatC zk_T)[301 + j]? = some (Cond.eq (.elem (.field (.string "ChaseLockerLaw$World" 9) "java/lang/String" "value" "[B") (.int (Int32.ofNat j))) (.int ((ax_byt 36).getD j 0))) := by decide +kernel
  obtain ⟨q, h⟩ := zk_hi (own := "ChaseLockerLaw$World") (k := 9) (tx := "chase ") (n := 6) (byt := ax_byt 36) (B0 := s.heap.size) (by decide) (hts (.stringRef "ChaseLockerLaw$World" 9 "chase ") (List.mem_append_right _ (List.mem_of_getElem? (i := 403) (by decide +kernel)))) (hf _ (List.mem_of_getElem? (i := 297) (by decide +kernel))) (hf _ (List.mem_of_getElem? (i := 298) (by decide +kernel))) (hf _ (List.mem_of_getElem? (i := 299) (by decide +kernel))) (hf _ (List.mem_of_getElem? (i := 300) (by decide +kernel))) (fun j hj => hf _ (List.mem_of_getElem? (h6 j hj))) zk_out
  refine ⟨q, fun x hx => ?_⟩
  have hx : some (("ChaseLockerLaw$World", 9, "chase ") : String × Nat × String) = some x := hx
  cases hx
  exact ⟨h.1, fun _ => h.2⟩
theorem zk_s37 (hts : ∀ w ∈ lw_tbl, w.before #[Value.ref b] s = true) (hf : ∀ w ∈ flatC zk_T, w.before #[Value.ref b] s = true) : zk_S s 37 := by
  have h6 : ∀ j : Nat, j < 7 → (flatC zk_T)[311 + j]? = some (Cond.eq (.elem (.field (.string "ChaseLockerLaw$World" 80) "java/lang/String" "value" "[B") (.int (Int32.ofNat j))) (.int ((ax_byt 37).getD j 0))) := by decide +kernel
  obtain ⟨q, h⟩ := zk_hi (own := "ChaseLockerLaw$World") (k := 80) (tx := ";rules ") (n := 7) (byt := ax_byt 37) (B0 := s.heap.size) (by decide) (hts (.stringRef "ChaseLockerLaw$World" 80 ";rules ") (List.mem_append_right _ (List.mem_of_getElem? (i := 585) (by decide +kernel)))) (hf _ (List.mem_of_getElem? (i := 307) (by decide +kernel))) (hf _ (List.mem_of_getElem? (i := 308) (by decide +kernel))) (hf _ (List.mem_of_getElem? (i := 309) (by decide +kernel))) (hf _ (List.mem_of_getElem? (i := 310) (by decide +kernel))) (fun j hj => hf _ (List.mem_of_getElem? (h6 j hj))) zk_out
  refine ⟨q, fun x hx => ?_⟩
  have hx : some (("ChaseLockerLaw$World", 80, ";rules ") : String × Nat × String) = some x := hx
  cases hx
  exact ⟨h.1, fun _ => h.2⟩
theorem zk_s38 (hts : ∀ w ∈ lw_tbl, w.before #[Value.ref b] s = true) (hf : ∀ w ∈ flatC zk_T, w.before #[Value.ref b] s = true) : zk_S s 38 := by
  have h6 : ∀ j : Nat, j < 7 → (flatC zk_T)[322 + j]? = some (Cond.eq (.elem (.field (.string "ChaseLockerLaw$World" 92) "java/lang/String" "value" "[B") (.int (Int32.ofNat j))) (.int ((ax_byt 38).getD j 0))) := by decide +kernel
  obtain ⟨q, h⟩ := zk_hi (own := "ChaseLockerLaw$World") (k := 92) (tx := ";metal ") (n := 7) (byt := ax_byt 38) (B0 := s.heap.size) (by decide) (hts (.stringRef "ChaseLockerLaw$World" 92 ";metal ") (List.mem_append_right _ (List.mem_of_getElem? (i := 591) (by decide +kernel)))) (hf _ (List.mem_of_getElem? (i := 318) (by decide +kernel))) (hf _ (List.mem_of_getElem? (i := 319) (by decide +kernel))) (hf _ (List.mem_of_getElem? (i := 320) (by decide +kernel))) (hf _ (List.mem_of_getElem? (i := 321) (by decide +kernel))) (fun j hj => hf _ (List.mem_of_getElem? (h6 j hj))) zk_out
  refine ⟨q, fun x hx => ?_⟩
  have hx : some (("ChaseLockerLaw$World", 92, ";metal ") : String × Nat × String) = some x := hx
  cases hx
  exact ⟨h.1, fun _ => h.2⟩
theorem zk_s39 (hts : ∀ w ∈ lw_tbl, w.before #[Value.ref b] s = true) (hf : ∀ w ∈ flatC zk_T, w.before #[Value.ref b] s = true) : zk_S s 39 := by
  have h6 : ∀ j : Nat, j < 6 → (flatC zk_T)[333 + j]? = some (Cond.eq (.elem (.field (.string "ChaseLockerLaw$World" 94) "java/lang/String" "value" "[B") (.int (Int32.ofNat j))) (.int ((ax_byt 39).getD j 0))) := by decide +kernel
  obtain ⟨q, h⟩ := zk_hi (own := "ChaseLockerLaw$World") (k := 94) (tx := ";wood ") (n := 6) (byt := ax_byt 39) (B0 := s.heap.size) (by decide) (hts (.stringRef "ChaseLockerLaw$World" 94 ";wood ") (List.mem_append_right _ (List.mem_of_getElem? (i := 592) (by decide +kernel)))) (hf _ (List.mem_of_getElem? (i := 329) (by decide +kernel))) (hf _ (List.mem_of_getElem? (i := 330) (by decide +kernel))) (hf _ (List.mem_of_getElem? (i := 331) (by decide +kernel))) (hf _ (List.mem_of_getElem? (i := 332) (by decide +kernel))) (fun j hj => hf _ (List.mem_of_getElem? (h6 j hj))) zk_out
  refine ⟨q, fun x hx => ?_⟩
  have hx : some (("ChaseLockerLaw$World", 94, ";wood ") : String × Nat × String) = some x := hx
  cases hx
  exact ⟨h.1, fun _ => h.2⟩
theorem zk_s40 (hts : ∀ w ∈ lw_tbl, w.before #[Value.ref b] s = true) (hf : ∀ w ∈ flatC zk_T, w.before #[Value.ref b] s = true) : zk_S s 40 := by
  have h6 : ∀ j : Nat, j < 5 → (flatC zk_T)[343 + j]? = some (Cond.eq (.elem (.field (.string "ChaseLockerLaw$World" 96) "java/lang/String" "value" "[B") (.int (Int32.ofNat j))) (.int ((ax_byt 40).getD j 0))) := by decide +kernel
  obtain ⟨q, h⟩ := zk_hi (own := "ChaseLockerLaw$World") (k := 96) (tx := ";row ") (n := 5) (byt := ax_byt 40) (B0 := s.heap.size) (by decide) (hts (.stringRef "ChaseLockerLaw$World" 96 ";row ") (List.mem_append_right _ (List.mem_of_getElem? (i := 593) (by decide +kernel)))) (hf _ (List.mem_of_getElem? (i := 339) (by decide +kernel))) (hf _ (List.mem_of_getElem? (i := 340) (by decide +kernel))) (hf _ (List.mem_of_getElem? (i := 341) (by decide +kernel))) (hf _ (List.mem_of_getElem? (i := 342) (by decide +kernel))) (fun j hj => hf _ (List.mem_of_getElem? (h6 j hj))) zk_out
  refine ⟨q, fun x hx => ?_⟩
  have hx : some (("ChaseLockerLaw$World", 96, ";row ") : String × Nat × String) = some x := hx
  cases hx
  exact ⟨h.1, fun _ => h.2⟩
theorem zk_s41 (hts : ∀ w ∈ lw_tbl, w.before #[Value.ref b] s = true) (hf : ∀ w ∈ flatC zk_T, w.before #[Value.ref b] s = true) : zk_S s 41 := by
  have h6 : ∀ j : Nat, j < 2 → (flatC zk_T)[1283 + j]? = some (Cond.eq (.elem (.field (.string "ChaseLockerLaw" 291) "java/lang/String" "value" "[B") (.int (Int32.ofNat j))) (.int ((ax_byt 41).getD j 0))) := by decide +kernel
  obtain ⟨q, h⟩ := zk_hi (own := "ChaseLockerLaw") (k := 291) (tx := " [") (n := 2) (byt := ax_byt 41) (B0 := s.heap.size) (by decide) (hts (.stringRef "ChaseLockerLaw" 291 " [") (List.mem_append_right _ (List.mem_of_getElem? (i := 1617) (by decide +kernel)))) (hf _ (List.mem_of_getElem? (i := 1279) (by decide +kernel))) (hf _ (List.mem_of_getElem? (i := 1280) (by decide +kernel))) (hf _ (List.mem_of_getElem? (i := 1281) (by decide +kernel))) (hf _ (List.mem_of_getElem? (i := 1282) (by decide +kernel))) (fun j hj => hf _ (List.mem_of_getElem? (h6 j hj))) zk_out
  refine ⟨q, fun x hx => ?_⟩
  have hx : some (("ChaseLockerLaw", 291, " [") : String × Nat × String) = some x := hx
  cases hx
  exact ⟨h.1, fun _ => h.2⟩
theorem zk_s42 (hts : ∀ w ∈ lw_tbl, w.before #[Value.ref b] s = true) (hf : ∀ w ∈ flatC zk_T, w.before #[Value.ref b] s = true) : zk_S s 42 := by
  have h6 : ∀ j : Nat, j < 2 → (flatC zk_T)[1289 + j]? = some (Cond.eq (.elem (.field (.string "ChaseLockerLaw" 296) "java/lang/String" "value" "[B") (.int (Int32.ofNat j))) (.int ((ax_byt 42).getD j 0))) := by decide +kernel
  obtain ⟨q, h⟩ := zk_hi (own := "ChaseLockerLaw") (k := 296) (tx := " m") (n := 2) (byt := ax_byt 42) (B0 := s.heap.size) (by decide) (hts (.stringRef "ChaseLockerLaw" 296 " m") (List.mem_append_right _ (List.mem_of_getElem? (i := 1619) (by decide +kernel)))) (hf _ (List.mem_of_getElem? (i := 1285) (by decide +kernel))) (hf _ (List.mem_of_getElem? (i := 1286) (by decide +kernel))) (hf _ (List.mem_of_getElem? (i := 1287) (by decide +kernel))) (hf _ (List.mem_of_getElem? (i := 1288) (by decide +kernel))) (fun j hj => hf _ (List.mem_of_getElem? (h6 j hj))) zk_out
  refine ⟨q, fun x hx => ?_⟩
  have hx : some (("ChaseLockerLaw", 296, " m") : String × Nat × String) = some x := hx
  cases hx
  exact ⟨h.1, fun _ => h.2⟩
theorem zk_s43 (hts : ∀ w ∈ lw_tbl, w.before #[Value.ref b] s = true) (hf : ∀ w ∈ flatC zk_T, w.before #[Value.ref b] s = true) : zk_S s 43 := by
  have h6 : ∀ j : Nat, j < 2 → (flatC zk_T)[1295 + j]? = some (Cond.eq (.elem (.field (.string "ChaseLockerLaw" 298) "java/lang/String" "value" "[B") (.int (Int32.ofNat j))) (.int ((ax_byt 43).getD j 0))) := by decide +kernel
  obtain ⟨q, h⟩ := zk_hi (own := "ChaseLockerLaw") (k := 298) (tx := " w") (n := 2) (byt := ax_byt 43) (B0 := s.heap.size) (by decide) (hts (.stringRef "ChaseLockerLaw" 298 " w") (List.mem_append_right _ (List.mem_of_getElem? (i := 1620) (by decide +kernel)))) (hf _ (List.mem_of_getElem? (i := 1291) (by decide +kernel))) (hf _ (List.mem_of_getElem? (i := 1292) (by decide +kernel))) (hf _ (List.mem_of_getElem? (i := 1293) (by decide +kernel))) (hf _ (List.mem_of_getElem? (i := 1294) (by decide +kernel))) (fun j hj => hf _ (List.mem_of_getElem? (h6 j hj))) zk_out
  refine ⟨q, fun x hx => ?_⟩
  have hx : some (("ChaseLockerLaw", 298, " w") : String × Nat × String) = some x := hx
  cases hx
  exact ⟨h.1, fun _ => h.2⟩
theorem zk_s44 (hts : ∀ w ∈ lw_tbl, w.before #[Value.ref b] s = true) (hf : ∀ w ∈ flatC zk_T, w.before #[Value.ref b] s = true) : zk_S s 44 := by
  have h6 : ∀ j : Nat, j < 2 → (flatC zk_T)[1301 + j]? = some (Cond.eq (.elem (.field (.string "ChaseLockerLaw" 300) "java/lang/String" "value" "[B") (.int (Int32.ofNat j))) (.int ((ax_byt 44).getD j 0))) := by decide +kernel
  obtain ⟨q, h⟩ := zk_hi (own := "ChaseLockerLaw") (k := 300) (tx := " q") (n := 2) (byt := ax_byt 44) (B0 := s.heap.size) (by decide) (hts (.stringRef "ChaseLockerLaw" 300 " q") (List.mem_append_right _ (List.mem_of_getElem? (i := 1621) (by decide +kernel)))) (hf _ (List.mem_of_getElem? (i := 1297) (by decide +kernel))) (hf _ (List.mem_of_getElem? (i := 1298) (by decide +kernel))) (hf _ (List.mem_of_getElem? (i := 1299) (by decide +kernel))) (hf _ (List.mem_of_getElem? (i := 1300) (by decide +kernel))) (fun j hj => hf _ (List.mem_of_getElem? (h6 j hj))) zk_out
  refine ⟨q, fun x hx => ?_⟩
  have hx : some (("ChaseLockerLaw", 300, " q") : String × Nat × String) = some x := hx
  cases hx
  exact ⟨h.1, fun _ => h.2⟩
theorem zk_all (hts : ∀ w ∈ lw_tbl, w.before #[Value.ref b] s = true) (hf : ∀ w ∈ flatC zk_T, w.before #[Value.ref b] s = true) : ∀ i, zk_S s i
  | 0 => zk_s0 hts hf
  | 1 => zk_s1 hts hf
  | 2 => zk_s2 hts hf
  | 3 => zk_s3 hts hf
  | 4 => zk_s4 hts hf
  | 5 => zk_s5 hts hf
  | 6 => zk_s6 hts hf
  | 7 => zk_s7 hts hf
  | 8 => zk_s8 hts hf
  | 9 => zk_s9 hts hf
  | 10 => zk_s10 hts hf
  | 11 => zk_s11 hts hf
  | 12 => zk_s12 hts hf
  | 13 => zk_s13 hts hf
  | 14 => zk_s14 hts hf
  | 15 => zk_s15 hts hf
  | 16 => zk_s16 hts hf
  | 17 => zk_s17 hts hf
  | 18 => zk_s18 hts hf
  | 19 => zk_s19 hts hf
  | 20 => zk_s20 hts hf
  | 21 => zk_s21 hts hf
  | 22 => zk_s22 hts hf
  | 23 => zk_s23 hts hf
  | 24 => zk_s24 hts hf
  | 25 => zk_s25 hts hf
  | 26 => zk_s26 hts hf
  | 27 => zk_s27 hts hf
  | 28 => zk_s28 hts hf
  | 29 => zk_s29 hts hf
  | 30 => zk_s30 hts hf
  | 31 => zk_s31 hts hf
  | 32 => zk_s32 hts hf
  | 33 => zk_s33 hts hf
  | 34 => zk_s34 hts hf
  | 35 => zk_s35 hts hf
  | 36 => zk_s36 hts hf
  | 37 => zk_s37 hts hf
  | 38 => zk_s38 hts hf
  | 39 => zk_s39 hts hf
  | 40 => zk_s40 hts hf
  | 41 => zk_s41 hts hf
  | 42 => zk_s42 hts hf
  | 43 => zk_s43 hts hf
  | 44 => zk_s44 hts hf
  | i + 45 => ⟨(0, 0), fun x hx => by
    rw [List.getElem?_eq_none (by show 45 ≤ i + 45; omega)] at hx
    cases hx⟩
theorem zk_DigitTens (hts : ∀ w ∈ lw_tbl, w.before #[Value.ref b] s = true) (hf : ∀ w ∈ flatC zk_T, w.before #[Value.ref b] s = true) : ∃ t : Nat, va_Z "java/lang/Integer" "DigitTens" "[B" (.ref t) (fun q => s.heap.size ≤ q) s s.heap ∧ va_T .byte t 100 (fun j => .int (ax_tens j)) (fun q => s.heap.size ≤ q) s s.heap := by
  have h6 : ∀ j : Nat, j < 100 → (flatC zk_T)[115 + j]? = some (Cond.eq (.elem (.static "java/lang/Integer" "DigitTens" "[B") (.int (Int32.ofNat j))) (.int (ax_tens j))) := by decide +kernel
  obtain ⟨t, ht, hT⟩ := va_Tof (args := #[Value.ref b]) (s := s) (tm := .static "java/lang/Integer" "DigitTens" "[B") (ty := .byte) (N := 100) (f := fun j => .int (ax_tens j)) (A := fun q => s.heap.size ≤ q) (by decide) (hf _ (List.mem_of_getElem? (i := 113) (by decide +kernel))) (va_eqt (hf _ (List.mem_of_getElem? (i := 114) (by decide +kernel)))) (fun j hj => va_eqt (hf _ (List.mem_of_getElem? (h6 j hj)))) zk_out
  exact ⟨t, va_Zof (hts (.laysStatic "java/lang/Integer" "DigitTens" "[B") (List.mem_append_right _ (List.mem_of_getElem? (i := 554) (by decide +kernel)))) (hts (.initialized "java/lang/Integer") (List.mem_append_right _ (List.mem_of_getElem? (i := 13) (by decide +kernel)))) ht zk_out, hT⟩
theorem zk_DigitOnes (hts : ∀ w ∈ lw_tbl, w.before #[Value.ref b] s = true) (hf : ∀ w ∈ flatC zk_T, w.before #[Value.ref b] s = true) : ∃ t : Nat, va_Z "java/lang/Integer" "DigitOnes" "[B" (.ref t) (fun q => s.heap.size ≤ q) s s.heap ∧ va_T .byte t 100 (fun j => .int (ax_ones j)) (fun q => s.heap.size ≤ q) s s.heap := by
  have h6 : ∀ j : Nat, j < 100 → (flatC zk_T)[12 + j]? = some (Cond.eq (.elem (.static "java/lang/Integer" "DigitOnes" "[B") (.int (Int32.ofNat j))) (.int (ax_ones j))) := by decide +kernel
  obtain ⟨t, ht, hT⟩ := va_Tof (args := #[Value.ref b]) (s := s) (tm := .static "java/lang/Integer" "DigitOnes" "[B") (ty := .byte) (N := 100) (f := fun j => .int (ax_ones j)) (A := fun q => s.heap.size ≤ q) (by decide) (hf _ (List.mem_of_getElem? (i := 10) (by decide +kernel))) (va_eqt (hf _ (List.mem_of_getElem? (i := 11) (by decide +kernel)))) (fun j hj => va_eqt (hf _ (List.mem_of_getElem? (h6 j hj)))) zk_out
  exact ⟨t, va_Zof (hts (.laysStatic "java/lang/Integer" "DigitOnes" "[B") (List.mem_append_right _ (List.mem_of_getElem? (i := 552) (by decide +kernel)))) (hts (.initialized "java/lang/Integer") (List.mem_append_right _ (List.mem_of_getElem? (i := 13) (by decide +kernel)))) ht zk_out, hT⟩
theorem zk_sio (hts : ∀ w ∈ lw_tbl, w.before #[Value.ref b] s = true) (hf : ∀ w ∈ flatC zk_T, w.before #[Value.ref b] s = true) : va_Z "jdk/internal/util/Preconditions" "SIOOBE_FORMATTER" "Ljava/util/function/BiFunction;" .null (fun q => s.heap.size ≤ q) s s.heap ∨ ∃ a : Nat, va_Z "jdk/internal/util/Preconditions" "SIOOBE_FORMATTER" "Ljava/util/function/BiFunction;" (.ref a) (fun q => s.heap.size ≤ q) s s.heap := by
  have h : (Cond.isRef (.static "jdk/internal/util/Preconditions" "SIOOBE_FORMATTER" "Ljava/util/function/BiFunction;")).before #[Value.ref b] s = true := (hf _ (List.mem_of_getElem? (i := 5) (by decide +kernel)))
  cases he : (Term.static "jdk/internal/util/Preconditions" "SIOOBE_FORMATTER" "Ljava/util/function/BiFunction;").eval #[Value.ref b] s none [] s with
  | none => simp [Cond.before, Cond.holds, Cond.value, he] at h
  | some v =>
    have hz := va_Zof (A := fun q => s.heap.size ≤ q) (hts (.laysStatic "jdk/internal/util/Preconditions" "SIOOBE_FORMATTER" "Ljava/util/function/BiFunction;") (List.mem_append_right _ (List.mem_of_getElem? (i := 490) (by decide +kernel)))) (hts (.initialized "jdk/internal/util/Preconditions") (List.mem_append_right _ (List.mem_of_getElem? (i := 11) (by decide +kernel)))) he zk_out
    cases v with
    | null => exact Or.inl hz
    | ref a => exact Or.inr ⟨a, hz⟩
    | _ => simp [Cond.before, Cond.holds, Cond.value, he, Value.isRef] at h
theorem zk_i32 (x : Int32) : Int32.ofNat x.toBitVec.toNat = x := Int32.toBitVec_inj.mp (by simp)
theorem zk_KF (hts : ∀ w ∈ lw_tbl, w.before #[Value.ref b] s = true) (hf : ∀ w ∈ flatC zk_T, w.before #[Value.ref b] s = true) {L : Nat} {xs : Nat → Int32} (hX : va_X b L xs s s.heap) (hbl : b < s.heap.size) : ∃ ad0 : Nat → Nat, ax_KF s.heap.size ad0 s ∧ ad0 5000000 = b ∧ ad0 6000000 = L := by
  obtain ⟨f, hff⟩ := Classical.axiomOfChoice (zk_all hts hf)
  obtain ⟨tT, hT1, hT2⟩ := zk_DigitTens hts hf
  obtain ⟨tO, hO1, hO2⟩ := zk_DigitOnes hts hf
  obtain ⟨fS, hfS⟩ : ∃ fS : Nat, va_Z "jdk/internal/util/Preconditions" "SIOOBE_FORMATTER" "Ljava/util/function/BiFunction;" .null (fun q => s.heap.size ≤ q) s s.heap ∨ va_Z "jdk/internal/util/Preconditions" "SIOOBE_FORMATTER" "Ljava/util/function/BiFunction;" (.ref fS) (fun q => s.heap.size ≤ q) s s.heap := by
    rcases zk_sio hts hf with h | ⟨a, h⟩
    · exact ⟨0, Or.inl h⟩
    · exact ⟨a, Or.inr h⟩
  obtain ⟨ad0, hd⟩ : ∃ ad0 : Nat → Nat, ad0 = fun k => if k < 1000045 then (f (k - 1000000)).1 else if k = 2000000 then tT else if k = 2000001 then tO else if k < 4000000 then (f (k - 3000000)).2 else if k < 5000000 then fS else if k < 6000000 then b else if k = 6000000 then L else (xs (k - 6000001)).toBitVec.toNat := ⟨_, rfl⟩
  have e1 : ∀ i, i < 45 → ad0 (1000000 + i) = (f i).1 := fun i hi => by
    rw [hd]
    refine (if_pos (Nat.add_lt_add_left hi 1000000)).trans ?_
    rw [Nat.add_sub_cancel_left]
  have e2 : ∀ i, i < 45 → ad0 (3000000 + i) = (f i).2 := fun i hi => by
    rw [hd]
    refine (if_neg (Nat.not_lt.mpr (Nat.le_trans (show 1000045 ≤ 3000000 by decide) (Nat.le_add_right _ i)))).trans ((if_neg (Nat.ne_of_gt (Nat.lt_of_lt_of_le (show 2000000 < 3000000 by decide) (Nat.le_add_right _ i)))).trans ((if_neg (Nat.ne_of_gt (Nat.lt_of_lt_of_le (show 2000001 < 3000000 by decide) (Nat.le_add_right _ i)))).trans ((if_pos (Nat.lt_of_lt_of_le (Nat.add_lt_add_left hi 3000000) (by decide))).trans ?_)))
    rw [Nat.add_sub_cancel_left]
  have e3 : ad0 2000000 = tT := by rw [hd]; exact (if_neg (by decide)).trans (if_pos rfl)
  have e4 : ad0 2000001 = tO := by rw [hd]; exact (if_neg (by decide)).trans ((if_neg (by decide)).trans (if_pos rfl))
  have e5 : ad0 4000000 = fS := by rw [hd]; exact (if_neg (by decide)).trans ((if_neg (by decide)).trans ((if_neg (by decide)).trans ((if_neg (by decide)).trans (if_pos (by decide)))))
  have e6 : ad0 5000000 = b := by rw [hd]; exact (if_neg (by decide)).trans ((if_neg (by decide)).trans ((if_neg (by decide)).trans ((if_neg (by decide)).trans ((if_neg (by decide)).trans (if_pos (by decide))))))
  have e7 : ad0 6000000 = L := by rw [hd]; exact (if_neg (by decide)).trans ((if_neg (by decide)).trans ((if_neg (by decide)).trans ((if_neg (by decide)).trans ((if_neg (by decide)).trans ((if_neg (by decide)).trans (if_pos rfl))))))
  have e8 : ∀ j, ad0 (6000001 + j) = (xs j).toBitVec.toNat := fun j => by
    rw [hd]
    refine (if_neg (by omega)).trans ((if_neg (by omega)).trans ((if_neg (by omega)).trans ((if_neg (by omega)).trans ((if_neg (by omega)).trans ((if_neg (by omega)).trans ((if_neg (by omega)).trans ?_))))))
    rw [Nat.add_sub_cancel_left]
  clear hd
  have hlt : ∀ (i : Nat) (x : String × Nat × String), ax_strs[i]? = some x → i < 45 := fun i x h => (List.getElem?_eq_some_iff.mp h).1
  refine ⟨ad0, ⟨⟨(vx_Zqof (hts (.laysStatic "java/lang/Throwable" "UNASSIGNED_STACK" "[Ljava/lang/StackTraceElement;") (List.mem_append_right _ (List.mem_of_getElem? (i := 743) (by decide +kernel)))) (hts (.initialized "java/lang/Throwable") (List.mem_append_right _ (List.mem_of_getElem? (i := 21) (by decide +kernel)))) (hf _ (List.mem_of_getElem? (i := 215) (by decide +kernel))) zk_out), (vx_Zqof (hts (.laysStatic "java/lang/Throwable" "SUPPRESSED_SENTINEL" "Ljava/util/List;") (List.mem_append_right _ (List.mem_of_getElem? (i := 745) (by decide +kernel)))) (hts (.initialized "java/lang/Throwable") (List.mem_append_right _ (List.mem_of_getElem? (i := 21) (by decide +kernel)))) (hf _ (List.mem_of_getElem? (i := 216) (by decide +kernel))) zk_out), fun i a b => ?_, va_Zof (hts (.laysStatic "java/lang/String" "COMPACT_STRINGS" "Z") (List.mem_append_right _ (List.mem_of_getElem? (i := 240) (by decide +kernel)))) (hts (.initialized "java/lang/String") (List.mem_append_right _ (List.mem_of_getElem? (i := 5) (by decide +kernel)))) (va_eqt (hf _ (List.mem_of_getElem? (i := 4) (by decide +kernel)))) zk_out, by rw [e3]; exact hT1, by rw [e3]; exact hT2, by rw [e4]; exact hO1, by rw [e4]; exact hO2, by rw [e5]; exact hfS, ⟨by rw [e6, e7, show (fun j => Int32.ofNat (ad0 (6000001 + j))) = xs from funext fun j => by rw [e8, zk_i32]]; exact hX, by rw [e6]; exact hbl, by rw [e6]; exact zk_out b hbl⟩⟩, fun i x h => ?_, va_AO.of (hts (.arrayOver (.object RX3)) (List.mem_append_right _ (List.mem_of_getElem? (i := 129) (by decide +kernel)))), va_AO.of (hts (.arrayOver (.object RX5)) (List.mem_append_right _ (List.mem_of_getElem? (i := 122) (by decide +kernel)))), ⟨va_AOA.of (hts (.arrayOver (.array .int)) (List.mem_append_right _ (List.mem_of_getElem? (i := 84) (by decide +kernel)))), va_Nw.of rfl (hts (.castable "[B" "java/lang/Cloneable") (List.mem_append_right _ (List.mem_of_getElem? (i := 464) (by decide +kernel)))), fun q hq => ?_⟩, ?_, ?_, ?_, ?_⟩, e6, e7⟩
  · obtain ⟨x, hx⟩ : ∃ x, ax_strs[i]? = some x := ⟨_, List.getElem?_eq_getElem (show i < 45 from b)⟩
    rw [e1 i b, e2 i b]
    exact (hff i x hx).2 a
  · rw [e1 i (hlt i x h)]
    exact (hff i x h).1
  · rcases List.mem_cons.mp hq with rfl | hq
    · exact va_Nw.of rfl (hts (.fieldLinkNest RL 319 RX19 "text" "Ljava/lang/StringBuilder;" "ChaseLockerLaw") (List.mem_append_right _ (List.mem_of_getElem? (i := 611) (by decide +kernel))))
    rcases List.mem_cons.mp hq with rfl | hq
    · exact va_Nw.of rfl (hts (.fieldLinkNest RL 134 RX19 "set" "[I" "ChaseLockerLaw") (List.mem_append_right _ (List.mem_of_getElem? (i := 613) (by decide +kernel))))
    rcases List.mem_cons.mp hq with rfl | hq
    · exact va_Nw.of rfl (hts (.fieldLinkNest RL 181 RX19 "size" "[I" "ChaseLockerLaw") (List.mem_append_right _ (List.mem_of_getElem? (i := 615) (by decide +kernel))))
    rcases List.mem_cons.mp hq with rfl | hq
    · exact va_Nw.of rfl (hts (.fieldLinkNest RL 178 RX19 "left" "[I" "ChaseLockerLaw") (List.mem_append_right _ (List.mem_of_getElem? (i := 617) (by decide +kernel))))
    rcases List.mem_cons.mp hq with rfl | hq
    · exact va_Nw.of rfl (hts (.fieldLinkNest RL 248 RX19 "order" "[I" "ChaseLockerLaw") (List.mem_append_right _ (List.mem_of_getElem? (i := 619) (by decide +kernel))))
    rcases List.mem_cons.mp hq with rfl | hq
    · exact va_Nw.of rfl (hts (.fieldLinkNest RL 203 RX19 "count" "[I" "ChaseLockerLaw") (List.mem_append_right _ (List.mem_of_getElem? (i := 621) (by decide +kernel))))
    rcases List.mem_cons.mp hq with rfl | hq
    · exact va_Nw.of rfl (hts (.fieldLinkNest RL 193 RX19 "metal" "[Z" "ChaseLockerLaw") (List.mem_append_right _ (List.mem_of_getElem? (i := 623) (by decide +kernel))))
    rcases List.mem_cons.mp hq with rfl | hq
    · exact va_Nw.of rfl (hts (.fieldLinkNest RL 163 RX19 "blocks" "[[I" "ChaseLockerLaw") (List.mem_append_right _ (List.mem_of_getElem? (i := 625) (by decide +kernel))))
    rcases List.mem_cons.mp hq with rfl | hq
    · exact va_Nw.of rfl (hts (.fieldLinkNest RL 167 RX19 "pieces" "[[I" "ChaseLockerLaw") (List.mem_append_right _ (List.mem_of_getElem? (i := 627) (by decide +kernel))))
    rcases List.mem_cons.mp hq with rfl | hq
    · exact va_Nw.of rfl (hts (.fieldLinkNest RL 142 RX19 "many" "[I" "ChaseLockerLaw") (List.mem_append_right _ (List.mem_of_getElem? (i := 629) (by decide +kernel))))
    rcases List.mem_cons.mp hq with rfl | hq
    · exact va_Nw.of rfl (hts (.fieldLinkNest RL 145 RX19 "used" "[I" "ChaseLockerLaw") (List.mem_append_right _ (List.mem_of_getElem? (i := 631) (by decide +kernel))))
    rcases List.mem_cons.mp hq with rfl | hq
    · exact va_Nw.of rfl (hts (.fieldLinkNest RL 140 RX19 "open" "[I" "ChaseLockerLaw") (List.mem_append_right _ (List.mem_of_getElem? (i := 633) (by decide +kernel))))
    rcases List.mem_cons.mp hq with rfl | hq
    · exact va_Nw.of rfl (hts (.fieldLinkNest RL 160 RX19 "up" "[I" "ChaseLockerLaw") (List.mem_append_right _ (List.mem_of_getElem? (i := 635) (by decide +kernel))))
    rcases List.mem_cons.mp hq with rfl | hq
    · exact va_Nw.of rfl (hts (.fieldLinkNest RL 151 RX19 "slack" "[I" "ChaseLockerLaw") (List.mem_append_right _ (List.mem_of_getElem? (i := 637) (by decide +kernel))))
    rcases List.mem_cons.mp hq with rfl | hq
    · exact va_Nw.of rfl (hts (.fieldLinkNest RL 170 RX19 "kinds" "I" "ChaseLockerLaw") (List.mem_append_right _ (List.mem_of_getElem? (i := 639) (by decide +kernel))))
    rcases List.mem_cons.mp hq with rfl | hq
    · exact va_Nw.of rfl (hts (.fieldLinkNest RL 197 RX19 "quoins" "I" "ChaseLockerLaw") (List.mem_append_right _ (List.mem_of_getElem? (i := 641) (by decide +kernel))))
    rcases List.mem_cons.mp hq with rfl | hq
    · exact va_Nw.of rfl (hts (.fieldLinkNest RX19 141 RX18 "many" "[I" "ChaseLockerLaw") (List.mem_append_right _ (List.mem_of_getElem? (i := 1406) (by decide +kernel))))
    rcases List.mem_cons.mp hq with rfl | hq
    · exact va_Nw.of rfl (hts (.fieldLinkNest RX19 136 RX18 "pieces" "I" "ChaseLockerLaw") (List.mem_append_right _ (List.mem_of_getElem? (i := 1408) (by decide +kernel))))
    rcases List.mem_cons.mp hq with rfl | hq
    · exact va_Nw.of rfl (hts (.fieldLinkNest RX19 138 RX18 "opening" "I" "ChaseLockerLaw") (List.mem_append_right _ (List.mem_of_getElem? (i := 1410) (by decide +kernel))))
    rcases List.mem_cons.mp hq with rfl | hq
    · exact va_Nw.of rfl (hts (.fieldLinkNest RX19 133 RX18 "ways" "I" "ChaseLockerLaw") (List.mem_append_right _ (List.mem_of_getElem? (i := 1411) (by decide +kernel))))
    exact absurd hq List.not_mem_nil
  · intro q hq
    rcases List.mem_cons.mp hq with rfl | hq
    · exact va_Nw.of rfl (hts (.methodLinkNest RX6 18 yX4_init "ChaseLocker") (List.mem_append_right _ (List.mem_of_getElem? (i := 79) (by decide +kernel))))
    rcases List.mem_cons.mp hq with rfl | hq
    · exact va_Nw.of rfl (hts (.methodLinkNest RX6 57 yX1_init "ChaseLocker") (List.mem_append_right _ (List.mem_of_getElem? (i := 265) (by decide +kernel))))
    rcases List.mem_cons.mp hq with rfl | hq
    · exact va_Nw.of rfl (hts (.methodLinkNest RX6 9 yX2_init "ChaseLocker") (List.mem_append_right _ (List.mem_of_getElem? (i := 40) (by decide +kernel))))
    rcases List.mem_cons.mp hq with rfl | hq
    · exact va_Nw.of rfl (hts (.methodLinkNest RX5 21 yX3_init "ChaseLocker") (List.mem_append_right _ (List.mem_of_getElem? (i := 131) (by decide +kernel))))
    rcases List.mem_cons.mp hq with rfl | hq
    · exact va_Nw.of rfl (hts (.methodLinkNest RX19 132 yX18_init "ChaseLockerLaw") (List.mem_append_right _ (List.mem_of_getElem? (i := 1400) (by decide +kernel))))
    exact absurd hq List.not_mem_nil
  · intro E hE
    rcases List.mem_cons.mp hE with rfl | hE
    · exact va_Nw.of rfl (hts (.castable "java/lang/IllegalStateException" "java/lang/IllegalStateException") (List.mem_append_right _ (List.mem_of_getElem? (i := 951) (by decide +kernel))))
    rcases List.mem_cons.mp hE with rfl | hE
    · exact va_Nw.of rfl (hts (.castable "java/lang/IllegalArgumentException" "java/lang/IllegalArgumentException") (List.mem_append_right _ (List.mem_of_getElem? (i := 899) (by decide +kernel))))
    rcases List.mem_cons.mp hE with rfl | hE
    · exact va_Nw.of rfl (hts (.castable "java/lang/IndexOutOfBoundsException" "java/lang/IndexOutOfBoundsException") (List.mem_append_right _ (List.mem_of_getElem? (i := 718) (by decide +kernel))))
    exact absurd hE List.not_mem_nil
  · intro Y hY
    rcases List.mem_cons.mp hY with rfl | hY
    · exact va_Nw.of rfl (hts (.declares (Bundle.initS "java/lang/RuntimeException")) (List.mem_append_right _ (List.mem_of_getElem? (i := 720) (by decide +kernel))))
    rcases List.mem_cons.mp hY with rfl | hY
    · exact va_Nw.of rfl (hts (.declares (Bundle.initS "java/lang/Exception")) (List.mem_append_right _ (List.mem_of_getElem? (i := 722) (by decide +kernel))))
    rcases List.mem_cons.mp hY with rfl | hY
    · exact va_Nw.of rfl (hts (.declares (Bundle.initS "java/lang/Throwable")) (List.mem_append_right _ (List.mem_of_getElem? (i := 724) (by decide +kernel))))
    exact absurd hY List.not_mem_nil
  · have key : ∀ q ∈ [("java/lang/IllegalStateException", "java/lang/IllegalArgumentException"), ("java/lang/IllegalStateException", "java/lang/IndexOutOfBoundsException"), ("java/lang/IllegalArgumentException", "java/lang/IllegalStateException"), ("java/lang/IllegalArgumentException", "java/lang/IndexOutOfBoundsException"), ("java/lang/IndexOutOfBoundsException", "java/lang/IllegalStateException"), ("java/lang/IndexOutOfBoundsException", "java/lang/IllegalArgumentException")], (Cond.not (.castable q.1 q.2)).before #[Value.ref b] s = true := by
      intro q hq
      rcases List.mem_cons.mp hq with rfl | hq
      · exact (hf _ (List.mem_of_getElem? (i := 257) (by decide +kernel)))
      rcases List.mem_cons.mp hq with rfl | hq
      · exact (hf _ (List.mem_of_getElem? (i := 243) (by decide +kernel)))
      rcases List.mem_cons.mp hq with rfl | hq
      · exact (hf _ (List.mem_of_getElem? (i := 227) (by decide +kernel)))
      rcases List.mem_cons.mp hq with rfl | hq
      · exact (hf _ (List.mem_of_getElem? (i := 244) (by decide +kernel)))
      rcases List.mem_cons.mp hq with rfl | hq
      · exact (hf _ (List.mem_of_getElem? (i := 228) (by decide +kernel)))
      rcases List.mem_cons.mp hq with rfl | hq
      · exact (hf _ (List.mem_of_getElem? (i := 258) (by decide +kernel)))
      exact absurd hq List.not_mem_nil
    intro E hE E' hE' hne
    refine va_Nc.of (args := #[Value.ref b]) (key (E, E') ?_)
    have h2 : ∀ E ∈ ax_errs, ∀ E' ∈ ax_errs, E ≠ E' → (E, E') ∈ [("java/lang/IllegalStateException", "java/lang/IllegalArgumentException"), ("java/lang/IllegalStateException", "java/lang/IndexOutOfBoundsException"), ("java/lang/IllegalArgumentException", "java/lang/IllegalStateException"), ("java/lang/IllegalArgumentException", "java/lang/IndexOutOfBoundsException"), ("java/lang/IndexOutOfBoundsException", "java/lang/IllegalStateException"), ("java/lang/IndexOutOfBoundsException", "java/lang/IllegalArgumentException")] := by decide +kernel
    exact h2 E hE E' hE' hne
end ZKF
/-! .. the classes' numbers -/
theorem zk_aP {s : State} {A : Array Value} {ty : FieldType} (h : (Cond.arrayClass ty).before A s = true) : ∃ cA : ClassId, ArrOfT s cA ty ∧ s.vm.findClass ("[" ++ ty.toString) = some cA := by
  obtain ⟨c, k, comp, h1, h2, h3⟩ := Cond.arrayClass_spec h
  exact ⟨c, fun n z => ⟨fun k h => (by cases h), k, h2, comp, h3⟩, h1⟩
theorem zk_aO {s : State} {A : Array Value} {n : String} (h : (Cond.arrayOver (.object n)).before A s = true) : ∃ cA : ClassId, ArrOfT s cA (.object n) ∧ va_RA s cA (.object n) := by
  obtain ⟨comp, c, k, h1, h2, h3, h4, h5⟩ := Cond.arrayOver_spec h
  exact ⟨c, fun n z => ⟨fun k h => (by cases h), k, h3, comp, h4⟩, k, comp, h3, h4, h1, h5⟩
theorem zk_aA {s : State} {A : Array Value} {t : FieldType} (h : (Cond.arrayOver (.array t)).before A s = true) : ∃ cA : ClassId, ArrOfT s cA (.array t) ∧ s.vm.findClass ("[" ++ (FieldType.array t).toString) = some cA := by
  obtain ⟨comp, c, k, h1, h2, h3, h4, h5⟩ := arrayOverA_spec h
  exact ⟨c, fun n z => ⟨fun k h => (by cases h), k, h3, comp, h4⟩, h5⟩
theorem iwJx00060 : ∀ w ∈ u_ws RJx00060 TJx00060 6, w ∈ ax_ALL := ax_all_in (by decide +kernel)
theorem iwJx7c733 : ∀ w ∈ u_ws RJx7c733 TJx7c733 6, w ∈ ax_ALL := ax_all_in (by decide +kernel)
theorem zk_K {s : State} {b : Nat} (hts : ∀ w ∈ lw_tbl, w.before #[Value.ref b] s = true) : ∃ (D : va_G) (dA : Nat → ClassId), va_K D vwCl (ax_ty dA) s := by
  have hA := ax_ALLof hts
  obtain ⟨c0, i0, k0⟩ := u_known (C := RJ0) (T := TJ0) (N := 4) (n := 4) hA iwJ0 (hts (.instantiable RJ0 4) (List.mem_append_right _ (List.mem_of_getElem? (i := 1504) (by decide +kernel))))
  obtain ⟨c1, i1, k1⟩ := u_known (C := RJ4) (T := TJ4) (N := 4) (n := 4) hA iwJ4 (hts (.instantiable RJ4 4) (List.mem_append_right _ (List.mem_of_getElem? (i := 231) (by decide +kernel))))
  obtain ⟨c2, i2, k2⟩ := u_known (C := RJx00060) (T := TJx00060) (N := 6) (n := 6) hA iwJx00060 (hts (.instantiable RJx00060 6) (List.mem_append_right _ (List.mem_of_getElem? (i := 1578) (by decide +kernel))))
  obtain ⟨c3, i3, k3⟩ := u_known (C := RJx7c733) (T := TJx7c733) (N := 6) (n := 6) hA iwJx7c733 (hts (.instantiable RJx7c733 6) (List.mem_append_right _ (List.mem_of_getElem? (i := 1490) (by decide +kernel))))
  obtain ⟨c4, i4, k4⟩ := u_known (C := RX0) (T := TX0) (N := 3) (n := 3) hA iwX0 (hts (.instantiable RX0 3) (List.mem_append_right _ (List.mem_of_getElem? (i := 116) (by decide +kernel))))
  obtain ⟨c5, i5, k5⟩ := u_known (C := RX1) (T := TX1) (N := 11) (n := 11) hA iwX1 (hts (.instantiable RX1 11) (List.mem_append_right _ (List.mem_of_getElem? (i := 264) (by decide +kernel))))
  obtain ⟨c6, i6, k6⟩ := u_known (C := RX2) (T := TX2) (N := 9) (n := 9) hA iwX2 (hts (.instantiable RX2 9) (List.mem_append_right _ (List.mem_of_getElem? (i := 39) (by decide +kernel))))
  obtain ⟨c7, i7, k7⟩ := u_known (C := RX3) (T := TX3) (N := 10) (n := 10) hA iwX3 (hts (.instantiable RX3 10) (List.mem_append_right _ (List.mem_of_getElem? (i := 130) (by decide +kernel))))
  obtain ⟨c8, i8, k8⟩ := u_known (C := RX4) (T := TX4) (N := 8) (n := 8) hA iwX4 (hts (.instantiable RX4 8) (List.mem_append_right _ (List.mem_of_getElem? (i := 78) (by decide +kernel))))
  obtain ⟨c9, i9, k9⟩ := u_known (C := RX5) (T := TX5) (N := 8) (n := 8) hA iwX5 (hts (.instantiable RX5 8) (List.mem_append_right _ (List.mem_of_getElem? (i := 123) (by decide +kernel))))
  obtain ⟨c10, i10, k10⟩ := u_known (C := RX6) (T := TX6) (N := 11) (n := 11) hA iwX6 (hts (.instantiable RX6 11) (List.mem_append_right _ (List.mem_of_getElem? (i := 31) (by decide +kernel))))
  obtain ⟨c11, i11, k11⟩ := u_known (C := RX17) (T := TX17) (N := 2) (n := 2) hA iwX17 (hts (.instantiable RX17 2) (List.mem_append_right _ (List.mem_of_getElem? (i := 379) (by decide +kernel))))
  obtain ⟨c12, i12, k12⟩ := u_known (C := RX18) (T := TX18) (N := 4) (n := 4) hA iwX18 (hts (.instantiable RX18 4) (List.mem_append_right _ (List.mem_of_getElem? (i := 1399) (by decide +kernel))))
  obtain ⟨c13, i13, k13⟩ := u_known (C := RX19) (T := TX19) (N := 16) (n := 16) hA iwX19 (hts (.instantiable RX19 16) (List.mem_append_right _ (List.mem_of_getElem? (i := 397) (by decide +kernel))))
  obtain ⟨a100, f100, g100⟩ := zk_aP (hts (.arrayClass .int) (List.mem_append_right _ (List.mem_of_getElem? (i := 75) (by decide +kernel))))
  obtain ⟨a101, f101, g101⟩ := zk_aP (hts (.arrayClass .boolean) (List.mem_append_right _ (List.mem_of_getElem? (i := 76) (by decide +kernel))))
  obtain ⟨a102, f102, g102⟩ := zk_aP (hts (.arrayClass .long) (List.mem_append_right _ (List.mem_of_getElem? (i := 179) (by decide +kernel))))
  obtain ⟨a103, f103, g103⟩ := zk_aP (hts (.arrayClass .byte) (List.mem_append_right _ (List.mem_of_getElem? (i := 262) (by decide +kernel))))
  obtain ⟨a110, f110, g110⟩ := zk_aA (hts (.arrayOver (.array .int)) (List.mem_append_right _ (List.mem_of_getElem? (i := 84) (by decide +kernel))))
  obtain ⟨a111, f111, g111⟩ := zk_aO (hts (.arrayOver (.object RX3)) (List.mem_append_right _ (List.mem_of_getElem? (i := 129) (by decide +kernel))))
  obtain ⟨a112, f112, g112⟩ := zk_aO (hts (.arrayOver (.object RX5)) (List.mem_append_right _ (List.mem_of_getElem? (i := 122) (by decide +kernel))))
  refine ⟨(fun k => if k = 0 then c0 else if k = 1 then c1 else if k = 2 then c2 else if k = 3 then c3 else if k = 4 then c4 else if k = 5 then c5 else if k = 6 then c6 else if k = 7 then c7 else if k = 8 then c8 else if k = 9 then c9 else if k = 10 then c10 else if k = 11 then c11 else if k = 12 then c12 else c13, fun k => if k = 0 then i0 else if k = 1 then i1 else if k = 2 then i2 else if k = 3 then i3 else if k = 4 then i4 else if k = 5 then i5 else if k = 6 then i6 else if k = 7 then i7 else if k = 8 then i8 else if k = 9 then i9 else if k = 10 then i10 else if k = 11 then i11 else if k = 12 then i12 else i13), fun t => if t = 100 then a100 else if t = 101 then a101 else if t = 102 then a102 else if t = 103 then a103 else if t = 105 then a103 else if t = 110 then a110 else if t = 111 then a111 else a112, fun k q hq => ?_, fun k q hq => ?_⟩
  · match k, hq with
    | 0, hq => cases hq; exact k0
    | 1, hq => cases hq; exact k1
    | 2, hq => cases hq; exact k2
    | 3, hq => cases hq; exact k3
    | 4, hq => cases hq; exact k4
    | 5, hq => cases hq; exact k5
    | 6, hq => cases hq; exact k6
    | 7, hq => cases hq; exact k7
    | 8, hq => cases hq; exact k8
    | 9, hq => cases hq; exact k9
    | 10, hq => cases hq; exact k10
    | 11, hq => cases hq; exact k11
    | 12, hq => cases hq; exact k12
    | 13, hq => cases hq; exact k13
    | k + 14, hq => simp [vwCl] at hq
  · match k, hq with
    | 0, hq => cases hq; exact ⟨f100, g100⟩
    | 1, hq => cases hq; exact ⟨f101, g101⟩
    | 2, hq => cases hq; exact ⟨f102, g102⟩
    | 3, hq => cases hq; exact ⟨f103, g103⟩
    | 4, hq => cases hq; exact ⟨f103, g103⟩
    | 5, hq => cases hq; exact ⟨f103, g103⟩
    | 6, hq => cases hq; exact ⟨f110, g110⟩
    | 7, hq => cases hq; exact ⟨f111, g111⟩
    | 8, hq => cases hq; exact ⟨f112, g112⟩
    | k + 9, hq => simp [ax_ty] at hq
