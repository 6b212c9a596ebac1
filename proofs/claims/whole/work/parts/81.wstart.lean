/-! THE START: what the tables and the claim's premises say of the heap and the classes. -/
set_option maxHeartbeats 4000000 in
set_option maxRecDepth 100000 in
theorem xE_start {s : State} {b0 : Nat} (hts : ∀ w ∈ lw_tbl, w.before #[Value.ref b0] s = true) (hgv : (Jvm.Cond.and given_1 narrow_1).before #[Value.ref b0] s = true) : ∃ (D : va_G) (E : xEn), xE D E s.heap.size s := by
  have hs := flat_of_before _ hgv
  have hx : ∀ w ∈ xT, w.before #[Value.ref b0] s = true := fun w hw => hts w (List.mem_filter.mp hw).1
  obtain ⟨c0, i0, h0⟩ := u_known (C := "FleetWaves") (T := T_F) (N := 3) (n := 3) hx in_F (hts (.instantiable "FleetWaves" 3) (by decide +kernel))
  obtain ⟨c1, i1, h1⟩ := u_known (C := "FleetWaves$Car") (T := T_C) (N := 5) (n := 5) hx in_C (hts (.instantiable "FleetWaves$Car" 5) (by decide +kernel))
  obtain ⟨c2, i2, h2⟩ := u_known (C := "FleetWaves$Campaign") (T := T_K) (N := 12) (n := 12) hx in_K (hts (.instantiable "FleetWaves$Campaign" 12) (by decide +kernel))
  obtain ⟨c3, i3, h3⟩ := u_known (C := "FleetWaves$Wave") (T := T_V) (N := 3) (n := 3) hx in_V (hts (.instantiable "FleetWaves$Wave" 3) (by decide +kernel))
  obtain ⟨c4, i4, h4⟩ := u_known (C := "FleetWaves$Failure") (T := T_E) (N := 4) (n := 4) hx in_E (hts (.instantiable "FleetWaves$Failure" 4) (by decide +kernel))
  obtain ⟨c5, i5, h5⟩ := u_known (C := "FleetWavesModel") (T := T_M) (N := 23) (n := 23) hx in_M (hts (.instantiable "FleetWavesModel" 23) (by decide +kernel))
  obtain ⟨c6, i6, h6⟩ := u_known (C := "java/util/ArrayList") (T := T_A) (N := 3) (n := 3) hx in_A (hts (.instantiable "java/util/ArrayList" 3) (by decide +kernel))
  obtain ⟨D, hD⟩ : ∃ D : va_G, ∀ (k : Nat) (q : vw_C), xcls[k]? = some q → u_Kn s q.1 q.2.1 q.2.2 (D.1 k) (D.2 k) := by
    refine ⟨(fun k => match k with | 0 => c0 | 1 => c1 | 2 => c2 | 3 => c3 | 4 => c4 | 5 => c5 | _ => c6, fun k => match k with | 0 => i0 | 1 => i1 | 2 => i2 | 3 => i3 | 4 => i4 | 5 => i5 | _ => i6), ?_⟩
    intro k q hq
    match k, hq with
    | 0, hq => cases hq; exact h0
    | 1, hq => cases hq; exact h1
    | 2, hq => cases hq; exact h2
    | 3, hq => cases hq; exact h3
    | 4, hq => cases hq; exact h4
    | 5, hq => cases hq; exact h5
    | 6, hq => cases hq; exact h6
    | k + 7, hq => cases hq
  obtain ⟨a1, k1, m1, p1, p2, p3⟩ := Cond.arrayClass_spec (hts (.arrayClass .int) (by decide +kernel))
  obtain ⟨a2, k2, m2, q1, q2, q3⟩ := Cond.arrayClass_spec (hts (.arrayClass .long) (by decide +kernel))
  obtain ⟨a3, k3, m3, r1, r2, r3⟩ := Cond.arrayClass_spec (hts (.arrayClass .boolean) (by decide +kernel))
  have hao := hts (.arrayOver (.object "java/lang/Object")) (by decide +kernel)
  obtain ⟨m4, a4, k4, t1, -, t2, t3, t4⟩ := Cond.arrayOver_spec hao
  have hA : ∀ a : Nat, a < s.heap.size → ¬ s.heap.size ≤ a := fun a h => by omega
  obtain ⟨tt, ht, hT⟩ := va_Tof (s := s) (args := #[Value.ref b0]) (N := 0) (f := fun _ => .null) (A := fun q => s.heap.size ≤ q) (tm := .static "java/util/ArrayList" "DEFAULTCAPACITY_EMPTY_ELEMENTDATA" "[Ljava/lang/Object;") (ty := .object "java/lang/Object") (by decide) (hs _ (by decide +kernel)) (va_eqt (z := 0) (hs _ (by decide +kernel))) (fun j hj => absurd hj (by omega)) hA
  have hZ := va_Zref (hts (.laysStatic "java/util/ArrayList" "DEFAULTCAPACITY_EMPTY_ELEMENTDATA" "[Ljava/lang/Object;") (by decide +kernel)) (hts (.initialized "java/util/ArrayList") (by decide +kernel)) ht hA
  obtain ⟨mi, hmi⟩ := va_Mi.of (hs (.isRef (.mirror "[Ljava/lang/Object;")) (by decide +kernel))
  obtain ⟨sa, -, -, -, hsa, -⟩ := Cond.exactly_spec (hs (.exactly (.string "FleetWaves" 127) "java/lang/String") (by decide +kernel))
  have hl1 := hts (.laysStatic "java/lang/Throwable" "UNASSIGNED_STACK" "[Ljava/lang/StackTraceElement;") (by decide +kernel)
  have hl2 := hts (.laysStatic "java/lang/Throwable" "SUPPRESSED_SENTINEL" "Ljava/util/List;") (by decide +kernel)
  have hit := hts (.initialized "java/lang/Throwable") (by decide +kernel)
  refine ⟨D, ((a1, a2, a3, a4), tt, mi), ⟨hD, ?_⟩, hZ, hT, ?_, hao, va_Dc.of (hts _ (by decide +kernel)), hmi, va_Zqof hl1 hit (hs _ (by decide +kernel)) hA, va_Zqof hl2 hit (hs _ (by decide +kernel)) hA, hl1, hl2, ?_, sa, vk_R.of (hts (.stringRef "FleetWaves" 127 "no reports") (by decide +kernel)) hsa⟩
  · intro k q hq
    match k, hq with
    | 0, hq => cases hq; exact ⟨fun n z => ⟨fun k h => (by cases h), k1, p2, m1, p3⟩, p1⟩
    | 1, hq => cases hq; exact ⟨fun n z => ⟨fun k h => (by cases h), k2, q2, m2, q3⟩, q1⟩
    | 2, hq => cases hq; exact ⟨fun n z => ⟨fun k h => (by cases h), k3, r2, m3, r3⟩, r1⟩
    | 3, hq => cases hq; exact ⟨fun n z => ⟨fun k h => (by cases h), k4, t2, m4, t3⟩, k4, m4, t2, t3, t1, t4⟩
    | k + 4, hq => cases hq
  · intro q hq
    simp only [xcast, List.mem_cons, List.not_mem_nil, or_false] at hq
    rcases hq with rfl | rfl | rfl | rfl | rfl | rfl | rfl | rfl | rfl | rfl <;> exact va_Nw.of rfl (hts _ (by decide +kernel))
  · intro w hw
    simp only [xdec, List.mem_cons, List.not_mem_nil, or_false] at hw
    rcases hw with rfl | rfl | rfl <;> exact va_Nw.of rfl (hts _ (by decide +kernel))
/-- from the entry, for every script of at most 4096 ints, the law comes to its end with true -/
theorem whole_start {p : Program} {e : Env} {s : State} {m : MethodId} {below : List Frame} {meth : Method} {c : Code} (l : Launch) {b L : Nat} {xs : Nat → Int32} (htr : e.platform.stackTraces = false) (hnm : meth.name = x.name) (hL : L ≤ 4096) (C0 : lw_At p s m meth c b L xs) : W p l e room_1 s m #[Value.ref b] below meth c s.heap [] 0 0 (lw_Z below #[Value.ref b] s) (entryFrame m ([Value.ref b] : List Value).toArray 8) := by
  obtain ⟨hx, hcb, hret, hml, hown, hts, hX, hbl, hlk, hgv⟩ := C0
  obtain ⟨D, E, hE⟩ := xE_start hts hgv
  have hI : xIn p s m #[Value.ref b] meth c D E s.heap.size x code 8 (some .boolean) := ⟨⟨hx, hcb, rfl, hown, fun w hw => hts w (List.mem_filter.mp hw).1⟩, hE, Nat.le_refl _, hnm, hret, hlk, hml⟩
  have hC : LC p e s m meth c D E s.heap.size b L xs := ⟨hI, htr, hX, hbl, Nat.not_le.mpr hbl, hL⟩
  have key := law_start (l := l) (below := below) hC (Nat.le_refl _)
  obtain ⟨h1, h2⟩ := xent_xl [Value.ref b] 8 (by simp [xfl, Value.category])
  rw [lg_entry_eq]
  exact key s.heap [] _ ⟨[], fun k q h => (by cases h), ⟨fun i j p q h => (by cases h), fun k q h => (by cases h)⟩, fun a e => ⟨fun z => (by cases z), fun ⟨k, z⟩ => (by cases z)⟩⟩ va_S.rf h1 (by show 8 = _; exact hml.symm)
