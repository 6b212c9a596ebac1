/-! THE CLASS'S HEAP takes a car, a campaign, a wave. -/
section RA
variable {E : xEn} {G G' G1 : xH} {x : Nat} {Z : xZ} {σ : St}
theorem fill_in (g : Nat → Int32) (base : Nat) (v : Int32) : ∀ (n j : Nat), j < n → fillN g base v n (base + j) = v := by
  intro n
  induction n with
  | zero => intro j hj; omega
  | succ n ih =>
    intro j hj
    rw [fillN]
    by_cases e : j = n
    · subst e; exact upd_self _ _ _
    · rw [upd_ne _ _ (by omega)]; exact ih j (by omega)
theorem fill_out (g : Nat → Int32) (base : Nat) (v : Int32) : ∀ (n j : Nat), j < base ∨ base + n ≤ j → fillN g base v n j = g j := by
  intro n
  induction n with
  | zero => intro j _; rfl
  | succ n ih =>
    intro j hj
    rw [fillN, upd_ne _ _ (by omega)]
    exact ih j (by omega)
theorem RepX.adC (h : RepX E G x Z σ) {q1 q2 : Nat} {num : Int64} {edn m' : Int32} {f : Nat → Int32} (hn : σ.1 < 500) (hq1 : G q1 = none) (hq2 : G q2 = none) (hne : q2 ≠ q1) (e1 : G1 q1 = Option.some (carOb num q2 1 0 none)) (e2 : G1 q2 = Option.some (.inl (E.1.1, 8, .inl f))) (hf : ∀ j, j < 8 → f j = edn) (e3 : ∀ r, r ≠ q1 → r ≠ q2 → G1 r = G r)
    (ha : aPost E G1 (Z.ad 1 0) q1 (arX E Z 0) σ.1 (.int m') (Z.cap 0) (Z.h 0) G') (w1 : σ.I 4 (σ.1 + 1) = 0) (w2 : ∀ k, 1 ≤ k → k ≤ 40 → σ.I 19 (41 * (σ.1 + 1) + k) = 0 ∧ σ.I 21 (41 * (σ.1 + 1) + k) = 0) : ∃ Z' : xZ, RepX E G' x Z' (carS σ num edn) ∧ FrX Z σ G Z' (carS σ num edn) G' ∧ Z'.bf = Z.bf := by
  obtain ⟨ed', cap', f', a1, a2, a3, a4, a5, a6, a7, a8, a9⟩ := h.app tl0 ha
  have hK := h.K40
  obtain ⟨n, hσn⟩ : ∃ n, n = σ.1 := ⟨_, rfl⟩
  obtain ⟨Z', z3, z4, z2, zA, zc0, zc, zm0, zm, zh0, zh, ze0, ze, zb0, zb, zl0, zl, zf⟩ : ∃ Z' : xZ, Z'.ad 3 (n + 1) = q1 ∧ Z'.ad 4 (n + 1) = q2 ∧ Z'.ad 2 0 = ed' ∧ (∀ a i, ¬ (a = 3 ∧ i = n + 1) → ¬ (a = 4 ∧ i = n + 1) → ¬ (a = 2 ∧ i = 0) → Z'.ad a i = Z.ad a i) ∧ Z'.cap 0 = cap' ∧ (∀ i, i ≠ 0 → Z'.cap i = Z.cap i) ∧ Z'.md 0 = m' ∧ (∀ i, i ≠ 0 → Z'.md i = Z.md i) ∧ Z'.h 0 = f' ∧ (∀ i, i ≠ 0 → Z'.h i = Z.h i) ∧ Z'.ef (n + 1) = f ∧ (∀ i, i ≠ n + 1 → Z'.ef i = Z.ef i) ∧ Z'.bg (n + 1) = 0 ∧ (∀ i, i ≠ n + 1 → Z'.bg i = Z.bg i) ∧ Z'.Lf (n + 1) = [] ∧ (∀ i, i ≠ n + 1 → Z'.Lf i = Z.Lf i) ∧ Z'.bf = Z.bf :=
    ⟨(u2 (u2 (u2 Z.ad 2 0 ed') 4 (n + 1) q2) 3 (n + 1) q1, uN Z.cap 0 cap', uN Z.md 0 m', uN Z.h 0 f', uN Z.ef (n + 1) f, uN Z.bg (n + 1) 0, Z.bf, uN Z.Lf (n + 1) []), (show u2 (u2 (u2 Z.ad 2 0 ed') 4 (n + 1) q2) 3 (n + 1) q1 3 (n + 1) = q1 from u2_self _ _ _ _), (show u2 (u2 (u2 Z.ad 2 0 ed') 4 (n + 1) q2) 3 (n + 1) q1 4 (n + 1) = q2 by rw [u2_ne _ (by omega), u2_self]), (show u2 (u2 (u2 Z.ad 2 0 ed') 4 (n + 1) q2) 3 (n + 1) q1 2 0 = ed' by rw [u2_ne _ (by omega), u2_ne _ (by omega), u2_self]), fun a i b1 b2 b3 => (show u2 (u2 (u2 Z.ad 2 0 ed') 4 (n + 1) q2) 3 (n + 1) q1 a i = _ by rw [u2_ne _ b1, u2_ne _ b2, u2_ne _ b3]), (show uN Z.cap 0 cap' 0 = _ from uN_self _ _ _), fun i hi => (show uN Z.cap 0 cap' i = _ from uN_ne _ _ hi), (show uN Z.md 0 m' 0 = _ from uN_self _ _ _), fun i hi => (show uN Z.md 0 m' i = _ from uN_ne _ _ hi), (show uN Z.h 0 f' 0 = _ from uN_self _ _ _), fun i hi => (show uN Z.h 0 f' i = _ from uN_ne _ _ hi), (show uN Z.ef (n + 1) f (n + 1) = _ from uN_self _ _ _), fun i hi => (show uN Z.ef (n + 1) f i = _ from uN_ne _ _ hi), (show uN Z.bg (n + 1) 0 (n + 1) = _ from uN_self _ _ _), fun i hi => (show uN Z.bg (n + 1) 0 i = _ from uN_ne _ _ hi), (show uN Z.Lf (n + 1) [] (n + 1) = _ from uN_self _ _ _), fun i hi => (show uN Z.Lf (n + 1) [] i = _ from uN_ne _ _ hi), rfl⟩
  have o1 : ∀ a i, liveX Z σ a i → Z.ad a i ≠ q1 := fun a i hi z => h.sm hi (by rw [z]; exact hq1)
  have o2 : ∀ a i, liveX Z σ a i → Z.ad a i ≠ q2 := fun a i hi z => h.sm hi (by rw [z]; exact hq2)
  have hold : ∀ a i, liveX Z σ a i → ¬ (a = 1 ∧ i = 0) → ¬ (a = 2 ∧ i = 0) → G' (Z.ad a i) = Option.some (cellX E Z σ a i) := by
    intro a i hi b1 b2
    have b3 := e3 _ (o1 a i hi) (o2 a i hi)
    rw [a9 _ (by rw [b3]; exact h.sm hi) (fun z => b1 (h.2.2.1 a i 1 0 hi tl0 z)) (fun z => b2 (h.2.2.1 a i 2 0 hi ⟨tl0, z.1⟩ z.2)), b3]
    exact h.2.1 a i hi
  have n1 : G' q1 = G1 q1 := a9 q1 (by rw [e1]; exact fun z => by cases z) (fun z => o1 1 0 tl0 z.symm) (fun z => o1 2 0 ⟨tl0, z.1⟩ z.2.symm)
  have n2 : G' q2 = G1 q2 := a9 q2 (by rw [e2]; exact fun z => by cases z) (fun z => o2 1 0 tl0 z.symm) (fun z => o2 2 0 ⟨tl0, z.1⟩ z.2.symm)
  have d1 : ed' ≠ q1 := fun z => by
    rcases a8 with ⟨b1, b2⟩ | b1
    · exact o1 2 0 ⟨tl0, b2⟩ (b1 ▸ z)
    · rw [z, e1] at b1; cases b1
  have d2 : ed' ≠ q2 := fun z => by
    rcases a8 with ⟨b1, b2⟩ | b1
    · exact o2 2 0 ⟨tl0, b2⟩ (b1 ▸ z)
    · rw [z, e2] at b1; cases b1
  have a8 : (ed' = Z.ad 2 0 ∧ Z.cap 0 ≠ 0) ∨ G ed' = none := by
    rcases a8 with b1 | b1
    · exact Or.inl b1
    · exact Or.inr (by rw [← e3 _ d1 d2]; exact b1)
  have hhd : ∀ c L, hdX Z' c L = hdX Z c L := fun c L => hd_eq L (fun j _ => zA _ _ (by omega) (by omega) (by omega))
  have hN : ∀ a i, ((a = 3 ∧ i = n + 1) ∨ (a = 4 ∧ i = n + 1) ∨ (a = 2 ∧ i = 0 ∧ G ed' = none)) → G (Z'.ad a i) = none := by
    rintro a i (⟨rfl, rfl⟩ | ⟨rfl, rfl⟩ | ⟨rfl, rfl, b⟩)
    · rw [z3]; exact hq1
    · rw [z4]; exact hq2
    · rw [z2]; exact b
  have hl : ∀ a i, liveX Z' (carS σ num edn) a i → ((a = 3 ∧ i = n + 1) ∨ (a = 4 ∧ i = n + 1) ∨ (a = 2 ∧ i = 0 ∧ G ed' = none)) ∨ (liveX Z σ a i ∧ Z'.ad a i = Z.ad a i) := by
    intro a i hi
    by_cases c1 : a = 3 ∧ i = n + 1
    · exact Or.inl (Or.inl c1)
    by_cases c2 : a = 4 ∧ i = n + 1
    · exact Or.inl (Or.inr (Or.inl c2))
    by_cases c3 : a = 2 ∧ i = 0
    · rcases a8 with ⟨b1, b2⟩ | b1
      · obtain ⟨rfl, rfl⟩ := c3
        exact Or.inr ⟨⟨tl0, b2⟩, by rw [z2]; exact b1⟩
      · exact Or.inl (Or.inr (Or.inr ⟨c3.1, c3.2, b1⟩))
    refine Or.inr ⟨?_, zA a i c1 c2 c3⟩
    rcases live_cases hi with rfl | rfl | rfl | rfl | rfl | rfl | rfl | ⟨rfl, rfl⟩
    · exact hi
    · obtain ⟨b1, b2⟩ := hi
      exact ⟨b1, by rw [← zc i (fun z => c3 ⟨rfl, z⟩)]; exact b2⟩
    · have hi : 1 ≤ i ∧ i ≤ σ.1 + 1 := hi
      exact ⟨hi.1, by omega⟩
    · have hi : 1 ≤ i ∧ i ≤ σ.1 + 1 := hi
      exact ⟨hi.1, by omega⟩
    · exact hi
    · exact hi
    · have hi : 1 ≤ i / 41 ∧ i / 41 ≤ σ.1 + 1 ∧ i % 41 ∈ Z'.Lf (i / 41) := hi
      by_cases e : i / 41 = n + 1
      · rw [e, zl0] at hi
        exact absurd hi.2.2 (List.not_mem_nil)
      · rw [zl _ e] at hi
        exact ⟨hi.1, by omega, hi.2.2⟩
    · rfl
  refine ⟨Z', h.grow _ hN ?_ hl (fun a i hi => ?_) ?_ ⟨?_, ?_, fun c k1 k2 => ?_⟩, FrX_grow _ hN hl (fun q hq hg => ?_), zf⟩
  · rintro a i c j (⟨rfl, rfl⟩ | ⟨rfl, rfl⟩ | ⟨rfl, rfl, b⟩) (⟨rfl, rfl⟩ | ⟨rfl, rfl⟩ | ⟨rfl, rfl, b2⟩) he
    · exact ⟨rfl, rfl⟩
    · rw [z3, z4] at he; exact absurd he.symm hne
    · rw [z3, z2] at he; exact absurd he.symm d1
    · rw [z4, z3] at he; exact absurd he hne
    · exact ⟨rfl, rfl⟩
    · rw [z4, z2] at he; exact absurd he.symm d2
    · rw [z2, z3] at he; exact absurd he d1
    · rw [z2, z4] at he; exact absurd he d2
    · exact ⟨rfl, rfl⟩
  · by_cases c1 : a = 3 ∧ i = n + 1
    · obtain ⟨rfl, rfl⟩ := c1
      rw [z3, n1, e1]
      show _ = Option.some (carOb (vp_updL (σ.L 2) (σ.1 + 1) num (n + 1)) (Z'.ad 4 (n + 1)) (if σ.I 4 (n + 1) = 0 then 1 else 0) (nI (Z'.bg (n + 1))) (hdX Z' (n + 1) (Z'.Lf (n + 1))))
      rw [z4, zb0, zl0, hσn, updL_self, if_pos w1]
      rfl
    by_cases c2 : a = 4 ∧ i = n + 1
    · obtain ⟨rfl, rfl⟩ := c2
      rw [z4, n2, e2]
      show _ = Option.some (α := va_E) (Sum.inl (E.1.1, 8, .inl (Z'.ef (n + 1))))
      rw [ze0]
    by_cases c3 : a = 2 ∧ i = 0
    · obtain ⟨rfl, rfl⟩ := c3
      rw [z2, a2]
      show _ = Option.some (α := va_E) (Sum.inl (E.1.2.2.2, Z'.cap 0, xrf (Z'.h 0)))
      rw [zc0, zh0]
    by_cases c4 : a = 1 ∧ i = 0
    · obtain ⟨rfl, rfl⟩ := c4
      rw [zA 1 0 (by omega) (by omega) (by omega), a1]
      show _ = Option.some (α := va_E) (Sum.inr (6, [.ref (arX E Z' 0), .int (nI (σ.1 + 1)), .int (Z'.md 0)]))
      rw [arX, zc0, if_neg (by omega), z2, zm0]
    have hi0 : liveX Z σ a i := by
      rcases hl a i hi with (b | b | b) | b
      · exact absurd b c1
      · exact absurd b c2
      · exact absurd ⟨b.1, b.2.1⟩ c3
      · exact b.1
    rw [zA a i c1 c2 c3, hold a i hi0 c4 c3]
    congr 1
    rcases live_cases hi0 with rfl | rfl | rfl | rfl | rfl | rfl | rfl | ⟨rfl, rfl⟩
    · have i0 : i ≠ 0 := fun z => c4 ⟨rfl, z⟩
      show (.inr (6, [.ref (arX E Z i), .int (nI (lenX σ i)), .int (Z.md i)]) : va_E) = .inr (6, [.ref (arX E Z' i), .int (nI (lenX (carS σ num edn) i)), .int (Z'.md i)])
      have b1 : arX E Z' i = arX E Z i := by unfold arX; rw [zc i i0, zA 2 i (by omega) (by omega) (by omega)]
      have b2 : lenX (carS σ num edn) i = lenX σ i := by unfold lenX; rw [if_neg i0, if_neg i0]; rfl
      rw [b1, b2, zm i i0]
    · have i0 : i ≠ 0 := fun z => c3 ⟨rfl, z⟩
      show (.inl (E.1.2.2.2, Z.cap i, xrf (Z.h i)) : va_E) = .inl (E.1.2.2.2, Z'.cap i, xrf (Z'.h i))
      rw [zc i i0, zh i i0]
    · have i0 : i ≠ n + 1 := fun z => c1 ⟨rfl, z⟩
      show carOb (σ.L 2 i) (Z.ad 4 i) _ (nI (Z.bg i)) (hdX Z i (Z.Lf i)) = carOb (vp_updL (σ.L 2) (σ.1 + 1) num i) (Z'.ad 4 i) _ (nI (Z'.bg i)) (hdX Z' i (Z'.Lf i))
      rw [zb i i0, zl i i0, hhd, updL_ne _ _ (by omega), zA 4 i (by omega) (by omega) (by omega)]
      rfl
    · have i0 : i ≠ n + 1 := fun z => c2 ⟨rfl, z⟩
      show (.inl (E.1.1, 8, .inl (Z.ef i)) : va_E) = .inl (E.1.1, 8, .inl (Z'.ef i))
      rw [ze i i0]
    · show campOb _ _ _ _ _ (Z.ad 1 i) _ (Z.bf i) _ _ _ _ = campOb _ _ _ _ _ (Z'.ad 1 i) _ (Z'.bf i) _ _ _ _
      rw [zf, zA 1 i (by omega) (by omega) (by omega)]
      rfl
    · exact (cellX_6 E Z σ i).trans (cellX_6 E Z' (carS σ num edn) i).symm
    · have hi0 : 1 ≤ i / 41 ∧ i / 41 ≤ σ.1 ∧ i % 41 ∈ Z.Lf (i / 41) := hi0
      show (.inr (4, [_, va_rf (hdX Z (i / 41) (aftX (i % 41) (Z.Lf (i / 41)))), _, _]) : va_E) = .inr (4, [_, va_rf (hdX Z' (i / 41) (aftX (i % 41) (Z'.Lf (i / 41)))), _, _])
      rw [zl _ (by omega), hhd]
      rfl
    · show (.inr (0, [.ref (Z.ad 1 0), .ref (Z.ad 1 100), _]) : va_E) = .inr (0, [.ref (Z'.ad 1 0), .ref (Z'.ad 1 100), _])
      rw [zA 1 0 (by omega) (by omega) (by omega), zA 1 100 (by omega) (by omega) (by omega)]
      rfl
  · rw [zA 9 0 (by omega) (by omega) (by omega)]; exact h.1
  · exact ⟨by show σ.1 + 1 ≤ 500; omega, h.2.2.2.1.2.1, h.2.2.2.1.2.2⟩
  · intro t ht
    by_cases t0 : t = 0
    · subst t0
      show Z'.cap 0 ≤ 1000 ∧ σ.1 + 1 ≤ Z'.cap 0 ∧ ∀ i, i < σ.1 + 1 → Z'.h 0 i = Option.some (Z'.ad 3 (i + 1))
      rw [zc0, zh0]
      refine ⟨a5, a4, fun i hi => ?_⟩
      by_cases e : i = n
      · subst e
        rw [z3, hσn]; exact a7
      · rw [a6 i (by omega), zA 3 (i + 1) (by omega) (by omega) (by omega)]
        exact h.el0 (by omega)
    · obtain ⟨b1, b2, b3⟩ := h.2.2.2.2.1 t ht
      have e5 : lenX (carS σ num edn) t = lenX σ t := by unfold lenX; rw [if_neg t0, if_neg t0]; rfl
      rw [e5, zc t t0, zh t t0]
      refine ⟨b1, b2, fun i hi => ?_⟩
      rw [b3 i hi]
      unfold elX
      rw [if_neg t0, if_neg t0, zA 5 _ (by omega) (by omega) (by omega), zA 6 _ (by omega) (by omega) (by omega)]
  · by_cases e : c = n + 1
    · subst e
      refine ⟨fun p hp => ?_, ⟨?_, fun k j1 j2 => ?_⟩, ?_, fun k hk => ?_, fun k j1 j2 => ?_⟩
      · rw [ze0, hf p hp]
        show _ = fillN (σ.I 3) (8 * (σ.1 + 1)) edn 8 (8 * (n + 1) + p)
        rw [← hσn, fill_in _ _ _ _ _ hp]
      · rw [zb0]; exact Nat.zero_le _
      · rw [zb0]
        have := (w2 k j1 j2).2
        rw [← hσn] at this
        exact ⟨fun _ => by omega, fun _ => this⟩
      · rw [zl0]; exact List.nodup_nil
      · rw [zl0] at hk; exact absurd hk List.not_mem_nil
      · rw [zl0]
        have := (w2 k j1 j2).1
        rw [← hσn] at this
        exact ⟨fun z => absurd z List.not_mem_nil, fun z => absurd this z⟩
    · have k2 : c ≤ σ.1 + 1 := k2
      obtain ⟨p1, p2, p3, p4, p5⟩ := h.2.2.2.2.2 c k1 (by omega)
      refine ⟨fun p hp => ?_, ?_, ?_, ?_, ?_⟩
      · rw [ze c e, p1 p hp]
        show _ = fillN (σ.I 3) (8 * (σ.1 + 1)) edn 8 (8 * c + p)
        rw [fill_out _ _ _ _ _ (by omega)]
      · rw [zb c e]; exact p2
      · rw [zl c e]; exact p3
      · rw [zl c e]; exact p4
      · rw [zl c e]; exact p5
  · have r1 : q ≠ q1 := fun z => hg (by rw [z]; exact hq1)
    have r2 : q ≠ q2 := fun z => hg (by rw [z]; exact hq2)
    rw [a9 q (by rw [e3 q r1 r2]; exact hg) (fun z => hq ⟨1, 0, tl0, z⟩) (fun z => hq ⟨2, 0, ⟨tl0, z.1⟩, z.2⟩), e3 q r1 r2]
end RA
