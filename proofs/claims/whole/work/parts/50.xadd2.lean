/-! THE CLASS'S HEAP takes a campaign, a wave. -/
section RB
variable {E : xEn} {G G' G1 : xH} {x : Nat} {Z : xZ} {σ : St}
/-- the state with a new wave, before its campaign runs -/
def wavS (σ : St) (k : Nat) (u d t : Int64) : St := (σ.1, σ.2.1, σ.2.2.1, fI 9 (upd (σ.I 9) k (nI (wv σ k + 1))) σ.I, fI 12 (vp_updL (σ.L 12) (21 * k + wv σ k + 1) t) (fI 11 (vp_updL (σ.L 11) (21 * k + wv σ k + 1) d) (fI 10 (vp_updL (σ.L 10) (21 * k + wv σ k + 1) u) σ.L)))
theorem wavS_wv {k : Nat} (h : wv σ k ≤ 20) (u d t : Int64) : wv (wavS σ k u d t) k = wv σ k + 1 := by
  show (upd (σ.I 9) k (nI (wv σ k + 1)) k).toNatClampNeg = _
  rw [upd_self, nI_clamp (by omega)]
theorem wavS_wn {k j : Nat} (h : j ≠ k) (u d t : Int64) : wv (wavS σ k u d t) j = wv σ j := by
  show (upd (σ.I 9) k (nI (wv σ k + 1)) j).toNatClampNeg = _
  rw [upd_ne _ _ h]
  rfl
theorem RepX.adW (h : RepX E G x Z σ) {q1 k : Nat} {u d t : Int64} {m' : Int32} (k1 : 1 ≤ k) (k2 : k ≤ σ.2.1) (hw : wv σ k < 20) (hq1 : G q1 = none) (e1 : G1 q1 = Option.some (.inr (3, [.long u, .long d, .long t]))) (e3 : ∀ r, r ≠ q1 → G1 r = G r)
    (ha : aPost E G1 (Z.ad 1 k) q1 (arX E Z k) (wv σ k) (.int m') (Z.cap k) (Z.h k) G') : ∃ Z' : xZ, RepX E G' x Z' (wavS σ k u d t) ∧ FrX Z σ G Z' (wavS σ k u d t) G' ∧ Z'.bf = Z.bf ∧ (∀ i, Z'.ad 5 i = Z.ad 5 i) ∧ ∀ i, Z'.ad 1 i = Z.ad 1 i := by
  have ht := tlK k1 k2
  obtain ⟨ed', cap', f', a1, a2, a3, a4, a5, a6, a7, a8, a9⟩ := h.app ht ha
  have hK := h.K40
  obtain ⟨n, hσn⟩ : ∃ n, n = wv σ k := ⟨_, rfl⟩
  obtain ⟨Z', z3, z2, zA, zc0, zc, zm0, zm, zh0, zh, ze, zb, zl, zf⟩ : ∃ Z' : xZ, Z'.ad 6 (21 * k + n + 1) = q1 ∧ Z'.ad 2 k = ed' ∧ (∀ a i, ¬ (a = 6 ∧ i = 21 * k + n + 1) → ¬ (a = 2 ∧ i = k) → Z'.ad a i = Z.ad a i) ∧ Z'.cap k = cap' ∧ (∀ i, i ≠ k → Z'.cap i = Z.cap i) ∧ Z'.md k = m' ∧ (∀ i, i ≠ k → Z'.md i = Z.md i) ∧ Z'.h k = f' ∧ (∀ i, i ≠ k → Z'.h i = Z.h i) ∧ Z'.ef = Z.ef ∧ Z'.bg = Z.bg ∧ Z'.Lf = Z.Lf ∧ Z'.bf = Z.bf :=
    ⟨(u2 (u2 Z.ad 2 k ed') 6 (21 * k + n + 1) q1, uN Z.cap k cap', uN Z.md k m', uN Z.h k f', Z.ef, Z.bg, Z.bf, Z.Lf), (show u2 (u2 Z.ad 2 k ed') 6 (21 * k + n + 1) q1 6 (21 * k + n + 1) = q1 from u2_self _ _ _ _), (show u2 (u2 Z.ad 2 k ed') 6 (21 * k + n + 1) q1 2 k = ed' by rw [u2_ne _ (by omega), u2_self]), fun a i b1 b2 => (show u2 (u2 Z.ad 2 k ed') 6 (21 * k + n + 1) q1 a i = _ by rw [u2_ne _ b1, u2_ne _ b2]), (show uN Z.cap k cap' k = _ from uN_self _ _ _), fun i hi => (show uN Z.cap k cap' i = _ from uN_ne _ _ hi), (show uN Z.md k m' k = _ from uN_self _ _ _), fun i hi => (show uN Z.md k m' i = _ from uN_ne _ _ hi), (show uN Z.h k f' k = _ from uN_self _ _ _), fun i hi => (show uN Z.h k f' i = _ from uN_ne _ _ hi), rfl, rfl, rfl, rfl⟩
  have o1 : ∀ a i, liveX Z σ a i → Z.ad a i ≠ q1 := fun a i hi z => h.sm hi (by rw [z]; exact hq1)
  have hold : ∀ a i, liveX Z σ a i → ¬ (a = 1 ∧ i = k) → ¬ (a = 2 ∧ i = k) → G' (Z.ad a i) = Option.some (cellX E Z σ a i) := by
    intro a i hi b1 b2
    have b3 := e3 _ (o1 a i hi)
    rw [a9 _ (by rw [b3]; exact h.sm hi) (fun z => b1 (h.2.2.1 a i 1 k hi ht z)) (fun z => b2 (h.2.2.1 a i 2 k hi ⟨ht, z.1⟩ z.2)), b3]
    exact h.2.1 a i hi
  have n1 : G' q1 = G1 q1 := a9 q1 (by rw [e1]; exact fun z => by cases z) (fun z => o1 1 k ht z.symm) (fun z => o1 2 k ⟨ht, z.1⟩ z.2.symm)
  have d1 : ed' ≠ q1 := fun z => by
    rcases a8 with ⟨b1, b2⟩ | b1
    · exact o1 2 k ⟨ht, b2⟩ (b1 ▸ z)
    · rw [z, e1] at b1; cases b1
  have a8 : (ed' = Z.ad 2 k ∧ Z.cap k ≠ 0) ∨ G ed' = none := by
    rcases a8 with b1 | b1
    · exact Or.inl b1
    · exact Or.inr (by rw [← e3 _ d1]; exact b1)
  have hhd : ∀ c L, hdX Z' c L = hdX Z c L := fun c L => hd_eq L (fun j _ => zA _ _ (by omega) (by omega))
  have w1 := wavS_wv (σ := σ) (k := k) (by omega) u d t
  have w2 := fun {j : Nat} (hj : j ≠ k) => wavS_wn (σ := σ) hj u d t
  have hlen : ∀ i, i ≠ k → lenX (wavS σ k u d t) i = lenX σ i := fun i hi => by unfold lenX; rw [w2 hi]; rfl
  have hN : ∀ a i, ((a = 6 ∧ i = 21 * k + n + 1) ∨ (a = 2 ∧ i = k ∧ G ed' = none)) → G (Z'.ad a i) = none := by
    rintro a i (⟨rfl, rfl⟩ | ⟨rfl, rfl, b⟩)
    · rw [z3]; exact hq1
    · rw [z2]; exact b
  have hl : ∀ a i, liveX Z' (wavS σ k u d t) a i → ((a = 6 ∧ i = 21 * k + n + 1) ∨ (a = 2 ∧ i = k ∧ G ed' = none)) ∨ (liveX Z σ a i ∧ Z'.ad a i = Z.ad a i) := by
    intro a i hi
    by_cases c1 : a = 6 ∧ i = 21 * k + n + 1
    · exact Or.inl (Or.inl c1)
    by_cases c3 : a = 2 ∧ i = k
    · rcases a8 with ⟨b1, b2⟩ | b1
      · obtain ⟨rfl, rfl⟩ := c3
        exact Or.inr ⟨⟨ht, b2⟩, by rw [z2]; exact b1⟩
      · exact Or.inl (Or.inr ⟨c3.1, c3.2, b1⟩)
    refine Or.inr ⟨?_, zA a i c1 c3⟩
    rcases live_cases hi with rfl | rfl | rfl | rfl | rfl | rfl | rfl | ⟨rfl, rfl⟩
    · have hi : i = 0 ∨ i = 100 ∨ (1 ≤ i ∧ i ≤ σ.2.1) := hi
      exact hi
    · have hi : (i = 0 ∨ i = 100 ∨ (1 ≤ i ∧ i ≤ σ.2.1)) ∧ Z'.cap i ≠ 0 := hi
      obtain ⟨b1, b2⟩ := hi
      exact ⟨b1, by rw [← zc i (fun z => c3 ⟨rfl, z⟩)]; exact b2⟩
    · have hi : 1 ≤ i ∧ i ≤ σ.1 := hi
      exact hi
    · have hi : 1 ≤ i ∧ i ≤ σ.1 := hi
      exact hi
    · have hi : 1 ≤ i ∧ i ≤ σ.2.1 := hi
      exact hi
    · have hi : 1 ≤ i / 21 ∧ i / 21 ≤ σ.2.1 ∧ 1 ≤ i % 21 ∧ i % 21 ≤ wv (wavS σ k u d t) (i / 21) := hi
      refine ⟨hi.1, hi.2.1, hi.2.2.1, ?_⟩
      by_cases e : i / 21 = k
      · rw [e]
        have e9 := hi.2.2.2
        rw [e, w1] at e9
        omega
      · rw [← w2 e]; exact hi.2.2.2
    · have hi : 1 ≤ i / 41 ∧ i / 41 ≤ σ.1 ∧ i % 41 ∈ Z'.Lf (i / 41) := hi
      rw [zl] at hi
      exact hi
    · rfl
  refine ⟨Z', h.grow _ hN ?_ hl (fun a i hi => ?_) ?_ ⟨?_, ?_, fun c j1 j2 => ?_⟩, FrX_grow _ hN hl (fun q hq hg => ?_), zf, fun i => zA 5 i (by omega) (by omega), fun i => zA 1 i (by omega) (by omega)⟩
  · rintro a i c j (⟨rfl, rfl⟩ | ⟨rfl, rfl, b⟩) (⟨rfl, rfl⟩ | ⟨rfl, rfl, b2⟩) he
    · exact ⟨rfl, rfl⟩
    · rw [z3, z2] at he; exact absurd he.symm d1
    · rw [z2, z3] at he; exact absurd he d1
    · exact ⟨rfl, rfl⟩
  · by_cases c1 : a = 6 ∧ i = 21 * k + n + 1
    · obtain ⟨rfl, rfl⟩ := c1
      rw [z3, n1, e1]
      show _ = Option.some (α := va_E) (Sum.inr (3, [.long (vp_updL (σ.L 10) (21 * k + wv σ k + 1) u (21 * k + n + 1)), .long (vp_updL (σ.L 11) (21 * k + wv σ k + 1) d (21 * k + n + 1)), .long (vp_updL (σ.L 12) (21 * k + wv σ k + 1) t (21 * k + n + 1))]))
      rw [← hσn, updL_self, updL_self, updL_self]
    by_cases c3 : a = 2 ∧ i = k
    · obtain ⟨rfl, rfl⟩ := c3
      rw [z2, a2]
      show _ = Option.some (α := va_E) (Sum.inl (E.1.2.2.2, Z'.cap i, xrf (Z'.h i)))
      rw [zc0, zh0]
    by_cases c4 : a = 1 ∧ i = k
    · obtain ⟨rfl, rfl⟩ := c4
      rw [zA 1 i (by omega) (by omega), a1]
      show _ = Option.some (α := va_E) (Sum.inr (6, [.ref (arX E Z' i), .int (nI (lenX (wavS σ i u d t) i)), .int (Z'.md i)]))
      rw [arX, zc0, if_neg (by omega), z2, zm0, lenK k1 (by omega), w1]
    have hi0 : liveX Z σ a i := by
      rcases hl a i hi with (b | b) | b
      · exact absurd b c1
      · exact absurd ⟨b.1, b.2.1⟩ c3
      · exact b.1
    rw [zA a i c1 c3, hold a i hi0 c4 c3]
    congr 1
    rcases live_cases hi0 with rfl | rfl | rfl | rfl | rfl | rfl | rfl | ⟨rfl, rfl⟩
    · have i0 : i ≠ k := fun z => c4 ⟨rfl, z⟩
      show (.inr (6, [.ref (arX E Z i), .int (nI (lenX σ i)), .int (Z.md i)]) : va_E) = .inr (6, [.ref (arX E Z' i), .int (nI (lenX (wavS σ k u d t) i)), .int (Z'.md i)])
      have b1 : arX E Z' i = arX E Z i := by unfold arX; rw [zc i i0, zA 2 i (by omega) (by omega)]
      rw [b1, hlen i i0, zm i i0]
    · have i0 : i ≠ k := fun z => c3 ⟨rfl, z⟩
      show (.inl (E.1.2.2.2, Z.cap i, xrf (Z.h i)) : va_E) = .inl (E.1.2.2.2, Z'.cap i, xrf (Z'.h i))
      rw [zc i i0, zh i i0]
    · show carOb (σ.L 2 i) (Z.ad 4 i) _ (nI (Z.bg i)) (hdX Z i (Z.Lf i)) = carOb (σ.L 2 i) (Z'.ad 4 i) _ (nI (Z'.bg i)) (hdX Z' i (Z'.Lf i))
      rw [zb, zl, hhd, zA 4 i (by omega) (by omega)]
      rfl
    · show (.inl (E.1.1, 8, .inl (Z.ef i)) : va_E) = .inl (E.1.1, 8, .inl (Z'.ef i))
      rw [ze]
    · show campOb _ _ _ _ _ (Z.ad 1 i) _ (Z.bf i) _ _ _ _ = campOb _ _ _ _ _ (Z'.ad 1 i) _ (Z'.bf i) _ _ _ _
      rw [zf, zA 1 i (by omega) (by omega)]
      rfl
    · have i0 : i ≠ 21 * k + wv σ k + 1 := fun z => c1 ⟨rfl, by rw [hσn]; exact z⟩
      show (.inr (3, [.long (σ.L 10 i), .long (σ.L 11 i), .long (σ.L 12 i)]) : va_E) = .inr (3, [.long (vp_updL (σ.L 10) (21 * k + wv σ k + 1) u i), .long (vp_updL (σ.L 11) (21 * k + wv σ k + 1) d i), .long (vp_updL (σ.L 12) (21 * k + wv σ k + 1) t i)])
      rw [updL_ne _ _ i0, updL_ne _ _ i0, updL_ne _ _ i0]
    · show (.inr (4, [_, va_rf (hdX Z (i / 41) (aftX (i % 41) (Z.Lf (i / 41)))), _, _]) : va_E) = .inr (4, [_, va_rf (hdX Z' (i / 41) (aftX (i % 41) (Z'.Lf (i / 41)))), _, _])
      rw [zl, hhd]
      rfl
    · show (.inr (0, [.ref (Z.ad 1 0), .ref (Z.ad 1 100), _]) : va_E) = .inr (0, [.ref (Z'.ad 1 0), .ref (Z'.ad 1 100), _])
      rw [zA 1 0 (by omega) (by omega), zA 1 100 (by omega) (by omega)]
      rfl
  · rw [zA 9 0 (by omega) (by omega)]; exact h.1
  · refine ⟨h.2.2.2.1.1, h.2.2.2.1.2.1, fun j hj => ?_⟩
    by_cases e : j = k
    · subst e
      rw [w1]
      refine ⟨by omega, ?_⟩
      show upd (σ.I 9) j (nI (wv σ j + 1)) j = _
      rw [upd_self]
    · rw [w2 e]
      refine ⟨(h.2.2.2.1.2.2 j hj).1, ?_⟩
      show upd (σ.I 9) k (nI (wv σ k + 1)) j = _
      rw [upd_ne _ _ e]
      exact (h.2.2.2.1.2.2 j hj).2
  · intro s hs
    by_cases t0 : s = k
    · subst t0
      rw [lenK k1 (by omega), w1, zc0, zh0]
      refine ⟨a5, a4, fun i hi => ?_⟩
      unfold elX
      rw [if_neg (by omega), if_neg (by omega)]
      by_cases e : i = n
      · subst e
        rw [show 21 * s + (i + 1) = 21 * s + i + 1 by omega, z3, hσn]; exact a7
      · rw [a6 i (by omega), zA 6 _ (by omega) (by omega)]
        exact h.elK k1 k2 (by omega)
    · obtain ⟨b1, b2, b3⟩ := h.2.2.2.2.1 s hs
      rw [hlen s t0, zc s t0, zh s t0]
      refine ⟨b1, b2, fun i hi => ?_⟩
      rw [b3 i hi]
      unfold elX
      by_cases s0 : s = 0
      · rw [if_pos s0, if_pos s0, zA 3 _ (by omega) (by omega)]
      · by_cases s1 : s = 100
        · rw [if_neg s0, if_neg s0, if_pos s1, if_pos s1, zA 5 _ (by omega) (by omega)]
        · have hs2 : 1 ≤ s ∧ s ≤ σ.2.1 := by
            rcases hs with z | z | z
            · exact absurd z s0
            · exact absurd z s1
            · exact z
          have hi2 : i < wv σ s := by
            have e9 := hi
            rw [lenK hs2.1 (by omega)] at e9
            exact e9
          have := h.w20 (k := s) (by omega)
          rw [if_neg s0, if_neg s0, if_neg s1, if_neg s1, zA 6 _ (by omega) (by omega)]
  · obtain ⟨p1, p2, p3, p4, p5⟩ := h.2.2.2.2.2 c j1 j2
    unfold ShC
    rw [ze, zb, zl]
    exact ⟨p1, p2, p3, p4, p5⟩
  · have r1 : q ≠ q1 := fun z => hg (by rw [z]; exact hq1)
    rw [a9 q (by rw [e3 q r1]; exact hg) (fun z => hq ⟨1, k, ht, z⟩) (fun z => hq ⟨2, k, ⟨ht, z.1⟩, z.2⟩), e3 q r1]
theorem RepX.adK (h : RepX E G x Z σ) {q1 q2 p1 : Nat} {f edn m' md rm : Int32} {v : Int64} (hn : σ.2.1 < 40) (hq1 : G q1 = none) (hq2 : G q2 = none) (hne : q2 ≠ q1) (e1 : G1 q1 = Option.some (campOb (nI (σ.2.1 + 1)) p1 md rm edn q2 0 v 0 0 0 0)) (e2 : G1 q2 = Option.some (.inr (6, [.ref E.2.1, .int (nI 0), .int 0]))) (e3 : ∀ r, r ≠ q1 → r ≠ q2 → G1 r = G r)
    (ha : aPost E G1 (Z.ad 1 100) q1 (arX E Z 100) σ.2.1 (.int m') (Z.cap 100) (Z.h 100) G') (g1 : pt (campS σ f edn) (σ.2.1 + 1) = p1) (g2 : mm (campS σ f edn) (σ.2.1 + 1) = md) (g3 : kr (campS σ f edn) (σ.2.1 + 1) = rm)
    (w1 : σ.I 8 (σ.2.1 + 1) = 0) (w2 : wv σ (σ.2.1 + 1) = 0) (w3 : σ.I 15 (σ.2.1 + 1) = 0) (w4 : σ.I 16 (σ.2.1 + 1) = 0) (w5 : σ.L 13 (σ.2.1 + 1) = 0) (w6 : σ.L 14 (σ.2.1 + 1) = 0) : ∃ Z' : xZ, RepX E G' x Z' (campS σ f edn) ∧ FrX Z σ G Z' (campS σ f edn) G' ∧ Z'.bf = uN Z.bf (σ.2.1 + 1) v := by
  obtain ⟨ed', cap', f', a1, a2, a3, a4, a5, a6, a7, a8, a9⟩ := h.app tl100 ha
  have hK := h.K40
  obtain ⟨n, hσn⟩ : ∃ n, n = σ.2.1 := ⟨_, rfl⟩
  rw [← hσn] at w1 w2 w3 w4 w5 w6 g1 g2 g3
  obtain ⟨Z', z3, z4, z2, zA, zc0, zc1, zc, zm0, zm1, zm, zh0, zh, ze, zb, zl, zf⟩ : ∃ Z' : xZ, Z'.ad 5 (n + 1) = q1 ∧ Z'.ad 1 (n + 1) = q2 ∧ Z'.ad 2 100 = ed' ∧ (∀ a i, ¬ (a = 5 ∧ i = n + 1) → ¬ (a = 1 ∧ i = n + 1) → ¬ (a = 2 ∧ i = 100) → Z'.ad a i = Z.ad a i) ∧ Z'.cap 100 = cap' ∧ Z'.cap (n + 1) = 0 ∧ (∀ i, i ≠ 100 → i ≠ n + 1 → Z'.cap i = Z.cap i) ∧ Z'.md 100 = m' ∧ Z'.md (n + 1) = 0 ∧ (∀ i, i ≠ 100 → i ≠ n + 1 → Z'.md i = Z.md i) ∧ Z'.h 100 = f' ∧ (∀ i, i ≠ 100 → Z'.h i = Z.h i) ∧ Z'.ef = Z.ef ∧ Z'.bg = Z.bg ∧ Z'.Lf = Z.Lf ∧ Z'.bf = uN Z.bf (n + 1) v :=
    ⟨(u2 (u2 (u2 Z.ad 2 100 ed') 1 (n + 1) q2) 5 (n + 1) q1, uN (uN Z.cap 100 cap') (n + 1) 0, uN (uN Z.md 100 m') (n + 1) 0, uN Z.h 100 f', Z.ef, Z.bg, uN Z.bf (n + 1) v, Z.Lf), (show u2 (u2 (u2 Z.ad 2 100 ed') 1 (n + 1) q2) 5 (n + 1) q1 5 (n + 1) = q1 from u2_self _ _ _ _), (show u2 (u2 (u2 Z.ad 2 100 ed') 1 (n + 1) q2) 5 (n + 1) q1 1 (n + 1) = q2 by rw [u2_ne _ (by omega), u2_self]), (show u2 (u2 (u2 Z.ad 2 100 ed') 1 (n + 1) q2) 5 (n + 1) q1 2 100 = ed' by rw [u2_ne _ (by omega), u2_ne _ (by omega), u2_self]), fun a i b1 b2 b3 => (show u2 (u2 (u2 Z.ad 2 100 ed') 1 (n + 1) q2) 5 (n + 1) q1 a i = _ by rw [u2_ne _ b1, u2_ne _ b2, u2_ne _ b3]), (show uN (uN Z.cap 100 cap') (n + 1) 0 100 = _ by rw [uN_ne _ _ (by omega), uN_self]), (show uN (uN Z.cap 100 cap') (n + 1) 0 (n + 1) = _ from uN_self _ _ _), fun i hi hj => (show uN (uN Z.cap 100 cap') (n + 1) 0 i = _ by rw [uN_ne _ _ hj, uN_ne _ _ hi]), (show uN (uN Z.md 100 m') (n + 1) 0 100 = _ by rw [uN_ne _ _ (by omega), uN_self]), (show uN (uN Z.md 100 m') (n + 1) 0 (n + 1) = _ from uN_self _ _ _), fun i hi hj => (show uN (uN Z.md 100 m') (n + 1) 0 i = _ by rw [uN_ne _ _ hj, uN_ne _ _ hi]), (show uN Z.h 100 f' 100 = _ from uN_self _ _ _), fun i hi => (show uN Z.h 100 f' i = _ from uN_ne _ _ hi), rfl, rfl, rfl, rfl⟩
  have o1 : ∀ a i, liveX Z σ a i → Z.ad a i ≠ q1 := fun a i hi z => h.sm hi (by rw [z]; exact hq1)
  have o2 : ∀ a i, liveX Z σ a i → Z.ad a i ≠ q2 := fun a i hi z => h.sm hi (by rw [z]; exact hq2)
  have hold : ∀ a i, liveX Z σ a i → ¬ (a = 1 ∧ i = 100) → ¬ (a = 2 ∧ i = 100) → G' (Z.ad a i) = Option.some (cellX E Z σ a i) := by
    intro a i hi b1 b2
    have b3 := e3 _ (o1 a i hi) (o2 a i hi)
    rw [a9 _ (by rw [b3]; exact h.sm hi) (fun z => b1 (h.2.2.1 a i 1 100 hi tl100 z)) (fun z => b2 (h.2.2.1 a i 2 100 hi ⟨tl100, z.1⟩ z.2)), b3]
    exact h.2.1 a i hi
  have n1 : G' q1 = G1 q1 := a9 q1 (by rw [e1]; exact fun z => by cases z) (fun z => o1 1 100 tl100 z.symm) (fun z => o1 2 100 ⟨tl100, z.1⟩ z.2.symm)
  have n2 : G' q2 = G1 q2 := a9 q2 (by rw [e2]; exact fun z => by cases z) (fun z => o2 1 100 tl100 z.symm) (fun z => o2 2 100 ⟨tl100, z.1⟩ z.2.symm)
  have d1 : ed' ≠ q1 := fun z => by
    rcases a8 with ⟨b1, b2⟩ | b1
    · exact o1 2 100 ⟨tl100, b2⟩ (b1 ▸ z)
    · rw [z, e1] at b1; cases b1
  have d2 : ed' ≠ q2 := fun z => by
    rcases a8 with ⟨b1, b2⟩ | b1
    · exact o2 2 100 ⟨tl100, b2⟩ (b1 ▸ z)
    · rw [z, e2] at b1; cases b1
  have a8 : (ed' = Z.ad 2 100 ∧ Z.cap 100 ≠ 0) ∨ G ed' = none := by
    rcases a8 with b1 | b1
    · exact Or.inl b1
    · exact Or.inr (by rw [← e3 _ d1 d2]; exact b1)
  have hhd : ∀ c L, hdX Z' c L = hdX Z c L := fun c L => hd_eq L (fun j _ => zA _ _ (by omega) (by omega) (by omega))
  have hN : ∀ a i, ((a = 5 ∧ i = n + 1) ∨ (a = 1 ∧ i = n + 1) ∨ (a = 2 ∧ i = 100 ∧ G ed' = none)) → G (Z'.ad a i) = none := by
    rintro a i (⟨rfl, rfl⟩ | ⟨rfl, rfl⟩ | ⟨rfl, rfl, b⟩)
    · rw [z3]; exact hq1
    · rw [z4]; exact hq2
    · rw [z2]; exact b
  have htl : ∀ i, tlX (campS σ f edn) i → i ≠ n + 1 → tlX σ i := by
    intro i hi h9
    rcases hi with z | z | z
    · exact Or.inl z
    · exact Or.inr (Or.inl z)
    · have z : 1 ≤ i ∧ i ≤ σ.2.1 + 1 := z
      exact Or.inr (Or.inr ⟨z.1, by omega⟩)
  have hl : ∀ a i, liveX Z' (campS σ f edn) a i → ((a = 5 ∧ i = n + 1) ∨ (a = 1 ∧ i = n + 1) ∨ (a = 2 ∧ i = 100 ∧ G ed' = none)) ∨ (liveX Z σ a i ∧ Z'.ad a i = Z.ad a i) := by
    intro a i hi
    by_cases c1 : a = 5 ∧ i = n + 1
    · exact Or.inl (Or.inl c1)
    by_cases c2 : a = 1 ∧ i = n + 1
    · exact Or.inl (Or.inr (Or.inl c2))
    by_cases c3 : a = 2 ∧ i = 100
    · rcases a8 with ⟨b1, b2⟩ | b1
      · obtain ⟨rfl, rfl⟩ := c3
        exact Or.inr ⟨⟨tl100, b2⟩, by rw [z2]; exact b1⟩
      · exact Or.inl (Or.inr (Or.inr ⟨c3.1, c3.2, b1⟩))
    refine Or.inr ⟨?_, zA a i c1 c2 c3⟩
    rcases live_cases hi with rfl | rfl | rfl | rfl | rfl | rfl | rfl | ⟨rfl, rfl⟩
    · exact htl i hi (fun z => c2 ⟨rfl, z⟩)
    · obtain ⟨b1, b2⟩ := hi
      have i0 : i ≠ 100 := fun z => c3 ⟨rfl, z⟩
      have i1 : i ≠ n + 1 := fun z => b2 (by rw [z]; exact zc1)
      exact ⟨htl i b1 i1, by rw [← zc i i0 i1]; exact b2⟩
    · exact hi
    · exact hi
    · have hi : 1 ≤ i ∧ i ≤ σ.2.1 + 1 := hi
      exact ⟨hi.1, by omega⟩
    · have hi : 1 ≤ i / 21 ∧ i / 21 ≤ σ.2.1 + 1 ∧ 1 ≤ i % 21 ∧ i % 21 ≤ wv σ (i / 21) := hi
      by_cases e : i / 21 = n + 1
      · rw [e, w2] at hi; omega
      · exact ⟨hi.1, by omega, hi.2.2⟩
    · have hi : 1 ≤ i / 41 ∧ i / 41 ≤ σ.1 ∧ i % 41 ∈ Z'.Lf (i / 41) := hi
      rw [zl] at hi
      exact hi
    · rfl
  refine ⟨Z', h.grow _ hN ?_ hl (fun a i hi => ?_) ?_ ⟨?_, ?_, fun c k1 k2 => ?_⟩, FrX_grow _ hN hl (fun q hq hg => ?_), by rw [← hσn]; exact zf⟩
  · rintro a i c j (⟨rfl, rfl⟩ | ⟨rfl, rfl⟩ | ⟨rfl, rfl, b⟩) (⟨rfl, rfl⟩ | ⟨rfl, rfl⟩ | ⟨rfl, rfl, b2⟩) he
    · exact ⟨rfl, rfl⟩
    · rw [z3, z4] at he; exact absurd he.symm hne
    · rw [z3, z2] at he; exact absurd he.symm d1
    · rw [z4, z3] at he; exact absurd he hne
    · exact ⟨rfl, rfl⟩
    · rw [z4, z2] at he; exact absurd he.symm d2
    · rw [z2, z3] at he; exact absurd he d1
    · rw [z2, z4] at he; exact absurd he d2
    · exact ⟨rfl, rfl⟩
  · by_cases c1 : a = 5 ∧ i = n + 1
    · obtain ⟨rfl, rfl⟩ := c1
      rw [z3, n1, e1]
      show _ = Option.some (campOb (nI (n + 1)) (pt (campS σ f edn) (n + 1)) (mm (campS σ f edn) (n + 1)) (kr (campS σ f edn) (n + 1)) (upd (σ.I 7) (σ.2.1 + 1) edn (n + 1)) (Z'.ad 1 (n + 1)) (σ.I 8 (n + 1)) (Z'.bf (n + 1)) (σ.L 13 (n + 1)) (σ.L 14 (n + 1)) (σ.I 15 (n + 1) + σ.I 16 (n + 1)) (σ.I 16 (n + 1)))
      rw [z4, zf, uN_self, w1, w3, w4, w5, w6, g1, g2, g3, ← hσn, upd_self]
      rfl
    by_cases c2 : a = 1 ∧ i = n + 1
    · obtain ⟨rfl, rfl⟩ := c2
      rw [z4, n2, e2]
      show _ = Option.some (α := va_E) (Sum.inr (6, [.ref (arX E Z' (n + 1)), .int (nI (lenX (campS σ f edn) (n + 1))), .int (Z'.md (n + 1))]))
      rw [zm1, arX, if_pos zc1, lenK (by omega) (by omega), show wv (campS σ f edn) (n + 1) = wv σ (n + 1) from rfl, w2]
    by_cases c3 : a = 2 ∧ i = 100
    · obtain ⟨rfl, rfl⟩ := c3
      rw [z2, a2]
      show _ = Option.some (α := va_E) (Sum.inl (E.1.2.2.2, Z'.cap 100, xrf (Z'.h 100)))
      rw [zc0, zh0]
    by_cases c4 : a = 1 ∧ i = 100
    · obtain ⟨rfl, rfl⟩ := c4
      rw [zA 1 100 (by omega) (by omega) (by omega), a1]
      show _ = Option.some (α := va_E) (Sum.inr (6, [.ref (arX E Z' 100), .int (nI (σ.2.1 + 1)), .int (Z'.md 100)]))
      rw [arX, zc0, if_neg (by omega), z2, zm0]
    have hi0 : liveX Z σ a i := by
      rcases hl a i hi with (b | b | b) | b
      · exact absurd b c1
      · exact absurd b c2
      · exact absurd ⟨b.1, b.2.1⟩ c3
      · exact b.1
    rw [zA a i c1 c2 c3, hold a i hi0 c4 c3]
    congr 1
    rcases live_cases hi0 with rfl | rfl | rfl | rfl | rfl | rfl | rfl | ⟨rfl, rfl⟩
    · have i0 : i ≠ 100 := fun z => c4 ⟨rfl, z⟩
      have i1 : i ≠ n + 1 := fun z => c2 ⟨rfl, z⟩
      show (.inr (6, [.ref (arX E Z i), .int (nI (lenX σ i)), .int (Z.md i)]) : va_E) = .inr (6, [.ref (arX E Z' i), .int (nI (lenX (campS σ f edn) i)), .int (Z'.md i)])
      have b1 : arX E Z' i = arX E Z i := by unfold arX; rw [zc i i0 i1, zA 2 i (by omega) (by omega) (by omega)]
      have b2 : lenX (campS σ f edn) i = lenX σ i := by unfold lenX; rw [if_neg i0, if_neg i0]; rfl
      rw [b1, b2, zm i i0 i1]
    · have i0 : i ≠ 100 := fun z => c3 ⟨rfl, z⟩
      have i1 : i ≠ n + 1 := fun z => by
        have b9 := (hl 2 i hi)
        have b8 : Z'.cap i ≠ 0 := hi.2
        exact b8 (by rw [z]; exact zc1)
      show (.inl (E.1.2.2.2, Z.cap i, xrf (Z.h i)) : va_E) = .inl (E.1.2.2.2, Z'.cap i, xrf (Z'.h i))
      rw [zc i i0 i1, zh i i0]
    · show carOb (σ.L 2 i) (Z.ad 4 i) _ (nI (Z.bg i)) (hdX Z i (Z.Lf i)) = carOb (σ.L 2 i) (Z'.ad 4 i) _ (nI (Z'.bg i)) (hdX Z' i (Z'.Lf i))
      rw [zb, zl, hhd, zA 4 i (by omega) (by omega) (by omega)]
      rfl
    · show (.inl (E.1.1, 8, .inl (Z.ef i)) : va_E) = .inl (E.1.1, 8, .inl (Z'.ef i))
      rw [ze]
    · have i1 : i ≠ n + 1 := fun z => c1 ⟨rfl, z⟩
      have b0 : (campS σ f edn).I 6 i = σ.I 6 i := upd_ne _ _ (by omega)
      have b1 : pt (campS σ f edn) i = pt σ i := by unfold pt; rw [b0]
      have b2 : mm (campS σ f edn) i = mm σ i := by unfold mm; rw [b0]
      have b3 : kr (campS σ f edn) i = kr σ i := by unfold kr; rw [b0]
      show campOb (nI i) (pt σ i) (mm σ i) (kr σ i) (σ.I 7 i) (Z.ad 1 i) (σ.I 8 i) (Z.bf i) _ _ _ _ = campOb (nI i) (pt (campS σ f edn) i) (mm (campS σ f edn) i) (kr (campS σ f edn) i) (upd (σ.I 7) (σ.2.1 + 1) edn i) (Z'.ad 1 i) (σ.I 8 i) (Z'.bf i) _ _ _ _
      rw [b1, b2, b3, upd_ne _ _ (by omega), zf, uN_ne _ _ i1, zA 1 i (by omega) (by omega) (by omega)]
      rfl
    · exact (cellX_6 E Z σ i).trans (cellX_6 E Z' (campS σ f edn) i).symm
    · show (.inr (4, [_, va_rf (hdX Z (i / 41) (aftX (i % 41) (Z.Lf (i / 41)))), _, _]) : va_E) = .inr (4, [_, va_rf (hdX Z' (i / 41) (aftX (i % 41) (Z'.Lf (i / 41)))), _, _])
      rw [zl, hhd]
      rfl
    · show (.inr (0, [.ref (Z.ad 1 0), .ref (Z.ad 1 100), _]) : va_E) = .inr (0, [.ref (Z'.ad 1 0), .ref (Z'.ad 1 100), _])
      rw [zA 1 0 (by omega) (by omega) (by omega), zA 1 100 (by omega) (by omega) (by omega)]
      rfl
  · rw [zA 9 0 (by omega) (by omega) (by omega)]; exact h.1
  · exact ⟨h.2.2.2.1.1, by show σ.2.1 + 1 ≤ 40; omega, h.2.2.2.1.2.2⟩
  · intro t ht
    by_cases t0 : t = 100
    · subst t0
      show Z'.cap 100 ≤ 1000 ∧ σ.2.1 + 1 ≤ Z'.cap 100 ∧ ∀ i, i < σ.2.1 + 1 → Z'.h 100 i = Option.some (Z'.ad 5 (i + 1))
      rw [zc0, zh0]
      refine ⟨a5, a4, fun i hi => ?_⟩
      by_cases e : i = n
      · subst e
        rw [z3, hσn]; exact a7
      · rw [a6 i (by omega), zA 5 (i + 1) (by omega) (by omega) (by omega)]
        exact h.el100 (by omega)
    · by_cases t1 : t = n + 1
      · subst t1
        rw [lenK (by omega) (by omega), show wv (campS σ f edn) (n + 1) = wv σ (n + 1) from rfl, w2, zc1]
        exact ⟨by omega, by omega, fun i hi => by omega⟩
      · obtain ⟨b1, b2, b3⟩ := h.2.2.2.2.1 t (htl t ht t1)
        have e5 : lenX (campS σ f edn) t = lenX σ t := by unfold lenX; rw [if_neg t0, if_neg t0]; rfl
        rw [e5, zc t t0 t1, zh t t0]
        refine ⟨b1, b2, fun i hi => ?_⟩
        rw [b3 i hi]
        unfold elX
        by_cases s0 : t = 0
        · rw [if_pos s0, if_pos s0, zA 3 _ (by omega) (by omega) (by omega)]
        · rw [if_neg s0, if_neg s0, if_neg t0, if_neg t0, zA 6 _ (by omega) (by omega) (by omega)]
  · obtain ⟨p1, ⟨p2, p2'⟩, p3, p4, p5⟩ := h.2.2.2.2.2 c k1 k2
    unfold ShC
    rw [ze, zb, zl]
    exact ⟨p1, ⟨Nat.le_succ_of_le p2, p2'⟩, p3, fun k hk => ⟨(p4 k hk).1, Nat.le_succ_of_le (p4 k hk).2⟩, p5⟩
  · have r1 : q ≠ q1 := fun z => hg (by rw [z]; exact hq1)
    have r2 : q ≠ q2 := fun z => hg (by rw [z]; exact hq2)
    rw [a9 q (by rw [e3 q r1 r2]; exact hg) (fun z => hq ⟨1, 100, tl100, z⟩) (fun z => hq ⟨2, 100, ⟨tl100, z.1⟩, z.2⟩), e3 q r1 r2]
end RB
