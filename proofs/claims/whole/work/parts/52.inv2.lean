/-! WHAT EVERY STATE KEEPS: cars, campaigns, waves, reports. -/
section IW
variable {N : Nat} {σ : St}
theorem pt8 (σ : St) (k : Nat) : pt σ k < 8 := (pt_n σ k).1
theorem vI.car (o : vI N σ) {n : Int64} {ed : Int32} (hn : σ.1 < 500) (h1n : 1 ≤ n) : vI N (carS σ n ed) := by
  obtain ⟨h1, h2, h3, h4, h5, h6, h7, h8, h9, h10, h11, h12, h13⟩ := o
  refine ⟨⟨by show σ.1 + 1 ≤ 500; omega, h1.2.1, h1.2.2⟩, h2, h3, h4, h5, h6, fun c c1 c2 => ?_, h8, h9, fun c k a b d e => ?_, fun c c2 => ⟨(h11 c c2).1, fun c1 => ?_⟩, fun c k c1 c2 k1 k2 => ?_, fun c k c1 c2 k1 k2 hb => ?_⟩
  · have c2 : c ≤ σ.1 + 1 := c2
    show 1 ≤ vp_updL (σ.L 2) (σ.1 + 1) n c
    by_cases e : c = σ.1 + 1
    · rw [e, updL_self]; exact h1n
    · rw [updL_ne _ _ e]; exact h7 c c1 (by omega)
  · have e : σ.1 + 1 < c ∨ σ.2.1 < k := e
    exact h10 c k a b d (by omega)
  · have c1 : σ.1 + 1 < c := c1
    exact (h11 c c2).2 (by omega)
  · have c2 : c ≤ σ.1 + 1 := c2
    have k2 : k ≤ σ.2.1 := k2
    have hK := h1.2.1
    show ∃ m : Nat, m ≤ N ∧ σ.I 19 (41 * c + k) = nI m
    by_cases e : c = σ.1 + 1
    · exact ⟨0, Nat.zero_le _, by rw [(h10 c k (by omega) k1 (by omega) (by omega)).1, nI_0]⟩
    · exact h12 c k c1 (by omega) k1 k2
  · have c2 : c ≤ σ.1 + 1 := c2
    have k2 : k ≤ σ.2.1 := k2
    have hb : ¬ σ.I 21 (41 * c + k) = 0 := hb
    have hK := h1.2.1
    by_cases e : c = σ.1 + 1
    · exact absurd (h10 c k (by omega) k1 (by omega) (by omega)).2 hb
    · obtain ⟨b1, b2⟩ := h13 c k c1 (by omega) k1 k2 hb
      refine ⟨?_, b2⟩
      have hp := pt8 σ k
      rw [← b1]
      refine meant_eq ?_ rfl rfl ?_
      · show vp_updL (σ.L 2) (σ.1 + 1) n c = _
        rw [updL_ne _ _ e]
      · show fillN (σ.I 3) (8 * (σ.1 + 1)) ed 8 (8 * c + pt σ k) = _
        exact fill_out _ _ _ _ _ (by omega)
theorem vI.camp (o : vI N σ) {f : Nat} {ed : Int32} (hn : σ.2.1 < 40) (hf : f ≤ 8388607) : vI N (campS σ (nI f) ed) := by
  obtain ⟨h1, h2, h3, h4, h5, h6, h7, h8, h9, h10, h11, h12, h13⟩ := o
  refine ⟨⟨h1.1, by show σ.2.1 + 1 ≤ 40; omega, h1.2.2⟩, h2, h3, h4, h5, fun k k1 k2 => ?_, h7, fun k k1 k2 => ?_, fun k b a1 a2 a3 => ?_, fun c k a b d e => ?_, h11, fun c k c1 c2 k1 k2 => ?_, fun c k c1 c2 k1 k2 hb => ?_⟩
  · have k2 : k ≤ σ.2.1 + 1 := k2
    show ∃ g : Nat, g ≤ 8388607 ∧ upd (σ.I 6) (σ.2.1 + 1) (nI f) k = nI g
    by_cases e : k = σ.2.1 + 1
    · rw [e, upd_self]; exact ⟨f, hf, rfl⟩
    · rw [upd_ne _ _ e]; exact h6 k k1 (by omega)
  · have k1 : σ.2.1 + 1 < k := k1
    exact h8 k (by omega) k2
  · have a3 : σ.2.1 + 1 < k ∨ σ.2.1 + 1 < b ∨ k = b := a3
    exact h9 k b a1 a2 (by omega)
  · have e : σ.1 < c ∨ σ.2.1 + 1 < k := e
    exact h10 c k a b d (by omega)
  · have c2 : c ≤ σ.1 := c2
    have k2 : k ≤ σ.2.1 + 1 := k2
    have hC := h1.1
    show ∃ m : Nat, m ≤ N ∧ σ.I 19 (41 * c + k) = nI m
    by_cases e : k = σ.2.1 + 1
    · exact ⟨0, Nat.zero_le _, by rw [(h10 c k (by omega) k1 (by omega) (by omega)).1, nI_0]⟩
    · exact h12 c k c1 c2 k1 (by omega)
  · have c2 : c ≤ σ.1 := c2
    have k2 : k ≤ σ.2.1 + 1 := k2
    have hb : ¬ σ.I 21 (41 * c + k) = 0 := hb
    have hC := h1.1
    by_cases e : k = σ.2.1 + 1
    · exact absurd (h10 c k (by omega) k1 (by omega) (by omega)).2 hb
    · obtain ⟨b1, b2⟩ := h13 c k c1 c2 k1 (by omega) hb
      refine ⟨?_, fun j j1 j2 j3 => ?_⟩
      · rw [← b1]
        refine meant_eq rfl ?_ ?_ rfl
        · show upd (σ.I 6) (σ.2.1 + 1) (nI f) k = _
          rw [upd_ne _ _ e]
        · show upd (σ.I 7) (σ.2.1 + 1) ed k = _
          rw [upd_ne _ _ e]
      · have j2 : j ≤ σ.2.1 + 1 := j2
        have j3 : ¬ σ.I 21 (41 * c + j) = 0 := j3
        by_cases e2 : j = σ.2.1 + 1
        · exact absurd (h10 c j (by omega) j1 (by omega) (by omega)).2 j3
        · exact b2 j j1 (by omega) j3
theorem vI.wave (o : vI N σ) {k : Nat} {u d t : Int64} (k1 : 1 ≤ k) (k2 : k ≤ σ.2.1) (hs : shOK u d) (ht : ¬ t < σ.2.2.1) (hw : wv σ k < 20) : vI N (waveS σ k u d t) := by
  obtain ⟨h1, h2, h3, h4, h5, h6, h7, h8, h9, h10, h11, h12, h13⟩ := o
  have ht := Int64.not_lt.mp ht
  have hK := h1.2.1
  have w1 : wv (waveS σ k u d t) k = wv σ k + 1 := by
    show (upd (σ.I 9) k (nI (wv σ k + 1)) k).toNatClampNeg = _
    rw [upd_self, nI_clamp (by omega)]
  have w2 : ∀ j, j ≠ k → wv (waveS σ k u d t) j = wv σ j := fun j hj => by
    show (upd (σ.I 9) k (nI (wv σ k + 1)) j).toNatClampNeg = _
    rw [upd_ne _ _ hj]
    rfl
  refine ⟨⟨h1.1, h1.2.1, fun j hj => ?_⟩, h2, Int64.le_trans h3 ht, fun j w j1 j2 a1 a2 => ?_, h5, h6, h7, fun j j1 j2 => ?_, h9, h10, h11, h12, h13⟩
  · by_cases e : j = k
    · subst e
      rw [w1]
      refine ⟨by omega, ?_⟩
      show upd (σ.I 9) j (nI (wv σ j + 1)) j = _
      rw [upd_self]
    · rw [w2 j e]
      refine ⟨(h1.2.2 j hj).1, ?_⟩
      show upd (σ.I 9) k (nI (wv σ k + 1)) j = _
      rw [upd_ne _ _ e]
      exact (h1.2.2 j hj).2
  · show shOK (vp_updL (σ.L 10) (21 * k + wv σ k + 1) u (21 * j + w)) (vp_updL (σ.L 11) (21 * k + wv σ k + 1) d (21 * j + w)) ∧ 0 ≤ vp_updL (σ.L 12) (21 * k + wv σ k + 1) t (21 * j + w) ∧ vp_updL (σ.L 12) (21 * k + wv σ k + 1) t (21 * j + w) ≤ t ∧ (w + 1 ≤ wv (waveS σ k u d t) j → vp_updL (σ.L 12) (21 * k + wv σ k + 1) t (21 * j + w) ≤ vp_updL (σ.L 12) (21 * k + wv σ k + 1) t (21 * j + (w + 1)))
    by_cases e : j = k
    · subst e
      rw [w1] at a2 ⊢
      by_cases e2 : w = wv σ j + 1
      · rw [show 21 * j + w = 21 * j + wv σ j + 1 by omega, updL_self, updL_self, updL_self]
        exact ⟨hs, Int64.le_trans h3 ht, Int64.le_refl _, fun z => by omega⟩
      · obtain ⟨b1, b2, b3, b4⟩ := h4 j w j1 j2 a1 (by omega)
        rw [updL_ne _ _ (by omega), updL_ne _ _ (by omega), updL_ne _ _ (by omega)]
        refine ⟨b1, b2, Int64.le_trans b3 ht, fun z => ?_⟩
        by_cases e3 : w = wv σ j
        · rw [show 21 * j + (w + 1) = 21 * j + wv σ j + 1 by omega, updL_self]
          exact Int64.le_trans b3 ht
        · rw [updL_ne _ _ (by omega)]
          exact b4 (by omega)
    · rw [w2 j e] at a2 ⊢
      have hw2 := (h1.2.2 j j2).1
      obtain ⟨b1, b2, b3, b4⟩ := h4 j w j1 j2 a1 a2
      rw [updL_ne _ _ (by omega), updL_ne _ _ (by omega), updL_ne _ _ (by omega)]
      refine ⟨b1, b2, Int64.le_trans b3 ht, fun z => ?_⟩
      rw [updL_ne _ _ (by omega)]
      exact b4 z
  · have j1 : σ.2.1 < j := j1
    obtain ⟨u1, u2, u3⟩ := h8 j j1 j2
    refine ⟨?_, ?_, u3⟩
    · show upd (σ.I 8) k 1 j = 0
      rw [upd_ne _ _ (by omega)]; exact u1
    · rw [w2 j (by omega)]; exact u2
theorem vI.good (o : vI N σ) {k c : Nat} (c1 : 1 ≤ c) (c2 : c ≤ σ.1) (k1 : 1 ≤ k) (k2 : k ≤ σ.2.1) (hb : ¬ σ.I 21 (41 * c + k) = 0) : vI (N + 1) (goodS σ k c) := by
  obtain ⟨h1, h2, h3, h4, h5, h6, h7, h8, h9, h10, h11, h12, h13⟩ := vI_mono (Nat.le_succ N) o
  have hK := h1.2.1
  have hp := pt8 σ k
  have h2' := o.2.1
  have huni := (h13 c k c1 c2 k1 k2 hb).2
  have s : same [21, 15, 3] [] σ (goodS σ k c) := same_trans (same_trans (same_I σ 21 (upd (σ.I 21) (41 * c + k) 0)) (same_I _ 15 (upd (σ.I 15) k (σ.I 15 k + 1)))) (same_I _ 3 (upd (σ.I 3) (8 * c + pt σ k) (σ.I 7 k)))
  refine ⟨ok0_same s (by decide) h1, ?_, h3, vW_same s (by decide) (by decide) (by decide) (by decide) h4, vR_same s (by decide) (by decide) h5, vF_same s (by decide) h6, vN_same s (by decide) h7, ?_, vT_same s (by decide) h9, ?_, vO_same s (by decide) h11, vM_same s (by decide) h12, ?_⟩
  · intro j hj
    obtain ⟨g, b, a1, a2, a3⟩ := h2' j hj
    show ∃ g b : Nat, upd (σ.I 15) k (σ.I 15 k + 1) j = nI g ∧ σ.I 16 j = nI b ∧ g + b ≤ N + 1
    by_cases e : j = k
    · subst e
      exact ⟨g + 1, b, by rw [upd_self, a1, nI_1], a2, by omega⟩
    · exact ⟨g, b, by rw [upd_ne _ _ e]; exact a1, a2, by omega⟩
  · intro j j1 j2
    have j1 : σ.2.1 < j := j1
    obtain ⟨u1, u2, u3, u4⟩ := h8 j j1 j2
    refine ⟨u1, u2, ?_, u4⟩
    show upd (σ.I 15) k (σ.I 15 k + 1) j = 0
    rw [upd_ne _ _ (by omega)]; exact u3
  · intro a j a1 j1 j2 j3
    have j3 : σ.1 < a ∨ σ.2.1 < j := j3
    refine ⟨(h10 a j a1 j1 j2 j3).1, ?_⟩
    show upd (σ.I 21) (41 * c + k) 0 (41 * a + j) = 0
    rw [upd_ne _ _ (by omega)]
    exact (h10 a j a1 j1 j2 j3).2
  · intro a j a1 a2 j1 j2 j3
    have a2 : a ≤ σ.1 := a2
    have j2 : j ≤ σ.2.1 := j2
    have j3 : ¬ upd (σ.I 21) (41 * c + k) 0 (41 * a + j) = 0 := j3
    by_cases e : a = c
    · subst e
      by_cases e2 : j = k
      · subst e2
        exact absurd (upd_self _ _ _) j3
      · rw [upd_ne _ _ (by omega)] at j3
        exact absurd (huni j j1 j2 j3) e2
    · rw [upd_ne _ _ (by omega)] at j3
      obtain ⟨b1, b2⟩ := h13 a j a1 a2 j1 j2 j3
      have hp2 := pt8 σ j
      refine ⟨?_, fun i i1 i2 i3 => ?_⟩
      · rw [← b1]
        refine meant_eq rfl rfl rfl ?_
        show upd (σ.I 3) (8 * c + pt σ k) (σ.I 7 k) (8 * a + pt σ j) = _
        rw [upd_ne _ _ (by omega)]
      · have i2 : i ≤ σ.2.1 := i2
        have i3 : ¬ upd (σ.I 21) (41 * c + k) 0 (41 * a + i) = 0 := i3
        rw [upd_ne _ _ (by omega)] at i3
        exact b2 i i1 i2 i3
theorem vI.bad (o : vI N σ) {k c : Nat} (c1 : 1 ≤ c) (c2 : c ≤ σ.1) (k1 : 1 ≤ k) (k2 : k ≤ σ.2.1) (hb : ¬ σ.I 21 (41 * c + k) = 0) : vI (N + 1) (badS σ k c) := by
  obtain ⟨h1, h2, h3, h4, h5, h6, h7, h8, h9, h10, h11, h12, h13⟩ := vI_mono (Nat.le_succ N) o
  have hK := h1.2.1
  have h2' := o.2.1
  have h12' := o.2.2.2.2.2.2.2.2.2.2.2.1
  have huni := (h13 c k c1 c2 k1 k2 hb).2
  have s : same [21, 16, 19] [20] σ (badS σ k c) := same_trans (same_trans (same_trans (same_I σ 21 (upd (σ.I 21) (41 * c + k) 0)) (same_I _ 16 (upd (σ.I 16) k (σ.I 16 k + 1)))) (same_I _ 19 (upd (σ.I 19) (41 * c + k) (σ.I 19 (41 * c + k) + 1)))) (same_L _ 20 (vp_updL (σ.L 20) (41 * c + k) σ.2.2.1))
  refine ⟨ok0_same s (by decide) h1, ?_, h3, vW_same s (by decide) (by decide) (by decide) (by decide) h4, vR_same s (by decide) (by decide) h5, vF_same s (by decide) h6, vN_same s (by decide) h7, ?_, vT_same s (by decide) h9, ?_, vO_same s (by decide) h11, ?_, ?_⟩
  · intro j hj
    obtain ⟨g, b, a1, a2, a3⟩ := h2' j hj
    show ∃ g b : Nat, σ.I 15 j = nI g ∧ upd (σ.I 16) k (σ.I 16 k + 1) j = nI b ∧ g + b ≤ N + 1
    by_cases e : j = k
    · subst e
      exact ⟨g, b + 1, a1, by rw [upd_self, a2, nI_1], by omega⟩
    · exact ⟨g, b, a1, by rw [upd_ne _ _ e]; exact a2, by omega⟩
  · intro j j1 j2
    have j1 : σ.2.1 < j := j1
    obtain ⟨u1, u2, u3, u4, u5⟩ := h8 j j1 j2
    refine ⟨u1, u2, u3, ?_, u5⟩
    show upd (σ.I 16) k (σ.I 16 k + 1) j = 0
    rw [upd_ne _ _ (by omega)]; exact u4
  · intro a j a1 j1 j2 j3
    have j3 : σ.1 < a ∨ σ.2.1 < j := j3
    refine ⟨?_, ?_⟩
    · show upd (σ.I 19) (41 * c + k) (σ.I 19 (41 * c + k) + 1) (41 * a + j) = 0
      rw [upd_ne _ _ (by omega)]
      exact (h10 a j a1 j1 j2 j3).1
    · show upd (σ.I 21) (41 * c + k) 0 (41 * a + j) = 0
      rw [upd_ne _ _ (by omega)]
      exact (h10 a j a1 j1 j2 j3).2
  · intro a j a1 a2 j1 j2
    have a2 : a ≤ σ.1 := a2
    have j2 : j ≤ σ.2.1 := j2
    show ∃ m : Nat, m ≤ N + 1 ∧ upd (σ.I 19) (41 * c + k) (σ.I 19 (41 * c + k) + 1) (41 * a + j) = nI m
    obtain ⟨m, m1, m2⟩ := h12' a j a1 a2 j1 j2
    by_cases e : 41 * a + j = 41 * c + k
    · exact ⟨m + 1, by omega, by rw [e, upd_self, ← e, m2, nI_1]⟩
    · exact ⟨m, by omega, by rw [upd_ne _ _ e]; exact m2⟩
  · intro a j a1 a2 j1 j2 j3
    have a2 : a ≤ σ.1 := a2
    have j2 : j ≤ σ.2.1 := j2
    have j3 : ¬ upd (σ.I 21) (41 * c + k) 0 (41 * a + j) = 0 := j3
    rw [show meant (badS σ k c) j a = meant σ j a from meant_same s (by decide) (by decide) (by decide) (by decide) j a]
    by_cases e : a = c
    · subst e
      by_cases e2 : j = k
      · subst e2
        exact absurd (upd_self _ _ _) j3
      · rw [upd_ne _ _ (by omega)] at j3
        exact absurd (huni j j1 j2 j3) e2
    · rw [upd_ne _ _ (by omega)] at j3
      obtain ⟨b1, b2⟩ := h13 a j a1 a2 j1 j2 j3
      refine ⟨b1, fun i i1 i2 i3 => ?_⟩
      have i2 : i ≤ σ.2.1 := i2
      have i3 : ¬ upd (σ.I 21) (41 * c + k) 0 (41 * a + i) = 0 := i3
      rw [upd_ne _ _ (by omega)] at i3
      exact b2 i i1 i2 i3
end IW
