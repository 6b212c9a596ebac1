/-! THE INVARIANT at each call. -/
section VS
variable {N : Nat} {σ : St}
theorem k2 {N : Nat} {σ : St} (o : vI N σ) {k : Int32} (h : ¬ badK σ k) : 1 ≤ k.toNatClampNeg ∧ k.toNatClampNeg ≤ σ.2.1 := by
  have := num2 (n := σ.2.1) (by have := o.1.2.1; omega) h
  exact ⟨this.1, this.2.1⟩
theorem c2 {N : Nat} {σ : St} (o : vI N σ) {k : Int32} (h : ¬ badC σ k) : 1 ≤ k.toNatClampNeg ∧ k.toNatClampNeg ≤ σ.1 := by
  have := num2 (n := σ.1) (by have := o.1.1; omega) h
  exact ⟨this.1, this.2.1⟩
theorem vI_car (o : vI N σ) (n : Int64) (ed : Int32) : vI N (sCar σ n ed).2 := by
  rw [sCar]
  split
  · exact o
  rename_i h1
  split
  · exact o
  split
  · exact o
  rename_i h3
  exact o.car (by have := o.1.1; omega) (Int64.not_lt.mp (fun z => h1 (Or.inl z)))
theorem vI_camp (o : vI N σ) (f ed : Int32) : vI N (sCampaign σ f ed).2 := by
  rw [sCampaign]
  split
  · exact o
  rename_i h1
  split
  · exact o
  rename_i h2
  split
  · exact o
  have hf0 : (0 : Int32) ≤ f := Int32.not_lt.mp (fun z => h1 (Or.inl z))
  have hf1 : f ≤ 8388607 := Int32.not_lt.mp (fun z => h1 (Or.inr (Or.inl z)))
  have e1 : (0 : Int) ≤ f.toInt := Int32.le_iff_toInt_le.mp hf0
  have e2 : f.toInt ≤ 8388607 := Int32.le_iff_toInt_le.mp hf1
  have hf : f = nI f.toInt.toNat := by
    apply Int32.toInt_inj.mp
    rw [nI_toInt (by omega)]
    omega
  rw [hf]
  exact o.camp (by have := o.1.2.1; omega) (by omega)
theorem vI_wave (o : vI N σ) (k : Int32) (u d t : Int64) : vI N (sWave σ k u d t).2 := by
  rw [sWave]
  split
  · exact o
  rename_i h0
  split
  · exact o
  rename_i h1
  split
  · exact o
  split
  · exact o
  rename_i h3
  have hk := k2 o h0
  exact o.wave hk.1 hk.2 (sh_of (fun z => h1 (Or.inl z))) (fun z => h1 (Or.inr (Or.inl z))) (by have := (o.1.2.2 k.toNatClampNeg (by have := o.1.2.1; omega)).1; omega)
theorem fst_none {f : Nat → Bool} : ∀ n, fstN f n = 0 → ∀ j, 1 ≤ j → j ≤ n → f j = false
  | 0, _, j, h1, h2 => by omega
  | n + 1, h, j, h1, h2 => by
    rw [fstN] at h
    by_cases e : fstN f n = 0
    · rw [if_pos e] at h
      by_cases e2 : f (n + 1) = true
      · rw [if_pos e2] at h; omega
      · by_cases e3 : j = n + 1
        · rw [e3]; exact Bool.not_eq_true _ ▸ e2
        · exact fst_none n e j h1 (by omega)
    · rw [if_neg e] at h; exact absurd h e
theorem vI_due (o : vI N σ) (c : Int32) (t : Int64) : vI N (sDue σ c t).2 := by
  rw [sDue]
  split
  · exact o
  rename_i h0
  split
  · exact o
  rename_i h1
  have o1 : vI N (tS σ t) := o.time h1
  have hc := c2 o h0
  generalize hτ : tS σ t = τ at o1
  have hc2 : c.toNatClampNeg ≤ τ.1 := by rw [← hτ]; exact hc.2
  clear hτ o h0 h1
  rw [dueS]
  split
  · rename_i h2
    split
    · exact o1
    · rename_i h3
      rcases best_may τ c.toNatClampNeg τ.2.1 with q | ⟨q1, q2⟩
      · exact absurd q h3
      · refine o1.beg hc.1 hc2 q1 (best_le _ _ _) (may_meant q2) (fun j j1 j2 => ?_) 1
        have := fst_none _ h2 j j1 j2
        by_cases e : τ.I 21 (41 * c.toNatClampNeg + j) = 0
        · exact e
        · have hm := (o1.2.2.2.2.2.2.2.2.2.2.2.2 _ j hc.1 hc2 j1 j2 e).1
          rw [begB, hm, decide_eq_false e] at this
          cases this
  · exact o1
theorem vI_report (o : vI N σ) (c k g : Int32) : vI (N + 1) (sReport σ c k g).2 := by
  rw [sReport]
  split
  · exact vI_mono (Nat.le_succ _) o
  rename_i h0
  split
  · exact vI_mono (Nat.le_succ _) o
  rename_i h1
  have hk := k2 o (fun z => h0 (Or.inl z))
  have hc := c2 o (fun z => h0 (Or.inr z))
  show vI (N + 1) (lookS (if g = 0 then badS σ k.toNatClampNeg c.toNatClampNeg else goodS σ k.toNatClampNeg c.toNatClampNeg) k.toNatClampNeg)
  by_cases e : g = 0
  · rw [if_pos e]
    exact (o.bad hc.1 hc.2 hk.1 hk.2 h1).look hk.2
  · rw [if_neg e]
    exact (o.good hc.1 hc.2 hk.1 hk.2 h1).look hk.2
theorem vI_rule (o : vI N σ) (k : Int32) (u d : Int64) : vI N (sRule σ k u d).2 := by
  rw [sRule]
  split
  · exact o
  rename_i h0
  split
  · exact o
  rename_i h1
  have hk := k2 o h0
  exact (o.rule hk.2 (sh_of h1)).look hk.2
theorem vI_stop (o : vI N σ) (k : Int32) : vI N (sStop σ k).2 := by
  rw [sStop]
  split
  · exact o
  rename_i h0
  split
  · exact o
  exact o.st (k2 o h0).2 3
theorem vI_cons (o : vI N σ) (c on : Int32) : vI N (sConsent σ c on).2 := by
  rw [sConsent]
  split
  · exact o
  rename_i h0
  refine o.cons (c2 o h0).2 ?_
  split
  · exact Or.inr rfl
  · exact Or.inl rfl
theorem vI_ord (o : vI N σ) (k q : Int32) (rb : Bool) : vI N (sOrd σ k q rb).2 := by
  rw [sOrd]
  split
  · exact o
  rename_i h0
  split
  · exact o
  rename_i h1
  split
  · exact o
  have e1 := num2 (n := σ.2.1) (by have := o.1.2.1; omega) (fun z => h0 (Or.inl z))
  have e2 := num2 (n := σ.2.1) (by have := o.1.2.1; omega) (fun z => h0 (Or.inr z))
  exact o.told e1.2.1 e2.2.1 (fun z => h1 (by rw [← e1.2.2, ← e2.2.2, z])) 1
end VS
