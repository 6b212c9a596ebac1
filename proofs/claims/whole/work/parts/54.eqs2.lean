/-! WHY CLASS AND REFERENCE AGREE: rules, failures, formulas, bits. -/
section EQ
variable {N : Nat} {σ : St}
theorem mm_toInt (σ : St) (k : Nat) : ∃ m : Nat, 1 ≤ m ∧ m ≤ 1024 ∧ mm σ k = nI m := by
  obtain ⟨j, hj, h⟩ := mm_n σ k
  exact ⟨1 + j, by omega, by omega, h⟩
/-- what a formula says -/
theorem form_pt {f : Nat} {k : Nat} (h : σ.I 6 k = nI f) (hf : f ≤ 8388607) : pt σ k = f % 8 := by
  unfold pt
  rw [h, pk_andN (by omega) 3 (by decide +kernel), nI_clamp (by omega)]
theorem form_mm {f : Nat} {k : Nat} (h : σ.I 6 k = nI f) (hf : f ≤ 8388607) : mm σ k = nI (1 + f / 8 % 1024) := by
  unfold mm
  rw [h, pk_shrN (by omega) _ 3 (by decide +kernel), pk_andN (by omega) 10 (by decide +kernel), show (1 : Int32) = nI 1 by decide +kernel, nI_add]
theorem form_rr {f : Nat} {k : Nat} (h : σ.I 6 k = nI f) (hf : f ≤ 8388607) : rr σ k = nI (f / 8192 % (1 + f / 8 % 1024)) := by
  unfold rr
  rw [form_mm h hf, h, pk_shrN (by omega) _ 13 (by decide +kernel), pk_rem (by omega) (by omega) (by omega)]
theorem form_kr {f : Nat} {k : Nat} (h : σ.I 6 k = nI f) (hf : f ≤ 8388607) : kr σ k = nI (f / 8192) := by
  unfold kr
  rw [h, pk_shrN (by omega) _ 13 (by decide +kernel)]
theorem tm_def (a m : Int) : a - a.tdiv m * m = a.tmod m := by rw [Int.tmod_def, Int.mul_comm]
/-- who is meant -/
theorem meant_X (o : vI N σ) {k c : Nat} (k1 : 1 ≤ k) (k2 : k ≤ σ.2.1) (c1 : 1 ≤ c) (c2 : c ≤ σ.1) : meantX (σ.L 2 c) (mm σ k) (rr σ k) (σ.I 3 (8 * c + pt σ k)) (σ.I 7 k) = meant σ k c := by
  obtain ⟨f, hf, h⟩ := o.2.2.2.2.2.1 k k1 k2
  have hn := o.2.2.2.2.2.2.1 c c1 c2
  unfold meantX meant
  congr 1
  rw [form_rr h hf, form_mm h hf]
  obtain ⟨m, hm⟩ : ∃ m : Nat, m = 1 + f / 8 % 1024 := ⟨_, rfl⟩
  obtain ⟨r, hr⟩ : ∃ r : Nat, r = f / 8192 % (1 + f / 8 % 1024) := ⟨_, rfl⟩
  have hrm : r < m := by rw [hr, hm]; exact Nat.mod_lt _ (by omega)
  have hmb : 1 ≤ m ∧ m ≤ 1024 := by omega
  rw [← hr, ← hm, nI_l (by omega), nI_l (by omega)]
  obtain ⟨n, hnn, e⟩ := lg_nn (Int64.le_trans (by decide) hn : 0 ≤ σ.L 2 c)
  rw [e]
  apply decide_eq_decide.mpr
  rw [pk_lRem (by omega) (by omega) (by omega), pk_lEQ (by have := Nat.mod_lt n (show 0 < m by omega); omega) (by omega)]
  have h1 : (lN n - lN r).toInt = (n : Int) - r := by
    rw [Int64.toInt_sub, pk_lT hnn, pk_lT (by omega)]
    exact Int.bmod_eq_of_le_mul_two (by omega) (by omega)
  have h2 : ((lN n - lN r) / lN m).toInt = ((n : Int) - r).tdiv m := by
    rw [Int64.toInt_div, h1, pk_lT (by omega)]
    have a1 := Int.natAbs_tdiv_le_natAbs ((n : Int) - r) m
    exact Int.bmod_eq_of_le_mul_two (by omega) (by omega)
  have h3 : ((lN n - lN r) / lN m * lN m).toInt = ((n : Int) - r).tdiv m * m := by
    rw [Int64.toInt_mul, h2, pk_lT (by omega)]
    have a1 := tm_def ((n : Int) - r) m
    have a2 := Int.tmod_lt_of_pos ((n : Int) - r) (show (0 : Int) < m by omega)
    have a3 := Int.lt_tmod_of_pos ((n : Int) - r) (show (0 : Int) < m by omega)
    have a4 : ((n : Int) - r).tdiv m * m < 9223372036854775808 := by
      rcases Int.lt_or_le ((n : Int) - r) 0 with z | z
      · omega
      · have a5 := Int.tmod_nonneg (m : Int) z
        omega
    exact Int.bmod_eq_of_le_mul_two (by omega) (by omega)
  have h4 : ((lN n - lN r) - (lN n - lN r) / lN m * lN m).toInt = ((n : Int) - r).tmod m := by
    rw [Int64.toInt_sub, h1, h3]
    have a1 := tm_def ((n : Int) - r) m
    have a2 := Int.tmod_lt_of_pos ((n : Int) - r) (show (0 : Int) < m by omega)
    have a3 := Int.lt_tmod_of_pos ((n : Int) - r) (show (0 : Int) < m by omega)
    rw [a1]
    exact Int.bmod_eq_of_le_mul_two (by omega) (by omega)
  rw [← Int64.toInt_inj, h4, show (0 : Int64).toInt = 0 from rfl]
  constructor
  · intro hh
    apply Int.tmod_eq_zero_of_dvd
    refine ⟨(n / m : Nat), ?_⟩
    have := Nat.div_add_mod n m
    have h9 : (n : Int) = (m : Int) * ((n / m : Nat) : Int) + (r : Int) := by rw [← hh]; exact_mod_cast this.symm
    omega
  · intro hh
    obtain ⟨q, hq⟩ := Int.dvd_of_tmod_eq_zero hh
    have hq0 : 0 ≤ q := by
      rcases Int.lt_or_le q 0 with z | z
      · have z2 : (m : Int) * q ≤ m * (-1) := Int.mul_le_mul_of_nonneg_left (by omega) (by omega)
        omega
      · exact z
    obtain ⟨t, rfl⟩ := Int.eq_ofNat_of_zero_le hq0
    have h9 : n = r + m * t := by
      have : (n : Int) = (r : Int) + (m : Int) * (t : Int) := by omega
      exact_mod_cast this
    rw [h9, Nat.add_mul_mod_self_left, Nat.mod_eq_of_lt hrm]
/-- when a rule is broken -/
theorem broke_look (o : vI N σ) (hN : N ≤ 1000) {k : Nat} (k1 : 1 ≤ k) (k2 : k ≤ 40) : brokeB (σ.I 8 k) (σ.L 13 k) (σ.L 14 k) (σ.I 15 k + σ.I 16 k) (σ.I 16 k) = true ↔ σ.I 8 k = 1 ∧ 0 < σ.L 14 k ∧ 0 < σ.I 15 k + σ.I 16 k ∧ 0 < (σ.I 16 k).toInt64 * σ.L 14 k - σ.L 13 k * (σ.I 15 k + σ.I 16 k).toInt64 := by
  obtain ⟨g, b, h1, h2, h3⟩ := o.2.1 k k2
  unfold brokeB
  simp only [Bool.and_eq_true, decide_eq_true_eq]
  rw [h1, h2, nI_add, nI_l (by omega), nI_l (by omega)]
  apply and_congr_right
  intro _
  apply and_congr_right
  intro hd
  rcases o.2.2.2.2.1 k k1 k2 with ⟨-, z⟩ | hs
  · rw [z] at hd; exact absurd hd (by decide)
  · obtain ⟨s1, s2, s3, s4⟩ := hs
    generalize σ.L 14 k = D at *
    generalize σ.L 13 k = U at *
    obtain ⟨a, ha, rfl⟩ := lg_nn s3
    obtain ⟨q, hq, rfl⟩ := lg_nn (Int64.le_trans (by decide) s1 : 0 ≤ D)
    have c1 : q ≤ 1073741824 := (pk_lLE hq (by decide)).mp s2
    have c2 : a ≤ q := (pk_lLE ha hq).mp s4
    have c0 : 1 ≤ q := (pk_lLE (a := 1) (by decide) hq).mp s1
    have p1 : a * (g + b) ≤ 1073741824 * 1000 := Nat.mul_le_mul (by omega) (by omega)
    have p2 : b * q ≤ 1000 * 1073741824 := Nat.mul_le_mul (by omega) c1
    rw [lN_mul, lN_mul]
    have hz : g + b = 0 → b * q = 0 := fun z => by rw [show b = 0 by omega, Nat.zero_mul]
    generalize a * (g + b) = X at *
    generalize b * q = Y at *
    have hsub : (lN Y - lN X).toInt = (Y : Int) - X := by
      rw [Int64.toInt_sub, pk_lT (by omega), pk_lT (by omega)]
      exact Int.bmod_eq_of_le_mul_two (by omega) (by omega)
    rw [pk_lLT (by omega) (by omega), Int64.lt_iff_toInt_lt, hsub, show (0 : Int64).toInt = 0 from rfl, show (0 : Int32) = nI 0 from nI_0.symm, nI_ltI (by omega) (by omega)]
    constructor
    · intro hh
      refine ⟨?_, by omega⟩
      rcases Nat.eq_zero_or_pos (g + b) with z | z
      · have := hz z; omega
      · exact z
    · intro hh
      have := hh.2
      omega
/-- whether a car may try again -/
theorem may_X (o : vI N σ) (hN : N ≤ 1000) {E : xEn} {G : xH} {x : Nat} {Z : xZ} (h : RepX E G x Z σ) {k c : Nat} (k1 : 1 ≤ k) (k2 : k ≤ σ.2.1) (c1 : 1 ≤ c) (c2 : c ≤ σ.1) : mayX (ndX Z σ c (Z.Lf c)) (nI k) σ.2.2.1 = (decide (σ.I 19 (41 * c + k) < 2) && !(decide (σ.I 19 (41 * c + k) = 1) && decide (σ.2.2.1 - σ.L 20 (41 * c + k) < 100))) := by
  unfold mayX
  have hK := h.K40
  rw [h.look c1 c2 k1 (by omega)]
  obtain ⟨m, m1, m2⟩ := o.2.2.2.2.2.2.2.2.2.2.2.1 c k c1 c2 k1 k2
  rw [m2, show (0 : Int32) = nI 0 from nI_0.symm, show (2 : Int32) = nI 2 by decide +kernel, show (1 : Int32) = nI 1 by decide +kernel]
  rcases Nat.eq_zero_or_pos m with z | z
  · subst z
    rw [if_pos rfl]
    have e1 : (nI 0 < nI 2) = True := eq_true ((nI_ltI (by decide) (by decide)).mpr (by decide))
    have e2 : (nI 0 = nI 1) = False := eq_false (fun z => by have := (nI_eq (by decide) (by decide)).mp z; omega)
    simp only [e1, e2]
    rfl
  · rw [if_neg (fun w => by have := (nI_eq (by omega) (by decide)).mp w; omega)]
    show (decide (nI m < nI 2) && !decide (σ.2.2.1 - σ.L 20 (41 * c + k) < 100)) = _
    rcases Nat.lt_or_ge m 2 with w | w
    · have : m = 1 := by omega
      subst this
      simp
    · have e1 : (nI m < nI 2) = False := eq_false (nI_nlt w (by omega))
      simp [e1]
/-- two campaigns of one part -/
theorem dup_pt (o : vI N σ) {k f : Nat} {ed : Int32} (k1 : 1 ≤ k) (k2 : k ≤ σ.2.1) (hf : f ≤ 8388607) : dupB σ (nI f) ed k = (decide (pt σ k = f % 8) && decide (σ.I 7 k = ed)) := by
  obtain ⟨g, hg, h⟩ := o.2.2.2.2.2.1 k k1 k2
  unfold dupB
  congr 1
  rw [h, form_pt h hg]
  apply decide_eq_decide.mpr
  have h1 : (nI g - nI f).toInt = (g : Int) - f := pk_sub_toInt (by omega) (by omega)
  have h2 : ((nI g - nI f) / 8).toInt = ((g : Int) - f).tdiv 8 := by
    rw [Int32.toInt_div, h1, show (8 : Int32).toInt = 8 from rfl]
    have a1 := Int.natAbs_tdiv_le_natAbs ((g : Int) - f) 8
    exact Int.bmod_eq_of_le_mul_two (by omega) (by omega)
  have a1 := tm_def ((g : Int) - f) 8
  have a2 := Int.tmod_lt_of_pos ((g : Int) - f) (show (0 : Int) < 8 by omega)
  have a3 := Int.lt_tmod_of_pos ((g : Int) - f) (show (0 : Int) < 8 by omega)
  have h3 : ((nI g - nI f) / 8 * 8).toInt = ((g : Int) - f).tdiv 8 * 8 := by
    rw [Int32.toInt_mul, h2, show (8 : Int32).toInt = 8 from rfl]
    exact Int.bmod_eq_of_le_mul_two (by omega) (by omega)
  have h4 : ((nI g - nI f) - (nI g - nI f) / 8 * 8).toInt = ((g : Int) - f).tmod 8 := by
    rw [Int32.toInt_sub, h1, h3, a1]
    exact Int.bmod_eq_of_le_mul_two (by omega) (by omega)
  rw [← Int32.toInt_inj, h4, show (0 : Int32).toInt = 0 from rfl]
  constructor
  · intro hh
    obtain ⟨q, hq⟩ := Int.dvd_of_tmod_eq_zero hh
    omega
  · intro hh
    apply Int.tmod_eq_zero_of_dvd
    omega
/-- bits -/
def bitL (j : Nat) : Int64 := (1 : Int64) <<< ((nI j).toInt64 &&& 63)
theorem bit_and : ∀ i : Fin 41, ∀ j : Fin 41, (bitL i.1 &&& bitL j.1 = 0) ↔ ¬ i.1 = j.1 := by decide +kernel
theorem or_zero (a b : Int64) : a ||| b = 0 ↔ a = 0 ∧ b = 0 := by
  rw [← Int64.toBitVec_inj, ← Int64.toBitVec_inj, ← Int64.toBitVec_inj, Int64.toBitVec_or]
  exact BitVec.or_eq_zero_iff
theorem and_or (a b c : Int64) : (a ||| b) &&& c = (a &&& c) ||| (b &&& c) := by
  rw [← Int64.toBitVec_inj, Int64.toBitVec_and, Int64.toBitVec_or, Int64.toBitVec_or, Int64.toBitVec_and, Int64.toBitVec_and]
  exact BitVec.and_or_distrib_right
theorem hasB_or (v w : Int64) (j : Int32) : hasB (v ||| w) j = (hasB v j || hasB w j) := by
  unfold hasB
  rw [and_or]
  rw [decide_eq_decide.mpr (or_zero (v &&& 1 <<< (j.toInt64 &&& 63)) (w &&& 1 <<< (j.toInt64 &&& 63))), Bool.decide_and, Bool.not_and]
theorem hasB_bit {i j : Nat} (hi : i ≤ 40) (hj : j ≤ 40) : hasB (bitL i) (nI j) = decide (i = j) := by
  have h := bit_and ⟨i, by omega⟩ ⟨j, by omega⟩
  unfold hasB
  have h : (bitL i &&& 1 <<< ((nI j).toInt64 &&& 63) = 0) ↔ ¬ i = j := h
  by_cases e : i = j
  · rw [decide_eq_true e, decide_eq_false (fun z => h.mp z e)]; rfl
  · rw [decide_eq_false e, decide_eq_true (h.mpr e)]; rfl
theorem hasB_0 (j : Int32) : hasB 0 j = false := by
  unfold hasB
  rw [show (0 : Int64) &&& 1 <<< (j.toInt64 &&& 63) = 0 from Int64.toBitVec_inj.mp (by rw [Int64.toBitVec_and]; exact BitVec.zero_and)]
  rfl
end EQ
