/-! WHY CLASS AND REFERENCE AGREE: shares, who is meant, since when. -/
theorem lg_nn {x : Int64} (h : 0 ≤ x) : ∃ k : Nat, k < 2 ^ 63 ∧ x = lN k := pk_lOf (Int64.not_lt.mpr h)
theorem shr32 {a : Nat} (h : a < 2 ^ 63) : lN a >>> ((32 : Int32).toInt64 &&& 63) = lN (a / 4294967296) := by
  apply Int64.toInt_inj.mp
  rw [pk_lT (by omega)]
  have h0 := pk_lT h
  rw [← Int64.toInt_toBitVec] at h0 ⊢
  rw [Int64.toBitVec_shiftRight, BitVec.sshiftRight', show ((((32 : Int32).toInt64 &&& 63).toBitVec.smod 64).toNat) = 32 by decide +kernel, BitVec.toInt_sshiftRight, h0, Int.shiftRight_eq_div_pow]
  rfl
theorem shl32 {a : Nat} : lN a <<< ((32 : Int32).toInt64 &&& 63) = lN (a * 4294967296) := by
  apply Int64.toBitVec_inj.mp
  rw [Int64.toBitVec_shiftLeft, show (((32 : Int32).toInt64 &&& 63).toBitVec.smod 64) = 32#64 by decide +kernel]
  apply BitVec.eq_of_toNat_eq
  show (BitVec.ofNat 64 a <<< 32#64).toNat = (BitVec.ofNat 64 (a * 4294967296)).toNat
  rw [BitVec.shiftLeft_eq', BitVec.toNat_shiftLeft, BitVec.toNat_ofNat, BitVec.toNat_ofNat, Nat.shiftLeft_eq, BitVec.toNat_ofNat]
  show a % 18446744073709551616 * 4294967296 % 18446744073709551616 = a * 4294967296 % 18446744073709551616
  omega
theorem takes_less {g u d : Int64} (hg : 0 ≤ g) (hg2 : g < 4294967296) (hs : shOK u d) : takesB g u d = lessB g u d := by
  obtain ⟨s1, s2, s3, s4⟩ := hs
  obtain ⟨a, ha, rfl⟩ := lg_nn hg
  obtain ⟨w, hw, rfl⟩ := lg_nn s3
  obtain ⟨q, hq, rfl⟩ := lg_nn (Int64.le_trans (by decide) s1 : 0 ≤ d)
  have ha2 : a < 4294967296 := (pk_lLT ha (by decide)).mp hg2
  have hq2 : q ≤ 1073741824 := (pk_lLE hq (by decide)).mp s2
  have hw2 : w ≤ q := (pk_lLE hw hq).mp s4
  have hp : a * q < 2 ^ 62 := Nat.lt_of_le_of_lt (Nat.mul_le_mul_left a hq2) (by omega)
  unfold takesB lessB
  rw [lN_mul, shr32 (by omega), shl32]
  congr 1
  apply propext
  rw [pk_lLT (by omega) (by omega), pk_lLT (by omega) (by omega)]
  omega
theorem digest_nn (n : Int64) (k : Int32) : 0 ≤ digest n k ∧ digest n k < 4294967296 := by
  unfold digest
  generalize sh33 (sh33 (sh33 (n * 31 + k.toInt64) * (-49064778989728563)) * (-4265267296055464877)) = z
  have h1 : (z.toUInt64 >>> ((32 : Int32).toInt64.toUInt64 &&& Int64.toUInt64 63)).toNat < 4294967296 := by
    rw [UInt64.toNat_shiftRight, show ((32 : Int32).toInt64.toUInt64 &&& Int64.toUInt64 63).toNat = 32 by decide +kernel, Nat.shiftRight_eq_div_pow]
    have := z.toUInt64.toNat_lt
    show z.toUInt64.toNat / 4294967296 < 4294967296
    omega
  generalize (z.toUInt64 >>> ((32 : Int32).toInt64.toUInt64 &&& Int64.toUInt64 63)) = y at h1 ⊢
  have h2 : y.toInt64 = lN y.toNat := by
    apply Int64.toBitVec_inj.mp
    apply BitVec.eq_of_toNat_eq
    show y.toNat = (BitVec.ofNat 64 y.toNat).toNat
    rw [BitVec.toNat_ofNat]
    have := y.toNat_lt
    omega
  rw [h2]
  exact ⟨(pk_lLE (a := 0) (by decide) (by omega)).mpr (Nat.zero_le _), (pk_lLT (b := 4294967296) (by omega) (by decide)).mpr h1⟩
/-- the first wave that takes has the least time -/
theorem since_eq {N : Nat} {σ : St} (o : vI N σ) {k c : Nat} (k1 : 1 ≤ k) (k2 : k ≤ 40) : sinceN σ k c (wv σ k) = sinceX (digest (σ.L 2 c) (nI k)) (fun w => σ.L 10 (21 * k + w)) (fun w => σ.L 11 (21 * k + w)) (fun w => σ.L 12 (21 * k + w)) (wv σ k) := by
  have hW := o.2.2.2.1
  have hd := digest_nn (σ.L 2 c) (nI k)
  have hf : ∀ w, 1 ≤ w → w ≤ wv σ k → takesB (digest (σ.L 2 c) (nI k)) (σ.L 10 (21 * k + w)) (σ.L 11 (21 * k + w)) = inB σ k w c := fun w w1 w2 => takes_less hd.1 hd.2 (hW k w k1 k2 w1 w2).1
  have mono : ∀ e v, 1 ≤ v → v + e ≤ wv σ k → σ.L 12 (21 * k + v) ≤ σ.L 12 (21 * k + (v + e)) := by
    intro e
    induction e with
    | zero => intro v _ _; exact Int64.le_refl _
    | succ e ih =>
      intro v v1 v2
      exact Int64.le_trans (ih v v1 (by omega)) ((hW k (v + e) k1 k2 (by omega) (by omega)).2.2.2 (by omega))
  have main : ∀ w, w ≤ wv σ k → (fstN (fun w => takesB (digest (σ.L 2 c) (nI k)) (σ.L 10 (21 * k + w)) (σ.L 11 (21 * k + w))) w ≤ w) ∧ sinceN σ k c w = sinceX (digest (σ.L 2 c) (nI k)) (fun w => σ.L 10 (21 * k + w)) (fun w => σ.L 11 (21 * k + w)) (fun w => σ.L 12 (21 * k + w)) w := by
    intro w
    induction w with
    | zero => intro _; exact ⟨Nat.le_refl _, rfl⟩
    | succ w ih =>
      intro hw
      obtain ⟨ih1, ih2⟩ := ih (by omega)
      obtain ⟨a1, a2, a3, a4⟩ := hW k (w + 1) k1 k2 (by omega) hw
      unfold sinceX at ih2 ⊢
      rw [sinceN, fstN, ih2, hf (w + 1) (by omega) hw]
      by_cases e : fstN (fun w => takesB (digest (σ.L 2 c) (nI k)) (σ.L 10 (21 * k + w)) (σ.L 11 (21 * k + w))) w = 0
      · rw [if_pos e, if_pos e]
        by_cases e2 : inB σ k (w + 1) c = true
        · rw [if_pos e2, if_pos ⟨a3, e2, Or.inl (by decide)⟩, if_neg (by omega)]
          exact ⟨Nat.le_refl _, rfl⟩
        · rw [if_neg e2, if_neg (fun z => e2 z.2.1), if_pos rfl]
          exact ⟨Nat.zero_le _, rfl⟩
      · rw [if_neg e, if_neg e]
        obtain ⟨v, hv⟩ : ∃ v, v = fstN (fun w => takesB (digest (σ.L 2 c) (nI k)) (σ.L 10 (21 * k + w)) (σ.L 11 (21 * k + w))) w := ⟨_, rfl⟩
        rw [← hv] at e ih1 ⊢
        have b1 := (hW k v k1 k2 (by omega) (by omega)).2.1
        have b2 := mono (w + 1 - v) v (by omega) (by omega)
        rw [show v + (w + 1 - v) = w + 1 by omega] at b2
        refine ⟨by omega, ?_⟩
        rw [if_neg (fun z => by
          rcases z.2.2 with z | z
          · exact Int64.not_le.mpr z b1
          · exact Int64.not_le.mpr z b2)]
  exact (main _ (Nat.le_refl _)).2
theorem since_nn {N : Nat} {σ : St} (o : vI N σ) {k c : Nat} (k1 : 1 ≤ k) (k2 : k ≤ 40) : ∀ w, w ≤ wv σ k → sinceN σ k c w = -1 ∨ 0 ≤ sinceN σ k c w := by
  intro w
  induction w with
  | zero => intro _; exact Or.inl rfl
  | succ w ih =>
    intro hw
    rw [sinceN]
    split
    · exact Or.inr (o.2.2.2.1 k (w + 1) k1 k2 (by omega) hw).2.1
    · exact ih (by omega)
/-- the time that has been told decides nothing else -/
theorem greater_less {N : Nat} {σ : St} (o : vI N σ) {k : Nat} (k1 : 1 ≤ k) (k2 : k ≤ 40) {u d : Int64} (hs : shOK u d) : greaterX u d (fun w => σ.L 10 (21 * k + w)) (fun w => σ.L 11 (21 * k + w)) (wv σ k) = true ↔ 0 < wv σ k ∧ u * σ.L 11 (21 * k + wv σ k) - σ.L 10 (21 * k + wv σ k) * d < 0 := by
  unfold greaterX
  by_cases e : wv σ k = 0
  · simp [e]
  · have h := (o.2.2.2.1 k (wv σ k) k1 k2 (by omega) (Nat.le_refl _)).1
    simp only [Bool.and_eq_true, Bool.not_eq_true', decide_eq_false_iff_not, decide_eq_true_eq]
    obtain ⟨s1, s2, s3, s4⟩ := hs
    obtain ⟨r1, r2, r3, r4⟩ := h
    generalize σ.L 11 (21 * k + wv σ k) = D at *
    generalize σ.L 10 (21 * k + wv σ k) = U at *
    obtain ⟨a, ha, rfl⟩ := lg_nn s3
    obtain ⟨q, hq, rfl⟩ := lg_nn (Int64.le_trans (by decide) s1 : 0 ≤ d)
    obtain ⟨a', ha', rfl⟩ := lg_nn r3
    obtain ⟨q', hq', rfl⟩ := lg_nn (Int64.le_trans (by decide) r1 : 0 ≤ D)
    have c1 : q ≤ 1073741824 := (pk_lLE hq (by decide)).mp s2
    have c2 : a ≤ q := (pk_lLE ha hq).mp s4
    have c3 : q' ≤ 1073741824 := (pk_lLE hq' (by decide)).mp r2
    have c4 : a' ≤ q' := (pk_lLE ha' hq').mp r4
    have p1 : a * q' ≤ 1073741824 * 1073741824 := Nat.mul_le_mul (by omega) c3
    have p2 : a' * q ≤ 1073741824 * 1073741824 := Nat.mul_le_mul (by omega) c1
    rw [lN_mul, lN_mul]
    generalize a * q' = X at *
    generalize a' * q = Y at *
    have hsub : (lN X - lN Y).toInt = (X : Int) - Y := by
      rw [Int64.toInt_sub, pk_lT (by omega), pk_lT (by omega)]
      exact Int.bmod_eq_of_le_mul_two (by omega) (by omega)
    rw [pk_lLT (by omega) (by omega), Int64.lt_iff_toInt_lt, hsub, show (0 : Int64).toInt = 0 from rfl]
    omega
