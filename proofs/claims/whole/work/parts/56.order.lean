/-! THE ORDER: chains of campaigns; bits that are put. -/
def pathN (σ : St) : Nat → Nat → Nat → Prop
  | 0, a, b => a = b
  | n + 1, a, b => ∃ c, 1 ≤ c ∧ c ≤ σ.2.1 ∧ pathN σ n a c ∧ befB σ c b = true
def Reach (σ : St) (a b : Nat) : Prop := ∃ n, pathN σ n a b
/-- order's answer and state, once it is known whether a chain leads there -/
def sOrd (σ : St) (k o : Int32) (rb : Bool) : Int32 × St := if badK σ k ∨ badK σ o then (-1, σ) else if k = o then (-2, σ) else if rb = true then (0, σ) else (1, σ.setI 17 (upd (σ.I 17) (41 * k.toNatClampNeg + o.toNatClampNeg) 1))
theorem path_succ (σ : St) : ∀ (n a c b : Nat), 1 ≤ c → c ≤ σ.2.1 → pathN σ n c b → befB σ a c = true → 1 ≤ a → a ≤ σ.2.1 → pathN σ (n + 1) a b
  | 0, a, c, b, _, _, h, h2, a1, a2 => by
    have h : c = b := h
    subst h
    exact ⟨a, a1, a2, rfl, h2⟩
  | n + 1, a, c, b, c1, c2, h, h2, a1, a2 => by
    obtain ⟨d, d1, d2, h3, h4⟩ := h
    exact ⟨d, d1, d2, path_succ σ n a c d c1 c2 h3 h2 a1 a2, h4⟩
/-- the reference's set -/
theorem reach_fwd {σ : St} {r : Nat → Int32} {k o : Nat} (h0 : ¬ r k = 0) (hc : ∀ a b, 1 ≤ a → a ≤ σ.2.1 → 1 ≤ b → b ≤ σ.2.1 → ¬ r a = 0 → befB σ a b = true → ¬ r b = 0) (hs : ∀ b, 1 ≤ b → b ≤ σ.2.1 → ¬ r b = 0 → Reach σ k b) (o1 : 1 ≤ o) (o2 : o ≤ σ.2.1) : ¬ r o = 0 ↔ Reach σ k o := by
  refine ⟨hs o o1 o2, fun ⟨n, hn⟩ => ?_⟩
  have main : ∀ n b, 1 ≤ b → b ≤ σ.2.1 → pathN σ n k b → ¬ r b = 0 := by
    intro n
    induction n with
    | zero =>
      intro b _ _ h
      have h : k = b := h
      rw [← h]
      exact h0
    | succ n ih =>
      intro b b1 b2 h
      obtain ⟨c, c1, c2, h3, h4⟩ := h
      exact hc c b c1 c2 b1 b2 (ih c c1 c2 h3) h4
  exact main n o o1 o2 hn
/-- the class's bits -/
def passX (bf : Nat → Int64) (F : Int64) : Nat → Int64
  | 0 => F
  | i + 1 => if hasB (passX bf F i) (nI (i + 1)) = true then passX bf F i ||| bf (i + 1) else passX bf F i
def rndX (bf : Nat → Int64) (F : Int64) (K : Nat) : Nat → Int64
  | 0 => F
  | r + 1 => passX bf (rndX bf F K r) K
section OR
variable {N : Nat} {σ : St} {Z : xZ}
theorem pass_up (bf : Nat → Int64) (F : Int64) (j : Int32) : ∀ n d, hasB (passX bf F n) j = true → hasB (passX bf F (n + d)) j = true
  | n, 0, h => h
  | n, d + 1, h => by
    have ih := pass_up bf F j n d h
    rw [← Nat.add_assoc, passX]
    split
    · rw [hasB_or, ih]; rfl
    · exact ih
def bitsOf (F : Int64) (j : Nat) : Bool := hasB F (nI j)
/-- closed under what is before -/
def clX (σ : St) (F : Int64) : Prop := ∀ i j, 1 ≤ i → i ≤ σ.2.1 → 1 ≤ j → j ≤ σ.2.1 → bitsOf F j = true → befB σ i j = true → bitsOf F i = true
theorem pass_pre (hB : BfX Z σ) (hK : σ.2.1 ≤ 40) {F : Int64} {i j : Nat} (i1 : 1 ≤ i) (i2 : i ≤ σ.2.1) (j1 : 1 ≤ j) (j2 : j ≤ σ.2.1) (h : bitsOf F j = true) (hb : befB σ i j = true) : bitsOf (passX Z.bf F σ.2.1) i = true := by
  obtain ⟨q, rfl⟩ : ∃ q, j = q + 1 := ⟨j - 1, by omega⟩
  have h1 : hasB (passX Z.bf F q) (nI (q + 1)) = true := by
    have := pass_up Z.bf F (nI (q + 1)) 0 q h
    rw [Nat.zero_add] at this
    exact this
  have h2 : hasB (passX Z.bf F (q + 1)) (nI i) = true := by
    rw [passX, if_pos h1, hasB_or, hB (q + 1) j1 j2 i i1 (by omega), hb, decide_eq_true i2]
    simp
  have h3 := pass_up Z.bf F (nI i) (q + 1) (σ.2.1 - (q + 1)) h2
  rw [show q + 1 + (σ.2.1 - (q + 1)) = σ.2.1 by omega] at h3
  exact h3
theorem pass_sub (hB : BfX Z σ) (hK : σ.2.1 ≤ 40) {F : Int64} (P : Nat → Prop) (hP : ∀ i j, 1 ≤ i → i ≤ σ.2.1 → 1 ≤ j → j ≤ σ.2.1 → P j → befB σ i j = true → P i) (h : ∀ j, 1 ≤ j → j ≤ σ.2.1 → bitsOf F j = true → P j) : ∀ n, n ≤ σ.2.1 → ∀ j, 1 ≤ j → j ≤ σ.2.1 → bitsOf (passX Z.bf F n) j = true → P j := by
  intro n
  induction n with
  | zero => exact fun _ => h
  | succ n ih =>
    intro hn j j1 j2 hj
    have hj : hasB (passX Z.bf F (n + 1)) (nI j) = true := hj
    rw [passX] at hj
    split at hj
    · rename_i hh
      rw [hasB_or, Bool.or_eq_true] at hj
      rcases hj with z | z
      · exact ih (by omega) j j1 j2 z
      · rw [hB (n + 1) (by omega) hn j j1 (by omega), Bool.and_eq_true] at z
        exact hP j (n + 1) j1 j2 (by omega) hn (ih (by omega) (n + 1) (by omega) hn hh) z.2
    · exact ih (by omega) j j1 j2 hj
theorem cnt_sub {f g : Nat → Bool} : ∀ n, (∀ j, 1 ≤ j → j ≤ n → f j = true → g j = true) → cntN f n ≤ cntN g n ∧ (cntN f n = cntN g n → ∀ j, 1 ≤ j → j ≤ n → g j = true → f j = true)
  | 0, _ => ⟨Nat.le_refl _, fun _ j a b => by omega⟩
  | n + 1, h => by
    obtain ⟨h1, h2⟩ := cnt_sub n (fun j a b => h j a (by omega))
    rw [cntN, cntN]
    have h3 := h (n + 1) (by omega) (Nat.le_refl _)
    by_cases e1 : f (n + 1) = true
    · rw [if_pos e1, if_pos (h3 e1)]
      refine ⟨by omega, fun z j a b hj => ?_⟩
      by_cases e : j = n + 1
      · rw [e]; exact e1
      · exact h2 (by omega) j a (by omega) hj
    · rw [if_neg e1]
      by_cases e2 : g (n + 1) = true
      · rw [if_pos e2]
        exact ⟨by omega, fun z => by omega⟩
      · rw [if_neg e2]
        refine ⟨by omega, fun z j a b hj => ?_⟩
        by_cases e : j = n + 1
        · rw [e] at hj; exact absurd hj e2
        · exact h2 (by omega) j a (by omega) hj
theorem rnd_cl (hB : BfX Z σ) (hK : σ.2.1 ≤ 40) (F : Int64) : ∀ r, clX σ (rndX Z.bf F σ.2.1 r) ∨ r + 1 ≤ cntN (bitsOf (rndX Z.bf F σ.2.1 r)) σ.2.1 := by
  intro r
  induction r with
  | zero =>
    rcases Nat.eq_zero_or_pos (cntN (bitsOf F) σ.2.1) with z | z
    · left
      intro i j i1 i2 j1 j2 hj hb
      have hz : ∀ n, cntN (fun _ => false) n = 0 := fun n => by
        induction n with
        | zero => rfl
        | succ n ih => rw [cntN, ih]; rfl
      have := (cnt_sub (f := fun _ => false) (g := bitsOf F) σ.2.1 (fun j _ _ hh => by cases hh)).2 (by rw [hz, z]) j j1 j2 hj
      cases this
    · right
      exact z
  | succ r ih =>
    have hsub : ∀ j, 1 ≤ j → j ≤ σ.2.1 → bitsOf (rndX Z.bf F σ.2.1 r) j = true → bitsOf (rndX Z.bf F σ.2.1 (r + 1)) j = true := by
      intro j _ _ hj
      have := pass_up Z.bf (rndX Z.bf F σ.2.1 r) (nI j) 0 σ.2.1 hj
      rw [Nat.zero_add] at this
      exact this
    have hsame : (∀ j, 1 ≤ j → j ≤ σ.2.1 → bitsOf (rndX Z.bf F σ.2.1 (r + 1)) j = true → bitsOf (rndX Z.bf F σ.2.1 r) j = true) → clX σ (rndX Z.bf F σ.2.1 (r + 1)) := by
      intro hh i j i1 i2 j1 j2 hj hb
      exact pass_pre hB hK i1 i2 j1 j2 (hh j j1 j2 hj) hb
    obtain ⟨c1, c2⟩ := cnt_sub σ.2.1 hsub
    rcases ih with ih | ih
    · left
      apply hsame
      exact pass_sub hB hK (fun j => bitsOf (rndX Z.bf F σ.2.1 r) j = true) (fun i j i1 i2 j1 j2 hj hb => ih i j i1 i2 j1 j2 hj hb) (fun j _ _ hj => hj) σ.2.1 (Nat.le_refl _)
    · by_cases e : cntN (bitsOf (rndX Z.bf F σ.2.1 r)) σ.2.1 = cntN (bitsOf (rndX Z.bf F σ.2.1 (r + 1))) σ.2.1
      · left
        exact hsame (c2 e)
      · right
        omega
theorem reach_bwd (hB : BfX Z σ) (hK : σ.2.1 ≤ 40) {k o : Nat} (k1 : 1 ≤ k) (k2 : k ≤ σ.2.1) (o1 : 1 ≤ o) (o2 : o ≤ σ.2.1) (hne : k ≠ o) : hasB (rndX Z.bf (Z.bf o) σ.2.1 σ.2.1) (nI k) = true ↔ Reach σ k o := by
  have hcl : clX σ (rndX Z.bf (Z.bf o) σ.2.1 σ.2.1) := by
    rcases rnd_cl hB hK (Z.bf o) σ.2.1 with z | z
    · exact z
    · have := cntN_le (bitsOf (rndX Z.bf (Z.bf o) σ.2.1 σ.2.1)) σ.2.1
      omega
  constructor
  · have main : ∀ r j, 1 ≤ j → j ≤ σ.2.1 → bitsOf (rndX Z.bf (Z.bf o) σ.2.1 r) j = true → Reach σ j o := by
      intro r
      have hP : ∀ i j, 1 ≤ i → i ≤ σ.2.1 → 1 ≤ j → j ≤ σ.2.1 → Reach σ j o → befB σ i j = true → Reach σ i o := by
        intro i j i1 i2 j1 j2 ⟨n, hn⟩ hb
        exact ⟨n + 1, path_succ σ n i j o j1 j2 hn hb i1 i2⟩
      induction r with
      | zero =>
        intro j j1 j2 hj
        have hj : hasB (Z.bf o) (nI j) = true := hj
        rw [hB o o1 o2 j j1 (by omega), Bool.and_eq_true] at hj
        exact ⟨1, j, j1, j2, rfl, hj.2⟩
      | succ r ih => exact pass_sub hB hK (fun j => Reach σ j o) hP ih σ.2.1 (Nat.le_refl _)
    exact fun hh => main σ.2.1 k k1 k2 hh
  · rintro ⟨n, hn⟩
    have up : ∀ j, bitsOf (Z.bf o) j = true → bitsOf (rndX Z.bf (Z.bf o) σ.2.1 σ.2.1) j = true := by
      intro j hj
      have : ∀ r, bitsOf (rndX Z.bf (Z.bf o) σ.2.1 r) j = true := by
        intro r
        induction r with
        | zero => exact hj
        | succ r ih =>
          have := pass_up Z.bf (rndX Z.bf (Z.bf o) σ.2.1 r) (nI j) 0 σ.2.1 ih
          rw [Nat.zero_add] at this
          exact this
      exact this _
    have main : ∀ n c, 1 ≤ c → c ≤ σ.2.1 → pathN σ n k c → bitsOf (rndX Z.bf (Z.bf o) σ.2.1 σ.2.1) c = true → bitsOf (rndX Z.bf (Z.bf o) σ.2.1 σ.2.1) k = true := by
      intro n
      induction n with
      | zero =>
        intro c _ _ h hc
        have h : k = c := h
        rw [h]; exact hc
      | succ n ih =>
        intro c c1 c2 h hc
        obtain ⟨d, d1, d2, h3, h4⟩ := h
        exact ih d d1 d2 h3 (hcl d c d1 d2 c1 c2 hc h4)
    cases n with
    | zero => exact absurd hn hne
    | succ n =>
      obtain ⟨d, d1, d2, h3, h4⟩ := hn
      refine main n d d1 d2 h3 (up d ?_)
      show hasB (Z.bf o) (nI d) = true
      rw [hB o o1 o2 d d1 (by omega), h4, decide_eq_true d2]
      rfl
/-- one is told to be before the other -/
theorem BfX.told (hB : BfX Z σ) (hK : σ.2.1 ≤ 40) {k o : Nat} (k1 : 1 ≤ k) (k2 : k ≤ σ.2.1) (o1 : 1 ≤ o) (o2 : o ≤ σ.2.1) : BfX (Z.sbf k (Z.bf k ||| bitL o)) (σ.setI 17 (upd (σ.I 17) (41 * k + o) 1)) := by
  intro i i1 i2 j j1 j2
  have i2 : i ≤ σ.2.1 := i2
  show hasB (uN Z.bf k (Z.bf k ||| bitL o) i) (nI j) = (decide (j ≤ σ.2.1) && (!decide (upd (σ.I 17) (41 * k + o) 1 (41 * i + j) = 0) || (decide (σ.I 6 j &&& 7 = σ.I 6 i &&& 7) && decide (σ.I 7 j < σ.I 7 i))))
  have h := hB i i1 i2 j j1 j2
  unfold befB at h
  by_cases e : i = k
  · subst e
    rw [uN_self, hasB_or, hasB_bit (by omega) j2, h]
    by_cases e2 : o = j
    · subst e2
      rw [upd_self, decide_eq_true o2, decide_eq_true (rfl : o = o)]
      simp
    · rw [upd_ne _ _ (by omega), decide_eq_false e2, Bool.or_false]
  · rw [uN_ne _ _ e, upd_ne _ _ (by omega)]
    exact h
/-- a new campaign among those of its part -/
def ordN (σ : St) (p1 : Nat) (ed : Int32) : Nat → Int64
  | 0 => 0
  | k + 1 => if pt σ (k + 1) = p1 ∧ σ.I 7 (k + 1) < ed then ordN σ p1 ed k ||| bitL (k + 1) else ordN σ p1 ed k
def ordB (Z : xZ) (σ : St) (p1 : Nat) (ed : Int32) (n : Nat) : Nat → Int64 := fun k => if 1 ≤ k ∧ k ≤ n ∧ pt σ k = p1 ∧ ¬ σ.I 7 k < ed then Z.bf k ||| bitL (σ.2.1 + 1) else Z.bf k
theorem ordN_bit (σ : St) (p1 : Nat) (ed : Int32) {j : Nat} (j2 : j ≤ 40) : ∀ n, n ≤ 40 → hasB (ordN σ p1 ed n) (nI j) = (decide (1 ≤ j ∧ j ≤ n) && (decide (pt σ j = p1) && decide (σ.I 7 j < ed)))
  | 0, _ => by
    rw [ordN, hasB_0, decide_eq_false (by omega)]
    rfl
  | n + 1, hn => by
    have ih := ordN_bit σ p1 ed j2 n (by omega)
    rw [ordN]
    by_cases e : j = n + 1
    · subst e
      rw [decide_eq_false (by omega), Bool.false_and] at ih
      rw [decide_eq_true (by omega), Bool.true_and]
      by_cases e2 : pt σ (n + 1) = p1 ∧ σ.I 7 (n + 1) < ed
      · rw [if_pos e2, hasB_or, ih, hasB_bit (by omega) j2, decide_eq_true e2.1, decide_eq_true e2.2]
        simp
      · rw [if_neg e2, ih, ← Bool.decide_and, decide_eq_false e2]
    · have e3 : decide (1 ≤ j ∧ j ≤ n + 1) = decide (1 ≤ j ∧ j ≤ n) := decide_eq_decide.mpr (by omega)
      rw [e3]
      split
      · rw [hasB_or, ih, hasB_bit (by omega) j2, decide_eq_false (fun z : n + 1 = j => e z.symm), Bool.or_false]
      · exact ih
theorem part_eq (σ τ : St) (i j : Nat) : (σ.I 6 i &&& 7 = τ.I 6 j &&& 7) ↔ pt σ i = pt τ j := by
  have h1 := pt_n σ i
  have h2 := pt_n τ j
  rw [h1.2, h2.2, nI_eq (by omega) (by omega)]
theorem BfX.camp (o : vI N σ) (hB : BfX Z σ) (hn : σ.2.1 < 40) {f : Nat} {ed : Int32} (hf : f ≤ 8388607) (hd : ∀ k, 1 ≤ k → k ≤ σ.2.1 → ¬ (pt σ k = f % 8 ∧ σ.I 7 k = ed)) {Z' : xZ} (hz : Z'.bf = uN (ordB Z σ (f % 8) ed σ.2.1) (σ.2.1 + 1) (ordN σ (f % 8) ed σ.2.1)) : BfX Z' (campS σ (nI f) ed) := by
  have hpt : pt (campS σ (nI f) ed) (σ.2.1 + 1) = f % 8 := form_pt (by show upd (σ.I 6) (σ.2.1 + 1) (nI f) (σ.2.1 + 1) = _; rw [upd_self]) hf
  have hpo : ∀ j, j ≠ σ.2.1 + 1 → pt (campS σ (nI f) ed) j = pt σ j := fun j hj => by
    have : (campS σ (nI f) ed).I 6 j = σ.I 6 j := upd_ne _ _ hj
    unfold pt
    rw [this]
  have h7 : (campS σ (nI f) ed).I 7 (σ.2.1 + 1) = ed := upd_self _ _ _
  have h7o : ∀ j, j ≠ σ.2.1 + 1 → (campS σ (nI f) ed).I 7 j = σ.I 7 j := fun j hj => upd_ne _ _ hj
  have ht := o.2.2.2.2.2.2.2.2.1
  intro k k1 k2 j j1 j2
  have k2 : k ≤ σ.2.1 + 1 := k2
  show hasB (Z'.bf k) (nI j) = (decide (j ≤ σ.2.1 + 1) && befB (campS σ (nI f) ed) j k)
  have hbe : befB (campS σ (nI f) ed) j k = (!decide (σ.I 17 (41 * k + j) = 0) || (decide (pt (campS σ (nI f) ed) j = pt (campS σ (nI f) ed) k) && decide ((campS σ (nI f) ed).I 7 j < (campS σ (nI f) ed).I 7 k))) := by
    unfold befB
    rw [decide_eq_decide.mpr (part_eq (campS σ (nI f) ed) (campS σ (nI f) ed) j k)]
    rfl
  rw [hbe, hz]
  by_cases ek : k = σ.2.1 + 1
  · subst ek
    rw [uN_self, ordN_bit σ _ _ j2 _ (by omega), ht _ j (by omega) j2 (by omega), hpt, h7]
    by_cases ej : j = σ.2.1 + 1
    · subst ej
      rw [h7, decide_eq_false (by omega), decide_eq_false (show ¬ ed < ed from Int32.lt_irrefl)]
      simp
    · rw [hpo j ej, h7o j ej]
      by_cases e9 : j ≤ σ.2.1
      · rw [decide_eq_true ⟨j1, e9⟩, decide_eq_true (by omega : j ≤ σ.2.1 + 1)]
        simp
      · rw [decide_eq_false (show ¬ (1 ≤ j ∧ j ≤ σ.2.1) by omega), decide_eq_false (show ¬ j ≤ σ.2.1 + 1 by omega)]
        simp
  · rw [uN_ne _ _ ek, hpo k ek, h7o k ek]
    have h := hB k k1 (by omega) j j1 j2
    have hbo : befB σ j k = (!decide (σ.I 17 (41 * k + j) = 0) || (decide (pt σ j = pt σ k) && decide (σ.I 7 j < σ.I 7 k))) := by
      unfold befB
      rw [decide_eq_decide.mpr (part_eq σ σ j k)]
    rw [hbo] at h
    by_cases ej : j = σ.2.1 + 1
    · subst ej
      rw [decide_eq_false (by omega), Bool.false_and] at h
      rw [hpt, h7, decide_eq_true (Nat.le_refl _), ht k _ (by omega) j2 (by omega)]
      unfold ordB
      by_cases ec : 1 ≤ k ∧ k ≤ σ.2.1 ∧ pt σ k = f % 8 ∧ ¬ σ.I 7 k < ed
      · have hlt : ed < σ.I 7 k := by
          rcases Int32.lt_or_eq_of_le (Int32.not_lt.mp ec.2.2.2) with z | z
          · exact z
          · exact absurd ⟨ec.2.2.1, z.symm⟩ (hd k k1 (by omega))
        rw [if_pos ec, hasB_or, h, hasB_bit (by omega) j2, ec.2.2.1, decide_eq_true hlt]
        simp
      · rw [if_neg ec, h]
        by_cases e5 : f % 8 = pt σ k
        · rw [decide_eq_false (fun z : ed < σ.I 7 k => ec ⟨k1, by omega, e5.symm, Int32.not_lt.mpr (Int32.le_of_lt z)⟩)]
          simp
        · rw [decide_eq_false e5]
          simp
    · rw [hpo j ej, h7o j ej]
      have e6 : decide (j ≤ σ.2.1 + 1) = decide (j ≤ σ.2.1) := decide_eq_decide.mpr (by omega)
      rw [e6, ← h]
      unfold ordB
      split
      · rw [hasB_or, hasB_bit (by omega) j2, decide_eq_false (fun z => ej z.symm), Bool.or_false]
      · rfl
end OR
