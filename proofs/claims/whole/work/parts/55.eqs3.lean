/-! WHY CLASS AND REFERENCE AGREE: what a car is to begin; failures; the order. -/
section ER
variable {N : Nat} {σ : St} {E : xEn} {G : xH} {x : Nat} {Z : xZ}
theorem any_of {f : Nat → Bool} : ∀ (n : Nat), anyN f n = true ↔ ∃ j, 1 ≤ j ∧ j ≤ n ∧ f j = true
  | 0 => ⟨fun h => (by cases h), fun ⟨j, h1, h2, _⟩ => (by omega)⟩
  | n + 1 => by
    rw [anyN, Bool.or_eq_true, any_of n]
    constructor
    · rintro (⟨j, h1, h2, h3⟩ | h)
      · exact ⟨j, h1, by omega, h3⟩
      · exact ⟨n + 1, by omega, Nat.le_refl _, h⟩
    · rintro ⟨j, h1, h2, h3⟩
      by_cases e : j = n + 1
      · exact Or.inr (e ▸ h3)
      · exact Or.inl ⟨j, h1, by omega, h3⟩
theorem any_congr {f g : Nat → Bool} : ∀ (n : Nat), (∀ j, 1 ≤ j → j ≤ n → f j = g j) → anyN f n = anyN g n
  | 0, _ => rfl
  | n + 1, h => by rw [anyN, anyN, any_congr n (fun j a b => h j a (by omega)), h (n + 1) (by omega) (Nat.le_refl _)]
theorem cnt_congr {f g : Nat → Bool} : ∀ (n : Nat), (∀ j, 1 ≤ j → j ≤ n → f j = g j) → cntN f n = cntN g n
  | 0, _ => rfl
  | n + 1, h => by rw [cntN, cntN, cnt_congr n (fun j a b => h j a (by omega)), h (n + 1) (by omega) (Nat.le_refl _)]
theorem may_any (σ : St) (k c : Nat) : ∀ n, mayN σ k c n = (mayB0 σ k c && !anyN (barB σ k c) n)
  | 0 => by rw [mayN, anyN]; simp
  | n + 1 => by rw [mayN, may_any σ k c n, anyN, Bool.not_or, Bool.and_assoc]
theorem bef_self (o : vI N σ) {k : Nat} (hk : k ≤ 40) : befB σ k k = false := by
  unfold befB
  rw [o.2.2.2.2.2.2.2.2.1 k k hk hk (Or.inr (Or.inr rfl))]
  simp [Int32.lt_irrefl]
/-- what holds a campaign back; who is open; what comes next -/
def heldX (Z : xZ) (σ : St) (k c : Nat) : Bool := anyN (fun b => hasB (Z.bf k) (nI b) && (!decide (σ.I 8 b = 3) && meant σ b c)) σ.2.1
def openX (Z : xZ) (σ : St) (k c : Nat) : Bool := decide (σ.I 8 k = 1) && (meant σ k c && (mayX (ndX Z σ c (Z.Lf c)) (nI k) σ.2.2.1 && !heldX Z σ k c))
def sncX (σ : St) (k c : Nat) : Int64 := sinceX (digest (σ.L 2 c) (nI k)) (fun w => σ.L 10 (21 * k + w)) (fun w => σ.L 11 (21 * k + w)) (fun w => σ.L 12 (21 * k + w)) (wv σ k)
def nextX (Z : xZ) (σ : St) (c : Nat) : Nat → Nat × Int64
  | 0 => (0, 0)
  | k + 1 => if openX Z σ (k + 1) c = true ∧ ¬ sncX σ (k + 1) c = -1 ∧ ((nextX Z σ c k).1 = 0 ∨ sncX σ (k + 1) c < (nextX Z σ c k).2) then (k + 1, sncX σ (k + 1) c) else nextX Z σ c k
theorem next_le (Z : xZ) (σ : St) (c : Nat) : ∀ n, (nextX Z σ c n).1 ≤ n
  | 0 => Nat.le_refl _
  | n + 1 => by
    have := next_le Z σ c n
    rw [nextX]
    split
    · exact Nat.le_refl _
    · omega
theorem open_may (o : vI N σ) (hN : N ≤ 1000) (h : RepX E G x Z σ) (hB : BfX Z σ) {k c : Nat} (k1 : 1 ≤ k) (k2 : k ≤ σ.2.1) (c1 : 1 ≤ c) (c2 : c ≤ σ.1) (h4 : σ.I 4 c = 0) (hb : ∀ j, 1 ≤ j → j ≤ 40 → σ.I 21 (41 * c + j) = 0) : openX Z σ k c = mayN σ k c σ.2.1 := by
  have hK := h.K40
  rw [may_any]
  have e1 : anyN (barB σ k c) σ.2.1 = heldX Z σ k c := by
    unfold heldX
    refine any_congr _ (fun b b1 b2 => ?_)
    unfold barB
    rw [hB k k1 k2 b b1 (by omega), hb b b1 (by omega), decide_eq_true b2]
    by_cases e : b = k
    · subst e
      rw [bef_self o (by omega)]
      simp
    · rw [decide_eq_false e]
      cases befB σ b k <;> cases meant σ b c <;> cases decide (σ.I 8 b = 3) <;> rfl
  rw [e1]
  unfold openX mayB0
  rw [may_X o hN h k1 k2 c1 c2, decide_eq_true h4]
  cases decide (σ.I 8 k = 1) <;> cases meant σ k c <;> cases heldX Z σ k c <;> cases decide (σ.I 19 (41 * c + k) < 2) <;> simp
theorem next_best (o : vI N σ) (hN : N ≤ 1000) (h : RepX E G x Z σ) (hB : BfX Z σ) {c : Nat} (c1 : 1 ≤ c) (c2 : c ≤ σ.1) (h4 : σ.I 4 c = 0) (hb : ∀ j, 1 ≤ j → j ≤ 40 → σ.I 21 (41 * c + j) = 0) : ∀ n, n ≤ σ.2.1 → nextX Z σ c n = bestN σ c n := by
  have hK := h.K40
  intro n
  induction n with
  | zero => intro _; rfl
  | succ n ih =>
    intro hn
    rw [nextX, bestN, ih (by omega)]
    unfold sinceK
    rw [open_may o hN h hB (by omega) hn c1 c2 h4 hb]
    have e1 : sncX σ (n + 1) c = sinceN σ (n + 1) c (wv σ (n + 1)) := (since_eq o (by omega) (by omega)).symm
    rw [e1]
    have e2 := since_nn o (c := c) (k := n + 1) (by omega) (by omega) _ (Nat.le_refl _)
    by_cases e3 : mayN σ (n + 1) c σ.2.1 = true
    · rw [if_pos e3]
      generalize sinceN σ (n + 1) c (wv σ (n + 1)) = s at *
      have e4 : ¬ s = -1 ↔ 0 ≤ s := by
        rcases e2 with z | z
        · rw [z]; exact ⟨fun w => absurd rfl w, fun w => absurd w (by decide)⟩
        · exact ⟨fun _ => z, fun _ w => by rw [w] at z; exact absurd z (by decide)⟩
      have e5 : (mayN σ (n + 1) c σ.2.1 = true ∧ ¬ s = -1 ∧ ((bestN σ c n).1 = 0 ∨ s < (bestN σ c n).2)) ↔ (0 ≤ s ∧ ((bestN σ c n).1 = 0 ∨ s < (bestN σ c n).2)) := by
        rw [e4]
        exact ⟨fun w => w.2, fun w => ⟨e3, w⟩⟩
      by_cases e6 : 0 ≤ s ∧ ((bestN σ c n).1 = 0 ∨ s < (bestN σ c n).2)
      · rw [if_pos (e5.mpr e6), if_pos e6]
      · rw [if_neg (fun w => e6 (e5.mp w)), if_neg e6]
    · rw [if_neg e3, if_neg (fun w => e3 w.1), if_neg (fun w => absurd w.1 (by decide))]
/-- without consent nothing comes -/
theorem best_off {c : Nat} (h4 : ¬ σ.I 4 c = 0) : ∀ n, (bestN σ c n).1 = 0
  | 0 => rfl
  | n + 1 => by
    have e : mayN σ (n + 1) c σ.2.1 = false := by
      rw [may_any]
      unfold mayB0
      rw [decide_eq_false h4]
      simp
    rw [bestN, sinceK, e]
    simp only [Bool.false_eq_true, if_false]
    rw [if_neg (fun w => absurd w.1 (by decide))]
    exact best_off h4 n
theorem best_may (σ : St) (c : Nat) : ∀ n, (bestN σ c n).1 = 0 ∨ (1 ≤ (bestN σ c n).1 ∧ mayN σ (bestN σ c n).1 c σ.2.1 = true)
  | 0 => Or.inl rfl
  | n + 1 => by
    rw [bestN]
    split
    · rename_i hh
      refine Or.inr ⟨Nat.succ_le_succ (Nat.zero_le _), ?_⟩
      cases e : mayN σ (n + 1) c σ.2.1 with
      | true => rfl
      | false =>
        have := hh.1
        rw [sinceK, e, if_neg (by decide)] at this
        exact absurd this (by decide)
    · exact best_may σ c n
theorem may_meant {k c n : Nat} (h : mayN σ k c n = true) : meant σ k c = true := by
  rw [may_any] at h
  unfold mayB0 at h
  cases e : meant σ k c with
  | true => rfl
  | false => rw [e] at h; simp at h
/-- what is begun -/
theorem fst_bg (o : vI N σ) (h : RepX E G x Z σ) {c : Nat} (c1 : 1 ≤ c) (c2 : c ≤ σ.1) : fstN (begB σ c) σ.2.1 = Z.bg c := by
  obtain ⟨-, ⟨q1, q2⟩, -⟩ := h.2.2.2.2.2 c c1 c2
  have hK := h.K40
  have hf : ∀ k, 1 ≤ k → k ≤ σ.2.1 → (begB σ c k = true ↔ k = Z.bg c) := by
    intro k k1 k2
    unfold begB
    have a1 := q2 k k1 (by omega)
    by_cases e : σ.I 21 (41 * c + k) = 0
    · rw [decide_eq_true e]
      exact ⟨fun z => (by cases z), fun z => absurd z (a1.mp e)⟩
    · rw [decide_eq_false e, (o.2.2.2.2.2.2.2.2.2.2.2.2 c k c1 c2 k1 k2 e).1]
      exact ⟨fun _ => Decidable.not_not.mp (fun z => e (a1.mpr z)), fun _ => rfl⟩
  have main : ∀ n, n ≤ σ.2.1 → fstN (begB σ c) n = if Z.bg c ≤ n then Z.bg c else 0 := by
    intro n
    induction n with
    | zero =>
      intro _
      rw [fstN]
      split
      · omega
      · rfl
    | succ n ih =>
      intro hn
      rw [fstN, ih (by omega)]
      have hh := hf (n + 1) (by omega) hn
      by_cases e1 : Z.bg c ≤ n
      · rw [if_pos e1]
        by_cases e2 : Z.bg c = 0
        · rw [if_pos e2, if_neg (fun z => by have := hh.mp z; omega), if_pos (by omega), e2]
        · rw [if_neg e2, if_pos (by omega)]
      · rw [if_neg e1, if_pos rfl]
        by_cases e2 : Z.bg c = n + 1
        · rw [if_pos (hh.mpr e2.symm), if_pos (by omega), e2]
        · rw [if_neg (fun z => e2 (hh.mp z).symm), if_neg (by omega)]
  rw [main _ (Nat.le_refl _), if_pos q1]
/-- how often a car gave up -/
theorem cnt_pt {f g : Nat → Bool} {a : Nat} (ha : 1 ≤ a) (hf : f a = false) (hg : ∀ j, j ≠ a → g j = f j) : ∀ n, a ≤ n → cntN g n = cntN f n + (if g a = true then 1 else 0)
  | 0, h => by omega
  | n + 1, h => by
    rw [cntN, cntN]
    by_cases e : a = n + 1
    · subst e
      rw [cnt_congr n (fun j j1 j2 => hg j (by omega)), hf]
      rfl
    · rw [cnt_pt ha hf hg n (by omega), hg (n + 1) (by omega)]
      omega
theorem two_le (v : Int32) : 2 ≤ v ↔ 1 < v := by
  rw [Int32.le_iff_toInt_le, Int32.lt_iff_toInt_lt, show (2 : Int32).toInt = 2 from rfl, show (1 : Int32).toInt = 1 from rfl]
  omega
theorem given_cnt0 (Z : xZ) (σ : St) (c K : Nat) : ∀ (L : List Nat), L.Nodup → (∀ k, k ∈ L → 1 ≤ k ∧ k ≤ K) → givenF (ndX Z σ c L) = cntN (fun k => decide (k ∈ L) && decide (1 < σ.I 19 (41 * c + k))) K
  | [], _, _ => by
    have : ∀ n, cntN (fun k => decide (k ∈ ([] : List Nat)) && decide (1 < σ.I 19 (41 * c + k))) n = 0 := by
      intro n
      induction n with
      | zero => rfl
      | succ n ih => rw [cntN, ih]; simp
    rw [this]
    rfl
  | a :: L, hn, hL => by
    obtain ⟨n1, n2⟩ := List.nodup_cons.mp hn
    have ih := given_cnt0 Z σ c K L n2 (fun k hk => hL k (List.mem_cons_of_mem _ hk))
    obtain ⟨a1, a2⟩ := hL a List.mem_cons_self
    show (if 2 ≤ σ.I 19 (41 * c + a) then 1 else 0) + givenF (ndX Z σ c L) = _
    rw [ih, cnt_pt (f := fun k => decide (k ∈ L) && decide (1 < σ.I 19 (41 * c + k))) (g := fun k => decide (k ∈ a :: L) && decide (1 < σ.I 19 (41 * c + k))) a1 (by simp [n1]) (fun j hj => by simp [hj]) K a2]
    have : ((decide (a ∈ a :: L) && decide (1 < σ.I 19 (41 * c + a))) = true) ↔ 2 ≤ σ.I 19 (41 * c + a) := by
      rw [two_le]; simp
    by_cases e : 2 ≤ σ.I 19 (41 * c + a)
    · rw [if_pos e, if_pos (this.mpr e)]; omega
    · rw [if_neg e, if_neg (fun z => e (this.mp z))]; omega
theorem given_cnt (h : RepX E G x Z σ) {c : Nat} (c1 : 1 ≤ c) (c2 : c ≤ σ.1) : givenF (ndX Z σ c (Z.Lf c)) = cntN (fun k => decide (1 < σ.I 19 (41 * c + k))) σ.2.1 := by
  obtain ⟨-, -, q1, q2, q3⟩ := h.2.2.2.2.2 c c1 c2
  have hK := h.K40
  rw [given_cnt0 Z σ c σ.2.1 _ q1 q2]
  refine cnt_congr _ (fun k k1 k2 => ?_)
  by_cases e : k ∈ Z.Lf c
  · simp [e]
  · have : σ.I 19 (41 * c + k) = 0 := Decidable.not_not.mp (fun z => e ((q3 k k1 (by omega)).mpr z))
    rw [this]
    simp [e]
end ER
