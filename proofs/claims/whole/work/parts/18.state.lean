/-! THE ABSTRACT STATE, and the reference's heap. St: how many cars, how many campaigns, the time, the int arrays and the long arrays by the reference's field numbers. -/
abbrev St : Type := Nat × Nat × Int64 × (Nat → Nat → Int32) × (Nat → Nat → Int64)
abbrev St.I (s : St) : Nat → Nat → Int32 := s.2.2.2.1
abbrev St.L (s : St) : Nat → Nat → Int64 := s.2.2.2.2
def mlen : Nat → Nat := fun k => match k with
  | 2 => 501
  | 3 => 4008
  | 4 => 501
  | 6 => 41
  | 7 => 41
  | 8 => 41
  | 9 => 41
  | 10 => 861
  | 11 => 861
  | 12 => 861
  | 13 => 41
  | 14 => 41
  | 15 => 41
  | 16 => 41
  | 17 => 1681
  | 18 => 41
  | 19 => 20541
  | 20 => 20541
  | 21 => 20541
  | _ => 0
def mI : List Nat := [3, 6, 7, 8, 9, 15, 16, 19]
def mZ : List Nat := [4, 17, 18, 21]
def mL : List Nat := [2, 10, 11, 12, 13, 14, 20]
def mA : List Nat := [2, 3, 4, 6, 7, 8, 9, 10, 11, 12, 13, 14, 15, 16, 17, 18, 19, 20, 21]
/-- the reference's object: its fields -/
def mOb (A : Nat → Nat) (code : Int32) (s : St) : va_E := .inr (5, [.int code, .int (nI s.1), .ref (A 2), .ref (A 3), .ref (A 4), .int (nI s.2.1), .ref (A 6), .ref (A 7), .ref (A 8), .ref (A 9), .ref (A 10), .ref (A 11), .ref (A 12), .ref (A 13), .ref (A 14), .ref (A 15), .ref (A 16), .ref (A 17), .ref (A 18), .ref (A 19), .ref (A 20), .ref (A 21), .long s.2.2.1])
/-- the reference's heap holds the state -/
def RepM (E : xEn) (G : xH) (y : Nat) (A : Nat → Nat) (code : Int32) (s : St) : Prop := G y = some (mOb A code s) ∧ (∀ k, k ∈ mI → G (A k) = some (.inl (E.1.1, mlen k, .inl (s.I k)))) ∧ (∀ k, k ∈ mZ → G (A k) = some (.inl (E.1.2.2.1, mlen k, .inl (s.I k)))) ∧ (∀ k, k ∈ mL → G (A k) = some (.inl (E.1.2.1, mlen k, .inr (.inl (s.L k))))) ∧ (∀ j k, j ∈ mA → k ∈ mA → A j = A k → j = k)
/-- its cells -/
def MFt (y : Nat) (A : Nat → Nat) (q : Nat) : Prop := q = y ∨ ∃ k, k ∈ mA ∧ q = A k
theorem RepM.ne {E : xEn} {G : xH} {y : Nat} {A : Nat → Nat} {code : Int32} {s : St} (h : RepM E G y A code s) {k : Nat} (hk : k ∈ mA) : A k ≠ y := by
  obtain ⟨h1, h2, h3, h4, -⟩ := h
  intro z
  have hh : ∃ e, G (A k) = some (.inl e) := by
    simp only [mA, List.mem_cons, List.not_mem_nil, or_false] at hk
    rcases hk with rfl | rfl | rfl | rfl | rfl | rfl | rfl | rfl | rfl | rfl | rfl | rfl | rfl | rfl | rfl | rfl | rfl | rfl | rfl
    all_goals first | exact ⟨_, h2 _ (by decide)⟩ | exact ⟨_, h3 _ (by decide)⟩ | exact ⟨_, h4 _ (by decide)⟩
  obtain ⟨e, he⟩ := hh
  rw [z, h1] at he
  cases he
/-- its object is written: code, counters, time -/
theorem RepM.ob {E : xEn} {G : xH} {y : Nat} {A : Nat → Nat} {code code2 : Int32} {s : St} {n k : Nat} {t : Int64} (h : RepM E G y A code s) : RepM E (xup G y (mOb A code2 (n, k, t, s.2.2.2))) y A code2 (n, k, t, s.2.2.2) := by
  have hn := fun {k : Nat} (hk : k ∈ mA) => h.ne hk
  obtain ⟨h1, h2, h3, h4, h5⟩ := h
  refine ⟨xup_self _ _ _, fun k hk => ?_, fun k hk => ?_, fun k hk => ?_, h5⟩
  · rw [xup_ne _ _ (hn (by revert hk; revert k; decide))]; exact h2 k hk
  · rw [xup_ne _ _ (hn (by revert hk; revert k; decide))]; exact h3 k hk
  · rw [xup_ne _ _ (hn (by revert hk; revert k; decide))]; exact h4 k hk
