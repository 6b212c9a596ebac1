/-! THE CLASS'S HEAP: its cells by tags, and what each holds of the state. -/
/-- ghosts: addresses by tags; of each list its room, its count of changes, its elements; of each car its editions, the begun campaign, the failed campaigns in the chain's order; of each campaign its bits -/
abbrev xZ : Type := (Nat → Nat → Nat) × (Nat → Nat) × (Nat → Int32) × (Nat → Nat → Option Nat) × (Nat → Nat → Int32) × (Nat → Nat) × (Nat → Int64) × (Nat → List Nat)
abbrev xZ.ad (Z : xZ) : Nat → Nat → Nat := Z.1
abbrev xZ.cap (Z : xZ) : Nat → Nat := Z.2.1
abbrev xZ.md (Z : xZ) : Nat → Int32 := Z.2.2.1
abbrev xZ.h (Z : xZ) : Nat → Nat → Option Nat := Z.2.2.2.1
abbrev xZ.ef (Z : xZ) : Nat → Nat → Int32 := Z.2.2.2.2.1
abbrev xZ.bg (Z : xZ) : Nat → Nat := Z.2.2.2.2.2.1
abbrev xZ.bf (Z : xZ) : Nat → Int64 := Z.2.2.2.2.2.2.1
abbrev xZ.Lf (Z : xZ) : Nat → List Nat := Z.2.2.2.2.2.2.2
def lenX (σ : St) (t : Nat) : Nat := if t = 0 then σ.1 else if t = 100 then σ.2.1 else wv σ t
def elX (Z : xZ) (t i : Nat) : Nat := if t = 0 then Z.ad 3 i else if t = 100 then Z.ad 5 i else Z.ad 6 (21 * t + i)
def arX (E : xEn) (Z : xZ) (t : Nat) : Nat := if Z.cap t = 0 then E.2.1 else Z.ad 2 t
def tlX (σ : St) (t : Nat) : Prop := t = 0 ∨ t = 100 ∨ (1 ≤ t ∧ t ≤ σ.2.1)
def hdX (Z : xZ) (c : Nat) : List Nat → Option Nat
  | [] => none
  | k :: _ => some (Z.ad 7 (41 * c + k))
def aftX (k : Nat) : List Nat → List Nat
  | [] => []
  | j :: L => if j = k then L else aftX k L
/-- a formula's third number, as the class holds it -/
def kr (σ : St) (k : Nat) : Int32 := σ.I 6 k >>> ((13 : Int32) &&& 31)
theorem rr_kr (σ : St) (k : Nat) : rr σ k = kr σ k - kr σ k / mm σ k * mm σ k := rfl
def cellX (E : xEn) (Z : xZ) (σ : St) (a i : Nat) : va_E := match a with
  | 1 => .inr (6, [.ref (arX E Z i), .int (nI (lenX σ i)), .int (Z.md i)])
  | 2 => .inl (E.1.2.2.2, Z.cap i, xrf (Z.h i))
  | 3 => carOb (σ.L 2 i) (Z.ad 4 i) (if σ.I 4 i = 0 then 1 else 0) (nI (Z.bg i)) (hdX Z i (Z.Lf i))
  | 4 => .inl (E.1.1, 8, .inl (Z.ef i))
  | 5 => campOb (nI i) (pt σ i) (mm σ i) (kr σ i) (σ.I 7 i) (Z.ad 1 i) (σ.I 8 i) (Z.bf i) (σ.L 13 i) (σ.L 14 i) (σ.I 15 i + σ.I 16 i) (σ.I 16 i)
  | 6 => .inr (3, [.long (σ.L 10 i), .long (σ.L 11 i), .long (σ.L 12 i)])
  | 7 => .inr (4, [.int (nI (i % 41)), va_rf (hdX Z (i / 41) (aftX (i % 41) (Z.Lf (i / 41)))), .int (σ.I 19 i), .long (σ.L 20 i)])
  | _ => .inr (0, [.ref (Z.ad 1 0), .ref (Z.ad 1 100), .long σ.2.2.1])
theorem cellX_1 (E : xEn) (Z : xZ) (σ : St) (i : Nat) : cellX E Z σ 1 i = .inr (6, [.ref (arX E Z i), .int (nI (lenX σ i)), .int (Z.md i)]) := rfl
theorem cellX_2 (E : xEn) (Z : xZ) (σ : St) (i : Nat) : cellX E Z σ 2 i = .inl (E.1.2.2.2, Z.cap i, xrf (Z.h i)) := rfl
theorem cellX_3 (E : xEn) (Z : xZ) (σ : St) (i : Nat) : cellX E Z σ 3 i = carOb (σ.L 2 i) (Z.ad 4 i) (if σ.I 4 i = 0 then 1 else 0) (nI (Z.bg i)) (hdX Z i (Z.Lf i)) := rfl
theorem cellX_4 (E : xEn) (Z : xZ) (σ : St) (i : Nat) : cellX E Z σ 4 i = .inl (E.1.1, 8, .inl (Z.ef i)) := rfl
theorem cellX_5 (E : xEn) (Z : xZ) (σ : St) (i : Nat) : cellX E Z σ 5 i = campOb (nI i) (pt σ i) (mm σ i) (kr σ i) (σ.I 7 i) (Z.ad 1 i) (σ.I 8 i) (Z.bf i) (σ.L 13 i) (σ.L 14 i) (σ.I 15 i + σ.I 16 i) (σ.I 16 i) := rfl
theorem cellX_6 (E : xEn) (Z : xZ) (σ : St) (i : Nat) : cellX E Z σ 6 i = .inr (3, [.long (σ.L 10 i), .long (σ.L 11 i), .long (σ.L 12 i)]) := rfl
theorem cellX_7 (E : xEn) (Z : xZ) (σ : St) (i : Nat) : cellX E Z σ 7 i = .inr (4, [.int (nI (i % 41)), va_rf (hdX Z (i / 41) (aftX (i % 41) (Z.Lf (i / 41)))), .int (σ.I 19 i), .long (σ.L 20 i)]) := rfl
theorem cellX_9 (E : xEn) (Z : xZ) (σ : St) (i : Nat) : cellX E Z σ 9 i = .inr (0, [.ref (Z.ad 1 0), .ref (Z.ad 1 100), .long σ.2.2.1]) := rfl
def liveX (Z : xZ) (σ : St) (a i : Nat) : Prop := match a with
  | 1 => tlX σ i
  | 2 => tlX σ i ∧ Z.cap i ≠ 0
  | 3 => 1 ≤ i ∧ i ≤ σ.1
  | 4 => 1 ≤ i ∧ i ≤ σ.1
  | 5 => 1 ≤ i ∧ i ≤ σ.2.1
  | 6 => 1 ≤ i / 21 ∧ i / 21 ≤ σ.2.1 ∧ 1 ≤ i % 21 ∧ i % 21 ≤ wv σ (i / 21)
  | 7 => 1 ≤ i / 41 ∧ i / 41 ≤ σ.1 ∧ i % 41 ∈ Z.Lf (i / 41)
  | 9 => i = 0
  | _ => False
/-- the lists' shape -/
def ShL (Z : xZ) (σ : St) : Prop := ∀ t, tlX σ t → Z.cap t ≤ 1000 ∧ lenX σ t ≤ Z.cap t ∧ ∀ i, i < lenX σ t → Z.h t i = some (elX Z t (i + 1))
/-- a car's ghosts -/
def ShC (Z : xZ) (σ : St) (c : Nat) : Prop := (∀ p, p < 8 → Z.ef c p = σ.I 3 (8 * c + p)) ∧ (Z.bg c ≤ σ.2.1 ∧ ∀ k, 1 ≤ k → k ≤ 40 → (σ.I 21 (41 * c + k) = 0 ↔ k ≠ Z.bg c)) ∧ (Z.Lf c).Nodup ∧ (∀ k, k ∈ Z.Lf c → 1 ≤ k ∧ k ≤ σ.2.1) ∧ ∀ k, 1 ≤ k → k ≤ 40 → (k ∈ Z.Lf c ↔ ¬ σ.I 19 (41 * c + k) = 0)
def ShX (Z : xZ) (σ : St) : Prop := ok0 σ ∧ ShL Z σ ∧ ∀ c, 1 ≤ c → c ≤ σ.1 → ShC Z σ c
/-- the class's heap holds the state -/
def RepX (E : xEn) (G : xH) (x : Nat) (Z : xZ) (σ : St) : Prop := Z.ad 9 0 = x ∧ (∀ a i, liveX Z σ a i → G (Z.ad a i) = some (cellX E Z σ a i)) ∧ (∀ a i c j, liveX Z σ a i → liveX Z σ c j → Z.ad a i = Z.ad c j → a = c ∧ i = j) ∧ ShX Z σ
/-- the bits say what is before -/
def BfX (Z : xZ) (σ : St) : Prop := ∀ k, 1 ≤ k → k ≤ σ.2.1 → ∀ j, 1 ≤ j → j ≤ 40 → hasB (Z.bf k) (nI j) = (decide (j ≤ σ.2.1) && befB σ j k)
/-- its cells; what is not among them stays -/
def fpX (Z : xZ) (σ : St) (q : Nat) : Prop := ∃ a i, liveX Z σ a i ∧ q = Z.ad a i
def FrX (Z : xZ) (σ : St) (G : xH) (Z' : xZ) (σ' : St) (G' : xH) : Prop := ∀ q, ¬ fpX Z σ q → G q ≠ none → ¬ fpX Z' σ' q ∧ G' q = G q
section RX
variable {E : xEn} {G : xH} {x : Nat} {Z : xZ} {σ : St}
theorem RepX.root (h : RepX E G x Z σ) : G x = some (.inr (0, [.ref (Z.ad 1 0), .ref (Z.ad 1 100), .long σ.2.2.1])) := by
  have h1 := h.2.1 9 0 rfl
  rw [h.1] at h1
  exact h1
theorem RepX.car (h : RepX E G x Z σ) {c : Nat} (h1 : 1 ≤ c) (h2 : c ≤ σ.1) : G (Z.ad 3 c) = some (carOb (σ.L 2 c) (Z.ad 4 c) (if σ.I 4 c = 0 then 1 else 0) (nI (Z.bg c)) (hdX Z c (Z.Lf c))) := h.2.1 3 c ⟨h1, h2⟩
theorem RepX.eds (h : RepX E G x Z σ) {c : Nat} (h1 : 1 ≤ c) (h2 : c ≤ σ.1) : G (Z.ad 4 c) = some (.inl (E.1.1, 8, .inl (Z.ef c))) := h.2.1 4 c ⟨h1, h2⟩
theorem RepX.camp (h : RepX E G x Z σ) {k : Nat} (h1 : 1 ≤ k) (h2 : k ≤ σ.2.1) : G (Z.ad 5 k) = some (campOb (nI k) (pt σ k) (mm σ k) (kr σ k) (σ.I 7 k) (Z.ad 1 k) (σ.I 8 k) (Z.bf k) (σ.L 13 k) (σ.L 14 k) (σ.I 15 k + σ.I 16 k) (σ.I 16 k)) := h.2.1 5 k ⟨h1, h2⟩
theorem RepX.lst (h : RepX E G x Z σ) {t : Nat} (ht : tlX σ t) : rLs E G (Z.ad 1 t) (arX E Z t) (lenX σ t) (Z.md t) (Z.cap t) (Z.h t) := by
  obtain ⟨h1, h2, h3⟩ := h.2.2.2.2.1 t ht
  refine ⟨h.2.1 1 t ht, ?_⟩
  by_cases hc : Z.cap t = 0
  · refine Or.inl ⟨by rw [arX, if_pos hc], hc, by omega⟩
  · refine Or.inr ⟨?_, by omega, h1, h2⟩
    rw [arX, if_neg hc]
    exact h.2.1 2 t ⟨ht, hc⟩
theorem tlK {k : Nat} (h1 : 1 ≤ k) (h2 : k ≤ σ.2.1) : tlX σ k := Or.inr (Or.inr ⟨h1, h2⟩)
theorem tl0 : tlX σ 0 := Or.inl rfl
theorem tl100 : tlX σ 100 := Or.inr (Or.inl rfl)
theorem len0 : lenX σ 0 = σ.1 := rfl
theorem len100 : lenX σ 100 = σ.2.1 := rfl
theorem lenK {k : Nat} (h1 : 1 ≤ k) (h2 : k ≤ 40) : lenX σ k = wv σ k := by
  unfold lenX
  rw [if_neg (by omega), if_neg (by omega)]
theorem RepX.lst0 (h : RepX E G x Z σ) : rLs E G (Z.ad 1 0) (arX E Z 0) σ.1 (Z.md 0) (Z.cap 0) (Z.h 0) := h.lst tl0
theorem RepX.lst100 (h : RepX E G x Z σ) : rLs E G (Z.ad 1 100) (arX E Z 100) σ.2.1 (Z.md 100) (Z.cap 100) (Z.h 100) := h.lst tl100
theorem RepX.K40 (h : RepX E G x Z σ) : σ.2.1 ≤ 40 := h.2.2.2.1.2.1
theorem RepX.n500 (h : RepX E G x Z σ) : σ.1 ≤ 500 := h.2.2.2.1.1
theorem RepX.w20 (h : RepX E G x Z σ) {k : Nat} (hk : k ≤ 40) : wv σ k ≤ 20 := (h.2.2.2.1.2.2 k hk).1
theorem RepX.lstK (h : RepX E G x Z σ) {k : Nat} (h1 : 1 ≤ k) (h2 : k ≤ σ.2.1) : rLs E G (Z.ad 1 k) (arX E Z k) (wv σ k) (Z.md k) (Z.cap k) (Z.h k) := by
  have h3 := h.lst (tlK h1 h2)
  rw [lenK h1 (Nat.le_trans h2 h.K40)] at h3
  exact h3
theorem RepX.el0 (h : RepX E G x Z σ) {i : Nat} (hi : i < σ.1) : Z.h 0 i = some (Z.ad 3 (i + 1)) := (h.2.2.2.2.1 0 tl0).2.2 i hi
theorem RepX.el100 (h : RepX E G x Z σ) {i : Nat} (hi : i < σ.2.1) : Z.h 100 i = some (Z.ad 5 (i + 1)) := (h.2.2.2.2.1 100 tl100).2.2 i hi
theorem RepX.elK (h : RepX E G x Z σ) {k i : Nat} (h1 : 1 ≤ k) (h2 : k ≤ σ.2.1) (hi : i < wv σ k) : Z.h k i = some (Z.ad 6 (21 * k + (i + 1))) := by
  have h3 := (h.2.2.2.2.1 k (tlK h1 h2)).2.2 i (by rw [lenK h1 (Nat.le_trans h2 h.K40)]; exact hi)
  rw [h3]
  unfold elX
  have := h.K40
  rw [if_neg (by omega), if_neg (by omega)]
theorem RepX.wav (h : RepX E G x Z σ) {k w : Nat} (h1 : 1 ≤ k) (h2 : k ≤ σ.2.1) (h3 : 1 ≤ w) (h4 : w ≤ wv σ k) : G (Z.ad 6 (21 * k + w)) = some (.inr (3, [.long (σ.L 10 (21 * k + w)), .long (σ.L 11 (21 * k + w)), .long (σ.L 12 (21 * k + w))])) := by
  have h5 := h.w20 (Nat.le_trans h2 h.K40)
  have e1 : (21 * k + w) / 21 = k := by omega
  have e2 : (21 * k + w) % 21 = w := by omega
  refine h.2.1 6 (21 * k + w) ?_
  show 1 ≤ (21 * k + w) / 21 ∧ (21 * k + w) / 21 ≤ σ.2.1 ∧ 1 ≤ (21 * k + w) % 21 ∧ (21 * k + w) % 21 ≤ wv σ ((21 * k + w) / 21)
  rw [e1, e2]
  exact ⟨h1, h2, h3, h4⟩
theorem RepX.wvs (h : RepX E G x Z σ) {k : Nat} (h1 : 1 ≤ k) (h2 : k ≤ σ.2.1) : rWs G (wv σ k) (Z.h k) (fun i => Z.ad 6 (21 * k + (i + 1))) (fun w => σ.L 10 (21 * k + w)) (fun w => σ.L 11 (21 * k + w)) (fun w => σ.L 12 (21 * k + w)) := fun i hi => ⟨h.elK h1 h2 hi, h.wav h1 h2 (by omega) (by omega)⟩
/-- the chain's nodes -/
def ndX (Z : xZ) (σ : St) (c : Nat) (L : List Nat) : List xFl := L.map (fun k => (Z.ad 7 (41 * c + k), nI k, σ.I 19 (41 * c + k), σ.L 20 (41 * c + k)))
theorem aft_app {k : Nat} : ∀ (P L : List Nat), k ∉ P → aftX k (P ++ k :: L) = L
  | [], L, _ => by rw [List.nil_append, aftX, if_pos rfl]
  | j :: P, L, h => by
    rw [List.cons_append, aftX, if_neg (fun z => h (by rw [z]; exact List.mem_cons_self)), aft_app P L (fun z => h (List.mem_cons_of_mem _ z))]
theorem RepX.fal (h : RepX E G x Z σ) {c k : Nat} (h1 : 1 ≤ c) (h2 : c ≤ σ.1) (h3 : k ∈ Z.Lf c) : G (Z.ad 7 (41 * c + k)) = some (.inr (4, [.int (nI k), va_rf (hdX Z c (aftX k (Z.Lf c))), .int (σ.I 19 (41 * c + k)), .long (σ.L 20 (41 * c + k))])) := by
  have h5 := (h.2.2.2.2.2 c h1 h2).2.2.2.1 k h3
  have h6 := h.K40
  have e1 : (41 * c + k) / 41 = c := by omega
  have e2 : (41 * c + k) % 41 = k := by omega
  have h7 := h.2.1 7 (41 * c + k) (by
    show 1 ≤ (41 * c + k) / 41 ∧ (41 * c + k) / 41 ≤ σ.1 ∧ (41 * c + k) % 41 ∈ Z.Lf ((41 * c + k) / 41)
    rw [e1, e2]
    exact ⟨h1, h2, h3⟩)
  rw [h7]
  show some (Sum.inr (4, [.int (nI ((41 * c + k) % 41)), va_rf (hdX Z ((41 * c + k) / 41) (aftX ((41 * c + k) % 41) (Z.Lf ((41 * c + k) / 41)))), .int (σ.I 19 (41 * c + k)), .long (σ.L 20 (41 * c + k))])) = _
  rw [e1, e2]
theorem RepX.chn0 (h : RepX E G x Z σ) {c : Nat} (h1 : 1 ≤ c) (h2 : c ≤ σ.1) : ∀ (L P : List Nat), P ++ L = Z.Lf c → chn G (hdX Z c L) (ndX Z σ c L)
  | [], P, _ => rfl
  | k :: L, P, hP => by
    have hk : k ∈ Z.Lf c := by rw [← hP]; exact List.mem_append_right _ List.mem_cons_self
    have hn := (h.2.2.2.2.2 c h1 h2).2.2.1
    rw [← hP] at hn
    have h4 : k ∉ P := fun z => (List.nodup_append.mp hn).2.2 k z k List.mem_cons_self rfl
    refine ⟨rfl, hdX Z c L, ?_, h.chn0 h1 h2 L (P ++ [k]) (by rw [← hP]; simp)⟩
    have h3 := h.fal h1 h2 hk
    rw [← hP, aft_app P L h4] at h3
    exact h3
theorem RepX.chn (h : RepX E G x Z σ) {c : Nat} (h1 : 1 ≤ c) (h2 : c ≤ σ.1) : chn G (hdX Z c (Z.Lf c)) (ndX Z σ c (Z.Lf c)) := h.chn0 h1 h2 _ [] rfl
theorem look_nd {c k : Nat} (hk : k ≤ 40) : ∀ (L : List Nat), (∀ j, j ∈ L → j ≤ 40) → lookF (ndX Z σ c L) (nI k) = if k ∈ L then some (Z.ad 7 (41 * c + k), nI k, σ.I 19 (41 * c + k), σ.L 20 (41 * c + k)) else none
  | [], _ => by simp [ndX, lookF]
  | j :: L, hL => by
    have ih := look_nd (c := c) hk L (fun i hi => hL i (List.mem_cons_of_mem _ hi))
    have hj := hL j List.mem_cons_self
    show lookF ((_, nI j, _, _) :: ndX Z σ c L) (nI k) = _
    rw [lookF]
    by_cases e : j = k
    · subst e
      rw [if_pos rfl, if_pos List.mem_cons_self]
    · rw [if_neg (fun z => e ((nI_eq (by omega) (by omega)).mp z)), ih]
      by_cases e2 : k ∈ L
      · rw [if_pos e2, if_pos (List.mem_cons_of_mem _ e2)]
      · rw [if_neg e2, if_neg (fun z => (List.mem_cons.mp z).elim (fun z => e z.symm) e2)]
theorem RepX.look (h : RepX E G x Z σ) {c k : Nat} (h1 : 1 ≤ c) (h2 : c ≤ σ.1) (h3 : 1 ≤ k) (h4 : k ≤ 40) : lookF (ndX Z σ c (Z.Lf c)) (nI k) = if σ.I 19 (41 * c + k) = 0 then none else some (Z.ad 7 (41 * c + k), nI k, σ.I 19 (41 * c + k), σ.L 20 (41 * c + k)) := by
  obtain ⟨-, -, -, q1, q2⟩ := h.2.2.2.2.2 c h1 h2
  rw [look_nd h4 _ (fun j hj => Nat.le_trans (q1 j hj).2 h.K40)]
  by_cases e : σ.I 19 (41 * c + k) = 0
  · rw [if_pos e, if_neg (fun z => (q2 k h3 h4).mp z e)]
  · rw [if_neg e, if_pos ((q2 k h3 h4).mpr e)]
end RX
