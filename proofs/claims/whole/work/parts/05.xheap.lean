/-! MY OWN LAYER over the kit's worlds: the heap as a partial map, the locals as a list, one judgement xW over both. -/
abbrev xH : Type := Nat → Option va_E
def xP (D : va_G) (cl : List vw_C) (b : Nat) (G : xH) (H : Heap) : Prop :=
  ∃ ws : va_W, va_P D cl ws H ∧ va_D (fun q => b ≤ q) ws ∧ ∀ (a : Nat) (e : va_E), G a = some e ↔ ∃ k : Nat, ws[k]? = some (a, e)
def xup (G : xH) (a : Nat) (e : va_E) : xH := fun q => if q = a then some e else G q
theorem xup_self (G : xH) (a : Nat) (e : va_E) : xup G a e a = some e := if_pos rfl
theorem xup_ne (G : xH) {a q : Nat} (e : va_E) (h : q ≠ a) : xup G a e q = G q := if_neg h
theorem xup_xup (G : xH) (a : Nat) (e e2 : va_E) : xup (xup G a e) a e2 = xup G a e2 := by
  funext q
  unfold xup
  split <;> rfl
theorem xG_set {G : xH} {ws : va_W} {A : Nat → Prop} {q0 a : Nat} {e0 e : va_E} (h : ∀ (a : Nat) (e : va_E), G a = some e ↔ ∃ k : Nat, ws[k]? = some (a, e)) (hD : va_D A ws) (hp : ws[q0]? = some (a, e0)) :
    ∀ (a' : Nat) (e' : va_E), xup G a e a' = some e' ↔ ∃ k : Nat, (ws.set q0 (a, e))[k]? = some (a', e') := by
  have hl := (List.getElem?_eq_some_iff.mp hp).1
  intro a' e'
  constructor
  · intro hx
    by_cases ha : a' = a
    · subst ha
      rw [xup_self] at hx
      cases hx
      exact ⟨q0, List.getElem?_set_self hl⟩
    · rw [xup_ne _ _ ha] at hx
      obtain ⟨k, hk⟩ := (h a' e').mp hx
      refine ⟨k, ?_⟩
      rw [List.getElem?_set_ne]
      · exact hk
      · intro hq
        subst hq
        rw [hp] at hk
        cases hk
        exact ha rfl
  · rintro ⟨k, hk⟩
    by_cases hkq : k = q0
    · subst hkq
      rw [List.getElem?_set_self hl] at hk
      cases hk
      exact xup_self _ _ _
    · rw [List.getElem?_set_ne (Ne.symm hkq)] at hk
      have ha : a' ≠ a := fun z => hkq (hD.1 k q0 _ _ hk hp z)
      rw [xup_ne _ _ ha]
      exact (h a' e').mpr ⟨k, hk⟩
theorem xG_push {G : xH} {ws : va_W} {A : Nat → Prop} {a : Nat} {e : va_E} (h : ∀ (a : Nat) (e : va_E), G a = some e ↔ ∃ k : Nat, ws[k]? = some (a, e)) (hD : va_D A (ws ++ [(a, e)])) :
    G a = none ∧ ∀ (a' : Nat) (e' : va_E), xup G a e a' = some e' ↔ ∃ k : Nat, (ws ++ [(a, e)])[k]? = some (a', e') := by
  have hlast : (ws ++ [(a, e)])[ws.length]? = some (a, e) := by
    rw [List.getElem?_append_right (Nat.le_refl _), Nat.sub_self]
    rfl
  have hold : ∀ {k : Nat} {q : Nat × va_E}, ws[k]? = some q → (ws ++ [(a, e)])[k]? = some q := fun {k q} hk => by
    rw [List.getElem?_append_left (List.getElem?_eq_some_iff.mp hk).1]
    exact hk
  have hnew : ∀ (k : Nat) (e1 : va_E), ws[k]? ≠ some (a, e1) := by
    intro k e1 hk
    have h1 := hD.1 k ws.length _ _ (hold hk) hlast rfl
    have h2 := (List.getElem?_eq_some_iff.mp hk).1
    omega
  refine ⟨?_, fun a' e' => ⟨fun hx => ?_, ?_⟩⟩
  · cases hg : G a with
    | none => rfl
    | some e1 =>
      obtain ⟨k, hk⟩ := (h a e1).mp hg
      exact absurd hk (hnew k e1)
  · by_cases ha : a' = a
    · subst ha
      rw [xup_self] at hx
      cases hx
      exact ⟨ws.length, hlast⟩
    · rw [xup_ne _ _ ha] at hx
      obtain ⟨k, hk⟩ := (h a' e').mp hx
      exact ⟨k, hold hk⟩
  · rintro ⟨k, hk⟩
    by_cases hl : k < ws.length
    · rw [List.getElem?_append_left hl] at hk
      have ha : a' ≠ a := fun z => by
        subst z
        exact hnew k e' hk
      rw [xup_ne _ _ ha]
      exact (h a' e').mpr ⟨k, hk⟩
    · have hk2 : k = ws.length := by
        have h1 := (List.getElem?_eq_some_iff.mp hk).1
        rw [List.length_append] at h1
        simp at h1
        omega
      subst hk2
      rw [hlast] at hk
      cases hk
      exact xup_self _ _ _
theorem xP.mk {D : va_G} {cl : List vw_C} {b : Nat} {G : xH} {H : Heap} {ws : va_W} (h1 : va_P D cl ws H) (h2 : va_D (fun q => b ≤ q) ws) (h3 : ∀ (a : Nat) (e : va_E), G a = some e ↔ ∃ k : Nat, ws[k]? = some (a, e)) : xP D cl b G H := ⟨ws, h1, h2, h3⟩
theorem xP.lo {D : va_G} {cl : List vw_C} {b : Nat} {G : xH} {H : Heap} (h : xP D cl b G H) {a : Nat} {e : va_E} (ha : G a = some e) : b ≤ a := by
  obtain ⟨ws, h1, h2, h3⟩ := h
  obtain ⟨k, hk⟩ := (h3 a e).mp ha
  exact h2.2 k _ hk
theorem xP.empty {D : va_G} {cl : List vw_C} {b : Nat} {H : Heap} : xP D cl b (fun _ => none) H :=
  ⟨[], fun k q h => by simp at h, ⟨fun i j p q h => by simp at h, fun k q h => by simp at h⟩, fun a e => ⟨fun h => by simp at h, fun h => by simp at h⟩⟩
-- ===== the locals =====
def xpr : Nat → List (Option Value) → List (Nat × Value)
  | _, [] => []
  | i, none :: t => xpr (i + 1) t
  | i, some v :: t => (i, v) :: xpr (i + 1) t
theorem xpr_mem : ∀ (lv : List (Option Value)) (i : Nat) (q : Nat × Value), q ∈ xpr i lv ↔ ∃ k : Nat, q.1 = i + k ∧ lv[k]? = some (some q.2)
  | [], i, q => by simp [xpr]
  | none :: t, i, q => by
    rw [xpr, xpr_mem t (i + 1) q]
    constructor
    · rintro ⟨k, h1, h2⟩
      exact ⟨k + 1, by omega, by simpa using h2⟩
    · rintro ⟨k, h1, h2⟩
      cases k with
      | zero => simp at h2
      | succ k => exact ⟨k, by omega, by simpa using h2⟩
  | some v :: t, i, q => by
    rw [xpr, List.mem_cons, xpr_mem t (i + 1) q]
    constructor
    · rintro (rfl | ⟨k, h1, h2⟩)
      · exact ⟨0, rfl, rfl⟩
      · exact ⟨k + 1, by omega, by simpa using h2⟩
    · rintro ⟨k, h1, h2⟩
      cases k with
      | zero =>
        left
        simp at h2
        exact Prod.ext (by simpa using h1) h2.symm
      | succ k => exact Or.inr ⟨k, by omega, by simpa using h2⟩
def xl (ls : Array Slot) (lv : List (Option Value)) : Prop := lv_has ls lv.length (xpr 0 lv)
theorem xl.at {ls : Array Slot} {lv : List (Option Value)} (h : xl ls lv) {i : Nat} {v : Value} (hi : lv[i]? = some (some v)) : ls[i]? = some (.val v) :=
  h.2.2 (i, v) ((xpr_mem lv 0 (i, v)).mpr ⟨i, by simp, hi⟩)
def xclr (o : Option Value) : Option Value := match o with
  | none => none
  | some v => if v.category = 2 then none else some v
def xs1 : List (Option Value) → Nat → Value → List (Option Value)
  | [], _, _ => []
  | _ :: t, 0, v => some v :: t
  | a :: t, 1, v => xclr a :: xs1 t 0 v
  | a :: t, i + 2, v => a :: xs1 t (i + 1) v
def xs2 : List (Option Value) → Nat → Value → List (Option Value)
  | [], _, _ => []
  | [_], 0, v => [some v]
  | _ :: _ :: t, 0, v => some v :: none :: t
  | a :: t, 1, v => xclr a :: xs2 t 0 v
  | a :: t, i + 2, v => a :: xs2 t (i + 1) v
theorem xs1_len : ∀ (lv : List (Option Value)) (i : Nat) (v : Value), (xs1 lv i v).length = lv.length
  | [], _, _ => rfl
  | _ :: t, 0, v => rfl
  | a :: t, 1, v => by simp [xs1, xs1_len t 0 v]
  | a :: t, i + 2, v => by simp [xs1, xs1_len t (i + 1) v]
theorem xs2_len : ∀ (lv : List (Option Value)) (i : Nat) (v : Value), (xs2 lv i v).length = lv.length
  | [], _, _ => rfl
  | [_], 0, v => rfl
  | _ :: _ :: t, 0, v => rfl
  | a :: t, 1, v => by simp [xs2, xs2_len t 0 v]
  | a :: t, i + 2, v => by simp [xs2, xs2_len t (i + 1) v]
theorem xclr_some {o : Option Value} {w : Value} (h : xclr o = some w) : o = some w ∧ ¬ w.category = 2 := by
  cases o with
  | none => cases h
  | some v =>
    unfold xclr at h
    by_cases hc : v.category = 2
    · simp [hc] at h
    · simp [hc] at h
      subst h
      exact ⟨rfl, hc⟩
theorem xs1_at : ∀ (lv : List (Option Value)) (i : Nat) (v : Value) (k : Nat) (w : Value), (xs1 lv i v)[k]? = some (some w) → (k = i ∧ w = v) ∨ (k ≠ i ∧ lv[k]? = some (some w) ∧ ¬ (k + 1 = i ∧ w.category = 2))
  | [], _, _, k, w, h => by simp [xs1] at h
  | a :: t, 0, v, 0, w, h => by
    simp [xs1] at h
    exact Or.inl ⟨rfl, h.symm⟩
  | a :: t, 0, v, k + 1, w, h => by
    simp [xs1] at h
    exact Or.inr ⟨by omega, by simpa using h, by omega⟩
  | a :: t, 1, v, 0, w, h => by
    simp [xs1] at h
    obtain ⟨h1, h2⟩ := xclr_some h
    exact Or.inr ⟨by omega, by simpa using h1, fun z => h2 z.2⟩
  | a :: t, 1, v, k + 1, w, h => by
    simp [xs1] at h
    rcases xs1_at t 0 v k w h with ⟨h1, h2⟩ | ⟨h1, h2, h3⟩
    · exact Or.inl ⟨by omega, h2⟩
    · exact Or.inr ⟨by omega, by simpa using h2, fun z => h3 ⟨by omega, z.2⟩⟩
  | a :: t, i + 2, v, 0, w, h => by
    simp [xs1] at h
    exact Or.inr ⟨by omega, by simpa using h, by omega⟩
  | a :: t, i + 2, v, k + 1, w, h => by
    simp [xs1] at h
    rcases xs1_at t (i + 1) v k w h with ⟨h1, h2⟩ | ⟨h1, h2, h3⟩
    · exact Or.inl ⟨by omega, h2⟩
    · exact Or.inr ⟨by omega, by simpa using h2, fun z => h3 ⟨by omega, z.2⟩⟩
theorem xs2_at : ∀ (lv : List (Option Value)) (i : Nat) (v : Value) (k : Nat) (w : Value), (xs2 lv i v)[k]? = some (some w) → (k = i ∧ w = v) ∨ (k ≠ i ∧ k ≠ i + 1 ∧ lv[k]? = some (some w) ∧ ¬ (k + 1 = i ∧ w.category = 2))
  | [], _, _, k, w, h => by simp [xs2] at h
  | [a], 0, v, 0, w, h => by
    simp [xs2] at h
    exact Or.inl ⟨rfl, h.symm⟩
  | [a], 0, v, k + 1, w, h => by simp [xs2] at h
  | a :: a2 :: t, 0, v, 0, w, h => by
    simp [xs2] at h
    exact Or.inl ⟨rfl, h.symm⟩
  | a :: a2 :: t, 0, v, 1, w, h => by simp [xs2] at h
  | a :: a2 :: t, 0, v, k + 2, w, h => by
    simp [xs2] at h
    exact Or.inr ⟨by omega, by omega, by simpa using h, by omega⟩
  | a :: t, 1, v, 0, w, h => by
    simp [xs2] at h
    obtain ⟨h1, h2⟩ := xclr_some h
    exact Or.inr ⟨by omega, by omega, by simpa using h1, fun z => h2 z.2⟩
  | a :: t, 1, v, k + 1, w, h => by
    simp [xs2] at h
    rcases xs2_at t 0 v k w h with ⟨h1, h2⟩ | ⟨h1, h0, h2, h3⟩
    · exact Or.inl ⟨by omega, h2⟩
    · exact Or.inr ⟨by omega, by omega, by simpa using h2, fun z => h3 ⟨by omega, z.2⟩⟩
  | a :: t, i + 2, v, 0, w, h => by
    simp [xs2] at h
    exact Or.inr ⟨by omega, by omega, by simpa using h, by omega⟩
  | a :: t, i + 2, v, k + 1, w, h => by
    simp [xs2] at h
    rcases xs2_at t (i + 1) v k w h with ⟨h1, h2⟩ | ⟨h1, h0, h2, h3⟩
    · exact Or.inl ⟨by omega, h2⟩
    · exact Or.inr ⟨by omega, by omega, by simpa using h2, fun z => h3 ⟨by omega, z.2⟩⟩
theorem xl.s1 {ls : Array Slot} {lv : List (Option Value)} {i : Nat} {v : Value} (h : lv_has ls lv.length ((i, v) :: (xpr 0 lv).filter (fun q => !(q.1 == i) && !(q.1 + 1 == i && q.2.category == 2)))) : xl ls (xs1 lv i v) := by
  refine ⟨by rw [xs1_len]; exact h.1, h.2.1, fun q hq => ?_⟩
  obtain ⟨k, h1, h2⟩ := (xpr_mem _ 0 q).mp hq
  rw [Nat.zero_add] at h1
  refine h.2.2 q ?_
  rcases xs1_at lv i v k q.2 h2 with ⟨e1, e2⟩ | ⟨e1, e2, e3⟩
  · rw [List.mem_cons]
    left
    exact Prod.ext (by rw [h1]; exact e1) e2
  · rw [List.mem_cons, List.mem_filter]
    right
    refine ⟨(xpr_mem lv 0 q).mpr ⟨k, by omega, e2⟩, ?_⟩
    simp only [Bool.and_eq_true, Bool.not_eq_true', beq_eq_false_iff_ne, ne_eq, Bool.and_eq_false_iff]
    refine ⟨by omega, ?_⟩
    by_cases hk : q.1 + 1 = i
    · exact Or.inr (fun z => e3 ⟨by omega, z⟩)
    · exact Or.inl hk
theorem xl.s2 {ls : Array Slot} {lv : List (Option Value)} {i : Nat} {v : Value} (h : lv_has ls lv.length ((i, v) :: (xpr 0 lv).filter (fun q => !(q.1 == i) && (!(q.1 == i + 1) && !(q.1 + 1 == i && q.2.category == 2))))) : xl ls (xs2 lv i v) := by
  refine ⟨by rw [xs2_len]; exact h.1, h.2.1, fun q hq => ?_⟩
  obtain ⟨k, h1, h2⟩ := (xpr_mem _ 0 q).mp hq
  rw [Nat.zero_add] at h1
  refine h.2.2 q ?_
  rcases xs2_at lv i v k q.2 h2 with ⟨e1, e2⟩ | ⟨e1, e0, e2, e3⟩
  · rw [List.mem_cons]
    left
    exact Prod.ext (by rw [h1]; exact e1) e2
  · rw [List.mem_cons, List.mem_filter]
    right
    refine ⟨(xpr_mem lv 0 q).mpr ⟨k, by omega, e2⟩, ?_⟩
    simp only [Bool.and_eq_true, Bool.not_eq_true', beq_eq_false_iff_ne, ne_eq, Bool.and_eq_false_iff]
    refine ⟨by omega, by omega, ?_⟩
    by_cases hk : q.1 + 1 = i
    · exact Or.inr (fun z => e3 ⟨by omega, z⟩)
    · exact Or.inl hk
