/-! THE REFERENCE: writes of its arrays; its small methods. -/
def fI {α : Type} (k : Nat) (g : Nat → α) (I : Nat → Nat → α) : Nat → Nat → α := fun j => if j = k then g else I j
theorem fI_self {α : Type} (k : Nat) (g : Nat → α) (I : Nat → Nat → α) : fI k g I k = g := if_pos rfl
theorem fI_ne {α : Type} {k j : Nat} (g : Nat → α) (I : Nat → Nat → α) (h : j ≠ k) : fI k g I j = I j := if_neg h
def St.setI (s : St) (k : Nat) (g : Nat → Int32) : St := (s.1, s.2.1, s.2.2.1, fI k g s.I, s.L)
def St.setL (s : St) (k : Nat) (g : Nat → Int64) : St := (s.1, s.2.1, s.2.2.1, s.I, fI k g s.L)
theorem mIZ : ∀ j ∈ mI, j ∉ mZ := by decide
theorem mIL : ∀ j ∈ mI, j ∉ mL := by decide
theorem mZL : ∀ j ∈ mZ, j ∉ mL := by decide
section RM
variable {E : xEn} {G : xH} {y : Nat} {A : Nat → Nat} {code : Int32} {s : St}
theorem RepM.wI (h : RepM E G y A code s) {k : Nat} (hk : k ∈ mI) (g : Nat → Int32) : RepM E (xup G (A k) (.inl (E.1.1, mlen k, .inl g))) y A code (s.setI k g) := by
  have hn := h.ne (show k ∈ mA by revert hk; revert k; decide)
  have hmA : ∀ j, j ∈ mI ∨ j ∈ mZ ∨ j ∈ mL → j ∈ mA := by
    intro j hj
    rcases hj with hj | hj | hj <;> (revert hj; revert j; decide)
  obtain ⟨h1, h2, h3, h4, h5⟩ := h
  have ap : ∀ j, j ∈ mA → j ≠ k → A j ≠ A k := fun j hj hjk z => hjk (h5 j k hj (hmA k (Or.inl hk)) z)
  refine ⟨by rw [xup_ne _ _ (Ne.symm hn)]; exact h1, fun j hj => ?_, fun j hj => ?_, fun j hj => ?_, h5⟩
  · by_cases e : j = k
    · subst e
      rw [xup_self]
      show _ = some (Sum.inl (E.1.1, mlen j, Sum.inl (fI j g s.I j)))
      rw [fI_self]
    · rw [xup_ne _ _ (ap j (hmA j (Or.inl hj)) e), h2 j hj]
      show _ = some (Sum.inl (E.1.1, mlen j, Sum.inl (fI k g s.I j)))
      rw [fI_ne _ _ e]
  · have e : j ≠ k := by
      intro z
      subst z
      first | exact mIZ _ hk hj | exact mIZ _ hj hk | exact mIL _ hk hj | exact mIL _ hj hk | exact mZL _ hk hj | exact mZL _ hj hk
    rw [xup_ne _ _ (ap j (hmA j (Or.inr (Or.inl hj))) e), h3 j hj]
    show _ = some (Sum.inl (E.1.2.2.1, mlen j, Sum.inl (fI k g s.I j)))
    rw [fI_ne _ _ e]
  · have e : j ≠ k := by
      intro z
      subst z
      first | exact mIZ _ hk hj | exact mIZ _ hj hk | exact mIL _ hk hj | exact mIL _ hj hk | exact mZL _ hk hj | exact mZL _ hj hk
    rw [xup_ne _ _ (ap j (hmA j (Or.inr (Or.inr hj))) e)]
    exact h4 j hj
theorem RepM.wZ (h : RepM E G y A code s) {k : Nat} (hk : k ∈ mZ) (g : Nat → Int32) : RepM E (xup G (A k) (.inl (E.1.2.2.1, mlen k, .inl g))) y A code (s.setI k g) := by
  have hn := h.ne (show k ∈ mA by revert hk; revert k; decide)
  have hmA : ∀ j, j ∈ mI ∨ j ∈ mZ ∨ j ∈ mL → j ∈ mA := by
    intro j hj
    rcases hj with hj | hj | hj <;> (revert hj; revert j; decide)
  obtain ⟨h1, h2, h3, h4, h5⟩ := h
  have ap : ∀ j, j ∈ mA → j ≠ k → A j ≠ A k := fun j hj hjk z => hjk (h5 j k hj (hmA k (Or.inr (Or.inl hk))) z)
  refine ⟨by rw [xup_ne _ _ (Ne.symm hn)]; exact h1, fun j hj => ?_, fun j hj => ?_, fun j hj => ?_, h5⟩
  · have e : j ≠ k := by
      intro z
      subst z
      first | exact mIZ _ hk hj | exact mIZ _ hj hk | exact mIL _ hk hj | exact mIL _ hj hk | exact mZL _ hk hj | exact mZL _ hj hk
    rw [xup_ne _ _ (ap j (hmA j (Or.inl hj)) e), h2 j hj]
    show _ = some (Sum.inl (E.1.1, mlen j, Sum.inl (fI k g s.I j)))
    rw [fI_ne _ _ e]
  · by_cases e : j = k
    · subst e
      rw [xup_self]
      show _ = some (Sum.inl (E.1.2.2.1, mlen j, Sum.inl (fI j g s.I j)))
      rw [fI_self]
    · rw [xup_ne _ _ (ap j (hmA j (Or.inr (Or.inl hj))) e), h3 j hj]
      show _ = some (Sum.inl (E.1.2.2.1, mlen j, Sum.inl (fI k g s.I j)))
      rw [fI_ne _ _ e]
  · have e : j ≠ k := by
      intro z
      subst z
      first | exact mIZ _ hk hj | exact mIZ _ hj hk | exact mIL _ hk hj | exact mIL _ hj hk | exact mZL _ hk hj | exact mZL _ hj hk
    rw [xup_ne _ _ (ap j (hmA j (Or.inr (Or.inr hj))) e)]
    exact h4 j hj
theorem RepM.wL (h : RepM E G y A code s) {k : Nat} (hk : k ∈ mL) (g : Nat → Int64) : RepM E (xup G (A k) (.inl (E.1.2.1, mlen k, .inr (.inl g)))) y A code (s.setL k g) := by
  have hn := h.ne (show k ∈ mA by revert hk; revert k; decide)
  have hmA : ∀ j, j ∈ mI ∨ j ∈ mZ ∨ j ∈ mL → j ∈ mA := by
    intro j hj
    rcases hj with hj | hj | hj <;> (revert hj; revert j; decide)
  obtain ⟨h1, h2, h3, h4, h5⟩ := h
  have ap : ∀ j, j ∈ mA → j ≠ k → A j ≠ A k := fun j hj hjk z => hjk (h5 j k hj (hmA k (Or.inr (Or.inr hk))) z)
  refine ⟨by rw [xup_ne _ _ (Ne.symm hn)]; exact h1, fun j hj => ?_, fun j hj => ?_, fun j hj => ?_, h5⟩
  · have e : j ≠ k := by
      intro z
      subst z
      first | exact mIZ _ hk hj | exact mIZ _ hj hk | exact mIL _ hk hj | exact mIL _ hj hk | exact mZL _ hk hj | exact mZL _ hj hk
    rw [xup_ne _ _ (ap j (hmA j (Or.inl hj)) e)]
    exact h2 j hj
  · have e : j ≠ k := by
      intro z
      subst z
      first | exact mIZ _ hk hj | exact mIZ _ hj hk | exact mIL _ hk hj | exact mIL _ hj hk | exact mZL _ hk hj | exact mZL _ hj hk
    rw [xup_ne _ _ (ap j (hmA j (Or.inr (Or.inl hj))) e)]
    exact h3 j hj
  · by_cases e : j = k
    · subst e
      rw [xup_self]
      show _ = some (Sum.inl (E.1.2.1, mlen j, Sum.inr (Sum.inl (fI j g s.L j))))
      rw [fI_self]
    · rw [xup_ne _ _ (ap j (hmA j (Or.inr (Or.inr hj))) e), h4 j hj]
      show _ = some (Sum.inl (E.1.2.1, mlen j, Sum.inr (Sum.inl (fI k g s.L j))))
      rw [fI_ne _ _ e]
theorem MFt_y (y : Nat) (A : Nat → Nat) : MFt y A y := Or.inl rfl
theorem MFt_k {y : Nat} {A : Nat → Nat} {k : Nat} (hk : k ∈ mA) : MFt y A (A k) := Or.inr ⟨k, hk, rfl⟩
theorem fr_up {y a : Nat} {A : Nat → Nat} {G : xH} {e : va_E} (h : MFt y A a) : ∀ q, ¬ MFt y A q → xup G a e q = G q := fun q hq => xup_ne _ _ (fun z => hq (z ▸ h))
end RM
def bi (p : Prop) [Decidable p] : Int32 := if p then 1 else 0
theorem bi_t {p : Prop} [Decidable p] (h : p) : bi p = 1 := if_pos h
theorem bi_f {p : Prop} [Decidable p] (h : ¬ p) : bi p = 0 := if_neg h
theorem bi_ne {p : Prop} [Decidable p] : ¬ bi p = 0 ↔ p := by
  unfold bi
  split <;> simp_all
theorem bi_nar {p : Prop} [Decidable p] : narrow .boolean (.int (bi p)) = .int (bi p) := by
  unfold bi
  split <;> rfl
theorem cmp_lt {x y : Int64} : lg_cmp x y < 0 ↔ x < y := by
  unfold lg_cmp
  by_cases h1 : x > y
  · rw [if_pos h1]
    exact ⟨fun h => absurd h (by decide), fun h => absurd (Int64.lt_trans h h1) (Int64.lt_irrefl)⟩
  · rw [if_neg h1]
    by_cases h2 : x = y
    · rw [if_pos h2]
      exact ⟨fun h => absurd h (by decide), fun h => absurd (h2 ▸ h) (Int64.lt_irrefl)⟩
    · rw [if_neg h2]
      refine ⟨fun _ => ?_, fun _ => by decide⟩
      rcases Int64.le_iff_lt_or_eq.mp (Int64.not_lt.mp h1) with h | h
      · exact h
      · exact absurd h h2
theorem cmp_gt {x y : Int64} : 0 < lg_cmp x y ↔ y < x := by
  unfold lg_cmp
  by_cases h1 : x > y
  · rw [if_pos h1]
    exact ⟨fun _ => h1, fun _ => by decide⟩
  · rw [if_neg h1]
    by_cases h2 : x = y
    · rw [if_pos h2]
      exact ⟨fun h => absurd h (by decide), fun h => absurd h h1⟩
    · rw [if_neg h2]
      exact ⟨fun h => absurd h (by decide), fun h => absurd h h1⟩
theorem cmp_eq {x y : Int64} : lg_cmp x y = 0 ↔ x = y := by
  unfold lg_cmp
  by_cases h1 : x > y
  · rw [if_pos h1]
    exact ⟨fun h => absurd h (by decide), fun h => absurd (h ▸ h1) (Int64.lt_irrefl)⟩
  · rw [if_neg h1]
    by_cases h2 : x = y
    · rw [if_pos h2]
      exact ⟨fun _ => h2, fun _ => rfl⟩
    · rw [if_neg h2]
      exact ⟨fun h => absurd h (by decide), fun h => absurd h h2⟩
theorem cmp_ge {x y : Int64} : 0 ≤ lg_cmp x y ↔ y ≤ x := by
  rw [← Int32.not_lt, cmp_lt, Int64.not_lt]
theorem cmp_le {x y : Int64} : lg_cmp x y ≤ 0 ↔ x ≤ y := by
  rw [← Int32.not_lt, cmp_gt, Int64.not_lt]
def pr_M_thrown (y : Nat) (A : Nat → Nat) (code : Int32) (σ : St) : xEn → List Value → xH → Prop := fun E As G => As = [.ref y] ∧ RepM E G y A code σ
def po_M_thrown (y : Nat) (A : Nat → Nat) (code : Int32) (σ : St) : xEn → List Value → xH → Option Value → xH → Prop := fun _ _ G v G' => G' = G ∧ v = some (.int code)
def cs_M_thrown (y : Nat) (A : Nat → Nat) (code : Int32) (σ : St) (E : xEn) : Nat → Option xSp := fun x => match x with
  | _ => none
set_option maxHeartbeats 4000000 in
set_option maxRecDepth 100000 in
/-- thrown() -/
theorem c_M_thrown (y : Nat) (A : Nat → Nat) (code : Int32) (σ : St) (l : Launch) : xMet l y_M_thrown prog_7_method_2_code 1 (some .int) 0 0 (pr_M_thrown y A code σ) (po_M_thrown y A code σ) 0 0 := by
  refine xMet_ofF (by decide +kernel) (fun E As G hpre => ?_)
  obtain ⟨rfl, hR⟩ := hpre
  refine ⟨by simp [xfl, Value.category], fun D b p e s m args below meth c hI => ?_⟩
  have hcs : ∀ (Q : State → Prop) (x : Nat) (sp : xSp), cs_M_thrown y A code σ E x = some sp → xCd (xW p l e { frames := 0, cells := 0, slots := 0, locals := 0 } s m args below meth c Q D xcls b) { frames := 0, cells := 0, slots := 0, locals := 0 } prog_7_method_2_code x sp := fun Q x sp h => by
      unfold cs_M_thrown at h
      split at h
      · cases h
  have hOK := fun (po : Option Value → xH → Prop) => xOK_of (l := l) (e := e) (R := { frames := 0, cells := 0, slots := 0, locals := 0 }) (below := below) (mc := 0) (ms := 0) (po := po) (tb := tb_M (cs_M_thrown y A code σ E)) (ini := false) hI (fun h => by cases h) (okF_M hI.1.2.2.2.2) (okN_M hI.1.2.2.2.2) (okI_M hI.1.2.2.2.2) (okJ_M hI.1.2.2.2.2) (hcs _) (okX_M hI.1.2.2.2.2 hI.2.1.2.2.2.1)
  refine xwp_sound (hd := fun _ => false) (I := fun _ _ _ _ _ _ => False) (hOK _) (fun _ _ _ _ _ _ h => h.elim) 60 _ _ _ _ _ _ ?_
  show xwp _ _ _ _ _ _ _ _ _ _ 0 [some (.ref y)] [] G 0 0
  simp only [xwp_d d_M_thrown_0, xwp_d d_M_thrown_1, xwp_d d_M_thrown_4, f4_0, xstep, true_and, and_true, ↓reduceIte, Bool.false_eq_true, List.getElem?_cons_zero, List.getElem?_cons_succ, xs1, xs2, xclr, Value.category, List.length_cons, List.length_nil, Nat.reduceAdd, Nat.reduceLT, Nat.reduceEqDiff, Nat.reduceLeDiff, Nat.zero_add, xicmp, Nat.lt_add_left_iff_pos, Nat.add_zero, Nat.reduceBEq, beq_self_eq_true, Bool.or_true, Bool.true_or, Bool.or_false, Bool.false_or, fF_M, fN_M, fI_M, fJ_M, fX_M, cs_M_thrown]
  refine xGet_mk hR.1 rfl ?_
  simp only [xwp_d d_M_thrown_0, xwp_d d_M_thrown_1, xwp_d d_M_thrown_4, f4_0, xstep, true_and, and_true, ↓reduceIte, Bool.false_eq_true, List.getElem?_cons_zero, List.getElem?_cons_succ, xs1, xs2, xclr, Value.category, List.length_cons, List.length_nil, Nat.reduceAdd, Nat.reduceLT, Nat.reduceEqDiff, Nat.reduceLeDiff, Nat.zero_add, xicmp, Nat.lt_add_left_iff_pos, Nat.add_zero, Nat.reduceBEq, beq_self_eq_true, Bool.or_true, Bool.true_or, Bool.or_false, Bool.false_or, fF_M, fN_M, fI_M, fJ_M, fX_M, cs_M_thrown]
  exact ⟨rfl, Nat.le_refl _, Nat.le_refl _, rfl, rfl⟩
def pr_M_noCar (y : Nat) (A : Nat → Nat) (code : Int32) (σ : St) (k : Int32) : xEn → List Value → xH → Prop := fun E As G => As = [.ref y, .int k] ∧ RepM E G y A code σ
def po_M_noCar (y : Nat) (A : Nat → Nat) (code : Int32) (σ : St) (k : Int32) : xEn → List Value → xH → Option Value → xH → Prop := fun _ _ G v G' => G' = G ∧ v = some (.int (bi (k < 1 ∨ nI σ.1 < k)))
def cs_M_noCar (y : Nat) (A : Nat → Nat) (code : Int32) (σ : St) (k : Int32) (E : xEn) : Nat → Option xSp := fun x => match x with
  | _ => none
set_option maxHeartbeats 4000000 in
set_option maxRecDepth 100000 in
/-- noCar(c) -/
theorem c_M_noCar (y : Nat) (A : Nat → Nat) (code : Int32) (σ : St) (k : Int32) (l : Launch) : xMet l y_M_noCar prog_7_method_3_code 2 (some .boolean) 0 0 (pr_M_noCar y A code σ k) (po_M_noCar y A code σ k) 0 0 := by
  refine xMet_ofF (by decide +kernel) (fun E As G hpre => ?_)
  obtain ⟨rfl, hR⟩ := hpre
  refine ⟨by simp [xfl, Value.category], fun D b p e s m args below meth c hI => ?_⟩
  have hcs : ∀ (Q : State → Prop) (x : Nat) (sp : xSp), cs_M_noCar y A code σ k E x = some sp → xCd (xW p l e { frames := 0, cells := 0, slots := 0, locals := 0 } s m args below meth c Q D xcls b) { frames := 0, cells := 0, slots := 0, locals := 0 } prog_7_method_3_code x sp := fun Q x sp h => by
      unfold cs_M_noCar at h
      split at h
      · cases h
  have hOK := fun (po : Option Value → xH → Prop) => xOK_of (l := l) (e := e) (R := { frames := 0, cells := 0, slots := 0, locals := 0 }) (below := below) (mc := 0) (ms := 0) (po := po) (tb := tb_M (cs_M_noCar y A code σ k E)) (ini := false) hI (fun h => by cases h) (okF_M hI.1.2.2.2.2) (okN_M hI.1.2.2.2.2) (okI_M hI.1.2.2.2.2) (okJ_M hI.1.2.2.2.2) (hcs _) (okX_M hI.1.2.2.2.2 hI.2.1.2.2.2.1)
  refine xwp_sound (hd := fun _ => false) (I := fun _ _ _ _ _ _ => False) (hOK _) (fun _ _ _ _ _ _ h => h.elim) 60 _ _ _ _ _ _ ?_
  show xwp _ _ _ _ _ _ _ _ _ _ 0 [some (.ref y), some (.int k)] [] G 0 0
  simp only [xwp_d d_M_noCar_0, xwp_d d_M_noCar_1, xwp_d d_M_noCar_2, xwp_d d_M_noCar_5, xwp_d d_M_noCar_6, xwp_d d_M_noCar_7, xwp_d d_M_noCar_10, xwp_d d_M_noCar_13, xwp_d d_M_noCar_14, xwp_d d_M_noCar_17, xwp_d d_M_noCar_18, (show xokj 10 7 ↔ True from iff_true_intro (show (0 : Int) ≤ ((10 : Nat) : Int) + 7 by decide)), (show xokj 14 4 ↔ True from iff_true_intro (show (0 : Int) ≤ ((14 : Nat) : Int) + 4 by decide)), (show xokj 2 11 ↔ True from iff_true_intro (show (0 : Int) ≤ ((2 : Nat) : Int) + 11 by decide)), (show xtgt 10 7 = 17 from rfl), (show xtgt 14 4 = 18 from rfl), (show xtgt 2 11 = 13 from rfl), ci_0, ci_1, f4_0, f4_1, xstep, true_and, and_true, ↓reduceIte, Bool.false_eq_true, List.getElem?_cons_zero, List.getElem?_cons_succ, xs1, xs2, xclr, Value.category, List.length_cons, List.length_nil, Nat.reduceAdd, Nat.reduceLT, Nat.reduceEqDiff, Nat.reduceLeDiff, Nat.zero_add, xicmp, Nat.lt_add_left_iff_pos, Nat.add_zero, Nat.reduceBEq, beq_self_eq_true, Bool.or_true, Bool.true_or, Bool.or_false, Bool.false_or, fF_M, fN_M, fI_M, fJ_M, fX_M, cs_M_noCar]
  refine ⟨fun q => ?_, fun q => ?_⟩
  · simp only [xwp_d d_M_noCar_0, xwp_d d_M_noCar_1, xwp_d d_M_noCar_2, xwp_d d_M_noCar_5, xwp_d d_M_noCar_6, xwp_d d_M_noCar_7, xwp_d d_M_noCar_10, xwp_d d_M_noCar_13, xwp_d d_M_noCar_14, xwp_d d_M_noCar_17, xwp_d d_M_noCar_18, (show xokj 10 7 ↔ True from iff_true_intro (show (0 : Int) ≤ ((10 : Nat) : Int) + 7 by decide)), (show xokj 14 4 ↔ True from iff_true_intro (show (0 : Int) ≤ ((14 : Nat) : Int) + 4 by decide)), (show xokj 2 11 ↔ True from iff_true_intro (show (0 : Int) ≤ ((2 : Nat) : Int) + 11 by decide)), (show xtgt 10 7 = 17 from rfl), (show xtgt 14 4 = 18 from rfl), (show xtgt 2 11 = 13 from rfl), ci_0, ci_1, f4_0, f4_1, xstep, true_and, and_true, ↓reduceIte, Bool.false_eq_true, List.getElem?_cons_zero, List.getElem?_cons_succ, xs1, xs2, xclr, Value.category, List.length_cons, List.length_nil, Nat.reduceAdd, Nat.reduceLT, Nat.reduceEqDiff, Nat.reduceLeDiff, Nat.zero_add, xicmp, Nat.lt_add_left_iff_pos, Nat.add_zero, Nat.reduceBEq, beq_self_eq_true, Bool.or_true, Bool.true_or, Bool.or_false, Bool.false_or, fF_M, fN_M, fI_M, fJ_M, fX_M, cs_M_noCar]
    exact ⟨rfl, Nat.le_refl _, Nat.le_refl _, rfl, by rw [bi_t (Or.inl q)]⟩
  · simp only [xwp_d d_M_noCar_0, xwp_d d_M_noCar_1, xwp_d d_M_noCar_2, xwp_d d_M_noCar_5, xwp_d d_M_noCar_6, xwp_d d_M_noCar_7, xwp_d d_M_noCar_10, xwp_d d_M_noCar_13, xwp_d d_M_noCar_14, xwp_d d_M_noCar_17, xwp_d d_M_noCar_18, (show xokj 10 7 ↔ True from iff_true_intro (show (0 : Int) ≤ ((10 : Nat) : Int) + 7 by decide)), (show xokj 14 4 ↔ True from iff_true_intro (show (0 : Int) ≤ ((14 : Nat) : Int) + 4 by decide)), (show xokj 2 11 ↔ True from iff_true_intro (show (0 : Int) ≤ ((2 : Nat) : Int) + 11 by decide)), (show xtgt 10 7 = 17 from rfl), (show xtgt 14 4 = 18 from rfl), (show xtgt 2 11 = 13 from rfl), ci_0, ci_1, f4_0, f4_1, xstep, true_and, and_true, ↓reduceIte, Bool.false_eq_true, List.getElem?_cons_zero, List.getElem?_cons_succ, xs1, xs2, xclr, Value.category, List.length_cons, List.length_nil, Nat.reduceAdd, Nat.reduceLT, Nat.reduceEqDiff, Nat.reduceLeDiff, Nat.zero_add, xicmp, Nat.lt_add_left_iff_pos, Nat.add_zero, Nat.reduceBEq, beq_self_eq_true, Bool.or_true, Bool.true_or, Bool.or_false, Bool.false_or, fF_M, fN_M, fI_M, fJ_M, fX_M, cs_M_noCar]
    refine xGet_mk hR.1 rfl ?_
    simp only [xwp_d d_M_noCar_0, xwp_d d_M_noCar_1, xwp_d d_M_noCar_2, xwp_d d_M_noCar_5, xwp_d d_M_noCar_6, xwp_d d_M_noCar_7, xwp_d d_M_noCar_10, xwp_d d_M_noCar_13, xwp_d d_M_noCar_14, xwp_d d_M_noCar_17, xwp_d d_M_noCar_18, (show xokj 10 7 ↔ True from iff_true_intro (show (0 : Int) ≤ ((10 : Nat) : Int) + 7 by decide)), (show xokj 14 4 ↔ True from iff_true_intro (show (0 : Int) ≤ ((14 : Nat) : Int) + 4 by decide)), (show xokj 2 11 ↔ True from iff_true_intro (show (0 : Int) ≤ ((2 : Nat) : Int) + 11 by decide)), (show xtgt 10 7 = 17 from rfl), (show xtgt 14 4 = 18 from rfl), (show xtgt 2 11 = 13 from rfl), ci_0, ci_1, f4_0, f4_1, xstep, true_and, and_true, ↓reduceIte, Bool.false_eq_true, List.getElem?_cons_zero, List.getElem?_cons_succ, xs1, xs2, xclr, Value.category, List.length_cons, List.length_nil, Nat.reduceAdd, Nat.reduceLT, Nat.reduceEqDiff, Nat.reduceLeDiff, Nat.zero_add, xicmp, Nat.lt_add_left_iff_pos, Nat.add_zero, Nat.reduceBEq, beq_self_eq_true, Bool.or_true, Bool.true_or, Bool.or_false, Bool.false_or, fF_M, fN_M, fI_M, fJ_M, fX_M, cs_M_noCar]
    refine ⟨fun q2 => ?_, fun q2 => ?_⟩
    · simp only [xwp_d d_M_noCar_0, xwp_d d_M_noCar_1, xwp_d d_M_noCar_2, xwp_d d_M_noCar_5, xwp_d d_M_noCar_6, xwp_d d_M_noCar_7, xwp_d d_M_noCar_10, xwp_d d_M_noCar_13, xwp_d d_M_noCar_14, xwp_d d_M_noCar_17, xwp_d d_M_noCar_18, (show xokj 10 7 ↔ True from iff_true_intro (show (0 : Int) ≤ ((10 : Nat) : Int) + 7 by decide)), (show xokj 14 4 ↔ True from iff_true_intro (show (0 : Int) ≤ ((14 : Nat) : Int) + 4 by decide)), (show xokj 2 11 ↔ True from iff_true_intro (show (0 : Int) ≤ ((2 : Nat) : Int) + 11 by decide)), (show xtgt 10 7 = 17 from rfl), (show xtgt 14 4 = 18 from rfl), (show xtgt 2 11 = 13 from rfl), ci_0, ci_1, f4_0, f4_1, xstep, true_and, and_true, ↓reduceIte, Bool.false_eq_true, List.getElem?_cons_zero, List.getElem?_cons_succ, xs1, xs2, xclr, Value.category, List.length_cons, List.length_nil, Nat.reduceAdd, Nat.reduceLT, Nat.reduceEqDiff, Nat.reduceLeDiff, Nat.zero_add, xicmp, Nat.lt_add_left_iff_pos, Nat.add_zero, Nat.reduceBEq, beq_self_eq_true, Bool.or_true, Bool.true_or, Bool.or_false, Bool.false_or, fF_M, fN_M, fI_M, fJ_M, fX_M, cs_M_noCar]
      exact ⟨rfl, Nat.le_refl _, Nat.le_refl _, rfl, by rw [bi_f (fun z => z.elim q (fun z => absurd q2 (Int32.not_le.mpr z)))]⟩
    · simp only [xwp_d d_M_noCar_0, xwp_d d_M_noCar_1, xwp_d d_M_noCar_2, xwp_d d_M_noCar_5, xwp_d d_M_noCar_6, xwp_d d_M_noCar_7, xwp_d d_M_noCar_10, xwp_d d_M_noCar_13, xwp_d d_M_noCar_14, xwp_d d_M_noCar_17, xwp_d d_M_noCar_18, (show xokj 10 7 ↔ True from iff_true_intro (show (0 : Int) ≤ ((10 : Nat) : Int) + 7 by decide)), (show xokj 14 4 ↔ True from iff_true_intro (show (0 : Int) ≤ ((14 : Nat) : Int) + 4 by decide)), (show xokj 2 11 ↔ True from iff_true_intro (show (0 : Int) ≤ ((2 : Nat) : Int) + 11 by decide)), (show xtgt 10 7 = 17 from rfl), (show xtgt 14 4 = 18 from rfl), (show xtgt 2 11 = 13 from rfl), ci_0, ci_1, f4_0, f4_1, xstep, true_and, and_true, ↓reduceIte, Bool.false_eq_true, List.getElem?_cons_zero, List.getElem?_cons_succ, xs1, xs2, xclr, Value.category, List.length_cons, List.length_nil, Nat.reduceAdd, Nat.reduceLT, Nat.reduceEqDiff, Nat.reduceLeDiff, Nat.zero_add, xicmp, Nat.lt_add_left_iff_pos, Nat.add_zero, Nat.reduceBEq, beq_self_eq_true, Bool.or_true, Bool.true_or, Bool.or_false, Bool.false_or, fF_M, fN_M, fI_M, fJ_M, fX_M, cs_M_noCar]
      exact ⟨rfl, Nat.le_refl _, Nat.le_refl _, rfl, by rw [bi_t (Or.inr (Int32.not_le.mp q2))]⟩
def pr_M_none (y : Nat) (A : Nat → Nat) (code : Int32) (σ : St) (k : Int32) : xEn → List Value → xH → Prop := fun E As G => As = [.ref y, .int k] ∧ RepM E G y A code σ
def po_M_none (y : Nat) (A : Nat → Nat) (code : Int32) (σ : St) (k : Int32) : xEn → List Value → xH → Option Value → xH → Prop := fun E _ G v G' => v = some (.int (bi (k < 1 ∨ nI σ.2.1 < k))) ∧ RepM E G' y A 0 σ ∧ ∀ q, ¬ MFt y A q → G' q = G q
def cs_M_none (y : Nat) (A : Nat → Nat) (code : Int32) (σ : St) (k : Int32) (E : xEn) : Nat → Option xSp := fun x => match x with
  | _ => none
set_option maxHeartbeats 4000000 in
set_option maxRecDepth 100000 in
/-- none(k) -/
theorem c_M_none (y : Nat) (A : Nat → Nat) (code : Int32) (σ : St) (k : Int32) (l : Launch) : xMet l y_M_none prog_7_method_4_code 2 (some .boolean) 0 0 (pr_M_none y A code σ k) (po_M_none y A code σ k) 0 0 := by
  refine xMet_ofF (by decide +kernel) (fun E As G hpre => ?_)
  obtain ⟨rfl, hR⟩ := hpre
  have hR2 := hR.ob (code2 := 0) (n := σ.1) (k := σ.2.1) (t := σ.2.2.1)
  refine ⟨by simp [xfl, Value.category], fun D b p e s m args below meth c hI => ?_⟩
  have hcs : ∀ (Q : State → Prop) (x : Nat) (sp : xSp), cs_M_none y A code σ k E x = some sp → xCd (xW p l e { frames := 0, cells := 0, slots := 0, locals := 0 } s m args below meth c Q D xcls b) { frames := 0, cells := 0, slots := 0, locals := 0 } prog_7_method_4_code x sp := fun Q x sp h => by
      unfold cs_M_none at h
      split at h
      · cases h
  have hOK := fun (po : Option Value → xH → Prop) => xOK_of (l := l) (e := e) (R := { frames := 0, cells := 0, slots := 0, locals := 0 }) (below := below) (mc := 0) (ms := 0) (po := po) (tb := tb_M (cs_M_none y A code σ k E)) (ini := false) hI (fun h => by cases h) (okF_M hI.1.2.2.2.2) (okN_M hI.1.2.2.2.2) (okI_M hI.1.2.2.2.2) (okJ_M hI.1.2.2.2.2) (hcs _) (okX_M hI.1.2.2.2.2 hI.2.1.2.2.2.1)
  refine xwp_sound (hd := fun _ => false) (I := fun _ _ _ _ _ _ => False) (hOK _) (fun _ _ _ _ _ _ h => h.elim) 60 _ _ _ _ _ _ ?_
  show xwp _ _ _ _ _ _ _ _ _ _ 0 [some (.ref y), some (.int k)] [] G 0 0
  simp only [xwp_d d_M_none_0, xwp_d d_M_none_1, xwp_d d_M_none_2, xwp_d d_M_none_5, xwp_d d_M_none_6, xwp_d d_M_none_7, xwp_d d_M_none_10, xwp_d d_M_none_11, xwp_d d_M_none_12, xwp_d d_M_none_15, xwp_d d_M_none_18, xwp_d d_M_none_19, xwp_d d_M_none_22, xwp_d d_M_none_23, (show xokj 15 7 ↔ True from iff_true_intro (show (0 : Int) ≤ ((15 : Nat) : Int) + 7 by decide)), (show xokj 19 4 ↔ True from iff_true_intro (show (0 : Int) ≤ ((19 : Nat) : Int) + 4 by decide)), (show xokj 7 11 ↔ True from iff_true_intro (show (0 : Int) ≤ ((7 : Nat) : Int) + 11 by decide)), (show xtgt 15 7 = 22 from rfl), (show xtgt 19 4 = 23 from rfl), (show xtgt 7 11 = 18 from rfl), ci_0, ci_1, f4_0, f4_1, xstep, true_and, and_true, ↓reduceIte, Bool.false_eq_true, List.getElem?_cons_zero, List.getElem?_cons_succ, xs1, xs2, xclr, Value.category, List.length_cons, List.length_nil, Nat.reduceAdd, Nat.reduceLT, Nat.reduceEqDiff, Nat.reduceLeDiff, Nat.zero_add, xicmp, Nat.lt_add_left_iff_pos, Nat.add_zero, Nat.reduceBEq, beq_self_eq_true, Bool.or_true, Bool.true_or, Bool.or_false, Bool.false_or, fF_M, fN_M, fI_M, fJ_M, fX_M, cs_M_none]
  refine xPut_mk hR.1 (Or.inl rfl) (Nat.le_of_ble_eq_true rfl) rfl rfl ?_
  show xwp _ _ _ _ _ _ _ _ _ _ 5 [some (.ref y), some (.int k)] [] (xup G y (mOb A 0 σ)) 0 0
  simp only [xwp_d d_M_none_0, xwp_d d_M_none_1, xwp_d d_M_none_2, xwp_d d_M_none_5, xwp_d d_M_none_6, xwp_d d_M_none_7, xwp_d d_M_none_10, xwp_d d_M_none_11, xwp_d d_M_none_12, xwp_d d_M_none_15, xwp_d d_M_none_18, xwp_d d_M_none_19, xwp_d d_M_none_22, xwp_d d_M_none_23, (show xokj 15 7 ↔ True from iff_true_intro (show (0 : Int) ≤ ((15 : Nat) : Int) + 7 by decide)), (show xokj 19 4 ↔ True from iff_true_intro (show (0 : Int) ≤ ((19 : Nat) : Int) + 4 by decide)), (show xokj 7 11 ↔ True from iff_true_intro (show (0 : Int) ≤ ((7 : Nat) : Int) + 11 by decide)), (show xtgt 15 7 = 22 from rfl), (show xtgt 19 4 = 23 from rfl), (show xtgt 7 11 = 18 from rfl), ci_0, ci_1, f4_0, f4_1, xstep, true_and, and_true, ↓reduceIte, Bool.false_eq_true, List.getElem?_cons_zero, List.getElem?_cons_succ, xs1, xs2, xclr, Value.category, List.length_cons, List.length_nil, Nat.reduceAdd, Nat.reduceLT, Nat.reduceEqDiff, Nat.reduceLeDiff, Nat.zero_add, xicmp, Nat.lt_add_left_iff_pos, Nat.add_zero, Nat.reduceBEq, beq_self_eq_true, Bool.or_true, Bool.true_or, Bool.or_false, Bool.false_or, fF_M, fN_M, fI_M, fJ_M, fX_M, cs_M_none]
  refine ⟨fun q => ?_, fun q => ?_⟩
  · simp only [xwp_d d_M_none_0, xwp_d d_M_none_1, xwp_d d_M_none_2, xwp_d d_M_none_5, xwp_d d_M_none_6, xwp_d d_M_none_7, xwp_d d_M_none_10, xwp_d d_M_none_11, xwp_d d_M_none_12, xwp_d d_M_none_15, xwp_d d_M_none_18, xwp_d d_M_none_19, xwp_d d_M_none_22, xwp_d d_M_none_23, (show xokj 15 7 ↔ True from iff_true_intro (show (0 : Int) ≤ ((15 : Nat) : Int) + 7 by decide)), (show xokj 19 4 ↔ True from iff_true_intro (show (0 : Int) ≤ ((19 : Nat) : Int) + 4 by decide)), (show xokj 7 11 ↔ True from iff_true_intro (show (0 : Int) ≤ ((7 : Nat) : Int) + 11 by decide)), (show xtgt 15 7 = 22 from rfl), (show xtgt 19 4 = 23 from rfl), (show xtgt 7 11 = 18 from rfl), ci_0, ci_1, f4_0, f4_1, xstep, true_and, and_true, ↓reduceIte, Bool.false_eq_true, List.getElem?_cons_zero, List.getElem?_cons_succ, xs1, xs2, xclr, Value.category, List.length_cons, List.length_nil, Nat.reduceAdd, Nat.reduceLT, Nat.reduceEqDiff, Nat.reduceLeDiff, Nat.zero_add, xicmp, Nat.lt_add_left_iff_pos, Nat.add_zero, Nat.reduceBEq, beq_self_eq_true, Bool.or_true, Bool.true_or, Bool.or_false, Bool.false_or, fF_M, fN_M, fI_M, fJ_M, fX_M, cs_M_none]
    exact ⟨rfl, Nat.le_refl _, Nat.le_refl _, by rw [bi_t (Or.inl q)], hR2, fr_up (MFt_y _ _)⟩
  · simp only [xwp_d d_M_none_0, xwp_d d_M_none_1, xwp_d d_M_none_2, xwp_d d_M_none_5, xwp_d d_M_none_6, xwp_d d_M_none_7, xwp_d d_M_none_10, xwp_d d_M_none_11, xwp_d d_M_none_12, xwp_d d_M_none_15, xwp_d d_M_none_18, xwp_d d_M_none_19, xwp_d d_M_none_22, xwp_d d_M_none_23, (show xokj 15 7 ↔ True from iff_true_intro (show (0 : Int) ≤ ((15 : Nat) : Int) + 7 by decide)), (show xokj 19 4 ↔ True from iff_true_intro (show (0 : Int) ≤ ((19 : Nat) : Int) + 4 by decide)), (show xokj 7 11 ↔ True from iff_true_intro (show (0 : Int) ≤ ((7 : Nat) : Int) + 11 by decide)), (show xtgt 15 7 = 22 from rfl), (show xtgt 19 4 = 23 from rfl), (show xtgt 7 11 = 18 from rfl), ci_0, ci_1, f4_0, f4_1, xstep, true_and, and_true, ↓reduceIte, Bool.false_eq_true, List.getElem?_cons_zero, List.getElem?_cons_succ, xs1, xs2, xclr, Value.category, List.length_cons, List.length_nil, Nat.reduceAdd, Nat.reduceLT, Nat.reduceEqDiff, Nat.reduceLeDiff, Nat.zero_add, xicmp, Nat.lt_add_left_iff_pos, Nat.add_zero, Nat.reduceBEq, beq_self_eq_true, Bool.or_true, Bool.true_or, Bool.or_false, Bool.false_or, fF_M, fN_M, fI_M, fJ_M, fX_M, cs_M_none]
    refine xGet_mk (xup_self _ _ _) rfl ?_
    simp only [xwp_d d_M_none_0, xwp_d d_M_none_1, xwp_d d_M_none_2, xwp_d d_M_none_5, xwp_d d_M_none_6, xwp_d d_M_none_7, xwp_d d_M_none_10, xwp_d d_M_none_11, xwp_d d_M_none_12, xwp_d d_M_none_15, xwp_d d_M_none_18, xwp_d d_M_none_19, xwp_d d_M_none_22, xwp_d d_M_none_23, (show xokj 15 7 ↔ True from iff_true_intro (show (0 : Int) ≤ ((15 : Nat) : Int) + 7 by decide)), (show xokj 19 4 ↔ True from iff_true_intro (show (0 : Int) ≤ ((19 : Nat) : Int) + 4 by decide)), (show xokj 7 11 ↔ True from iff_true_intro (show (0 : Int) ≤ ((7 : Nat) : Int) + 11 by decide)), (show xtgt 15 7 = 22 from rfl), (show xtgt 19 4 = 23 from rfl), (show xtgt 7 11 = 18 from rfl), ci_0, ci_1, f4_0, f4_1, xstep, true_and, and_true, ↓reduceIte, Bool.false_eq_true, List.getElem?_cons_zero, List.getElem?_cons_succ, xs1, xs2, xclr, Value.category, List.length_cons, List.length_nil, Nat.reduceAdd, Nat.reduceLT, Nat.reduceEqDiff, Nat.reduceLeDiff, Nat.zero_add, xicmp, Nat.lt_add_left_iff_pos, Nat.add_zero, Nat.reduceBEq, beq_self_eq_true, Bool.or_true, Bool.true_or, Bool.or_false, Bool.false_or, fF_M, fN_M, fI_M, fJ_M, fX_M, cs_M_none]
    refine ⟨fun q2 => ?_, fun q2 => ?_⟩
    · simp only [xwp_d d_M_none_0, xwp_d d_M_none_1, xwp_d d_M_none_2, xwp_d d_M_none_5, xwp_d d_M_none_6, xwp_d d_M_none_7, xwp_d d_M_none_10, xwp_d d_M_none_11, xwp_d d_M_none_12, xwp_d d_M_none_15, xwp_d d_M_none_18, xwp_d d_M_none_19, xwp_d d_M_none_22, xwp_d d_M_none_23, (show xokj 15 7 ↔ True from iff_true_intro (show (0 : Int) ≤ ((15 : Nat) : Int) + 7 by decide)), (show xokj 19 4 ↔ True from iff_true_intro (show (0 : Int) ≤ ((19 : Nat) : Int) + 4 by decide)), (show xokj 7 11 ↔ True from iff_true_intro (show (0 : Int) ≤ ((7 : Nat) : Int) + 11 by decide)), (show xtgt 15 7 = 22 from rfl), (show xtgt 19 4 = 23 from rfl), (show xtgt 7 11 = 18 from rfl), ci_0, ci_1, f4_0, f4_1, xstep, true_and, and_true, ↓reduceIte, Bool.false_eq_true, List.getElem?_cons_zero, List.getElem?_cons_succ, xs1, xs2, xclr, Value.category, List.length_cons, List.length_nil, Nat.reduceAdd, Nat.reduceLT, Nat.reduceEqDiff, Nat.reduceLeDiff, Nat.zero_add, xicmp, Nat.lt_add_left_iff_pos, Nat.add_zero, Nat.reduceBEq, beq_self_eq_true, Bool.or_true, Bool.true_or, Bool.or_false, Bool.false_or, fF_M, fN_M, fI_M, fJ_M, fX_M, cs_M_none]
      exact ⟨rfl, Nat.le_refl _, Nat.le_refl _, by rw [bi_f (fun z => z.elim q (fun z => absurd q2 (Int32.not_le.mpr z)))], hR2, fr_up (MFt_y _ _)⟩
    · simp only [xwp_d d_M_none_0, xwp_d d_M_none_1, xwp_d d_M_none_2, xwp_d d_M_none_5, xwp_d d_M_none_6, xwp_d d_M_none_7, xwp_d d_M_none_10, xwp_d d_M_none_11, xwp_d d_M_none_12, xwp_d d_M_none_15, xwp_d d_M_none_18, xwp_d d_M_none_19, xwp_d d_M_none_22, xwp_d d_M_none_23, (show xokj 15 7 ↔ True from iff_true_intro (show (0 : Int) ≤ ((15 : Nat) : Int) + 7 by decide)), (show xokj 19 4 ↔ True from iff_true_intro (show (0 : Int) ≤ ((19 : Nat) : Int) + 4 by decide)), (show xokj 7 11 ↔ True from iff_true_intro (show (0 : Int) ≤ ((7 : Nat) : Int) + 11 by decide)), (show xtgt 15 7 = 22 from rfl), (show xtgt 19 4 = 23 from rfl), (show xtgt 7 11 = 18 from rfl), ci_0, ci_1, f4_0, f4_1, xstep, true_and, and_true, ↓reduceIte, Bool.false_eq_true, List.getElem?_cons_zero, List.getElem?_cons_succ, xs1, xs2, xclr, Value.category, List.length_cons, List.length_nil, Nat.reduceAdd, Nat.reduceLT, Nat.reduceEqDiff, Nat.reduceLeDiff, Nat.zero_add, xicmp, Nat.lt_add_left_iff_pos, Nat.add_zero, Nat.reduceBEq, beq_self_eq_true, Bool.or_true, Bool.true_or, Bool.or_false, Bool.false_or, fF_M, fN_M, fI_M, fJ_M, fX_M, cs_M_none]
      exact ⟨rfl, Nat.le_refl _, Nat.le_refl _, by rw [bi_t (Or.inr (Int32.not_le.mp q2))], hR2, fr_up (MFt_y _ _)⟩
def pr_M_compare (a b1 c1 d : Int64) : xEn → List Value → xH → Prop := fun _ As _ => As = [.long a, .long b1, .long c1, .long d]
def po_M_compare (a b1 c1 d : Int64) : xEn → List Value → xH → Option Value → xH → Prop := fun _ _ G v G' => G' = G ∧ v = some (.long (a * d - c1 * b1))
def cs_M_compare (a b1 c1 d : Int64) (E : xEn) : Nat → Option xSp := fun x => match x with
  | _ => none
set_option maxHeartbeats 4000000 in
set_option maxRecDepth 100000 in
/-- compare -/
theorem c_M_compare (a b1 c1 d : Int64) (l : Launch) : xMet l y_M_compare prog_7_method_11_code 8 (some .long) 0 0 (pr_M_compare a b1 c1 d) (po_M_compare a b1 c1 d) 0 0 := by
  refine xMet_ofF (by decide +kernel) (fun E As G hpre => ?_)
  obtain rfl := hpre
  refine ⟨by simp [xfl, Value.category], fun D b p e s m args below meth c hI => ?_⟩
  have hcs : ∀ (Q : State → Prop) (x : Nat) (sp : xSp), cs_M_compare a b1 c1 d E x = some sp → xCd (xW p l e { frames := 0, cells := 0, slots := 0, locals := 0 } s m args below meth c Q D xcls b) { frames := 0, cells := 0, slots := 0, locals := 0 } prog_7_method_11_code x sp := fun Q x sp h => by
      unfold cs_M_compare at h
      split at h
      · cases h
  have hOK := fun (po : Option Value → xH → Prop) => xOK_of (l := l) (e := e) (R := { frames := 0, cells := 0, slots := 0, locals := 0 }) (below := below) (mc := 0) (ms := 0) (po := po) (tb := tb_M (cs_M_compare a b1 c1 d E)) (ini := false) hI (fun h => by cases h) (okF_M hI.1.2.2.2.2) (okN_M hI.1.2.2.2.2) (okI_M hI.1.2.2.2.2) (okJ_M hI.1.2.2.2.2) (hcs _) (okX_M hI.1.2.2.2.2 hI.2.1.2.2.2.1)
  refine xwp_sound (hd := fun _ => false) (I := fun _ _ _ _ _ _ => False) (hOK _) (fun _ _ _ _ _ _ h => h.elim) 60 _ _ _ _ _ _ ?_
  show xwp _ _ _ _ _ _ _ _ _ _ 0 [some (.long a), none, some (.long b1), none, some (.long c1), none, some (.long d), none] [] G 0 0
  simp only [xwp_d d_M_compare_0, xwp_d d_M_compare_1, xwp_d d_M_compare_3, xwp_d d_M_compare_4, xwp_d d_M_compare_6, xwp_d d_M_compare_7, xwp_d d_M_compare_8, xwp_d d_M_compare_9, f4_0, f4_2, xstep, true_and, and_true, ↓reduceIte, Bool.false_eq_true, List.getElem?_cons_zero, List.getElem?_cons_succ, xs1, xs2, xclr, Value.category, List.length_cons, List.length_nil, Nat.reduceAdd, Nat.reduceLT, Nat.reduceEqDiff, Nat.reduceLeDiff, Nat.zero_add, xicmp, Nat.lt_add_left_iff_pos, Nat.add_zero, Nat.reduceBEq, beq_self_eq_true, Bool.or_true, Bool.true_or, Bool.or_false, Bool.false_or, fF_M, fN_M, fI_M, fJ_M, fX_M, cs_M_compare]
  exact ⟨trivial, Nat.le_refl _, Nat.le_refl _, rfl, rfl⟩
