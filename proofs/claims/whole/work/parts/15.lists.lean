/-! THE JDK's LIST, made and grown. -/
abbrev xrf (f : Nat → Option Nat) : (Nat → Int32) ⊕ (Nat → Int64) ⊕ (Nat → UInt32) ⊕ (Nat → UInt64) ⊕ (Nat → Option Nat) := .inr (.inr (.inr (.inr f)))
def xob (G : xH) (y : Nat) : Prop := ∃ (ci : Nat) (fs : List Value), ci < 6 ∧ G y = some (.inr (ci, fs))
def pr_AC_init (a : Nat) : xEn → List Value → xH → Prop := fun _ As _ => As = [.ref a]
def po_AC_init (a : Nat) : xEn → List Value → xH → Option Value → xH → Prop := fun _ _ G v G' => v = none ∧ G' = G
def cs_AC_init (a : Nat) (E : xEn) : Nat → Option xSp := fun x => match x with
  | 1 => some ((1, 1), pr_O_init E, po_O_init E, 0, 0)
  | _ => none
set_option maxHeartbeats 4000000 in
set_option maxRecDepth 100000 in
/-- AbstractCollection() -/
theorem c_AC_init (a : Nat) (l : Launch) : xMet l y_AC_init prog_18_method_1_code 1 none 1 20 (pr_AC_init a) (po_AC_init a) 0 0 := by
  refine xMet_ofF (by decide +kernel) (fun E As G hpre => ?_)
  obtain rfl := hpre
  refine ⟨by simp [xfl, Value.category], fun D b p e s m args below meth c hI => ?_⟩
  have hcs : ∀ (Q : State → Prop) (x : Nat) (sp : xSp), cs_AC_init a E x = some sp → xCd (xW p l e { frames := 1, cells := 0, slots := 0, locals := 20 } s m args below meth c Q D xcls b) { frames := 1, cells := 0, slots := 0, locals := 20 } prog_18_method_1_code x sp := fun Q x sp h => by
      unfold cs_AC_init at h
      split at h
      · cases h; exact xcd_O hI.1 k_39 k_26 k_27 ⟨by decide, by decide⟩
      · cases h
  have hOK := fun (po : Option Value → xH → Prop) => xOK_of (l := l) (e := e) (R := { frames := 1, cells := 0, slots := 0, locals := 20 }) (below := below) (mc := 0) (ms := 0) (po := po) (tb := tb_AC (cs_AC_init a E)) (ini := false) hI (fun h => by cases h) (okF_AC hI.1.2.2.2.2) (okN_AC hI.1.2.2.2.2) (okI_AC hI.1.2.2.2.2) (okJ_AC hI.1.2.2.2.2) (hcs _) (okX_AC hI.1.2.2.2.2 hI.2.1.2.2.2.1)
  refine xwp_sound (hd := fun _ => false) (I := fun _ _ _ _ _ _ => False) (hOK _) (fun _ _ _ _ _ _ h => h.elim) 60 _ _ _ _ _ _ ?_
  show xwp _ _ _ _ _ _ _ _ _ _ 0 [some (.ref a)] [] G 0 0
  simp only [xwp_d d_AC_init_0, xwp_d d_AC_init_1, xwp_d d_AC_init_4, f4_0, xstep, true_and, and_true, ↓reduceIte, Bool.false_eq_true, List.getElem?_cons_zero, List.getElem?_cons_succ, xs1, xs2, xclr, Value.category, List.length_cons, List.length_nil, Nat.reduceAdd, Nat.reduceLT, Nat.reduceEqDiff, Nat.reduceLeDiff, Nat.zero_add, xicmp, Nat.lt_add_left_iff_pos, Nat.add_zero, Nat.reduceBEq, beq_self_eq_true, Bool.or_true, Bool.true_or, Bool.or_false, Bool.false_or, fF_AC, fN_AC, fI_AC, fJ_AC, fX_AC, cs_AC_init]
  refine xCal_mk [.ref a] [] rfl rfl ⟨a, rfl⟩ (by decide) (Nat.le_refl _) (Nat.le_refl _) (fun v G2 hq => ?_)
  obtain ⟨rfl, rfl⟩ := hq
  show xwp _ _ _ _ _ _ _ _ _ _ 4 [some (.ref a)] [] G2 0 0
  simp only [xwp_d d_AC_init_0, xwp_d d_AC_init_1, xwp_d d_AC_init_4, f4_0, xstep, true_and, and_true, ↓reduceIte, Bool.false_eq_true, List.getElem?_cons_zero, List.getElem?_cons_succ, xs1, xs2, xclr, Value.category, List.length_cons, List.length_nil, Nat.reduceAdd, Nat.reduceLT, Nat.reduceEqDiff, Nat.reduceLeDiff, Nat.zero_add, xicmp, Nat.lt_add_left_iff_pos, Nat.add_zero, Nat.reduceBEq, beq_self_eq_true, Bool.or_true, Bool.true_or, Bool.or_false, Bool.false_or, fF_AC, fN_AC, fI_AC, fJ_AC, fX_AC, cs_AC_init]
  exact ⟨trivial, Nat.le_refl _, Nat.le_refl _, rfl, rfl⟩
def pr_AL_init (a : Nat) (u w z : Value) : xEn → List Value → xH → Prop := fun _ As G => As = [.ref a] ∧ G a = some (.inr (6, [u, w, z]))
def po_AL_init (a : Nat) (u w z : Value) : xEn → List Value → xH → Option Value → xH → Prop := fun _ _ G v G' => v = none ∧ G' = xup G a (.inr (6, [u, w, .int 0]))
def cs_AL_init (a : Nat) (u w z : Value) (E : xEn) : Nat → Option xSp := fun x => match x with
  | 1 => some ((1, 1), pr_AC_init a E, po_AC_init a E, 0, 0)
  | _ => none
set_option maxHeartbeats 4000000 in
set_option maxRecDepth 100000 in
/-- AbstractList(): modCount is 0 -/
theorem c_AL_init (a : Nat) (u w z : Value) (l : Launch) : xMet l y_AL_init prog_19_method_1_code 1 none 2 40 (pr_AL_init a u w z) (po_AL_init a u w z) 0 0 := by
  refine xMet_ofF (by decide +kernel) (fun E As G hpre => ?_)
  obtain ⟨rfl, h1⟩ := hpre
  refine ⟨by simp [xfl, Value.category], fun D b p e s m args below meth c hI => ?_⟩
  have hcs : ∀ (Q : State → Prop) (x : Nat) (sp : xSp), cs_AL_init a u w z E x = some sp → xCd (xW p l e { frames := 2, cells := 0, slots := 0, locals := 40 } s m args below meth c Q D xcls b) { frames := 2, cells := 0, slots := 0, locals := 40 } prog_19_method_1_code x sp := fun Q x sp h => by
      unfold cs_AL_init at h
      split at h
      · cases h; exact xcd_I hI.1 hI.2.1 hI.2.2.1 (c_AC_init a l) k_36 k_37 k_2 k_38 rfl (by decide +kernel) ⟨by decide, by decide⟩ (fun As G h => ⟨_, _, h⟩)
      · cases h
  have hOK := fun (po : Option Value → xH → Prop) => xOK_of (l := l) (e := e) (R := { frames := 2, cells := 0, slots := 0, locals := 40 }) (below := below) (mc := 0) (ms := 0) (po := po) (tb := tb_AL (cs_AL_init a u w z E)) (ini := true) hI (fun _ => rfl) (okF_AL hI.1.2.2.2.2) (okN_AL hI.1.2.2.2.2) (okI_AL hI.1.2.2.2.2) (okJ_AL hI.1.2.2.2.2) (hcs _) (okX_AL hI.1.2.2.2.2 hI.2.1.2.2.2.1)
  refine xwp_sound (hd := fun _ => false) (I := fun _ _ _ _ _ _ => False) (hOK _) (fun _ _ _ _ _ _ h => h.elim) 60 _ _ _ _ _ _ ?_
  show xwp _ _ _ _ _ _ _ _ _ _ 0 [some (.ref a)] [] G 0 0
  simp only [xwp_d d_AL_init_0, xwp_d d_AL_init_1, xwp_d d_AL_init_4, xwp_d d_AL_init_5, xwp_d d_AL_init_6, xwp_d d_AL_init_9, ci_0, f4_0, xstep, true_and, and_true, ↓reduceIte, Bool.false_eq_true, List.getElem?_cons_zero, List.getElem?_cons_succ, xs1, xs2, xclr, Value.category, List.length_cons, List.length_nil, Nat.reduceAdd, Nat.reduceLT, Nat.reduceEqDiff, Nat.reduceLeDiff, Nat.zero_add, xicmp, Nat.lt_add_left_iff_pos, Nat.add_zero, Nat.reduceBEq, beq_self_eq_true, Bool.or_true, Bool.true_or, Bool.or_false, Bool.false_or, fF_AL, fN_AL, fI_AL, fJ_AL, fX_AL, cs_AL_init]
  refine xCal_mk [.ref a] [] rfl rfl rfl (by decide) (Nat.le_refl _) (Nat.le_refl _) (fun v G2 hq => ?_)
  obtain ⟨rfl, rfl⟩ := hq
  show xwp _ _ _ _ _ _ _ _ _ _ 4 [some (.ref a)] [] G2 0 0
  simp only [xwp_d d_AL_init_0, xwp_d d_AL_init_1, xwp_d d_AL_init_4, xwp_d d_AL_init_5, xwp_d d_AL_init_6, xwp_d d_AL_init_9, ci_0, f4_0, xstep, true_and, and_true, ↓reduceIte, Bool.false_eq_true, List.getElem?_cons_zero, List.getElem?_cons_succ, xs1, xs2, xclr, Value.category, List.length_cons, List.length_nil, Nat.reduceAdd, Nat.reduceLT, Nat.reduceEqDiff, Nat.reduceLeDiff, Nat.zero_add, xicmp, Nat.lt_add_left_iff_pos, Nat.add_zero, Nat.reduceBEq, beq_self_eq_true, Bool.or_true, Bool.true_or, Bool.or_false, Bool.false_or, fF_AL, fN_AL, fI_AL, fJ_AL, fX_AL, cs_AL_init]
  refine xPut_mk h1 (Or.inl rfl) (Nat.le_of_ble_eq_true rfl) rfl rfl ?_
  simp only [xwp_d d_AL_init_0, xwp_d d_AL_init_1, xwp_d d_AL_init_4, xwp_d d_AL_init_5, xwp_d d_AL_init_6, xwp_d d_AL_init_9, ci_0, f4_0, xstep, true_and, and_true, ↓reduceIte, Bool.false_eq_true, List.getElem?_cons_zero, List.getElem?_cons_succ, xs1, xs2, xclr, Value.category, List.length_cons, List.length_nil, Nat.reduceAdd, Nat.reduceLT, Nat.reduceEqDiff, Nat.reduceLeDiff, Nat.zero_add, xicmp, Nat.lt_add_left_iff_pos, Nat.add_zero, Nat.reduceBEq, beq_self_eq_true, Bool.or_true, Bool.true_or, Bool.or_false, Bool.false_or, fF_AL, fN_AL, fI_AL, fJ_AL, fX_AL, cs_AL_init]
  exact ⟨trivial, Nat.le_refl _, Nat.le_refl _, rfl, rfl⟩
def pr_A_init (a : Nat) (u w z : Value) : xEn → List Value → xH → Prop := fun _ As G => As = [.ref a] ∧ G a = some (.inr (6, [u, w, z]))
def po_A_init (a : Nat) (u w z : Value) : xEn → List Value → xH → Option Value → xH → Prop := fun E _ G v G' => v = none ∧ G' = xup G a (.inr (6, [.ref E.2.1, w, .int 0]))
def cs_A_init (a : Nat) (u w z : Value) (E : xEn) : Nat → Option xSp := fun x => match x with
  | 1 => some ((1, 1), pr_AL_init a u w z E, po_AL_init a u w z E, 0, 0)
  | _ => none
set_option maxHeartbeats 4000000 in
set_option maxRecDepth 100000 in
/-- ArrayList(): the shared empty array -/
theorem c_A_init (a : Nat) (u w z : Value) (l : Launch) : xMet l y_A_init prog_20_method_2_code 1 none 3 60 (pr_A_init a u w z) (po_A_init a u w z) 0 0 := by
  refine xMet_ofF (by decide +kernel) (fun E As G hpre => ?_)
  obtain ⟨rfl, h1⟩ := hpre
  refine ⟨by simp [xfl, Value.category], fun D b p e s m args below meth c hI => ?_⟩
  have hcs : ∀ (Q : State → Prop) (x : Nat) (sp : xSp), cs_A_init a u w z E x = some sp → xCd (xW p l e { frames := 3, cells := 0, slots := 0, locals := 60 } s m args below meth c Q D xcls b) { frames := 3, cells := 0, slots := 0, locals := 60 } prog_20_method_2_code x sp := fun Q x sp h => by
      unfold cs_A_init at h
      split at h
      · cases h; exact xcd_I hI.1 hI.2.1 hI.2.2.1 (c_AL_init a u w z l) k_33 k_34 k_3 k_35 rfl (by decide +kernel) ⟨by decide, by decide⟩ (fun As G h => ⟨_, _, h.1⟩)
      · cases h
  have hOK := fun (po : Option Value → xH → Prop) => xOK_of (l := l) (e := e) (R := { frames := 3, cells := 0, slots := 0, locals := 60 }) (below := below) (mc := 0) (ms := 0) (po := po) (tb := tb_A (cs_A_init a u w z E)) (ini := true) hI (fun _ => rfl) (okF_A hI.1.2.2.2.2) (okN_A hI.1.2.2.2.2) (okI_A hI.1.2.2.2.2) (okJ_A hI.1.2.2.2.2) (hcs _) (okX_A hI.1.2.2.2.2 hI.2.1.2.2.2.1)
  refine xwp_sound (hd := fun q => q == 5) (I := xW _ _ _ _ _ _ _ _ _ _ _ _ _ _) (hOK _) (fun _ _ _ _ _ _ h => h) 60 _ _ _ _ _ _ ?_
  show xwp _ _ _ _ _ _ _ _ _ _ 0 [some (.ref a)] [] G 0 0
  simp only [xwp_d d_A_init_0, xwp_d d_A_init_1, xwp_d d_A_init_4, xwp_d d_A_init_5, xwp_d d_A_init_8, xwp_d d_A_init_11, f4_0, xstep, true_and, and_true, ↓reduceIte, Bool.false_eq_true, List.getElem?_cons_zero, List.getElem?_cons_succ, xs1, xs2, xclr, Value.category, List.length_cons, List.length_nil, Nat.reduceAdd, Nat.reduceLT, Nat.reduceEqDiff, Nat.reduceLeDiff, Nat.zero_add, xicmp, Nat.lt_add_left_iff_pos, Nat.add_zero, Nat.reduceBEq, beq_self_eq_true, Bool.or_true, Bool.true_or, Bool.or_false, Bool.false_or, fF_A, fN_A, fI_A, fJ_A, fX_A, cs_A_init]
  refine xCal_mk [.ref a] [] rfl rfl ⟨rfl, h1⟩ (by decide) (Nat.le_refl _) (Nat.le_refl _) (fun v G2 hq => ?_)
  obtain ⟨rfl, rfl⟩ := hq
  show xwp _ _ _ _ _ _ _ _ _ _ 4 [some (.ref a)] [] (xup G a (.inr (6, [u, w, .int 0]))) 0 0
  simp only [xwp_d d_A_init_0, xwp_d d_A_init_1, xwp_d d_A_init_4, xwp_d d_A_init_5, xwp_d d_A_init_8, xwp_d d_A_init_11, f4_0, xstep, true_and, and_true, ↓reduceIte, Bool.false_eq_true, List.getElem?_cons_zero, List.getElem?_cons_succ, xs1, xs2, xclr, Value.category, List.length_cons, List.length_nil, Nat.reduceAdd, Nat.reduceLT, Nat.reduceEqDiff, Nat.reduceLeDiff, Nat.zero_add, xicmp, Nat.lt_add_left_iff_pos, Nat.add_zero, Nat.reduceBEq, beq_self_eq_true, Bool.or_true, Bool.true_or, Bool.or_false, Bool.false_or, fF_A, fN_A, fI_A, fJ_A, fX_A, cs_A_init]
  refine xw_gets hI.1 hI.2.1 k_40 d_A_init_5 ?_
  refine xwp_sound (hd := fun q => q == 5) (I := xW _ _ _ _ _ _ _ _ _ _ _ _ _ _) (hOK _) (fun _ _ _ _ _ _ h => h) 60 _ _ _ _ _ _ ?_
  show xwp _ _ _ _ _ _ _ _ _ _ 8 [some (.ref a)] [.ref E.2.1, .ref a] (xup G a (.inr (6, [u, w, .int 0]))) 0 0
  simp only [xwp_d d_A_init_0, xwp_d d_A_init_1, xwp_d d_A_init_4, xwp_d d_A_init_5, xwp_d d_A_init_8, xwp_d d_A_init_11, f4_0, xstep, true_and, and_true, ↓reduceIte, Bool.false_eq_true, List.getElem?_cons_zero, List.getElem?_cons_succ, xs1, xs2, xclr, Value.category, List.length_cons, List.length_nil, Nat.reduceAdd, Nat.reduceLT, Nat.reduceEqDiff, Nat.reduceLeDiff, Nat.zero_add, xicmp, Nat.lt_add_left_iff_pos, Nat.add_zero, Nat.reduceBEq, beq_self_eq_true, Bool.or_true, Bool.true_or, Bool.or_false, Bool.false_or, fF_A, fN_A, fI_A, fJ_A, fX_A, cs_A_init]
  refine xPut_mk (xup_self _ _ _) (Or.inl rfl) (Nat.le_of_ble_eq_true rfl) rfl rfl ?_
  simp only [xwp_d d_A_init_0, xwp_d d_A_init_1, xwp_d d_A_init_4, xwp_d d_A_init_5, xwp_d d_A_init_8, xwp_d d_A_init_11, f4_0, xstep, true_and, and_true, ↓reduceIte, Bool.false_eq_true, List.getElem?_cons_zero, List.getElem?_cons_succ, xs1, xs2, xclr, Value.category, List.length_cons, List.length_nil, Nat.reduceAdd, Nat.reduceLT, Nat.reduceEqDiff, Nat.reduceLeDiff, Nat.zero_add, xicmp, Nat.lt_add_left_iff_pos, Nat.add_zero, Nat.reduceBEq, beq_self_eq_true, Bool.or_true, Bool.true_or, Bool.or_false, Bool.false_or, fF_A, fN_A, fI_A, fJ_A, fX_A, cs_A_init]
  exact ⟨trivial, Nat.le_refl _, Nat.le_refl _, rfl, by rw [xup_xup]; rfl⟩
theorem nI_max (x y : Nat) (hx : x < 2 ^ 31) (hy : y < 2 ^ 31) : (if nI x < nI y then nI y else nI x) = nI (max x y) := by
  by_cases h : x < y
  · rw [if_pos (nI_lt h hy), Nat.max_eq_right (Nat.le_of_lt h)]
  · rw [if_neg (nI_nlt (Nat.le_of_not_lt h) hx), Nat.max_eq_left (Nat.le_of_not_lt h)]
theorem nI_min (x y : Nat) (hx : x < 2 ^ 31) (hy : y < 2 ^ 31) : (if nI y < nI x then nI y else nI x) = nI (min x y) := by
  by_cases h : y < x
  · rw [if_pos (nI_lt h hx), Nat.min_eq_right (Nat.le_of_lt h)]
  · rw [if_neg (nI_nlt (Nat.le_of_not_lt h) hy), Nat.min_eq_left (Nat.le_of_not_lt h)]
def pr_JS_newLength (x y z : Nat) : xEn → List Value → xH → Prop := fun _ As _ => As = [.int (nI x), .int (nI y), .int (nI z)] ∧ 0 < y ∧ x ≤ 100000 ∧ y ≤ 100000 ∧ z ≤ 100000
def po_JS_newLength (x y z : Nat) : xEn → List Value → xH → Option Value → xH → Prop := fun _ _ G v G' => G' = G ∧ v = some (.int (nI (x + max y z)))
def cs_JS_newLength (x y z : Nat) (E : xEn) : Nat → Option xSp := fun x => match x with
  | 194 => some ((2, 2), pr_JM_max E, po_JM_max E, 0, 0)
  | _ => none
set_option maxHeartbeats 4000000 in
set_option maxRecDepth 100000 in
/-- ArraysSupport.newLength -/
theorem c_JS_newLength (x y z : Nat) (l : Launch) : xMet l y_JS_newLength prog_27_method_27_code 4 (some .int) 1 23 (pr_JS_newLength x y z) (po_JS_newLength x y z) 0 0 := by
  refine xMet_ofF (by decide +kernel) (fun E As G hpre => ?_)
  obtain ⟨rfl, h1, h2, h3, h4⟩ := hpre
  refine ⟨by simp [xfl, Value.category], fun D b p e s m args below meth c hI => ?_⟩
  have hcs : ∀ (Q : State → Prop) (x : Nat) (sp : xSp), cs_JS_newLength x y z E x = some sp → xCd (xW p l e { frames := 1, cells := 0, slots := 0, locals := 23 } s m args below meth c Q D xcls b) { frames := 1, cells := 0, slots := 0, locals := 23 } prog_27_method_27_code x sp := fun Q x sp h => by
      unfold cs_JS_newLength at h
      split at h
      · cases h; exact xcd_max hI.1 k_135 ⟨by decide, by decide⟩
      · cases h
  have hOK := fun (po : Option Value → xH → Prop) => xOK_of (l := l) (e := e) (R := { frames := 1, cells := 0, slots := 0, locals := 23 }) (below := below) (mc := 0) (ms := 0) (po := po) (tb := tb_JS (cs_JS_newLength x y z E)) (ini := false) hI (fun h => by cases h) (okF_JS hI.1.2.2.2.2) (okN_JS hI.1.2.2.2.2) (okI_JS hI.1.2.2.2.2) (okJ_JS hI.1.2.2.2.2) (hcs _) (okX_JS hI.1.2.2.2.2 hI.2.1.2.2.2.1)
  refine xwp_sound (hd := fun _ => false) (I := fun _ _ _ _ _ _ => False) (hOK _) (fun _ _ _ _ _ _ h => h.elim) 60 _ _ _ _ _ _ ?_
  show xwp _ _ _ _ _ _ _ _ _ _ 0 [some (.int (nI x)), some (.int (nI y)), some (.int (nI z)), none] [] G 0 0
  simp only [xwp_d d_JS_newLength_0, xwp_d d_JS_newLength_1, xwp_d d_JS_newLength_2, xwp_d d_JS_newLength_3, xwp_d d_JS_newLength_6, xwp_d d_JS_newLength_7, xwp_d d_JS_newLength_8, xwp_d d_JS_newLength_9, xwp_d d_JS_newLength_10, xwp_d d_JS_newLength_13, xwp_d d_JS_newLength_14, xwp_d d_JS_newLength_16, xwp_d d_JS_newLength_19, xwp_d d_JS_newLength_20, xwp_d d_JS_newLength_21, xwp_d d_JS_newLength_22, xwp_d d_JS_newLength_23, xwp_d d_JS_newLength_26, (show xokj 10 11 ↔ True from iff_true_intro (show (0 : Int) ≤ ((10 : Nat) : Int) + 11 by decide)), (show xokj 16 5 ↔ True from iff_true_intro (show (0 : Int) ≤ ((16 : Nat) : Int) + 5 by decide)), (show xtgt 10 11 = 21 from rfl), (show xtgt 16 5 = 21 from rfl), ci_0, f4_0, f4_1, f4_2, f4_3, xstep, true_and, and_true, ↓reduceIte, Bool.false_eq_true, List.getElem?_cons_zero, List.getElem?_cons_succ, xs1, xs2, xclr, Value.category, List.length_cons, List.length_nil, Nat.reduceAdd, Nat.reduceLT, Nat.reduceEqDiff, Nat.reduceLeDiff, Nat.zero_add, xicmp, Nat.lt_add_left_iff_pos, Nat.add_zero, Nat.reduceBEq, beq_self_eq_true, Bool.or_true, Bool.true_or, Bool.or_false, Bool.false_or, fF_JS, fN_JS, fI_JS, fJ_JS, fX_JS, cs_JS_newLength]
  refine xCal_mk [.int (nI y), .int (nI z)] [.int (nI x)] rfl rfl ⟨_, _, rfl⟩ (Nat.le_of_ble_eq_true rfl) (Nat.le_refl _) (Nat.le_refl _) (fun v G2 hq => ?_)
  obtain ⟨rfl, hv⟩ := hq
  have hv := hv _ _ rfl
  rw [nI_max y z (by omega) (by omega)] at hv
  subst hv
  show xwp _ _ _ _ _ _ _ _ _ _ 6 [some (.int (nI x)), some (.int (nI y)), some (.int (nI z)), none] [.int (nI (max y z)), .int (nI x)] G2 0 0
  simp only [xwp_d d_JS_newLength_0, xwp_d d_JS_newLength_1, xwp_d d_JS_newLength_2, xwp_d d_JS_newLength_3, xwp_d d_JS_newLength_6, xwp_d d_JS_newLength_7, xwp_d d_JS_newLength_8, xwp_d d_JS_newLength_9, xwp_d d_JS_newLength_10, xwp_d d_JS_newLength_13, xwp_d d_JS_newLength_14, xwp_d d_JS_newLength_16, xwp_d d_JS_newLength_19, xwp_d d_JS_newLength_20, xwp_d d_JS_newLength_21, xwp_d d_JS_newLength_22, xwp_d d_JS_newLength_23, xwp_d d_JS_newLength_26, (show xokj 10 11 ↔ True from iff_true_intro (show (0 : Int) ≤ ((10 : Nat) : Int) + 11 by decide)), (show xokj 16 5 ↔ True from iff_true_intro (show (0 : Int) ≤ ((16 : Nat) : Int) + 5 by decide)), (show xtgt 10 11 = 21 from rfl), (show xtgt 16 5 = 21 from rfl), ci_0, f4_0, f4_1, f4_2, f4_3, xstep, true_and, and_true, ↓reduceIte, Bool.false_eq_true, List.getElem?_cons_zero, List.getElem?_cons_succ, xs1, xs2, xclr, Value.category, List.length_cons, List.length_nil, Nat.reduceAdd, Nat.reduceLT, Nat.reduceEqDiff, Nat.reduceLeDiff, Nat.zero_add, xicmp, Nat.lt_add_left_iff_pos, Nat.add_zero, Nat.reduceBEq, beq_self_eq_true, Bool.or_true, Bool.true_or, Bool.or_false, Bool.false_or, fF_JS, fN_JS, fI_JS, fJ_JS, fX_JS, cs_JS_newLength]
  rw [nI_add]
  have hm : max y z ≤ 100000 := Nat.max_le.mpr ⟨h3, h4⟩
  have hm1 : y ≤ max y z := Nat.le_max_left _ _
  refine ⟨fun q => absurd q (nI_nle (by omega) (by omega)), fun q => ?_⟩
  simp only [xwp_d d_JS_newLength_0, xwp_d d_JS_newLength_1, xwp_d d_JS_newLength_2, xwp_d d_JS_newLength_3, xwp_d d_JS_newLength_6, xwp_d d_JS_newLength_7, xwp_d d_JS_newLength_8, xwp_d d_JS_newLength_9, xwp_d d_JS_newLength_10, xwp_d d_JS_newLength_13, xwp_d d_JS_newLength_14, xwp_d d_JS_newLength_16, xwp_d d_JS_newLength_19, xwp_d d_JS_newLength_20, xwp_d d_JS_newLength_21, xwp_d d_JS_newLength_22, xwp_d d_JS_newLength_23, xwp_d d_JS_newLength_26, (show xokj 10 11 ↔ True from iff_true_intro (show (0 : Int) ≤ ((10 : Nat) : Int) + 11 by decide)), (show xokj 16 5 ↔ True from iff_true_intro (show (0 : Int) ≤ ((16 : Nat) : Int) + 5 by decide)), (show xtgt 10 11 = 21 from rfl), (show xtgt 16 5 = 21 from rfl), ci_0, f4_0, f4_1, f4_2, f4_3, xstep, true_and, and_true, ↓reduceIte, Bool.false_eq_true, List.getElem?_cons_zero, List.getElem?_cons_succ, xs1, xs2, xclr, Value.category, List.length_cons, List.length_nil, Nat.reduceAdd, Nat.reduceLT, Nat.reduceEqDiff, Nat.reduceLeDiff, Nat.zero_add, xicmp, Nat.lt_add_left_iff_pos, Nat.add_zero, Nat.reduceBEq, beq_self_eq_true, Bool.or_true, Bool.true_or, Bool.or_false, Bool.false_or, fF_JS, fN_JS, fI_JS, fJ_JS, fX_JS, cs_JS_newLength]
  refine ⟨fun q => absurd q ?_, fun q => ?_⟩
  · have e1 : (2147483639 : Int32) = nI 2147483639 := by decide
    rw [e1]
    exact nI_nlt (by omega) (by omega)
  · simp only [xwp_d d_JS_newLength_0, xwp_d d_JS_newLength_1, xwp_d d_JS_newLength_2, xwp_d d_JS_newLength_3, xwp_d d_JS_newLength_6, xwp_d d_JS_newLength_7, xwp_d d_JS_newLength_8, xwp_d d_JS_newLength_9, xwp_d d_JS_newLength_10, xwp_d d_JS_newLength_13, xwp_d d_JS_newLength_14, xwp_d d_JS_newLength_16, xwp_d d_JS_newLength_19, xwp_d d_JS_newLength_20, xwp_d d_JS_newLength_21, xwp_d d_JS_newLength_22, xwp_d d_JS_newLength_23, xwp_d d_JS_newLength_26, (show xokj 10 11 ↔ True from iff_true_intro (show (0 : Int) ≤ ((10 : Nat) : Int) + 11 by decide)), (show xokj 16 5 ↔ True from iff_true_intro (show (0 : Int) ≤ ((16 : Nat) : Int) + 5 by decide)), (show xtgt 10 11 = 21 from rfl), (show xtgt 16 5 = 21 from rfl), ci_0, f4_0, f4_1, f4_2, f4_3, xstep, true_and, and_true, ↓reduceIte, Bool.false_eq_true, List.getElem?_cons_zero, List.getElem?_cons_succ, xs1, xs2, xclr, Value.category, List.length_cons, List.length_nil, Nat.reduceAdd, Nat.reduceLT, Nat.reduceEqDiff, Nat.reduceLeDiff, Nat.zero_add, xicmp, Nat.lt_add_left_iff_pos, Nat.add_zero, Nat.reduceBEq, beq_self_eq_true, Bool.or_true, Bool.true_or, Bool.or_false, Bool.false_or, fF_JS, fN_JS, fI_JS, fJ_JS, fX_JS, cs_JS_newLength]
    exact ⟨rfl, Nat.le_refl _, Nat.le_refl _, rfl, rfl⟩
def pr_JA_copyOf2 (a0 n0 k : Nat) (f : Nat → Option Nat) : xEn → List Value → xH → Prop := fun E As G => As = [.ref a0, .int (nI k), .ref E.2.2] ∧ G a0 = some (.inl (E.1.2.2.2, n0, xrf f)) ∧ n0 ≤ k ∧ k ≤ 1000 ∧ ∀ i, i < n0 → ∀ y, f i = some y → xob G y
def po_JA_copyOf2 (a0 n0 k : Nat) (f : Nat → Option Nat) : xEn → List Value → xH → Option Value → xH → Prop := fun E _ G v G' => ∃ q : Nat, G q = none ∧ v = some (.ref q) ∧ G' = xup G q (.inl (E.1.2.2.2, k, xrf (va_cpy f (fun _ => none) 0 0 n0)))
def cs_JA_copyOf2 (a0 n0 k : Nat) (f : Nat → Option Nat) (E : xEn) : Nat → Option xSp := fun x => match x with
  | 150 => some ((2, 5), pr_cp E, po_cp E, 0, 0)
  | 304 => some ((2, 2), pr_JM_min E, po_JM_min E, 0, 0)
  | _ => none
set_option maxHeartbeats 4000000 in
set_option maxRecDepth 100000 in
/-- Arrays.copyOf over Object[] -/
theorem c_JA_copyOf2 (a0 n0 k : Nat) (f : Nat → Option Nat) (l : Launch) : xMet l y_JA_copyOf2 prog_21_method_120_code 4 (some (.array (.object "java/lang/Object"))) 1 30 (pr_JA_copyOf2 a0 n0 k f) (po_JA_copyOf2 a0 n0 k f) 1 1000 := by
  refine xMet_ofF (by decide +kernel) (fun E As G hpre => ?_)
  obtain ⟨rfl, h1, h2, h3, h4⟩ := hpre
  refine ⟨by simp [xfl, Value.category], fun D b p e s m args below meth c hI => ?_⟩
  have hcs : ∀ (Q : State → Prop) (x : Nat) (sp : xSp), cs_JA_copyOf2 a0 n0 k f E x = some sp → xCd (xW p l e { frames := 1, cells := 1, slots := 1000, locals := 30 } s m args below meth c Q D xcls b) { frames := 1, cells := 1, slots := 1000, locals := 30 } prog_21_method_120_code x sp := fun Q x sp h => by
      unfold cs_JA_copyOf2 at h
      split at h
      · cases h; exact xcd_cp hI.1 hI.2.1 ⟨by decide, by decide⟩
      · cases h; exact xcd_min hI.1 k_163 ⟨by decide, by decide⟩
      · cases h
  have hOK := fun (po : Option Value → xH → Prop) => xOK_of (l := l) (e := e) (R := { frames := 1, cells := 1, slots := 1000, locals := 30 }) (below := below) (mc := 1) (ms := 1000) (po := po) (tb := tb_JA (cs_JA_copyOf2 a0 n0 k f E)) (ini := false) hI (fun h => by cases h) (okF_JA hI.1.2.2.2.2) (okN_JA hI.1.2.2.2.2) (okI_JA hI.1.2.2.2.2) (okJ_JA hI.1.2.2.2.2) (hcs _) (okX_JA hI.1.2.2.2.2 hI.2.1.2.2.2.1)
  refine xwp_sound (hd := fun q => q == 1 || q == 7) (I := xW _ _ _ _ _ _ _ _ _ _ _ _ _ _) (hOK _) (fun _ _ _ _ _ _ h => h) 60 _ _ _ _ _ _ ?_
  show xwp _ _ _ _ _ _ _ _ _ _ 0 [some (.ref a0), some (.int (nI k)), some (.ref E.2.2), none] [] G 0 0
  simp only [xwp_d d_JA_copyOf2_0, xwp_d d_JA_copyOf2_1, xwp_d d_JA_copyOf2_3, xwp_d d_JA_copyOf2_6, xwp_d d_JA_copyOf2_7, xwp_d d_JA_copyOf2_10, xwp_d d_JA_copyOf2_13, xwp_d d_JA_copyOf2_14, xwp_d d_JA_copyOf2_17, xwp_d d_JA_copyOf2_18, xwp_d d_JA_copyOf2_21, xwp_d d_JA_copyOf2_24, xwp_d d_JA_copyOf2_25, xwp_d d_JA_copyOf2_26, xwp_d d_JA_copyOf2_27, xwp_d d_JA_copyOf2_28, xwp_d d_JA_copyOf2_29, xwp_d d_JA_copyOf2_30, xwp_d d_JA_copyOf2_31, xwp_d d_JA_copyOf2_32, xwp_d d_JA_copyOf2_35, xwp_d d_JA_copyOf2_38, xwp_d d_JA_copyOf2_39, (show xokj 10 14 ↔ True from iff_true_intro (show (0 : Int) ≤ ((10 : Nat) : Int) + 14 by decide)), (show xokj 3 10 ↔ True from iff_true_intro (show (0 : Int) ≤ ((3 : Nat) : Int) + 10 by decide)), (show xtgt 10 14 = 24 from rfl), (show xtgt 3 10 = 13 from rfl), ci_0, f4_0, f4_1, f4_2, f4_3, xstep, true_and, and_true, ↓reduceIte, Bool.false_eq_true, List.getElem?_cons_zero, List.getElem?_cons_succ, xs1, xs2, xclr, Value.category, List.length_cons, List.length_nil, Nat.reduceAdd, Nat.reduceLT, Nat.reduceEqDiff, Nat.reduceLeDiff, Nat.zero_add, xicmp, Nat.lt_add_left_iff_pos, Nat.add_zero, Nat.reduceBEq, beq_self_eq_true, Bool.or_true, Bool.true_or, Bool.or_false, Bool.false_or, fF_JA, fN_JA, fI_JA, fJ_JA, fX_JA, cs_JA_copyOf2]
  refine xw_ldcM hI.1 hI.2.1 k_160 d_JA_copyOf2_1 ?_
  refine xwp_sound (hd := fun q => q == 1 || q == 7) (I := xW _ _ _ _ _ _ _ _ _ _ _ _ _ _) (hOK _) (fun _ _ _ _ _ _ h => h) 60 _ _ _ _ _ _ ?_
  show xwp _ _ _ _ _ _ _ _ _ _ 3 [some (.ref a0), some (.int (nI k)), some (.ref E.2.2), none] [.ref E.2.2, .ref E.2.2] G 0 0
  simp only [xwp_d d_JA_copyOf2_0, xwp_d d_JA_copyOf2_1, xwp_d d_JA_copyOf2_3, xwp_d d_JA_copyOf2_6, xwp_d d_JA_copyOf2_7, xwp_d d_JA_copyOf2_10, xwp_d d_JA_copyOf2_13, xwp_d d_JA_copyOf2_14, xwp_d d_JA_copyOf2_17, xwp_d d_JA_copyOf2_18, xwp_d d_JA_copyOf2_21, xwp_d d_JA_copyOf2_24, xwp_d d_JA_copyOf2_25, xwp_d d_JA_copyOf2_26, xwp_d d_JA_copyOf2_27, xwp_d d_JA_copyOf2_28, xwp_d d_JA_copyOf2_29, xwp_d d_JA_copyOf2_30, xwp_d d_JA_copyOf2_31, xwp_d d_JA_copyOf2_32, xwp_d d_JA_copyOf2_35, xwp_d d_JA_copyOf2_38, xwp_d d_JA_copyOf2_39, (show xokj 10 14 ↔ True from iff_true_intro (show (0 : Int) ≤ ((10 : Nat) : Int) + 14 by decide)), (show xokj 3 10 ↔ True from iff_true_intro (show (0 : Int) ≤ ((3 : Nat) : Int) + 10 by decide)), (show xtgt 10 14 = 24 from rfl), (show xtgt 3 10 = 13 from rfl), ci_0, f4_0, f4_1, f4_2, f4_3, xstep, true_and, and_true, ↓reduceIte, Bool.false_eq_true, List.getElem?_cons_zero, List.getElem?_cons_succ, xs1, xs2, xclr, Value.category, List.length_cons, List.length_nil, Nat.reduceAdd, Nat.reduceLT, Nat.reduceEqDiff, Nat.reduceLeDiff, Nat.zero_add, xicmp, Nat.lt_add_left_iff_pos, Nat.add_zero, Nat.reduceBEq, beq_self_eq_true, Bool.or_true, Bool.true_or, Bool.or_false, Bool.false_or, fF_JA, fN_JA, fI_JA, fJ_JA, fX_JA, cs_JA_copyOf2]
  refine ⟨fun q => absurd trivial q, fun _ => ?_⟩
  simp only [xwp_d d_JA_copyOf2_0, xwp_d d_JA_copyOf2_1, xwp_d d_JA_copyOf2_3, xwp_d d_JA_copyOf2_6, xwp_d d_JA_copyOf2_7, xwp_d d_JA_copyOf2_10, xwp_d d_JA_copyOf2_13, xwp_d d_JA_copyOf2_14, xwp_d d_JA_copyOf2_17, xwp_d d_JA_copyOf2_18, xwp_d d_JA_copyOf2_21, xwp_d d_JA_copyOf2_24, xwp_d d_JA_copyOf2_25, xwp_d d_JA_copyOf2_26, xwp_d d_JA_copyOf2_27, xwp_d d_JA_copyOf2_28, xwp_d d_JA_copyOf2_29, xwp_d d_JA_copyOf2_30, xwp_d d_JA_copyOf2_31, xwp_d d_JA_copyOf2_32, xwp_d d_JA_copyOf2_35, xwp_d d_JA_copyOf2_38, xwp_d d_JA_copyOf2_39, (show xokj 10 14 ↔ True from iff_true_intro (show (0 : Int) ≤ ((10 : Nat) : Int) + 14 by decide)), (show xokj 3 10 ↔ True from iff_true_intro (show (0 : Int) ≤ ((3 : Nat) : Int) + 10 by decide)), (show xtgt 10 14 = 24 from rfl), (show xtgt 3 10 = 13 from rfl), ci_0, f4_0, f4_1, f4_2, f4_3, xstep, true_and, and_true, ↓reduceIte, Bool.false_eq_true, List.getElem?_cons_zero, List.getElem?_cons_succ, xs1, xs2, xclr, Value.category, List.length_cons, List.length_nil, Nat.reduceAdd, Nat.reduceLT, Nat.reduceEqDiff, Nat.reduceLeDiff, Nat.zero_add, xicmp, Nat.lt_add_left_iff_pos, Nat.add_zero, Nat.reduceBEq, beq_self_eq_true, Bool.or_true, Bool.true_or, Bool.or_false, Bool.false_or, fF_JA, fN_JA, fI_JA, fJ_JA, fX_JA, cs_JA_copyOf2]
  refine xw_anew hI.1 hI.2.1 hI.2.2.1 k_162 d_JA_copyOf2_7 (nI_pos (by omega)) (by rw [nI_clamp (by omega)]; omega) (Nat.le_refl _) (by rw [nI_clamp (by omega)]; show 0 + k ≤ 1000; omega) (fun q hq => ?_)
  rw [nI_clamp (show k < 2 ^ 31 by omega)]
  have hne : a0 ≠ q := fun z => by rw [z, hq] at h1; cases h1
  have h1q : ∀ e, xup G q e a0 = some (.inl (E.1.2.2.2, n0, xrf f)) := fun e => by rw [xup_ne _ _ hne]; exact h1
  refine xwp_sound (hd := fun _ => false) (I := fun _ _ _ _ _ _ => False) (hOK _) (fun _ _ _ _ _ _ h => h.elim) 60 _ _ _ _ _ _ ?_
  show xwp _ _ _ _ _ _ _ _ _ _ 10 [some (.ref a0), some (.int (nI k)), some (.ref E.2.2), none] [.ref q] (xup G q (.inl (E.1.2.2.2, k, xrf (fun _ => none)))) 1 (0 + k)
  simp only [xwp_d d_JA_copyOf2_0, xwp_d d_JA_copyOf2_1, xwp_d d_JA_copyOf2_3, xwp_d d_JA_copyOf2_6, xwp_d d_JA_copyOf2_7, xwp_d d_JA_copyOf2_10, xwp_d d_JA_copyOf2_13, xwp_d d_JA_copyOf2_14, xwp_d d_JA_copyOf2_17, xwp_d d_JA_copyOf2_18, xwp_d d_JA_copyOf2_21, xwp_d d_JA_copyOf2_24, xwp_d d_JA_copyOf2_25, xwp_d d_JA_copyOf2_26, xwp_d d_JA_copyOf2_27, xwp_d d_JA_copyOf2_28, xwp_d d_JA_copyOf2_29, xwp_d d_JA_copyOf2_30, xwp_d d_JA_copyOf2_31, xwp_d d_JA_copyOf2_32, xwp_d d_JA_copyOf2_35, xwp_d d_JA_copyOf2_38, xwp_d d_JA_copyOf2_39, (show xokj 10 14 ↔ True from iff_true_intro (show (0 : Int) ≤ ((10 : Nat) : Int) + 14 by decide)), (show xokj 3 10 ↔ True from iff_true_intro (show (0 : Int) ≤ ((3 : Nat) : Int) + 10 by decide)), (show xtgt 10 14 = 24 from rfl), (show xtgt 3 10 = 13 from rfl), ci_0, f4_0, f4_1, f4_2, f4_3, xstep, true_and, and_true, ↓reduceIte, Bool.false_eq_true, List.getElem?_cons_zero, List.getElem?_cons_succ, xs1, xs2, xclr, Value.category, List.length_cons, List.length_nil, Nat.reduceAdd, Nat.reduceLT, Nat.reduceEqDiff, Nat.reduceLeDiff, Nat.zero_add, xicmp, Nat.lt_add_left_iff_pos, Nat.add_zero, Nat.reduceBEq, beq_self_eq_true, Bool.or_true, Bool.true_or, Bool.or_false, Bool.false_or, fF_JA, fN_JA, fI_JA, fJ_JA, fX_JA, cs_JA_copyOf2]
  refine ⟨_, _, h1q _, Or.inr (Or.inr (Or.inr rfl)), ?_⟩
  simp only [xwp_d d_JA_copyOf2_0, xwp_d d_JA_copyOf2_1, xwp_d d_JA_copyOf2_3, xwp_d d_JA_copyOf2_6, xwp_d d_JA_copyOf2_7, xwp_d d_JA_copyOf2_10, xwp_d d_JA_copyOf2_13, xwp_d d_JA_copyOf2_14, xwp_d d_JA_copyOf2_17, xwp_d d_JA_copyOf2_18, xwp_d d_JA_copyOf2_21, xwp_d d_JA_copyOf2_24, xwp_d d_JA_copyOf2_25, xwp_d d_JA_copyOf2_26, xwp_d d_JA_copyOf2_27, xwp_d d_JA_copyOf2_28, xwp_d d_JA_copyOf2_29, xwp_d d_JA_copyOf2_30, xwp_d d_JA_copyOf2_31, xwp_d d_JA_copyOf2_32, xwp_d d_JA_copyOf2_35, xwp_d d_JA_copyOf2_38, xwp_d d_JA_copyOf2_39, (show xokj 10 14 ↔ True from iff_true_intro (show (0 : Int) ≤ ((10 : Nat) : Int) + 14 by decide)), (show xokj 3 10 ↔ True from iff_true_intro (show (0 : Int) ≤ ((3 : Nat) : Int) + 10 by decide)), (show xtgt 10 14 = 24 from rfl), (show xtgt 3 10 = 13 from rfl), ci_0, f4_0, f4_1, f4_2, f4_3, xstep, true_and, and_true, ↓reduceIte, Bool.false_eq_true, List.getElem?_cons_zero, List.getElem?_cons_succ, xs1, xs2, xclr, Value.category, List.length_cons, List.length_nil, Nat.reduceAdd, Nat.reduceLT, Nat.reduceEqDiff, Nat.reduceLeDiff, Nat.zero_add, xicmp, Nat.lt_add_left_iff_pos, Nat.add_zero, Nat.reduceBEq, beq_self_eq_true, Bool.or_true, Bool.true_or, Bool.or_false, Bool.false_or, fF_JA, fN_JA, fI_JA, fJ_JA, fX_JA, cs_JA_copyOf2]
  refine xCal_mk [.int (nI n0), .int (nI k)] [.int 0, .ref q, .int 0, .ref a0] rfl rfl ⟨_, _, rfl⟩ (Nat.le_of_ble_eq_true rfl) (Nat.le_refl _) (by show k + 0 ≤ 1000; omega) (fun v G2 hv => ?_)
  obtain ⟨rfl, hv⟩ := hv
  have hv := hv _ _ rfl
  rw [nI_min n0 k (by omega) (by omega), Nat.min_eq_left h2] at hv
  subst hv
  show xwp _ _ _ _ _ _ _ _ _ _ 35 [some (.ref a0), some (.int (nI k)), some (.ref E.2.2), some (.ref q)] [.int (nI n0), .int 0, .ref q, .int 0, .ref a0] (xup G q (.inl (E.1.2.2.2, k, xrf (fun _ => none)))) 1 k
  simp only [xwp_d d_JA_copyOf2_0, xwp_d d_JA_copyOf2_1, xwp_d d_JA_copyOf2_3, xwp_d d_JA_copyOf2_6, xwp_d d_JA_copyOf2_7, xwp_d d_JA_copyOf2_10, xwp_d d_JA_copyOf2_13, xwp_d d_JA_copyOf2_14, xwp_d d_JA_copyOf2_17, xwp_d d_JA_copyOf2_18, xwp_d d_JA_copyOf2_21, xwp_d d_JA_copyOf2_24, xwp_d d_JA_copyOf2_25, xwp_d d_JA_copyOf2_26, xwp_d d_JA_copyOf2_27, xwp_d d_JA_copyOf2_28, xwp_d d_JA_copyOf2_29, xwp_d d_JA_copyOf2_30, xwp_d d_JA_copyOf2_31, xwp_d d_JA_copyOf2_32, xwp_d d_JA_copyOf2_35, xwp_d d_JA_copyOf2_38, xwp_d d_JA_copyOf2_39, (show xokj 10 14 ↔ True from iff_true_intro (show (0 : Int) ≤ ((10 : Nat) : Int) + 14 by decide)), (show xokj 3 10 ↔ True from iff_true_intro (show (0 : Int) ≤ ((3 : Nat) : Int) + 10 by decide)), (show xtgt 10 14 = 24 from rfl), (show xtgt 3 10 = 13 from rfl), ci_0, f4_0, f4_1, f4_2, f4_3, xstep, true_and, and_true, ↓reduceIte, Bool.false_eq_true, List.getElem?_cons_zero, List.getElem?_cons_succ, xs1, xs2, xclr, Value.category, List.length_cons, List.length_nil, Nat.reduceAdd, Nat.reduceLT, Nat.reduceEqDiff, Nat.reduceLeDiff, Nat.zero_add, xicmp, Nat.lt_add_left_iff_pos, Nat.add_zero, Nat.reduceBEq, beq_self_eq_true, Bool.or_true, Bool.true_or, Bool.or_false, Bool.false_or, fF_JA, fN_JA, fI_JA, fJ_JA, fX_JA, cs_JA_copyOf2]
  refine xCal_mk [.ref a0, .int 0, .ref q, .int 0, .int (nI n0)] [] rfl rfl ⟨a0, q, n0, k, f, fun _ => none, 0, 0, nI n0, rfl, h1q _, xup_self _ _ _, by decide, by decide, nI_pos (by omega), ?_, ?_, ?_⟩ (Nat.le_of_ble_eq_true rfl) (Nat.le_refl _) (by show k + 0 ≤ 1000; omega) (fun v G3 hv => ?_)
  · rw [nI_clamp (by omega)]; exact Nat.le_of_eq (Nat.zero_add _)
  · rw [nI_clamp (by omega)]; exact Nat.le_trans (Nat.le_of_eq (Nat.zero_add _)) h2
  · intro i hi y hy
    rw [nI_clamp (by omega)] at hi
    obtain ⟨ci, fs, hc, hg⟩ := h4 i hi y (by rw [← hy]; exact congrArg f (Nat.zero_add i).symm)
    exact ⟨ci, fs, hc, by rw [xup_ne _ _ (fun z => by rw [z, hq] at hg; cases hg)]; exact hg⟩
  · obtain ⟨rfl, hv⟩ := hv
    have hv := hv a0 q n0 k f (fun _ => none) 0 0 (nI n0) rfl (h1q _) (xup_self _ _ _)
    rw [xup_xup, nI_clamp (by omega)] at hv
    subst hv
    show xwp _ _ _ _ _ _ _ _ _ _ 38 [some (.ref a0), some (.int (nI k)), some (.ref E.2.2), some (.ref q)] [] _ 1 k
    simp only [xwp_d d_JA_copyOf2_0, xwp_d d_JA_copyOf2_1, xwp_d d_JA_copyOf2_3, xwp_d d_JA_copyOf2_6, xwp_d d_JA_copyOf2_7, xwp_d d_JA_copyOf2_10, xwp_d d_JA_copyOf2_13, xwp_d d_JA_copyOf2_14, xwp_d d_JA_copyOf2_17, xwp_d d_JA_copyOf2_18, xwp_d d_JA_copyOf2_21, xwp_d d_JA_copyOf2_24, xwp_d d_JA_copyOf2_25, xwp_d d_JA_copyOf2_26, xwp_d d_JA_copyOf2_27, xwp_d d_JA_copyOf2_28, xwp_d d_JA_copyOf2_29, xwp_d d_JA_copyOf2_30, xwp_d d_JA_copyOf2_31, xwp_d d_JA_copyOf2_32, xwp_d d_JA_copyOf2_35, xwp_d d_JA_copyOf2_38, xwp_d d_JA_copyOf2_39, (show xokj 10 14 ↔ True from iff_true_intro (show (0 : Int) ≤ ((10 : Nat) : Int) + 14 by decide)), (show xokj 3 10 ↔ True from iff_true_intro (show (0 : Int) ≤ ((3 : Nat) : Int) + 10 by decide)), (show xtgt 10 14 = 24 from rfl), (show xtgt 3 10 = 13 from rfl), ci_0, f4_0, f4_1, f4_2, f4_3, xstep, true_and, and_true, ↓reduceIte, Bool.false_eq_true, List.getElem?_cons_zero, List.getElem?_cons_succ, xs1, xs2, xclr, Value.category, List.length_cons, List.length_nil, Nat.reduceAdd, Nat.reduceLT, Nat.reduceEqDiff, Nat.reduceLeDiff, Nat.zero_add, xicmp, Nat.lt_add_left_iff_pos, Nat.add_zero, Nat.reduceBEq, beq_self_eq_true, Bool.or_true, Bool.true_or, Bool.or_false, Bool.false_or, fF_JA, fN_JA, fI_JA, fJ_JA, fX_JA, cs_JA_copyOf2]
    exact ⟨trivial, Nat.le_refl _, by show k ≤ 1000; omega, q, hq, rfl, rfl⟩
def pr_JA_copyOf (a0 n0 k : Nat) (f : Nat → Option Nat) : xEn → List Value → xH → Prop := fun E As G => As = [.ref a0, .int (nI k)] ∧ G a0 = some (.inl (E.1.2.2.2, n0, xrf f)) ∧ n0 ≤ k ∧ k ≤ 1000 ∧ ∀ i, i < n0 → ∀ y, f i = some y → xob G y
def po_JA_copyOf (a0 n0 k : Nat) (f : Nat → Option Nat) : xEn → List Value → xH → Option Value → xH → Prop := fun E _ G v G' => ∃ q : Nat, G q = none ∧ v = some (.ref q) ∧ G' = xup G q (.inl (E.1.2.2.2, k, xrf (va_cpy f (fun _ => none) 0 0 n0)))
def cs_JA_copyOf (a0 n0 k : Nat) (f : Nat → Option Nat) (E : xEn) : Nat → Option xSp := fun x => match x with
  | 86 => some ((0, 1), pr_gc E, po_gc E, 0, 0)
  | 300 => some ((2, 3), pr_JA_copyOf2 a0 n0 k f E, po_JA_copyOf2 a0 n0 k f E, 1, 1000)
  | _ => none
set_option maxHeartbeats 4000000 in
set_option maxRecDepth 100000 in
/-- Arrays.copyOf -/
theorem c_JA_copyOf (a0 n0 k : Nat) (f : Nat → Option Nat) (l : Launch) : xMet l y_JA_copyOf prog_21_method_119_code 2 (some (.array (.object "java/lang/Object"))) 2 53 (pr_JA_copyOf a0 n0 k f) (po_JA_copyOf a0 n0 k f) 1 1000 := by
  refine xMet_ofF (by decide +kernel) (fun E As G hpre => ?_)
  obtain ⟨rfl, h1, h2, h3, h4⟩ := hpre
  refine ⟨by simp [xfl, Value.category], fun D b p e s m args below meth c hI => ?_⟩
  have hcs : ∀ (Q : State → Prop) (x : Nat) (sp : xSp), cs_JA_copyOf a0 n0 k f E x = some sp → xCd (xW p l e { frames := 2, cells := 1, slots := 1000, locals := 53 } s m args below meth c Q D xcls b) { frames := 2, cells := 1, slots := 1000, locals := 53 } prog_21_method_119_code x sp := fun Q x sp h => by
      unfold cs_JA_copyOf at h
      split at h
      · cases h; exact xcd_gc hI.1 hI.2.1 ⟨by decide, by decide⟩
      · cases h; exact xcd_S hI.1 hI.2.1 hI.2.2.1 (c_JA_copyOf2 a0 n0 k f l) k_157 k_158 k_11 k_159 (by decide +kernel) ⟨by decide, by decide⟩
      · cases h
  have hOK := fun (po : Option Value → xH → Prop) => xOK_of (l := l) (e := e) (R := { frames := 2, cells := 1, slots := 1000, locals := 53 }) (below := below) (mc := 1) (ms := 1000) (po := po) (tb := tb_JA (cs_JA_copyOf a0 n0 k f E)) (ini := false) hI (fun h => by cases h) (okF_JA hI.1.2.2.2.2) (okN_JA hI.1.2.2.2.2) (okI_JA hI.1.2.2.2.2) (okJ_JA hI.1.2.2.2.2) (hcs _) (okX_JA hI.1.2.2.2.2 hI.2.1.2.2.2.1)
  refine xwp_sound (hd := fun _ => false) (I := fun _ _ _ _ _ _ => False) (hOK _) (fun _ _ _ _ _ _ h => h.elim) 60 _ _ _ _ _ _ ?_
  show xwp _ _ _ _ _ _ _ _ _ _ 0 [some (.ref a0), some (.int (nI k))] [] G 0 0
  simp only [xwp_d d_JA_copyOf_0, xwp_d d_JA_copyOf_1, xwp_d d_JA_copyOf_2, xwp_d d_JA_copyOf_3, xwp_d d_JA_copyOf_6, xwp_d d_JA_copyOf_9, f4_0, f4_1, xstep, true_and, and_true, ↓reduceIte, Bool.false_eq_true, List.getElem?_cons_zero, List.getElem?_cons_succ, xs1, xs2, xclr, Value.category, List.length_cons, List.length_nil, Nat.reduceAdd, Nat.reduceLT, Nat.reduceEqDiff, Nat.reduceLeDiff, Nat.zero_add, xicmp, Nat.lt_add_left_iff_pos, Nat.add_zero, Nat.reduceBEq, beq_self_eq_true, Bool.or_true, Bool.true_or, Bool.or_false, Bool.false_or, fF_JA, fN_JA, fI_JA, fJ_JA, fX_JA, cs_JA_copyOf]
  refine xCal_mk [.ref a0] [.int (nI k), .ref a0] rfl rfl ⟨a0, n0, f, rfl, h1⟩ (Nat.le_of_ble_eq_true rfl) (Nat.zero_le _) (Nat.zero_le _) (fun v G2 hv => ?_)
  obtain ⟨rfl, rfl⟩ := hv
  show xwp _ _ _ _ _ _ _ _ _ _ 6 [some (.ref a0), some (.int (nI k))] [.ref E.2.2, .int (nI k), .ref a0] G2 0 0
  simp only [xwp_d d_JA_copyOf_0, xwp_d d_JA_copyOf_1, xwp_d d_JA_copyOf_2, xwp_d d_JA_copyOf_3, xwp_d d_JA_copyOf_6, xwp_d d_JA_copyOf_9, f4_0, f4_1, xstep, true_and, and_true, ↓reduceIte, Bool.false_eq_true, List.getElem?_cons_zero, List.getElem?_cons_succ, xs1, xs2, xclr, Value.category, List.length_cons, List.length_nil, Nat.reduceAdd, Nat.reduceLT, Nat.reduceEqDiff, Nat.reduceLeDiff, Nat.zero_add, xicmp, Nat.lt_add_left_iff_pos, Nat.add_zero, Nat.reduceBEq, beq_self_eq_true, Bool.or_true, Bool.true_or, Bool.or_false, Bool.false_or, fF_JA, fN_JA, fI_JA, fJ_JA, fX_JA, cs_JA_copyOf]
  refine xCal_mk [.ref a0, .int (nI k), .ref E.2.2] [] rfl rfl ⟨rfl, h1, h2, h3, h4⟩ (Nat.le_of_ble_eq_true rfl) (Nat.le_refl _) (Nat.le_refl _) (fun v G3 hv => ?_)
  obtain ⟨q, hq, rfl, rfl⟩ := hv
  show xwp _ _ _ _ _ _ _ _ _ _ 9 [some (.ref a0), some (.int (nI k))] [.ref q] _ 1 1000
  simp only [xwp_d d_JA_copyOf_0, xwp_d d_JA_copyOf_1, xwp_d d_JA_copyOf_2, xwp_d d_JA_copyOf_3, xwp_d d_JA_copyOf_6, xwp_d d_JA_copyOf_9, f4_0, f4_1, xstep, true_and, and_true, ↓reduceIte, Bool.false_eq_true, List.getElem?_cons_zero, List.getElem?_cons_succ, xs1, xs2, xclr, Value.category, List.length_cons, List.length_nil, Nat.reduceAdd, Nat.reduceLT, Nat.reduceEqDiff, Nat.reduceLeDiff, Nat.zero_add, xicmp, Nat.lt_add_left_iff_pos, Nat.add_zero, Nat.reduceBEq, beq_self_eq_true, Bool.or_true, Bool.true_or, Bool.or_false, Bool.false_or, fF_JA, fN_JA, fI_JA, fJ_JA, fX_JA, cs_JA_copyOf]
  exact ⟨trivial, Nat.le_refl _, Nat.le_refl _, q, hq, rfl, rfl⟩
