/-! THE CLASS: Failure(), floorMod, partOf, Euclid. -/
theorem nx_xor (a b : Nat) : nI a ^^^ nI b = nI (a ^^^ b) := by
  apply Int32.toBitVec_inj.1
  show BitVec.ofNat 32 a ^^^ BitVec.ofNat 32 b = BitVec.ofNat 32 (a ^^^ b)
  apply BitVec.eq_of_getLsbD_eq
  intro i hi
  simp [hi]
def pr_E_init (a : Nat) (k : Int32) (nx : Option Nat) : xEn → List Value → xH → Prop := fun _ As G => As = [.ref a, .int k, va_rf nx] ∧ G a = some (.inr (4, [.int 0, .null, .int 0, .long 0]))
def po_E_init (a : Nat) (k : Int32) (nx : Option Nat) : xEn → List Value → xH → Option Value → xH → Prop := fun _ _ G v G' => v = none ∧ G' = xup G a (.inr (4, [.int k, va_rf nx, .int 0, .long 0]))
def cs_E_init (a : Nat) (k : Int32) (nx : Option Nat) (E : xEn) : Nat → Option xSp := fun x => match x with
  | 1 => some ((1, 1), pr_O_init E, po_O_init E, 0, 0)
  | _ => none
set_option maxHeartbeats 4000000 in
set_option maxRecDepth 100000 in
/-- Failure(campaign, next) -/
theorem c_E_init (a : Nat) (k : Int32) (nx : Option Nat) (l : Launch) : xMet l y_E_init prog_4_method_1_code 3 none 1 20 (pr_E_init a k nx) (po_E_init a k nx) 0 0 := by
  refine xMet_ofF (by decide +kernel) (fun E As G hpre => ?_)
  obtain ⟨rfl, h1⟩ := hpre
  refine ⟨by cases nx <;> simp [xfl, Value.category, va_rf], fun D b p e s m args below meth c hI => ?_⟩
  have hcs : ∀ (Q : State → Prop) (x : Nat) (sp : xSp), cs_E_init a k nx E x = some sp → xCd (xW p l e { frames := 1, cells := 0, slots := 0, locals := 20 } s m args below meth c Q D xcls b) { frames := 1, cells := 0, slots := 0, locals := 20 } prog_4_method_1_code x sp := fun Q x sp h => by
      unfold cs_E_init at h
      split at h
      · cases h; exact xcd_O hI.1 k_365 k_26 k_27 ⟨by decide, by decide⟩
      · cases h
  have hOK := fun (po : Option Value → xH → Prop) => xOK_of (l := l) (e := e) (R := { frames := 1, cells := 0, slots := 0, locals := 20 }) (below := below) (mc := 0) (ms := 0) (po := po) (tb := tb_E (cs_E_init a k nx E)) (ini := true) hI (fun _ => rfl) (okF_E hI.1.2.2.2.2) (okN_E hI.1.2.2.2.2) (okI_E hI.1.2.2.2.2) (okJ_E hI.1.2.2.2.2) (hcs _) (okX_E hI.1.2.2.2.2 hI.2.1.2.2.2.1)
  cases nx with
  | none =>
    refine xwp_sound (hd := fun _ => false) (I := fun _ _ _ _ _ _ => False) (hOK _) (fun _ _ _ _ _ _ h => h.elim) 60 _ _ _ _ _ _ ?_
    show xwp _ _ _ _ _ _ _ _ _ _ 0 [some (.ref a), some (.int k), some .null] [] G 0 0
    simp only [xwp_d d_E_init_0, xwp_d d_E_init_1, xwp_d d_E_init_4, xwp_d d_E_init_5, xwp_d d_E_init_6, xwp_d d_E_init_9, xwp_d d_E_init_10, xwp_d d_E_init_11, xwp_d d_E_init_14, f4_0, f4_1, f4_2, xstep, true_and, and_true, ↓reduceIte, Bool.false_eq_true, List.getElem?_cons_zero, List.getElem?_cons_succ, xs1, xs2, xclr, Value.category, List.length_cons, List.length_nil, Nat.reduceAdd, Nat.reduceLT, Nat.reduceEqDiff, Nat.reduceLeDiff, Nat.zero_add, xicmp, Nat.lt_add_left_iff_pos, Nat.add_zero, Nat.reduceBEq, beq_self_eq_true, Bool.or_true, Bool.true_or, Bool.or_false, Bool.false_or, fF_E, fN_E, fI_E, fJ_E, fX_E, cs_E_init]
    refine xCal_mk [.ref a] [] rfl rfl ⟨a, rfl⟩ (Nat.le_of_ble_eq_true rfl) (Nat.le_refl _) (Nat.le_refl _) (fun v G2 hv => ?_)
    obtain ⟨rfl, rfl⟩ := hv
    show xwp _ _ _ _ _ _ _ _ _ _ 4 [some (.ref a), some (.int k), some .null] [] G2 0 0
    simp only [xwp_d d_E_init_0, xwp_d d_E_init_1, xwp_d d_E_init_4, xwp_d d_E_init_5, xwp_d d_E_init_6, xwp_d d_E_init_9, xwp_d d_E_init_10, xwp_d d_E_init_11, xwp_d d_E_init_14, f4_0, f4_1, f4_2, xstep, true_and, and_true, ↓reduceIte, Bool.false_eq_true, List.getElem?_cons_zero, List.getElem?_cons_succ, xs1, xs2, xclr, Value.category, List.length_cons, List.length_nil, Nat.reduceAdd, Nat.reduceLT, Nat.reduceEqDiff, Nat.reduceLeDiff, Nat.zero_add, xicmp, Nat.lt_add_left_iff_pos, Nat.add_zero, Nat.reduceBEq, beq_self_eq_true, Bool.or_true, Bool.true_or, Bool.or_false, Bool.false_or, fF_E, fN_E, fI_E, fJ_E, fX_E, cs_E_init]
    refine xPut_mk h1 (Or.inr ⟨rfl, rfl⟩) (Nat.le_of_ble_eq_true rfl) rfl rfl ?_
    simp only [xwp_d d_E_init_0, xwp_d d_E_init_1, xwp_d d_E_init_4, xwp_d d_E_init_5, xwp_d d_E_init_6, xwp_d d_E_init_9, xwp_d d_E_init_10, xwp_d d_E_init_11, xwp_d d_E_init_14, f4_0, f4_1, f4_2, xstep, true_and, and_true, ↓reduceIte, Bool.false_eq_true, List.getElem?_cons_zero, List.getElem?_cons_succ, xs1, xs2, xclr, Value.category, List.length_cons, List.length_nil, Nat.reduceAdd, Nat.reduceLT, Nat.reduceEqDiff, Nat.reduceLeDiff, Nat.zero_add, xicmp, Nat.lt_add_left_iff_pos, Nat.add_zero, Nat.reduceBEq, beq_self_eq_true, Bool.or_true, Bool.true_or, Bool.or_false, Bool.false_or, fF_E, fN_E, fI_E, fJ_E, fX_E, cs_E_init]
    refine xPut_mk (xup_self _ _ _) (Or.inr ⟨rfl, rfl⟩) (Nat.le_of_ble_eq_true rfl) rfl rfl ?_
    simp only [xwp_d d_E_init_0, xwp_d d_E_init_1, xwp_d d_E_init_4, xwp_d d_E_init_5, xwp_d d_E_init_6, xwp_d d_E_init_9, xwp_d d_E_init_10, xwp_d d_E_init_11, xwp_d d_E_init_14, f4_0, f4_1, f4_2, xstep, true_and, and_true, ↓reduceIte, Bool.false_eq_true, List.getElem?_cons_zero, List.getElem?_cons_succ, xs1, xs2, xclr, Value.category, List.length_cons, List.length_nil, Nat.reduceAdd, Nat.reduceLT, Nat.reduceEqDiff, Nat.reduceLeDiff, Nat.zero_add, xicmp, Nat.lt_add_left_iff_pos, Nat.add_zero, Nat.reduceBEq, beq_self_eq_true, Bool.or_true, Bool.true_or, Bool.or_false, Bool.false_or, fF_E, fN_E, fI_E, fJ_E, fX_E, cs_E_init]
    exact ⟨trivial, Nat.le_refl _, Nat.le_refl _, rfl, by rw [xup_xup]; rfl⟩
  | some q =>
    refine xwp_sound (hd := fun _ => false) (I := fun _ _ _ _ _ _ => False) (hOK _) (fun _ _ _ _ _ _ h => h.elim) 60 _ _ _ _ _ _ ?_
    show xwp _ _ _ _ _ _ _ _ _ _ 0 [some (.ref a), some (.int k), some (.ref q)] [] G 0 0
    simp only [xwp_d d_E_init_0, xwp_d d_E_init_1, xwp_d d_E_init_4, xwp_d d_E_init_5, xwp_d d_E_init_6, xwp_d d_E_init_9, xwp_d d_E_init_10, xwp_d d_E_init_11, xwp_d d_E_init_14, f4_0, f4_1, f4_2, xstep, true_and, and_true, ↓reduceIte, Bool.false_eq_true, List.getElem?_cons_zero, List.getElem?_cons_succ, xs1, xs2, xclr, Value.category, List.length_cons, List.length_nil, Nat.reduceAdd, Nat.reduceLT, Nat.reduceEqDiff, Nat.reduceLeDiff, Nat.zero_add, xicmp, Nat.lt_add_left_iff_pos, Nat.add_zero, Nat.reduceBEq, beq_self_eq_true, Bool.or_true, Bool.true_or, Bool.or_false, Bool.false_or, fF_E, fN_E, fI_E, fJ_E, fX_E, cs_E_init]
    refine xCal_mk [.ref a] [] rfl rfl ⟨a, rfl⟩ (Nat.le_of_ble_eq_true rfl) (Nat.le_refl _) (Nat.le_refl _) (fun v G2 hv => ?_)
    obtain ⟨rfl, rfl⟩ := hv
    show xwp _ _ _ _ _ _ _ _ _ _ 4 [some (.ref a), some (.int k), some (.ref q)] [] G2 0 0
    simp only [xwp_d d_E_init_0, xwp_d d_E_init_1, xwp_d d_E_init_4, xwp_d d_E_init_5, xwp_d d_E_init_6, xwp_d d_E_init_9, xwp_d d_E_init_10, xwp_d d_E_init_11, xwp_d d_E_init_14, f4_0, f4_1, f4_2, xstep, true_and, and_true, ↓reduceIte, Bool.false_eq_true, List.getElem?_cons_zero, List.getElem?_cons_succ, xs1, xs2, xclr, Value.category, List.length_cons, List.length_nil, Nat.reduceAdd, Nat.reduceLT, Nat.reduceEqDiff, Nat.reduceLeDiff, Nat.zero_add, xicmp, Nat.lt_add_left_iff_pos, Nat.add_zero, Nat.reduceBEq, beq_self_eq_true, Bool.or_true, Bool.true_or, Bool.or_false, Bool.false_or, fF_E, fN_E, fI_E, fJ_E, fX_E, cs_E_init]
    refine xPut_mk h1 (Or.inr ⟨rfl, rfl⟩) (Nat.le_of_ble_eq_true rfl) rfl rfl ?_
    simp only [xwp_d d_E_init_0, xwp_d d_E_init_1, xwp_d d_E_init_4, xwp_d d_E_init_5, xwp_d d_E_init_6, xwp_d d_E_init_9, xwp_d d_E_init_10, xwp_d d_E_init_11, xwp_d d_E_init_14, f4_0, f4_1, f4_2, xstep, true_and, and_true, ↓reduceIte, Bool.false_eq_true, List.getElem?_cons_zero, List.getElem?_cons_succ, xs1, xs2, xclr, Value.category, List.length_cons, List.length_nil, Nat.reduceAdd, Nat.reduceLT, Nat.reduceEqDiff, Nat.reduceLeDiff, Nat.zero_add, xicmp, Nat.lt_add_left_iff_pos, Nat.add_zero, Nat.reduceBEq, beq_self_eq_true, Bool.or_true, Bool.true_or, Bool.or_false, Bool.false_or, fF_E, fN_E, fI_E, fJ_E, fX_E, cs_E_init]
    refine xPut_mk (xup_self _ _ _) (Or.inr ⟨rfl, rfl⟩) (Nat.le_of_ble_eq_true rfl) rfl rfl ?_
    simp only [xwp_d d_E_init_0, xwp_d d_E_init_1, xwp_d d_E_init_4, xwp_d d_E_init_5, xwp_d d_E_init_6, xwp_d d_E_init_9, xwp_d d_E_init_10, xwp_d d_E_init_11, xwp_d d_E_init_14, f4_0, f4_1, f4_2, xstep, true_and, and_true, ↓reduceIte, Bool.false_eq_true, List.getElem?_cons_zero, List.getElem?_cons_succ, xs1, xs2, xclr, Value.category, List.length_cons, List.length_nil, Nat.reduceAdd, Nat.reduceLT, Nat.reduceEqDiff, Nat.reduceLeDiff, Nat.zero_add, xicmp, Nat.lt_add_left_iff_pos, Nat.add_zero, Nat.reduceBEq, beq_self_eq_true, Bool.or_true, Bool.true_or, Bool.or_false, Bool.false_or, fF_E, fN_E, fI_E, fJ_E, fX_E, cs_E_init]
    exact ⟨trivial, Nat.le_refl _, Nat.le_refl _, rfl, by rw [xup_xup]; rfl⟩
def pr_JM_floorMod (x d : Nat) : xEn → List Value → xH → Prop := fun _ As _ => As = [.int (nI x), .int (nI d)] ∧ 0 < d ∧ d < 2 ^ 31 ∧ x < 2 ^ 31
def po_JM_floorMod (x d : Nat) : xEn → List Value → xH → Option Value → xH → Prop := fun _ _ G v G' => G' = G ∧ v = some (.int (nI (x % d)))
def cs_JM_floorMod (x d : Nat) (E : xEn) : Nat → Option xSp := fun x => match x with
  | _ => none
set_option maxHeartbeats 4000000 in
set_option maxRecDepth 100000 in
/-- Math.floorMod, both not below 0 -/
theorem c_JM_floorMod (x d : Nat) (l : Launch) : xMet l y_JM_floorMod prog_13_method_50_code 3 (some .int) 0 0 (pr_JM_floorMod x d) (po_JM_floorMod x d) 0 0 := by
  refine xMet_ofF (by decide +kernel) (fun E As G hpre => ?_)
  obtain ⟨rfl, h1, h2, h3⟩ := hpre
  have hxo : x ^^^ d < 2 ^ 31 := Nat.xor_lt_two_pow h3 h2
  refine ⟨by simp [xfl, Value.category], fun D b p e s m args below meth c hI => ?_⟩
  have hcs : ∀ (Q : State → Prop) (x : Nat) (sp : xSp), cs_JM_floorMod x d E x = some sp → xCd (xW p l e { frames := 0, cells := 0, slots := 0, locals := 0 } s m args below meth c Q D xcls b) { frames := 0, cells := 0, slots := 0, locals := 0 } prog_13_method_50_code x sp := fun Q x sp h => by
      unfold cs_JM_floorMod at h
      split at h
      · cases h
  have hOK := fun (po : Option Value → xH → Prop) => xOK_of (l := l) (e := e) (R := { frames := 0, cells := 0, slots := 0, locals := 0 }) (below := below) (mc := 0) (ms := 0) (po := po) (tb := tb_JM (cs_JM_floorMod x d E)) (ini := false) hI (fun h => by cases h) (okF_JM hI.1.2.2.2.2) (okN_JM hI.1.2.2.2.2) (okI_JM hI.1.2.2.2.2) (okJ_JM hI.1.2.2.2.2) (hcs _) (okX_JM hI.1.2.2.2.2 hI.2.1.2.2.2.1)
  refine xwp_sound (hd := fun _ => false) (I := fun _ _ _ _ _ _ => False) (hOK _) (fun _ _ _ _ _ _ h => h.elim) 60 _ _ _ _ _ _ ?_
  show xwp _ _ _ _ _ _ _ _ _ _ 0 [some (.int (nI x)), some (.int (nI d)), none] [] G 0 0
  simp only [xwp_d d_JM_floorMod_0, xwp_d d_JM_floorMod_1, xwp_d d_JM_floorMod_2, xwp_d d_JM_floorMod_3, xwp_d d_JM_floorMod_4, xwp_d d_JM_floorMod_5, xwp_d d_JM_floorMod_6, xwp_d d_JM_floorMod_7, xwp_d d_JM_floorMod_10, xwp_d d_JM_floorMod_11, xwp_d d_JM_floorMod_14, xwp_d d_JM_floorMod_15, xwp_d d_JM_floorMod_16, xwp_d d_JM_floorMod_17, xwp_d d_JM_floorMod_18, xwp_d d_JM_floorMod_19, (show xokj 11 7 ↔ True from iff_true_intro (show (0 : Int) ≤ ((11 : Nat) : Int) + 7 by decide)), (show xokj 7 11 ↔ True from iff_true_intro (show (0 : Int) ≤ ((7 : Nat) : Int) + 11 by decide)), (show xtgt 11 7 = 18 from rfl), (show xtgt 7 11 = 18 from rfl), f4_0, f4_1, f4_2, xstep, true_and, and_true, ↓reduceIte, Bool.false_eq_true, List.getElem?_cons_zero, List.getElem?_cons_succ, xs1, xs2, xclr, Value.category, List.length_cons, List.length_nil, Nat.reduceAdd, Nat.reduceLT, Nat.reduceEqDiff, Nat.reduceLeDiff, Nat.zero_add, xicmp, Nat.lt_add_left_iff_pos, Nat.add_zero, Nat.reduceBEq, beq_self_eq_true, Bool.or_true, Bool.true_or, Bool.or_false, Bool.false_or, fF_JM, fN_JM, fI_JM, fJ_JM, fX_JM, cs_JM_floorMod]
  refine ⟨nI_ne0 h1 h2, ?_⟩
  try simp only [xwp_d d_JM_floorMod_0, xwp_d d_JM_floorMod_1, xwp_d d_JM_floorMod_2, xwp_d d_JM_floorMod_3, xwp_d d_JM_floorMod_4, xwp_d d_JM_floorMod_5, xwp_d d_JM_floorMod_6, xwp_d d_JM_floorMod_7, xwp_d d_JM_floorMod_10, xwp_d d_JM_floorMod_11, xwp_d d_JM_floorMod_14, xwp_d d_JM_floorMod_15, xwp_d d_JM_floorMod_16, xwp_d d_JM_floorMod_17, xwp_d d_JM_floorMod_18, xwp_d d_JM_floorMod_19, (show xokj 11 7 ↔ True from iff_true_intro (show (0 : Int) ≤ ((11 : Nat) : Int) + 7 by decide)), (show xokj 7 11 ↔ True from iff_true_intro (show (0 : Int) ≤ ((7 : Nat) : Int) + 11 by decide)), (show xtgt 11 7 = 18 from rfl), (show xtgt 7 11 = 18 from rfl), f4_0, f4_1, f4_2, xstep, true_and, and_true, ↓reduceIte, Bool.false_eq_true, List.getElem?_cons_zero, List.getElem?_cons_succ, xs1, xs2, xclr, Value.category, List.length_cons, List.length_nil, Nat.reduceAdd, Nat.reduceLT, Nat.reduceEqDiff, Nat.reduceLeDiff, Nat.zero_add, xicmp, Nat.lt_add_left_iff_pos, Nat.add_zero, Nat.reduceBEq, beq_self_eq_true, Bool.or_true, Bool.true_or, Bool.or_false, Bool.false_or, fF_JM, fN_JM, fI_JM, fJ_JM, fX_JM, cs_JM_floorMod]
  rw [nx_xor]
  refine ⟨fun _ => ?_, fun q => absurd (nI_pos' hxo) q⟩
  simp only [xwp_d d_JM_floorMod_0, xwp_d d_JM_floorMod_1, xwp_d d_JM_floorMod_2, xwp_d d_JM_floorMod_3, xwp_d d_JM_floorMod_4, xwp_d d_JM_floorMod_5, xwp_d d_JM_floorMod_6, xwp_d d_JM_floorMod_7, xwp_d d_JM_floorMod_10, xwp_d d_JM_floorMod_11, xwp_d d_JM_floorMod_14, xwp_d d_JM_floorMod_15, xwp_d d_JM_floorMod_16, xwp_d d_JM_floorMod_17, xwp_d d_JM_floorMod_18, xwp_d d_JM_floorMod_19, (show xokj 11 7 ↔ True from iff_true_intro (show (0 : Int) ≤ ((11 : Nat) : Int) + 7 by decide)), (show xokj 7 11 ↔ True from iff_true_intro (show (0 : Int) ≤ ((7 : Nat) : Int) + 11 by decide)), (show xtgt 11 7 = 18 from rfl), (show xtgt 7 11 = 18 from rfl), f4_0, f4_1, f4_2, xstep, true_and, and_true, ↓reduceIte, Bool.false_eq_true, List.getElem?_cons_zero, List.getElem?_cons_succ, xs1, xs2, xclr, Value.category, List.length_cons, List.length_nil, Nat.reduceAdd, Nat.reduceLT, Nat.reduceEqDiff, Nat.reduceLeDiff, Nat.zero_add, xicmp, Nat.lt_add_left_iff_pos, Nat.add_zero, Nat.reduceBEq, beq_self_eq_true, Bool.or_true, Bool.true_or, Bool.or_false, Bool.false_or, fF_JM, fN_JM, fI_JM, fJ_JM, fX_JM, cs_JM_floorMod]
  rw [pk_rem h3 h1 h2]
  exact ⟨rfl, Nat.le_refl _, Nat.le_refl _, rfl, rfl⟩
def pr_K_partOf (fm : Nat) : xEn → List Value → xH → Prop := fun _ As _ => As = [.int (nI fm)] ∧ fm < 2 ^ 31
def po_K_partOf (fm : Nat) : xEn → List Value → xH → Option Value → xH → Prop := fun _ _ G v G' => G' = G ∧ v = some (.int (nI (fm % 8)))
def cs_K_partOf (fm : Nat) (E : xEn) : Nat → Option xSp := fun x => match x with
  | 32 => some ((2, 2), pr_JM_floorMod fm 8 E, po_JM_floorMod fm 8 E, 0, 0)
  | _ => none
set_option maxHeartbeats 4000000 in
set_option maxRecDepth 100000 in
/-- Campaign.partOf(formula) -/
theorem c_K_partOf (fm : Nat) (l : Launch) : xMet l y_K_partOf prog_2_method_2_code 1 (some .int) 1 22 (pr_K_partOf fm) (po_K_partOf fm) 0 0 := by
  refine xMet_ofF (by decide +kernel) (fun E As G hpre => ?_)
  obtain ⟨rfl, h1⟩ := hpre
  refine ⟨by simp [xfl, Value.category], fun D b p e s m args below meth c hI => ?_⟩
  have hcs : ∀ (Q : State → Prop) (x : Nat) (sp : xSp), cs_K_partOf fm E x = some sp → xCd (xW p l e { frames := 1, cells := 0, slots := 0, locals := 22 } s m args below meth c Q D xcls b) { frames := 1, cells := 0, slots := 0, locals := 22 } prog_2_method_2_code x sp := fun Q x sp h => by
      unfold cs_K_partOf at h
      split at h
      · cases h; exact xcd_S hI.1 hI.2.1 hI.2.2.1 (c_JM_floorMod fm 8 l) k_179 k_180 k_10 k_181 (by decide +kernel) ⟨by decide, by decide⟩
      · cases h
  have hOK := fun (po : Option Value → xH → Prop) => xOK_of (l := l) (e := e) (R := { frames := 1, cells := 0, slots := 0, locals := 22 }) (below := below) (mc := 0) (ms := 0) (po := po) (tb := tb_K (cs_K_partOf fm E)) (ini := false) hI (fun h => by cases h) (okF_K hI.1.2.2.2.2) (okN_K hI.1.2.2.2.2) (okI_K hI.1.2.2.2.2) (okJ_K hI.1.2.2.2.2) (hcs _) (okX_K hI.1.2.2.2.2 hI.2.1.2.2.2.1)
  refine xwp_sound (hd := fun _ => false) (I := fun _ _ _ _ _ _ => False) (hOK _) (fun _ _ _ _ _ _ h => h.elim) 60 _ _ _ _ _ _ ?_
  show xwp _ _ _ _ _ _ _ _ _ _ 0 [some (.int (nI fm))] [] G 0 0
  simp only [xwp_d d_K_partOf_0, xwp_d d_K_partOf_1, xwp_d d_K_partOf_3, xwp_d d_K_partOf_6, cb_8, f4_0, xstep, true_and, and_true, ↓reduceIte, Bool.false_eq_true, List.getElem?_cons_zero, List.getElem?_cons_succ, xs1, xs2, xclr, Value.category, List.length_cons, List.length_nil, Nat.reduceAdd, Nat.reduceLT, Nat.reduceEqDiff, Nat.reduceLeDiff, Nat.zero_add, xicmp, Nat.lt_add_left_iff_pos, Nat.add_zero, Nat.reduceBEq, beq_self_eq_true, Bool.or_true, Bool.true_or, Bool.or_false, Bool.false_or, fF_K, fN_K, fI_K, fJ_K, fX_K, cs_K_partOf]
  refine xCal_mk [.int (nI fm), .int 8] [] rfl rfl ⟨rfl, by decide, by decide, h1⟩ (Nat.le_of_ble_eq_true rfl) (Nat.le_refl _) (Nat.le_refl _) (fun v G2 hv => ?_)
  obtain ⟨rfl, rfl⟩ := hv
  show xwp _ _ _ _ _ _ _ _ _ _ 6 [some (.int (nI fm))] [.int (nI (fm % 8))] G2 0 0
  simp only [xwp_d d_K_partOf_0, xwp_d d_K_partOf_1, xwp_d d_K_partOf_3, xwp_d d_K_partOf_6, cb_8, f4_0, xstep, true_and, and_true, ↓reduceIte, Bool.false_eq_true, List.getElem?_cons_zero, List.getElem?_cons_succ, xs1, xs2, xclr, Value.category, List.length_cons, List.length_nil, Nat.reduceAdd, Nat.reduceLT, Nat.reduceEqDiff, Nat.reduceLeDiff, Nat.zero_add, xicmp, Nat.lt_add_left_iff_pos, Nat.add_zero, Nat.reduceBEq, beq_self_eq_true, Bool.or_true, Bool.true_or, Bool.or_false, Bool.false_or, fF_K, fN_K, fI_K, fJ_K, fX_K, cs_K_partOf]
  exact ⟨rfl, Nat.le_refl _, Nat.le_refl _, rfl, rfl⟩
