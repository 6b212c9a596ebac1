/-! The walk's own rows, constants; then LEAVES: the JDK's list, read. -/
theorem xwp_d {cc : ByteArray} {tb : xTb} {A : xA4} {R : Room} {ini : Bool} {rt : Option FieldType} {P : Option Value → xH → Nat → Nat → Prop} {hd : Nat → Bool} {I : xJ} {f pc : Nat} {lv : xL} {st : List Value} {G : xH} {ce sl : Nat} {i : Instr} {len : Nat} (h : decode cc pc = .ok (i, len)) : xwp cc tb A R ini rt P hd I (f + 1) pc lv st G ce sl = if hd pc = true then I pc lv st G ce sl else xstep tb A R ini rt P (xwp cc tb A R ini rt P hd I f) pc i len lv st G ce sl := by
  simp only [xwp, h]
theorem xMet_ofF {l : Launch} {y : MethodName} {cc : ByteArray} {mx : Nat} {ret : Option FieldType} {fr lo mc ms : Nat} {pre : xEn → List Value → xH → Prop} {post : xEn → List Value → xH → Option Value → xH → Prop} (hy : plainFor y = true)
    (body : ∀ (E : xEn) (As : List Value) (G : xH), pre E As G → (xfl As).length ≤ mx ∧ ∀ (D : va_G) (b : Nat) (p : Program) (e : Env) (s : State) (m : MethodId) (args : Array Value) (below : List Frame) (meth : Method) (c : Code), xIn p s m args meth c D E b y cc mx ret →
      xW p l e { frames := fr, cells := mc, slots := ms, locals := lo } s m args below meth c (MQ below (xQc D b (post E As G)) args s mc ms (fun q => b ≤ q)) D xcls b 0 (xent As mx) [] G 0 0) : xMet l y cc mx ret fr lo pre post mc ms := by
  intro D E b As G hpre
  obtain ⟨hlen, body⟩ := body E As G hpre
  refine va_MetF (cc := cc) (maxL := mx) (ret := ret) hy rfl ?_
  intro p e s m args below meth c s₁ B hml hv
  obtain ⟨rfl, hbs, hP, hE⟩ := hv
  have hts := atoms_spec (ws := .code y cc mx ret :: xT) B.pre
  have hI : xIn p s m As.toArray meth c D E b y cc mx ret := ⟨⟨B.exec, B.bytes, rfl, findClass_of_methodNamed B.named, fun w hw => hts w (List.mem_cons_of_mem _ hw)⟩, hE, hbs, (name_of_methodNamed B.named B.method).1, B.returns, B.notSynchronized, hml⟩
  obtain ⟨h1, h2⟩ := xent_xl As mx hlen
  rw [lg_entry_eq]
  exact body D b p e s m As.toArray below meth c hI s.heap [] _ hP va_S.rf h1 (by rw [h2]; exact hml.symm)
theorem va_rf_some (x : Nat) : va_rf (some x) = .ref x := rfl
theorem va_rf_none : va_rf none = .null := rfl
def pr_O_init : xEn → List Value → xH → Prop := fun _ As _ => ∃ a : Nat, As = [.ref a]
def po_O_init : xEn → List Value → xH → Option Value → xH → Prop := fun _ _ G v G' => v = none ∧ G' = G
theorem cb_m2 : (Int8.ofInt (-2)).toInt32 = (-2 : Int32) := by decide +kernel
theorem cb_m3 : (Int8.ofInt (-3)).toInt32 = (-3 : Int32) := by decide +kernel
theorem cb_m4 : (Int8.ofInt (-4)).toInt32 = (-4 : Int32) := by decide +kernel
theorem cb_10 : (Int8.ofInt 10).toInt32 = (10 : Int32) := by decide +kernel
theorem cb_100 : (Int8.ofInt 100).toInt32 = (100 : Int32) := by decide +kernel
theorem cb_13 : (Int8.ofInt 13).toInt32 = (13 : Int32) := by decide +kernel
theorem cb_15 : (Int8.ofInt 15).toInt32 = (15 : Int32) := by decide +kernel
theorem cb_20 : (Int8.ofInt 20).toInt32 = (20 : Int32) := by decide +kernel
theorem cb_21 : (Int8.ofInt 21).toInt32 = (21 : Int32) := by decide +kernel
theorem cb_32 : (Int8.ofInt 32).toInt32 = (32 : Int32) := by decide +kernel
theorem cb_33 : (Int8.ofInt 33).toInt32 = (33 : Int32) := by decide +kernel
theorem cb_40 : (Int8.ofInt 40).toInt32 = (40 : Int32) := by decide +kernel
theorem cb_41 : (Int8.ofInt 41).toInt32 = (41 : Int32) := by decide +kernel
theorem cb_6 : (Int8.ofInt 6).toInt32 = (6 : Int32) := by decide +kernel
theorem cb_7 : (Int8.ofInt 7).toInt32 = (7 : Int32) := by decide +kernel
theorem cb_8 : (Int8.ofInt 8).toInt32 = (8 : Int32) := by decide +kernel
theorem cs_1000 : (Int16.ofInt 1000).toInt32 = (1000 : Int32) := by decide +kernel
theorem cs_1023 : (Int16.ofInt 1023).toInt32 = (1023 : Int32) := by decide +kernel
theorem cs_1024 : (Int16.ofInt 1024).toInt32 = (1024 : Int32) := by decide +kernel
theorem cs_1681 : (Int16.ofInt 1681).toInt32 = (1681 : Int32) := by decide +kernel
theorem cs_20541 : (Int16.ofInt 20541).toInt32 = (20541 : Int32) := by decide +kernel
theorem cs_4008 : (Int16.ofInt 4008).toInt32 = (4008 : Int32) := by decide +kernel
theorem cs_500 : (Int16.ofInt 500).toInt32 = (500 : Int32) := by decide +kernel
theorem cs_501 : (Int16.ofInt 501).toInt32 = (501 : Int32) := by decide +kernel
theorem cs_8192 : (Int16.ofInt 8192).toInt32 = (8192 : Int32) := by decide +kernel
theorem cs_861 : (Int16.ofInt 861).toInt32 = (861 : Int32) := by decide +kernel
theorem ci_m1 : Int32.ofInt (-1) = (-1 : Int32) := by decide +kernel
theorem ci_0 : Int32.ofInt 0 = (0 : Int32) := by decide +kernel
theorem ci_1 : Int32.ofInt 1 = (1 : Int32) := by decide +kernel
theorem ci_2 : Int32.ofInt 2 = (2 : Int32) := by decide +kernel
theorem ci_3 : Int32.ofInt 3 = (3 : Int32) := by decide +kernel
theorem ci_4 : Int32.ofInt 4 = (4 : Int32) := by decide +kernel
theorem ci_5 : Int32.ofInt 5 = (5 : Int32) := by decide +kernel
theorem ci_8 : Int32.ofInt 8 = (8 : Int32) := by decide +kernel
theorem f4_0 : ((0 : Fin 4) : Nat) = 0 := rfl
theorem f4_1 : ((1 : Fin 4) : Nat) = 1 := rfl
theorem f4_2 : ((2 : Fin 4) : Nat) = 2 := rfl
theorem f4_3 : ((3 : Fin 4) : Nat) = 3 := rfl
theorem cl_0 : Int64.ofNat ((0 : Fin 2) : Nat) = 0 := by decide +kernel
theorem cl_1 : Int64.ofNat ((1 : Fin 2) : Nat) = 1 := by decide +kernel
def pr_K_bit : xEn → List Value → xH → Prop := fun _ As G => ∃ (a : Nat) (fs : List Value) (n : Int32), As = [.ref a] ∧ G a = some (.inr (2, fs)) ∧ fs[0]? = some (.int n)
def po_K_bit : xEn → List Value → xH → Option Value → xH → Prop := fun _ As G v G' => G' = G ∧ ∀ (a : Nat) (fs : List Value) (n : Int32), As = [.ref a] → G a = some (.inr (2, fs)) → fs[0]? = some (.int n) → v = some (.long ((1 : Int64) <<< (n.toInt64 &&& 63)))
def cs_K_bit (E : xEn) : Nat → Option xSp := fun x => match x with
  | _ => none
set_option maxHeartbeats 4000000 in
set_option maxRecDepth 100000 in
/-- Campaign.bit(): 1L << number -/
theorem c_K_bit (l : Launch) : xMet l y_K_bit prog_2_method_3_code 1 (some .long) 0 0 (pr_K_bit) (po_K_bit) 0 0 := by
  refine xMet_ofF (by decide +kernel) (fun E As G hpre => ?_)
  obtain ⟨a, fs, n, rfl, h1, h2⟩ := hpre
  refine ⟨by simp [xfl, Value.category], fun D b p e s m args below meth c hI => ?_⟩
  have hcs : ∀ (Q : State → Prop) (x : Nat) (sp : xSp), cs_K_bit E x = some sp → xCd (xW p l e { frames := 0, cells := 0, slots := 0, locals := 0 } s m args below meth c Q D xcls b) { frames := 0, cells := 0, slots := 0, locals := 0 } prog_2_method_3_code x sp := fun Q x sp h => by
      unfold cs_K_bit at h
      split at h
      · cases h
  have hOK := fun (po : Option Value → xH → Prop) => xOK_of (l := l) (e := e) (R := { frames := 0, cells := 0, slots := 0, locals := 0 }) (below := below) (mc := 0) (ms := 0) (po := po) (tb := tb_K (cs_K_bit E)) (ini := false) hI (fun h => by cases h) (okF_K hI.1.2.2.2.2) (okN_K hI.1.2.2.2.2) (okI_K hI.1.2.2.2.2) (okJ_K hI.1.2.2.2.2) (hcs _) (okX_K hI.1.2.2.2.2 hI.2.1.2.2.2.1)
  refine xwp_sound (hd := fun _ => false) (I := fun _ _ _ _ _ _ => False) (hOK _) (fun _ _ _ _ _ _ h => h.elim) 60 _ _ _ _ _ _ ?_
  show xwp _ _ _ _ _ _ _ _ _ _ 0 [some (.ref a)] [] G 0 0
  simp only [xwp_d d_K_bit_0, xwp_d d_K_bit_1, xwp_d d_K_bit_2, xwp_d d_K_bit_5, xwp_d d_K_bit_6, cl_1, f4_0, xstep, true_and, and_true, ↓reduceIte, Bool.false_eq_true, List.getElem?_cons_zero, List.getElem?_cons_succ, xs1, xs2, xclr, Value.category, List.length_cons, List.length_nil, Nat.reduceAdd, Nat.reduceLT, Nat.reduceEqDiff, Nat.reduceLeDiff, Nat.zero_add, xicmp, Nat.lt_add_left_iff_pos, Nat.add_zero, Nat.reduceBEq, beq_self_eq_true, Bool.or_true, Bool.true_or, Bool.or_false, Bool.false_or, fF_K, fN_K, fI_K, fJ_K, fX_K, cs_K_bit]
  refine xGet_mk h1 h2 ?_
  simp only [xwp_d d_K_bit_0, xwp_d d_K_bit_1, xwp_d d_K_bit_2, xwp_d d_K_bit_5, xwp_d d_K_bit_6, cl_1, f4_0, xstep, true_and, and_true, ↓reduceIte, Bool.false_eq_true, List.getElem?_cons_zero, List.getElem?_cons_succ, xs1, xs2, xclr, Value.category, List.length_cons, List.length_nil, Nat.reduceAdd, Nat.reduceLT, Nat.reduceEqDiff, Nat.reduceLeDiff, Nat.zero_add, xicmp, Nat.lt_add_left_iff_pos, Nat.add_zero, Nat.reduceBEq, beq_self_eq_true, Bool.or_true, Bool.true_or, Bool.or_false, Bool.false_or, fF_K, fN_K, fI_K, fJ_K, fX_K, cs_K_bit]
  refine ⟨trivial, Nat.le_refl _, Nat.le_refl _, rfl, fun a' fs' n' e1 e2 e3 => ?_⟩
  cases e1
  rw [h1] at e2
  cases e2
  rw [h2] at e3
  cases e3
  rfl
def pr_A_size : xEn → List Value → xH → Prop := fun _ As G => ∃ (a : Nat) (u w : Value) (n : Int32), As = [.ref a] ∧ G a = some (.inr (6, [u, .int n, w]))
def po_A_size : xEn → List Value → xH → Option Value → xH → Prop := fun _ As G v G' => G' = G ∧ ∀ (a : Nat) (u w : Value) (n : Int32), As = [.ref a] → G a = some (.inr (6, [u, .int n, w])) → v = some (.int n)
def cs_A_size (E : xEn) : Nat → Option xSp := fun x => match x with
  | _ => none
set_option maxHeartbeats 4000000 in
set_option maxRecDepth 100000 in
/-- ArrayList.size() -/
theorem c_A_size (l : Launch) : xMet l y_A_size prog_20_method_8_code 1 (some .int) 0 0 (pr_A_size) (po_A_size) 0 0 := by
  refine xMet_ofF (by decide +kernel) (fun E As G hpre => ?_)
  obtain ⟨a, u, w, n, rfl, h1⟩ := hpre
  refine ⟨by simp [xfl, Value.category], fun D b p e s m args below meth c hI => ?_⟩
  have hcs : ∀ (Q : State → Prop) (x : Nat) (sp : xSp), cs_A_size E x = some sp → xCd (xW p l e { frames := 0, cells := 0, slots := 0, locals := 0 } s m args below meth c Q D xcls b) { frames := 0, cells := 0, slots := 0, locals := 0 } prog_20_method_8_code x sp := fun Q x sp h => by
      unfold cs_A_size at h
      split at h
      · cases h
  have hOK := fun (po : Option Value → xH → Prop) => xOK_of (l := l) (e := e) (R := { frames := 0, cells := 0, slots := 0, locals := 0 }) (below := below) (mc := 0) (ms := 0) (po := po) (tb := tb_A (cs_A_size E)) (ini := false) hI (fun h => by cases h) (okF_A hI.1.2.2.2.2) (okN_A hI.1.2.2.2.2) (okI_A hI.1.2.2.2.2) (okJ_A hI.1.2.2.2.2) (hcs _) (okX_A hI.1.2.2.2.2 hI.2.1.2.2.2.1)
  refine xwp_sound (hd := fun _ => false) (I := fun _ _ _ _ _ _ => False) (hOK _) (fun _ _ _ _ _ _ h => h.elim) 60 _ _ _ _ _ _ ?_
  show xwp _ _ _ _ _ _ _ _ _ _ 0 [some (.ref a)] [] G 0 0
  simp only [xwp_d d_A_size_0, xwp_d d_A_size_1, xwp_d d_A_size_4, f4_0, xstep, true_and, and_true, ↓reduceIte, Bool.false_eq_true, List.getElem?_cons_zero, List.getElem?_cons_succ, xs1, xs2, xclr, Value.category, List.length_cons, List.length_nil, Nat.reduceAdd, Nat.reduceLT, Nat.reduceEqDiff, Nat.reduceLeDiff, Nat.zero_add, xicmp, Nat.lt_add_left_iff_pos, Nat.add_zero, Nat.reduceBEq, beq_self_eq_true, Bool.or_true, Bool.true_or, Bool.or_false, Bool.false_or, fF_A, fN_A, fI_A, fJ_A, fX_A, cs_A_size]
  refine xGet_mk h1 rfl ?_
  simp only [xwp_d d_A_size_0, xwp_d d_A_size_1, xwp_d d_A_size_4, f4_0, xstep, true_and, and_true, ↓reduceIte, Bool.false_eq_true, List.getElem?_cons_zero, List.getElem?_cons_succ, xs1, xs2, xclr, Value.category, List.length_cons, List.length_nil, Nat.reduceAdd, Nat.reduceLT, Nat.reduceEqDiff, Nat.reduceLeDiff, Nat.zero_add, xicmp, Nat.lt_add_left_iff_pos, Nat.add_zero, Nat.reduceBEq, beq_self_eq_true, Bool.or_true, Bool.true_or, Bool.or_false, Bool.false_or, fF_A, fN_A, fI_A, fJ_A, fX_A, cs_A_size]
  refine ⟨rfl, Nat.le_refl _, Nat.le_refl _, rfl, fun a' u' w' n' e1 e2 => ?_⟩
  cases e1
  rw [h1] at e2
  cases e2
  rfl
def pr_A_isEmpty : xEn → List Value → xH → Prop := fun _ As G => ∃ (a : Nat) (u w : Value) (n : Int32), As = [.ref a] ∧ G a = some (.inr (6, [u, .int n, w]))
def po_A_isEmpty : xEn → List Value → xH → Option Value → xH → Prop := fun _ As G v G' => G' = G ∧ ∀ (a : Nat) (u w : Value) (n : Int32), As = [.ref a] → G a = some (.inr (6, [u, .int n, w])) → v = some (.int (if n = 0 then 1 else 0))
def cs_A_isEmpty (E : xEn) : Nat → Option xSp := fun x => match x with
  | _ => none
set_option maxHeartbeats 4000000 in
set_option maxRecDepth 100000 in
/-- ArrayList.isEmpty() -/
theorem c_A_isEmpty (l : Launch) : xMet l y_A_isEmpty prog_20_method_9_code 1 (some .boolean) 0 0 (pr_A_isEmpty) (po_A_isEmpty) 0 0 := by
  refine xMet_ofF (by decide +kernel) (fun E As G hpre => ?_)
  obtain ⟨a, u, w, n, rfl, h1⟩ := hpre
  refine ⟨by simp [xfl, Value.category], fun D b p e s m args below meth c hI => ?_⟩
  have hcs : ∀ (Q : State → Prop) (x : Nat) (sp : xSp), cs_A_isEmpty E x = some sp → xCd (xW p l e { frames := 0, cells := 0, slots := 0, locals := 0 } s m args below meth c Q D xcls b) { frames := 0, cells := 0, slots := 0, locals := 0 } prog_20_method_9_code x sp := fun Q x sp h => by
      unfold cs_A_isEmpty at h
      split at h
      · cases h
  have hOK := fun (po : Option Value → xH → Prop) => xOK_of (l := l) (e := e) (R := { frames := 0, cells := 0, slots := 0, locals := 0 }) (below := below) (mc := 0) (ms := 0) (po := po) (tb := tb_A (cs_A_isEmpty E)) (ini := false) hI (fun h => by cases h) (okF_A hI.1.2.2.2.2) (okN_A hI.1.2.2.2.2) (okI_A hI.1.2.2.2.2) (okJ_A hI.1.2.2.2.2) (hcs _) (okX_A hI.1.2.2.2.2 hI.2.1.2.2.2.1)
  refine xwp_sound (hd := fun _ => false) (I := fun _ _ _ _ _ _ => False) (hOK _) (fun _ _ _ _ _ _ h => h.elim) 60 _ _ _ _ _ _ ?_
  show xwp _ _ _ _ _ _ _ _ _ _ 0 [some (.ref a)] [] G 0 0
  simp only [xwp_d d_A_isEmpty_0, xwp_d d_A_isEmpty_1, xwp_d d_A_isEmpty_4, xwp_d d_A_isEmpty_7, xwp_d d_A_isEmpty_8, xwp_d d_A_isEmpty_11, xwp_d d_A_isEmpty_12, (show xokj 4 7 ↔ True from iff_true_intro (show (0 : Int) ≤ ((4 : Nat) : Int) + 7 by decide)), (show xokj 8 4 ↔ True from iff_true_intro (show (0 : Int) ≤ ((8 : Nat) : Int) + 4 by decide)), (show xtgt 4 7 = 11 from rfl), (show xtgt 8 4 = 12 from rfl), ci_0, ci_1, f4_0, xstep, true_and, and_true, ↓reduceIte, Bool.false_eq_true, List.getElem?_cons_zero, List.getElem?_cons_succ, xs1, xs2, xclr, Value.category, List.length_cons, List.length_nil, Nat.reduceAdd, Nat.reduceLT, Nat.reduceEqDiff, Nat.reduceLeDiff, Nat.zero_add, xicmp, Nat.lt_add_left_iff_pos, Nat.add_zero, Nat.reduceBEq, beq_self_eq_true, Bool.or_true, Bool.true_or, Bool.or_false, Bool.false_or, fF_A, fN_A, fI_A, fJ_A, fX_A, cs_A_isEmpty]
  refine xGet_mk h1 rfl ?_
  simp only [xwp_d d_A_isEmpty_0, xwp_d d_A_isEmpty_1, xwp_d d_A_isEmpty_4, xwp_d d_A_isEmpty_7, xwp_d d_A_isEmpty_8, xwp_d d_A_isEmpty_11, xwp_d d_A_isEmpty_12, (show xokj 4 7 ↔ True from iff_true_intro (show (0 : Int) ≤ ((4 : Nat) : Int) + 7 by decide)), (show xokj 8 4 ↔ True from iff_true_intro (show (0 : Int) ≤ ((8 : Nat) : Int) + 4 by decide)), (show xtgt 4 7 = 11 from rfl), (show xtgt 8 4 = 12 from rfl), ci_0, ci_1, f4_0, xstep, true_and, and_true, ↓reduceIte, Bool.false_eq_true, List.getElem?_cons_zero, List.getElem?_cons_succ, xs1, xs2, xclr, Value.category, List.length_cons, List.length_nil, Nat.reduceAdd, Nat.reduceLT, Nat.reduceEqDiff, Nat.reduceLeDiff, Nat.zero_add, xicmp, Nat.lt_add_left_iff_pos, Nat.add_zero, Nat.reduceBEq, beq_self_eq_true, Bool.or_true, Bool.true_or, Bool.or_false, Bool.false_or, fF_A, fN_A, fI_A, fJ_A, fX_A, cs_A_isEmpty]
  refine ⟨fun q => ?_, fun q => ?_⟩
  · simp only [xwp_d d_A_isEmpty_0, xwp_d d_A_isEmpty_1, xwp_d d_A_isEmpty_4, xwp_d d_A_isEmpty_7, xwp_d d_A_isEmpty_8, xwp_d d_A_isEmpty_11, xwp_d d_A_isEmpty_12, (show xokj 4 7 ↔ True from iff_true_intro (show (0 : Int) ≤ ((4 : Nat) : Int) + 7 by decide)), (show xokj 8 4 ↔ True from iff_true_intro (show (0 : Int) ≤ ((8 : Nat) : Int) + 4 by decide)), (show xtgt 4 7 = 11 from rfl), (show xtgt 8 4 = 12 from rfl), ci_0, ci_1, f4_0, xstep, true_and, and_true, ↓reduceIte, Bool.false_eq_true, List.getElem?_cons_zero, List.getElem?_cons_succ, xs1, xs2, xclr, Value.category, List.length_cons, List.length_nil, Nat.reduceAdd, Nat.reduceLT, Nat.reduceEqDiff, Nat.reduceLeDiff, Nat.zero_add, xicmp, Nat.lt_add_left_iff_pos, Nat.add_zero, Nat.reduceBEq, beq_self_eq_true, Bool.or_true, Bool.true_or, Bool.or_false, Bool.false_or, fF_A, fN_A, fI_A, fJ_A, fX_A, cs_A_isEmpty]
    refine ⟨rfl, Nat.le_refl _, Nat.le_refl _, rfl, fun a' u' w' n' e1 e2 => ?_⟩
    cases e1
    rw [h1] at e2
    cases e2
    rw [if_neg q]
  · simp only [xwp_d d_A_isEmpty_0, xwp_d d_A_isEmpty_1, xwp_d d_A_isEmpty_4, xwp_d d_A_isEmpty_7, xwp_d d_A_isEmpty_8, xwp_d d_A_isEmpty_11, xwp_d d_A_isEmpty_12, (show xokj 4 7 ↔ True from iff_true_intro (show (0 : Int) ≤ ((4 : Nat) : Int) + 7 by decide)), (show xokj 8 4 ↔ True from iff_true_intro (show (0 : Int) ≤ ((8 : Nat) : Int) + 4 by decide)), (show xtgt 4 7 = 11 from rfl), (show xtgt 8 4 = 12 from rfl), ci_0, ci_1, f4_0, xstep, true_and, and_true, ↓reduceIte, Bool.false_eq_true, List.getElem?_cons_zero, List.getElem?_cons_succ, xs1, xs2, xclr, Value.category, List.length_cons, List.length_nil, Nat.reduceAdd, Nat.reduceLT, Nat.reduceEqDiff, Nat.reduceLeDiff, Nat.zero_add, xicmp, Nat.lt_add_left_iff_pos, Nat.add_zero, Nat.reduceBEq, beq_self_eq_true, Bool.or_true, Bool.true_or, Bool.or_false, Bool.false_or, fF_A, fN_A, fI_A, fJ_A, fX_A, cs_A_isEmpty]
    refine ⟨rfl, Nat.le_refl _, Nat.le_refl _, rfl, fun a' u' w' n' e1 e2 => ?_⟩
    cases e1
    rw [h1] at e2
    cases e2
    rw [if_pos (Decidable.not_not.mp q)]
def pr_A_elementData : xEn → List Value → xH → Prop := fun E As G => ∃ (a ed N : Nat) (u w : Value) (i : Int32) (f : Nat → Option Nat), As = [.ref a, .int i] ∧ G a = some (.inr (6, [.ref ed, u, w])) ∧ G ed = some (.inl (E.1.2.2.2, N, .inr (.inr (.inr (.inr f))))) ∧ vp_in i N
def po_A_elementData : xEn → List Value → xH → Option Value → xH → Prop := fun E As G v G' => G' = G ∧ ∀ (a ed N : Nat) (u w : Value) (i : Int32) (f : Nat → Option Nat), As = [.ref a, .int i] → G a = some (.inr (6, [.ref ed, u, w])) → G ed = some (.inl (E.1.2.2.2, N, .inr (.inr (.inr (.inr f))))) → v = some (va_rf (f i.toNatClampNeg))
def cs_A_elementData (E : xEn) : Nat → Option xSp := fun x => match x with
  | _ => none
set_option maxHeartbeats 4000000 in
set_option maxRecDepth 100000 in
/-- ArrayList.elementData(i) -/
theorem c_A_elementData (l : Launch) : xMet l y_A_elementData prog_20_method_18_code 2 (some (.object "java/lang/Object")) 0 0 (pr_A_elementData) (po_A_elementData) 0 0 := by
  refine xMet_ofF (by decide +kernel) (fun E As G hpre => ?_)
  obtain ⟨a, ed, N, u, w, i, f, rfl, h1, h2, h3⟩ := hpre
  refine ⟨by simp [xfl, Value.category], fun D b p e s m args below meth c hI => ?_⟩
  have hcs : ∀ (Q : State → Prop) (x : Nat) (sp : xSp), cs_A_elementData E x = some sp → xCd (xW p l e { frames := 0, cells := 0, slots := 0, locals := 0 } s m args below meth c Q D xcls b) { frames := 0, cells := 0, slots := 0, locals := 0 } prog_20_method_18_code x sp := fun Q x sp h => by
      unfold cs_A_elementData at h
      split at h
      · cases h
  have hOK := fun (po : Option Value → xH → Prop) => xOK_of (l := l) (e := e) (R := { frames := 0, cells := 0, slots := 0, locals := 0 }) (below := below) (mc := 0) (ms := 0) (po := po) (tb := tb_A (cs_A_elementData E)) (ini := false) hI (fun h => by cases h) (okF_A hI.1.2.2.2.2) (okN_A hI.1.2.2.2.2) (okI_A hI.1.2.2.2.2) (okJ_A hI.1.2.2.2.2) (hcs _) (okX_A hI.1.2.2.2.2 hI.2.1.2.2.2.1)
  refine xwp_sound (hd := fun _ => false) (I := fun _ _ _ _ _ _ => False) (hOK _) (fun _ _ _ _ _ _ h => h.elim) 60 _ _ _ _ _ _ ?_
  show xwp _ _ _ _ _ _ _ _ _ _ 0 [some (.ref a), some (.int i)] [] G 0 0
  simp only [xwp_d d_A_elementData_0, xwp_d d_A_elementData_1, xwp_d d_A_elementData_4, xwp_d d_A_elementData_5, xwp_d d_A_elementData_6, f4_0, f4_1, xstep, true_and, and_true, ↓reduceIte, Bool.false_eq_true, List.getElem?_cons_zero, List.getElem?_cons_succ, xs1, xs2, xclr, Value.category, List.length_cons, List.length_nil, Nat.reduceAdd, Nat.reduceLT, Nat.reduceEqDiff, Nat.reduceLeDiff, Nat.zero_add, xicmp, Nat.lt_add_left_iff_pos, Nat.add_zero, Nat.reduceBEq, beq_self_eq_true, Bool.or_true, Bool.true_or, Bool.or_false, Bool.false_or, fF_A, fN_A, fI_A, fJ_A, fX_A, cs_A_elementData]
  refine xGet_mk h1 rfl ?_
  simp only [xwp_d d_A_elementData_0, xwp_d d_A_elementData_1, xwp_d d_A_elementData_4, xwp_d d_A_elementData_5, xwp_d d_A_elementData_6, f4_0, f4_1, xstep, true_and, and_true, ↓reduceIte, Bool.false_eq_true, List.getElem?_cons_zero, List.getElem?_cons_succ, xs1, xs2, xclr, Value.category, List.length_cons, List.length_nil, Nat.reduceAdd, Nat.reduceLT, Nat.reduceEqDiff, Nat.reduceLeDiff, Nat.zero_add, xicmp, Nat.lt_add_left_iff_pos, Nat.add_zero, Nat.reduceBEq, beq_self_eq_true, Bool.or_true, Bool.true_or, Bool.or_false, Bool.false_or, fF_A, fN_A, fI_A, fJ_A, fX_A, cs_A_elementData]
  refine ⟨N, f, h2, h3, ?_⟩
  have hend : ∀ v : Option Value, v = some (va_rf (f i.toNatClampNeg)) → po_A_elementData E [.ref a, .int i] G v G := fun v hv => ⟨rfl, fun a' ed' N' u' w' i' f' e1 e2 e3 => by
    cases e1
    rw [h1] at e2
    cases e2
    rw [h2] at e3
    cases e3
    exact hv⟩
  cases hf : f i.toNatClampNeg with
  | none =>
    simp only [va_rf_none]
    simp only [xwp_d d_A_elementData_0, xwp_d d_A_elementData_1, xwp_d d_A_elementData_4, xwp_d d_A_elementData_5, xwp_d d_A_elementData_6, f4_0, f4_1, xstep, true_and, and_true, ↓reduceIte, Bool.false_eq_true, List.getElem?_cons_zero, List.getElem?_cons_succ, xs1, xs2, xclr, Value.category, List.length_cons, List.length_nil, Nat.reduceAdd, Nat.reduceLT, Nat.reduceEqDiff, Nat.reduceLeDiff, Nat.zero_add, xicmp, Nat.lt_add_left_iff_pos, Nat.add_zero, Nat.reduceBEq, beq_self_eq_true, Bool.or_true, Bool.true_or, Bool.or_false, Bool.false_or, fF_A, fN_A, fI_A, fJ_A, fX_A, cs_A_elementData]
    exact ⟨trivial, Nat.le_refl _, Nat.le_refl _, hend _ (by rw [hf]; rfl)⟩
  | some q =>
    simp only [va_rf_some]
    simp only [xwp_d d_A_elementData_0, xwp_d d_A_elementData_1, xwp_d d_A_elementData_4, xwp_d d_A_elementData_5, xwp_d d_A_elementData_6, f4_0, f4_1, xstep, true_and, and_true, ↓reduceIte, Bool.false_eq_true, List.getElem?_cons_zero, List.getElem?_cons_succ, xs1, xs2, xclr, Value.category, List.length_cons, List.length_nil, Nat.reduceAdd, Nat.reduceLT, Nat.reduceEqDiff, Nat.reduceLeDiff, Nat.zero_add, xicmp, Nat.lt_add_left_iff_pos, Nat.add_zero, Nat.reduceBEq, beq_self_eq_true, Bool.or_true, Bool.true_or, Bool.or_false, Bool.false_or, fF_A, fN_A, fI_A, fJ_A, fX_A, cs_A_elementData]
    exact ⟨trivial, Nat.le_refl _, Nat.le_refl _, hend _ (by rw [hf]; rfl)⟩
def pr_JP_checkIndex : xEn → List Value → xH → Prop := fun _ As _ => ∃ i n : Int32, As = [.int i, .int n, .null] ∧ ¬ i < 0 ∧ i < n
def po_JP_checkIndex : xEn → List Value → xH → Option Value → xH → Prop := fun _ _ G v G' => G' = G ∧ ∃ i : Int32, v = some (.int i)
def cs_JP_checkIndex (E : xEn) : Nat → Option xSp := fun x => match x with
  | _ => none
set_option maxHeartbeats 4000000 in
set_option maxRecDepth 100000 in
/-- Preconditions.checkIndex -/
theorem c_JP_checkIndex (l : Launch) : xMet l y_JP_checkIndex prog_28_method_11_code 3 (some .int) 0 0 (pr_JP_checkIndex) (po_JP_checkIndex) 0 0 := by
  refine xMet_ofF (by decide +kernel) (fun E As G hpre => ?_)
  obtain ⟨i, n, rfl, h1, h2⟩ := hpre
  refine ⟨by simp [xfl, Value.category], fun D b p e s m args below meth c hI => ?_⟩
  have hcs : ∀ (Q : State → Prop) (x : Nat) (sp : xSp), cs_JP_checkIndex E x = some sp → xCd (xW p l e { frames := 0, cells := 0, slots := 0, locals := 0 } s m args below meth c Q D xcls b) { frames := 0, cells := 0, slots := 0, locals := 0 } prog_28_method_11_code x sp := fun Q x sp h => by
      unfold cs_JP_checkIndex at h
      split at h
      · cases h
  have hOK := fun (po : Option Value → xH → Prop) => xOK_of (l := l) (e := e) (R := { frames := 0, cells := 0, slots := 0, locals := 0 }) (below := below) (mc := 0) (ms := 0) (po := po) (tb := tb_JP (cs_JP_checkIndex E)) (ini := false) hI (fun h => by cases h) (okF_JP hI.1.2.2.2.2) (okN_JP hI.1.2.2.2.2) (okI_JP hI.1.2.2.2.2) (okJ_JP hI.1.2.2.2.2) (hcs _) (okX_JP hI.1.2.2.2.2 hI.2.1.2.2.2.1)
  refine xwp_sound (hd := fun _ => false) (I := fun _ _ _ _ _ _ => False) (hOK _) (fun _ _ _ _ _ _ h => h.elim) 60 _ _ _ _ _ _ ?_
  show xwp _ _ _ _ _ _ _ _ _ _ 0 [some (.int i), some (.int n), some .null] [] G 0 0
  simp only [xwp_d d_JP_checkIndex_0, xwp_d d_JP_checkIndex_1, xwp_d d_JP_checkIndex_4, xwp_d d_JP_checkIndex_5, xwp_d d_JP_checkIndex_6, xwp_d d_JP_checkIndex_9, xwp_d d_JP_checkIndex_10, xwp_d d_JP_checkIndex_11, xwp_d d_JP_checkIndex_12, xwp_d d_JP_checkIndex_15, xwp_d d_JP_checkIndex_16, xwp_d d_JP_checkIndex_17, (show xokj 1 8 ↔ True from iff_true_intro (show (0 : Int) ≤ ((1 : Nat) : Int) + 8 by decide)), (show xokj 6 10 ↔ True from iff_true_intro (show (0 : Int) ≤ ((6 : Nat) : Int) + 10 by decide)), (show xtgt 1 8 = 9 from rfl), (show xtgt 6 10 = 16 from rfl), f4_0, f4_1, f4_2, xstep, true_and, and_true, ↓reduceIte, Bool.false_eq_true, List.getElem?_cons_zero, List.getElem?_cons_succ, xs1, xs2, xclr, Value.category, List.length_cons, List.length_nil, Nat.reduceAdd, Nat.reduceLT, Nat.reduceEqDiff, Nat.reduceLeDiff, Nat.zero_add, xicmp, Nat.lt_add_left_iff_pos, Nat.add_zero, Nat.reduceBEq, beq_self_eq_true, Bool.or_true, Bool.true_or, Bool.or_false, Bool.false_or, fF_JP, fN_JP, fI_JP, fJ_JP, fX_JP, cs_JP_checkIndex]
  refine ⟨fun q => absurd q h1, fun q => ?_⟩
  simp only [xwp_d d_JP_checkIndex_0, xwp_d d_JP_checkIndex_1, xwp_d d_JP_checkIndex_4, xwp_d d_JP_checkIndex_5, xwp_d d_JP_checkIndex_6, xwp_d d_JP_checkIndex_9, xwp_d d_JP_checkIndex_10, xwp_d d_JP_checkIndex_11, xwp_d d_JP_checkIndex_12, xwp_d d_JP_checkIndex_15, xwp_d d_JP_checkIndex_16, xwp_d d_JP_checkIndex_17, (show xokj 1 8 ↔ True from iff_true_intro (show (0 : Int) ≤ ((1 : Nat) : Int) + 8 by decide)), (show xokj 6 10 ↔ True from iff_true_intro (show (0 : Int) ≤ ((6 : Nat) : Int) + 10 by decide)), (show xtgt 1 8 = 9 from rfl), (show xtgt 6 10 = 16 from rfl), f4_0, f4_1, f4_2, xstep, true_and, and_true, ↓reduceIte, Bool.false_eq_true, List.getElem?_cons_zero, List.getElem?_cons_succ, xs1, xs2, xclr, Value.category, List.length_cons, List.length_nil, Nat.reduceAdd, Nat.reduceLT, Nat.reduceEqDiff, Nat.reduceLeDiff, Nat.zero_add, xicmp, Nat.lt_add_left_iff_pos, Nat.add_zero, Nat.reduceBEq, beq_self_eq_true, Bool.or_true, Bool.true_or, Bool.or_false, Bool.false_or, fF_JP, fN_JP, fI_JP, fJ_JP, fX_JP, cs_JP_checkIndex]
  refine ⟨fun q => ?_, fun q => absurd h2 q⟩
  simp only [xwp_d d_JP_checkIndex_0, xwp_d d_JP_checkIndex_1, xwp_d d_JP_checkIndex_4, xwp_d d_JP_checkIndex_5, xwp_d d_JP_checkIndex_6, xwp_d d_JP_checkIndex_9, xwp_d d_JP_checkIndex_10, xwp_d d_JP_checkIndex_11, xwp_d d_JP_checkIndex_12, xwp_d d_JP_checkIndex_15, xwp_d d_JP_checkIndex_16, xwp_d d_JP_checkIndex_17, (show xokj 1 8 ↔ True from iff_true_intro (show (0 : Int) ≤ ((1 : Nat) : Int) + 8 by decide)), (show xokj 6 10 ↔ True from iff_true_intro (show (0 : Int) ≤ ((6 : Nat) : Int) + 10 by decide)), (show xtgt 1 8 = 9 from rfl), (show xtgt 6 10 = 16 from rfl), f4_0, f4_1, f4_2, xstep, true_and, and_true, ↓reduceIte, Bool.false_eq_true, List.getElem?_cons_zero, List.getElem?_cons_succ, xs1, xs2, xclr, Value.category, List.length_cons, List.length_nil, Nat.reduceAdd, Nat.reduceLT, Nat.reduceEqDiff, Nat.reduceLeDiff, Nat.zero_add, xicmp, Nat.lt_add_left_iff_pos, Nat.add_zero, Nat.reduceBEq, beq_self_eq_true, Bool.or_true, Bool.true_or, Bool.or_false, Bool.false_or, fF_JP, fN_JP, fI_JP, fJ_JP, fX_JP, cs_JP_checkIndex]
  exact ⟨rfl, Nat.le_refl _, Nat.le_refl _, rfl, i, rfl⟩
def pr_JO_checkIndex : xEn → List Value → xH → Prop := fun _ As _ => ∃ i n : Int32, As = [.int i, .int n] ∧ ¬ i < 0 ∧ i < n
def po_JO_checkIndex : xEn → List Value → xH → Option Value → xH → Prop := fun _ _ G v G' => G' = G ∧ ∃ i : Int32, v = some (.int i)
def cs_JO_checkIndex (E : xEn) : Nat → Option xSp := fun x => match x with
  | 105 => some ((2, 3), pr_JP_checkIndex E, po_JP_checkIndex E, 0, 0)
  | _ => none
set_option maxHeartbeats 4000000 in
set_option maxRecDepth 100000 in
/-- Objects.checkIndex -/
theorem c_JO_checkIndex (l : Launch) : xMet l y_JO_checkIndex prog_24_method_17_code 2 (some .int) 1 22 (pr_JO_checkIndex) (po_JO_checkIndex) 0 0 := by
  refine xMet_ofF (by decide +kernel) (fun E As G hpre => ?_)
  obtain ⟨i, n, rfl, h1, h2⟩ := hpre
  refine ⟨by simp [xfl, Value.category], fun D b p e s m args below meth c hI => ?_⟩
  have hcs : ∀ (Q : State → Prop) (x : Nat) (sp : xSp), cs_JO_checkIndex E x = some sp → xCd (xW p l e { frames := 1, cells := 0, slots := 0, locals := 22 } s m args below meth c Q D xcls b) { frames := 1, cells := 0, slots := 0, locals := 22 } prog_24_method_17_code x sp := fun Q x sp h => by
      unfold cs_JO_checkIndex at h
      split at h
      · cases h; exact xcd_S hI.1 hI.2.1 hI.2.2.1 (c_JP_checkIndex l) k_83 k_84 k_7 k_85 (by decide +kernel) ⟨by decide, by decide⟩
      · cases h
  have hOK := fun (po : Option Value → xH → Prop) => xOK_of (l := l) (e := e) (R := { frames := 1, cells := 0, slots := 0, locals := 22 }) (below := below) (mc := 0) (ms := 0) (po := po) (tb := tb_JO (cs_JO_checkIndex E)) (ini := false) hI (fun h => by cases h) (okF_JO hI.1.2.2.2.2) (okN_JO hI.1.2.2.2.2) (okI_JO hI.1.2.2.2.2) (okJ_JO hI.1.2.2.2.2) (hcs _) (okX_JO hI.1.2.2.2.2 hI.2.1.2.2.2.1)
  refine xwp_sound (hd := fun _ => false) (I := fun _ _ _ _ _ _ => False) (hOK _) (fun _ _ _ _ _ _ h => h.elim) 60 _ _ _ _ _ _ ?_
  show xwp _ _ _ _ _ _ _ _ _ _ 0 [some (.int i), some (.int n)] [] G 0 0
  simp only [xwp_d d_JO_checkIndex_0, xwp_d d_JO_checkIndex_1, xwp_d d_JO_checkIndex_2, xwp_d d_JO_checkIndex_3, xwp_d d_JO_checkIndex_6, f4_0, f4_1, xstep, true_and, and_true, ↓reduceIte, Bool.false_eq_true, List.getElem?_cons_zero, List.getElem?_cons_succ, xs1, xs2, xclr, Value.category, List.length_cons, List.length_nil, Nat.reduceAdd, Nat.reduceLT, Nat.reduceEqDiff, Nat.reduceLeDiff, Nat.zero_add, xicmp, Nat.lt_add_left_iff_pos, Nat.add_zero, Nat.reduceBEq, beq_self_eq_true, Bool.or_true, Bool.true_or, Bool.or_false, Bool.false_or, fF_JO, fN_JO, fI_JO, fJ_JO, fX_JO, cs_JO_checkIndex]
  refine xCal_mk [.int i, .int n, .null] [] rfl rfl ⟨i, n, rfl, h1, h2⟩ (by decide) (Nat.le_refl _) (Nat.le_refl _) (fun v G2 hq => ?_)
  obtain ⟨rfl, z, rfl⟩ := hq
  show xwp _ _ _ _ _ _ _ _ _ _ 6 [some (.int i), some (.int n)] [.int z] G2 0 0
  simp only [xwp_d d_JO_checkIndex_0, xwp_d d_JO_checkIndex_1, xwp_d d_JO_checkIndex_2, xwp_d d_JO_checkIndex_3, xwp_d d_JO_checkIndex_6, f4_0, f4_1, xstep, true_and, and_true, ↓reduceIte, Bool.false_eq_true, List.getElem?_cons_zero, List.getElem?_cons_succ, xs1, xs2, xclr, Value.category, List.length_cons, List.length_nil, Nat.reduceAdd, Nat.reduceLT, Nat.reduceEqDiff, Nat.reduceLeDiff, Nat.zero_add, xicmp, Nat.lt_add_left_iff_pos, Nat.add_zero, Nat.reduceBEq, beq_self_eq_true, Bool.or_true, Bool.true_or, Bool.or_false, Bool.false_or, fF_JO, fN_JO, fI_JO, fJ_JO, fX_JO, cs_JO_checkIndex]
  exact ⟨rfl, Nat.le_refl _, Nat.le_refl _, rfl, z, rfl⟩
def pr_A_get : xEn → List Value → xH → Prop := fun E As G => ∃ (a ed N : Nat) (w : Value) (i n : Int32) (f : Nat → Option Nat), As = [.ref a, .int i] ∧ G a = some (.inr (6, [.ref ed, .int n, w])) ∧ G ed = some (.inl (E.1.2.2.2, N, .inr (.inr (.inr (.inr f))))) ∧ vp_in i N ∧ ¬ i < 0 ∧ i < n
def po_A_get : xEn → List Value → xH → Option Value → xH → Prop := fun E As G v G' => G' = G ∧ ∀ (a ed N : Nat) (u w : Value) (i : Int32) (f : Nat → Option Nat), As = [.ref a, .int i] → G a = some (.inr (6, [.ref ed, u, w])) → G ed = some (.inl (E.1.2.2.2, N, .inr (.inr (.inr (.inr f))))) → v = some (va_rf (f i.toNatClampNeg))
def cs_A_get (E : xEn) : Nat → Option xSp := fun x => match x with
  | 118 => some ((2, 2), pr_JO_checkIndex E, po_JO_checkIndex E, 0, 0)
  | 123 => some ((0, 2), pr_A_elementData E, po_A_elementData E, 0, 0)
  | _ => none
set_option maxHeartbeats 4000000 in
set_option maxRecDepth 100000 in
/-- ArrayList.get(i) -/
theorem c_A_get (l : Launch) : xMet l y_A_get prog_20_method_20_code 2 (some (.object "java/lang/Object")) 2 43 (pr_A_get) (po_A_get) 0 0 := by
  refine xMet_ofF (by decide +kernel) (fun E As G hpre => ?_)
  obtain ⟨a, ed, N, w, i, n, f, rfl, h1, h2, h3, h4, h5⟩ := hpre
  refine ⟨by simp [xfl, Value.category], fun D b p e s m args below meth c hI => ?_⟩
  have hcs : ∀ (Q : State → Prop) (x : Nat) (sp : xSp), cs_A_get E x = some sp → xCd (xW p l e { frames := 2, cells := 0, slots := 0, locals := 43 } s m args below meth c Q D xcls b) { frames := 2, cells := 0, slots := 0, locals := 43 } prog_20_method_20_code x sp := fun Q x sp h => by
      unfold cs_A_get at h
      split at h
      · cases h; exact xcd_S hI.1 hI.2.1 hI.2.2.1 (c_JO_checkIndex l) k_80 k_81 k_6 k_82 (by decide +kernel) ⟨by decide, by decide⟩
      · cases h; exact xcd_V (ci := 6) hI.1 hI.2.1 hI.2.2.1 (c_A_elementData l) rfl k_86 k_87 k_88 k_4 k_89 (by decide +kernel) ⟨by decide, by decide⟩ (fun As G h => by obtain ⟨a, ed, N, u, w, i, f, rfl, h1, h2, h3⟩ := h; exact ⟨a, _, _, rfl, h1⟩)
      · cases h
  have hOK := fun (po : Option Value → xH → Prop) => xOK_of (l := l) (e := e) (R := { frames := 2, cells := 0, slots := 0, locals := 43 }) (below := below) (mc := 0) (ms := 0) (po := po) (tb := tb_A (cs_A_get E)) (ini := false) hI (fun h => by cases h) (okF_A hI.1.2.2.2.2) (okN_A hI.1.2.2.2.2) (okI_A hI.1.2.2.2.2) (okJ_A hI.1.2.2.2.2) (hcs _) (okX_A hI.1.2.2.2.2 hI.2.1.2.2.2.1)
  refine xwp_sound (hd := fun _ => false) (I := fun _ _ _ _ _ _ => False) (hOK _) (fun _ _ _ _ _ _ h => h.elim) 60 _ _ _ _ _ _ ?_
  show xwp _ _ _ _ _ _ _ _ _ _ 0 [some (.ref a), some (.int i)] [] G 0 0
  simp only [xwp_d d_A_get_0, xwp_d d_A_get_1, xwp_d d_A_get_2, xwp_d d_A_get_5, xwp_d d_A_get_8, xwp_d d_A_get_9, xwp_d d_A_get_10, xwp_d d_A_get_11, xwp_d d_A_get_14, f4_0, f4_1, xstep, true_and, and_true, ↓reduceIte, Bool.false_eq_true, List.getElem?_cons_zero, List.getElem?_cons_succ, xs1, xs2, xclr, Value.category, List.length_cons, List.length_nil, Nat.reduceAdd, Nat.reduceLT, Nat.reduceEqDiff, Nat.reduceLeDiff, Nat.zero_add, xicmp, Nat.lt_add_left_iff_pos, Nat.add_zero, Nat.reduceBEq, beq_self_eq_true, Bool.or_true, Bool.true_or, Bool.or_false, Bool.false_or, fF_A, fN_A, fI_A, fJ_A, fX_A, cs_A_get]
  refine xGet_mk h1 rfl ?_
  simp only [xwp_d d_A_get_0, xwp_d d_A_get_1, xwp_d d_A_get_2, xwp_d d_A_get_5, xwp_d d_A_get_8, xwp_d d_A_get_9, xwp_d d_A_get_10, xwp_d d_A_get_11, xwp_d d_A_get_14, f4_0, f4_1, xstep, true_and, and_true, ↓reduceIte, Bool.false_eq_true, List.getElem?_cons_zero, List.getElem?_cons_succ, xs1, xs2, xclr, Value.category, List.length_cons, List.length_nil, Nat.reduceAdd, Nat.reduceLT, Nat.reduceEqDiff, Nat.reduceLeDiff, Nat.zero_add, xicmp, Nat.lt_add_left_iff_pos, Nat.add_zero, Nat.reduceBEq, beq_self_eq_true, Bool.or_true, Bool.true_or, Bool.or_false, Bool.false_or, fF_A, fN_A, fI_A, fJ_A, fX_A, cs_A_get]
  refine xCal_mk [.int i, .int n] [] rfl rfl ⟨i, n, rfl, h4, h5⟩ (by decide) (Nat.le_refl _) (Nat.le_refl _) (fun v G2 hq => ?_)
  obtain ⟨rfl, z, rfl⟩ := hq
  show xwp _ _ _ _ _ _ _ _ _ _ 8 [some (.ref a), some (.int i)] [.int z] G2 0 0
  simp only [xwp_d d_A_get_0, xwp_d d_A_get_1, xwp_d d_A_get_2, xwp_d d_A_get_5, xwp_d d_A_get_8, xwp_d d_A_get_9, xwp_d d_A_get_10, xwp_d d_A_get_11, xwp_d d_A_get_14, f4_0, f4_1, xstep, true_and, and_true, ↓reduceIte, Bool.false_eq_true, List.getElem?_cons_zero, List.getElem?_cons_succ, xs1, xs2, xclr, Value.category, List.length_cons, List.length_nil, Nat.reduceAdd, Nat.reduceLT, Nat.reduceEqDiff, Nat.reduceLeDiff, Nat.zero_add, xicmp, Nat.lt_add_left_iff_pos, Nat.add_zero, Nat.reduceBEq, beq_self_eq_true, Bool.or_true, Bool.true_or, Bool.or_false, Bool.false_or, fF_A, fN_A, fI_A, fJ_A, fX_A, cs_A_get]
  refine xCal_mk [.ref a, .int i] [] rfl rfl ⟨a, ed, N, _, w, i, f, rfl, h1, h2, h3⟩ (by decide) (Nat.le_refl _) (Nat.le_refl _) (fun v G3 hq => ?_)
  obtain ⟨rfl, hv⟩ := hq
  have hv := hv a ed N _ w i f rfl h1 h2
  subst hv
  have hend : ∀ v : Option Value, v = some (va_rf (f i.toNatClampNeg)) → po_A_get E [.ref a, .int i] G3 v G3 := fun v hv => ⟨rfl, fun a' ed' N' u' w' i' f' e1 e2 e3 => by
    cases e1
    rw [h1] at e2
    cases e2
    rw [h2] at e3
    cases e3
    exact hv⟩
  show xwp _ _ _ _ _ _ _ _ _ _ 14 [some (.ref a), some (.int i)] [va_rf (f i.toNatClampNeg)] G3 0 0
  cases hf : f i.toNatClampNeg with
  | none =>
    simp only [va_rf_none]
    simp only [xwp_d d_A_get_0, xwp_d d_A_get_1, xwp_d d_A_get_2, xwp_d d_A_get_5, xwp_d d_A_get_8, xwp_d d_A_get_9, xwp_d d_A_get_10, xwp_d d_A_get_11, xwp_d d_A_get_14, f4_0, f4_1, xstep, true_and, and_true, ↓reduceIte, Bool.false_eq_true, List.getElem?_cons_zero, List.getElem?_cons_succ, xs1, xs2, xclr, Value.category, List.length_cons, List.length_nil, Nat.reduceAdd, Nat.reduceLT, Nat.reduceEqDiff, Nat.reduceLeDiff, Nat.zero_add, xicmp, Nat.lt_add_left_iff_pos, Nat.add_zero, Nat.reduceBEq, beq_self_eq_true, Bool.or_true, Bool.true_or, Bool.or_false, Bool.false_or, fF_A, fN_A, fI_A, fJ_A, fX_A, cs_A_get]
    exact ⟨trivial, Nat.le_refl _, Nat.le_refl _, hend _ (by rw [hf]; rfl)⟩
  | some q =>
    simp only [va_rf_some]
    simp only [xwp_d d_A_get_0, xwp_d d_A_get_1, xwp_d d_A_get_2, xwp_d d_A_get_5, xwp_d d_A_get_8, xwp_d d_A_get_9, xwp_d d_A_get_10, xwp_d d_A_get_11, xwp_d d_A_get_14, f4_0, f4_1, xstep, true_and, and_true, ↓reduceIte, Bool.false_eq_true, List.getElem?_cons_zero, List.getElem?_cons_succ, xs1, xs2, xclr, Value.category, List.length_cons, List.length_nil, Nat.reduceAdd, Nat.reduceLT, Nat.reduceEqDiff, Nat.reduceLeDiff, Nat.zero_add, xicmp, Nat.lt_add_left_iff_pos, Nat.add_zero, Nat.reduceBEq, beq_self_eq_true, Bool.or_true, Bool.true_or, Bool.or_false, Bool.false_or, fF_A, fN_A, fI_A, fJ_A, fX_A, cs_A_get]
    exact ⟨trivial, Nat.le_refl _, Nat.le_refl _, hend _ (by rw [hf]; rfl)⟩
