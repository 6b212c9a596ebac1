/-! LEAVES: methods without calls of ours. -/
theorem xwp_d {cc : ByteArray} {tb : xTb} {A : xA4} {R : Room} {ini : Bool} {rt : Option FieldType} {P : Option Value → xH → Nat → Nat → Prop} {hd : Nat → Bool} {I : xJ} {f pc : Nat} {lv : xL} {st : List Value} {G : xH} {ce sl : Nat} {i : Instr} {len : Nat} (h : decode cc pc = .ok (i, len)) : xwp cc tb A R ini rt P hd I (f + 1) pc lv st G ce sl = if hd pc = true then I pc lv st G ce sl else xstep tb A R ini rt P (xwp cc tb A R ini rt P hd I f) pc i len lv st G ce sl := by
  simp only [xwp, h]
def nocalls : Nat → Option xSp := fun _ => none
theorem nocalls_ok {k : xJ} {R : Room} {cc : ByteArray} : ∀ x sp, nocalls x = some sp → xCd k R cc x sp := fun _ _ h => by cases h
theorem cb_m2 : (Int8.ofInt (-2)).toInt32 = (-2 : Int32) := by decide +kernel
theorem cb_m3 : (Int8.ofInt (-3)).toInt32 = (-3 : Int32) := by decide +kernel
theorem cb_m4 : (Int8.ofInt (-4)).toInt32 = (-4 : Int32) := by decide +kernel
theorem cb_10 : (Int8.ofInt 10).toInt32 = (10 : Int32) := by decide +kernel
theorem cb_100 : (Int8.ofInt 100).toInt32 = (100 : Int32) := by decide +kernel
theorem cb_13 : (Int8.ofInt 13).toInt32 = (13 : Int32) := by decide +kernel
theorem cb_15 : (Int8.ofInt 15).toInt32 = (15 : Int32) := by decide +kernel
theorem cb_20 : (Int8.ofInt 20).toInt32 = (20 : Int32) := by decide +kernel
theorem cb_21 : (Int8.ofInt 21).toInt32 = (21 : Int32) := by decide +kernel
theorem cb_32 : (Int8.ofInt 32).toInt32 = (32 : Int32) := by decide +kernel
theorem cb_33 : (Int8.ofInt 33).toInt32 = (33 : Int32) := by decide +kernel
theorem cb_40 : (Int8.ofInt 40).toInt32 = (40 : Int32) := by decide +kernel
theorem cb_41 : (Int8.ofInt 41).toInt32 = (41 : Int32) := by decide +kernel
theorem cb_6 : (Int8.ofInt 6).toInt32 = (6 : Int32) := by decide +kernel
theorem cb_7 : (Int8.ofInt 7).toInt32 = (7 : Int32) := by decide +kernel
theorem cb_8 : (Int8.ofInt 8).toInt32 = (8 : Int32) := by decide +kernel
theorem cs_1000 : (Int16.ofInt 1000).toInt32 = (1000 : Int32) := by decide +kernel
theorem cs_1023 : (Int16.ofInt 1023).toInt32 = (1023 : Int32) := by decide +kernel
theorem cs_1024 : (Int16.ofInt 1024).toInt32 = (1024 : Int32) := by decide +kernel
theorem cs_1681 : (Int16.ofInt 1681).toInt32 = (1681 : Int32) := by decide +kernel
theorem cs_20541 : (Int16.ofInt 20541).toInt32 = (20541 : Int32) := by decide +kernel
theorem cs_4008 : (Int16.ofInt 4008).toInt32 = (4008 : Int32) := by decide +kernel
theorem cs_500 : (Int16.ofInt 500).toInt32 = (500 : Int32) := by decide +kernel
theorem cs_501 : (Int16.ofInt 501).toInt32 = (501 : Int32) := by decide +kernel
theorem cs_8192 : (Int16.ofInt 8192).toInt32 = (8192 : Int32) := by decide +kernel
theorem cs_861 : (Int16.ofInt 861).toInt32 = (861 : Int32) := by decide +kernel
theorem ci_m1 : Int32.ofInt (-1) = (-1 : Int32) := by decide +kernel
theorem ci_0 : Int32.ofInt 0 = (0 : Int32) := by decide +kernel
theorem ci_1 : Int32.ofInt 1 = (1 : Int32) := by decide +kernel
theorem ci_2 : Int32.ofInt 2 = (2 : Int32) := by decide +kernel
theorem ci_3 : Int32.ofInt 3 = (3 : Int32) := by decide +kernel
theorem ci_4 : Int32.ofInt 4 = (4 : Int32) := by decide +kernel
theorem ci_5 : Int32.ofInt 5 = (5 : Int32) := by decide +kernel
theorem ci_8 : Int32.ofInt 8 = (8 : Int32) := by decide +kernel
theorem f4_0 : ((0 : Fin 4) : Nat) = 0 := rfl
theorem f4_1 : ((1 : Fin 4) : Nat) = 1 := rfl
theorem f4_2 : ((2 : Fin 4) : Nat) = 2 := rfl
theorem f4_3 : ((3 : Fin 4) : Nat) = 3 := rfl
theorem cl_0 : Int64.ofNat ((0 : Fin 2) : Nat) = 0 := by decide +kernel
theorem cl_1 : Int64.ofNat ((1 : Fin 2) : Nat) = 1 := by decide +kernel
set_option maxHeartbeats 4000000 in
set_option maxRecDepth 100000 in
/-- Campaign.bit(): 1L << number -/
theorem c_K_bit (l : Launch) : xMet l y_K_bit prog_2_method_3_code 1 (some .long) 0 0 (fun _ As G => ∃ (a : Nat) (fs : List Value) (n : Int32), As = [.ref a] ∧ G a = some (.inr (2, fs)) ∧ fs[0]? = some (.int n)) (fun _ As G v G' => ∃ (a : Nat) (fs : List Value) (n : Int32), As = [.ref a] ∧ G a = some (.inr (2, fs)) ∧ fs[0]? = some (.int n) ∧ v = some (.long ((1 : Int64) <<< (n.toInt64 &&& 63))) ∧ G' = G) 0 0 := by
  refine xMet_of (by decide) (fun E As G hpre => ?_)
  obtain ⟨a, fs, n, rfl, h1, h2⟩ := hpre
  refine ⟨Nat.le_refl _, fun D b p e s m args below meth c hI => ?_⟩
  refine xwp_sound (hd := fun _ => false) (I := fun _ _ _ _ _ _ => False) (xOK_of (tb := tb_K nocalls) (ini := false) hI (fun h => by cases h) (okF_K hI.1.2.2.2.2) (okN_K hI.1.2.2.2.2) (okI_K hI.1.2.2.2.2) (okJ_K hI.1.2.2.2.2) nocalls_ok (okX_K hI.1.2.2.2.2 hI.2.1.2.2.2.1)) (fun _ _ _ _ _ _ h => h.elim) 20 _ _ _ _ _ _ ?_
  show xwp _ _ _ _ _ _ _ _ _ 20 0 [some (.ref a)] [] G 0 0
  simp only [xwp_d d_K_bit_0, xwp_d d_K_bit_1, xwp_d d_K_bit_2, xwp_d d_K_bit_5, xwp_d d_K_bit_6, cl_1, f4_0, xstep, true_and, and_true, ↓reduceIte, Bool.false_eq_true, List.getElem?_cons_zero, List.getElem?_cons_succ, xs1, xs2, xclr, Value.category, List.length_cons, List.length_nil, Nat.reduceAdd, Nat.reduceLT, Nat.reduceEqDiff, Nat.reduceLeDiff, Nat.zero_add, xicmp, Nat.lt_add_left_iff_pos, Nat.add_zero, fF_K]
  refine xGet_mk h1 h2 ?_
  simp only [xwp_d d_K_bit_0, xwp_d d_K_bit_1, xwp_d d_K_bit_2, xwp_d d_K_bit_5, xwp_d d_K_bit_6, cl_1, f4_0, xstep, true_and, and_true, ↓reduceIte, Bool.false_eq_true, List.getElem?_cons_zero, List.getElem?_cons_succ, xs1, xs2, xclr, Value.category, List.length_cons, List.length_nil, Nat.reduceAdd, Nat.reduceLT, Nat.reduceEqDiff, Nat.reduceLeDiff, Nat.zero_add, xicmp, Nat.lt_add_left_iff_pos, Nat.add_zero, fF_K]
  exact ⟨trivial, Nat.le_refl _, Nat.le_refl _, a, fs, n, rfl, h1, h2, rfl, rfl⟩
