/-! LEAVES: methods without calls of ours. -/
def nocalls : Nat → Option xSp := fun _ => none
theorem nocalls_ok {k : xJ} {R : Room} {cc : ByteArray} : ∀ x sp, nocalls x = some sp → xCd k R cc x sp := fun _ _ h => by cases h
set_option maxHeartbeats 4000000 in
set_option maxRecDepth 100000 in
/-- Campaign.bit(): 1L << number -/
theorem c_K_bit (l : Launch) : xMet l y_K_bit prog_2_method_3_code 1 (some .long) 0 0 (fun _ As G => ∃ (a : Nat) (fs : List Value) (n : Int32), As = [.ref a] ∧ G a = some (.inr (2, fs)) ∧ fs[0]? = some (.int n)) (fun _ As G v G' => ∃ (a : Nat) (fs : List Value) (n : Int32), As = [.ref a] ∧ G a = some (.inr (2, fs)) ∧ fs[0]? = some (.int n) ∧ v = some (.long ((1 : Int64) <<< (n.toInt64 &&& 63))) ∧ G' = G) 0 0 := by
  refine xMet_of (by decide) (fun E As G hpre => ?_)
  obtain ⟨a, fs, n, rfl, h1, h2⟩ := hpre
  refine ⟨by decide, fun D b p e s m args below meth c hI => ?_⟩
  refine xwp_sound (hd := fun _ => false) (I := fun _ _ _ _ _ _ => False) (xOK_of (tb := tb_K nocalls) (ini := false) hI (fun h => by cases h) (okF_K hI.1.2.2.2.2) (okN_K hI.1.2.2.2.2) (okI_K hI.1.2.2.2.2) (okJ_K hI.1.2.2.2.2) nocalls_ok (okX_K hI.1.2.2.2.2 hI.2.1.2.2.2.1)) (fun _ _ _ _ _ _ h => h.elim) 20 _ _ _ _ _ _ ?_
  simp only [xwp, d_K_bit_0, d_K_bit_1, d_K_bit_2, d_K_bit_5, d_K_bit_6, xstep, xent, xfl, Value.category, Bool.false_eq_true, if_false, ite_false, reduceIte]
  trace_state
  sorry
