/-! THE LAW: its start. -/
theorem RepX.some_ {E : xEn} {G : xH} {x1 : Nat} {Z : xZ} {σ : St} (h : RepX E G x1 Z σ) {q : Nat} (hq : fpX Z σ q) : G q ≠ none := by
  obtain ⟨a, i, hl, rfl⟩ := hq
  rw [h.2.1 a i hl]
  exact fun z => by cases z
def cs_L00 (x1 y : Nat) (E : xEn) : Nat → Option xSp := fun x => match x with
  | 15 => some ((1, 1), pr_F_init x1 E, po_F_init x1 E, 2, 6)
  | 18 => some ((1, 1), pr_M_init y E, po_M_init y E, 19, 71266)
  | _ => none
set_option maxHeartbeats 4000000 in
set_option maxRecDepth 100000 in
theorem law_start {p : Program} {l : Launch} {e : Env} {s : State} {m : MethodId} {below : List Frame} {meth : Method} {c : Code} {D : va_G} {E : xEn} {b b0 L : Nat} {xs : Nat → Int32} (hC : LC p e s m meth c D E b b0 L xs) (hbs : s.heap.size ≤ b) : xW p l e room_1 s m #[Value.ref b0] below meth c (lw_Z below #[Value.ref b0] s) D xcls b 0 [some (.ref b0), none, none, none, none, none, none, none] [] (fun _ => none) 0 0 := by
  obtain ⟨hI, htr, hX, hbl, hbA, hL4⟩ := id hC
  have hcs : ∀ (x1 y x : Nat) (sp : xSp), cs_L00 x1 y E x = some sp → xCd (xW p l e room_1 s m #[Value.ref b0] below meth c (lw_Z below #[Value.ref b0] s) D xcls b) room_1 code x sp := fun x1 y x sp h => by
    unfold cs_L00 at h
    split at h
    · cases h; exact xcd_I hI.1 hI.2.1 hI.2.2.1 (c_F_init x1 l) k_22 k_23 k_1 k_24 rfl (by decide +kernel) ⟨by decide, by decide⟩ (fun As G h => ⟨_, _, h.1⟩)
    · cases h; exact xcd_I hI.1 hI.2.1 hI.2.2.1 (c_M_init y l) k_506 k_507 k_5 k_508 rfl (by decide +kernel) ⟨by decide, by decide⟩ (fun As G h => ⟨_, _, h.1⟩)
    · cases h
  have hOK := fun (x1 y : Nat) => xOK_gen (l := l) (e := e) (R := room_1) (below := below) (P := fun v _ ce sl => v = some (.int 1) ∧ ce ≤ 601024 ∧ sl ≤ 7293034) (Q := lw_Z below #[Value.ref b0] s) (tb := tb_L (cs_L00 x1 y E)) (ini := false) hI (fun h => by cases h) (okF_L hI.1.2.2.2.2) (okN_L hI.1.2.2.2.2) (okI_L hI.1.2.2.2.2) (okJ_L hI.1.2.2.2.2) (hcs x1 y) (okX_L hI.1.2.2.2.2 hI.2.1.2.2.2.1) (law_rs hI.1.1 hI.1.2.1 hI.2.2.2.2.1 hI.2.2.2.2.2.1 hbs)
  refine xwp_sound (hd := fun q => q == 3 || q == 11 || q == 23) (I := xW _ _ _ _ _ _ _ _ _ _ _ _ _ _) (hOK 0 0) (fun _ _ _ _ _ _ h => h) 60 _ _ _ _ _ _ ?_
  show xwp _ _ _ _ _ _ _ _ _ _ 0 [some (.ref b0), none, none, none, none, none, none, none] [] (fun _ => none) 0 0
  simp only [xwp_d d_L_law_0, xwp_d d_L_law_3, xwp_d d_L_law_4, xwp_d d_L_law_7, xwp_d d_L_law_8, xwp_d d_L_law_11, xwp_d d_L_law_12, xwp_d d_L_law_15, xwp_d d_L_law_16, xwp_d d_L_law_17, xwp_d d_L_law_19, xwp_d d_L_law_20, xwp_d d_L_law_21, xwp_d d_L_law_23, ci_0, ci_1, f4_1, f4_2, f4_3, xstep, true_and, and_true, ↓reduceIte, Bool.false_eq_true, List.getElem?_cons_zero, List.getElem?_cons_succ, xs1, xs2, xclr, Value.category, List.length_cons, List.length_nil, Nat.reduceAdd, Nat.reduceLT, Nat.reduceEqDiff, Nat.reduceLeDiff, Nat.zero_add, xicmp, Nat.lt_add_left_iff_pos, Nat.add_zero, Nat.reduceBEq, beq_self_eq_true, Bool.or_true, Bool.true_or, Bool.or_false, Bool.false_or, fF_L, fN_L, fI_L, fJ_L, fX_L, cs_L00]
  refine ⟨_, _, _, rfl, (Nat.le_of_ble_eq_true rfl), (Nat.le_of_ble_eq_true rfl), fun x1 _ => ?_⟩
  simp only [xwp_d d_L_law_0, xwp_d d_L_law_3, xwp_d d_L_law_4, xwp_d d_L_law_7, xwp_d d_L_law_8, xwp_d d_L_law_11, xwp_d d_L_law_12, xwp_d d_L_law_15, xwp_d d_L_law_16, xwp_d d_L_law_17, xwp_d d_L_law_19, xwp_d d_L_law_20, xwp_d d_L_law_21, xwp_d d_L_law_23, ci_0, ci_1, f4_1, f4_2, f4_3, xstep, true_and, and_true, ↓reduceIte, Bool.false_eq_true, List.getElem?_cons_zero, List.getElem?_cons_succ, xs1, xs2, xclr, Value.category, List.length_cons, List.length_nil, Nat.reduceAdd, Nat.reduceLT, Nat.reduceEqDiff, Nat.reduceLeDiff, Nat.zero_add, xicmp, Nat.lt_add_left_iff_pos, Nat.add_zero, Nat.reduceBEq, beq_self_eq_true, Bool.or_true, Bool.true_or, Bool.or_false, Bool.false_or, fF_L, fN_L, fI_L, fJ_L, fX_L, cs_L00]
  refine xwp_sound1 (hd := fun q => q == 3 || q == 11 || q == 23) (I := xW _ _ _ _ _ _ _ _ _ _ _ _ _ _) (hOK x1 0) (fun _ _ _ _ _ _ h => h) (f := 60) d_L_law_3 ?_
  simp only [xwp_d d_L_law_0, xwp_d d_L_law_3, xwp_d d_L_law_4, xwp_d d_L_law_7, xwp_d d_L_law_8, xwp_d d_L_law_11, xwp_d d_L_law_12, xwp_d d_L_law_15, xwp_d d_L_law_16, xwp_d d_L_law_17, xwp_d d_L_law_19, xwp_d d_L_law_20, xwp_d d_L_law_21, xwp_d d_L_law_23, ci_0, ci_1, f4_1, f4_2, f4_3, xstep, true_and, and_true, ↓reduceIte, Bool.false_eq_true, List.getElem?_cons_zero, List.getElem?_cons_succ, xs1, xs2, xclr, Value.category, List.length_cons, List.length_nil, Nat.reduceAdd, Nat.reduceLT, Nat.reduceEqDiff, Nat.reduceLeDiff, Nat.zero_add, xicmp, Nat.lt_add_left_iff_pos, Nat.add_zero, Nat.reduceBEq, beq_self_eq_true, Bool.or_true, Bool.true_or, Bool.or_false, Bool.false_or, fF_L, fN_L, fI_L, fJ_L, fX_L, cs_L00]
  refine xCal_mk [.ref x1] [.ref x1] rfl rfl ⟨rfl, xup_self _ _ _⟩ (Nat.le_of_ble_eq_true rfl) (Nat.le_of_ble_eq_true rfl) (Nat.le_of_ble_eq_true rfl) (fun z G1 hz => ?_)
  obtain ⟨rfl, Z, hR, hB, -⟩ := hz
  show xwp _ _ _ _ _ _ _ _ _ _ 7 [some (.ref b0), none, none, none, none, none, none, none] [.ref x1] G1 3 9
  simp only [xwp_d d_L_law_0, xwp_d d_L_law_3, xwp_d d_L_law_4, xwp_d d_L_law_7, xwp_d d_L_law_8, xwp_d d_L_law_11, xwp_d d_L_law_12, xwp_d d_L_law_15, xwp_d d_L_law_16, xwp_d d_L_law_17, xwp_d d_L_law_19, xwp_d d_L_law_20, xwp_d d_L_law_21, xwp_d d_L_law_23, ci_0, ci_1, f4_1, f4_2, f4_3, xstep, true_and, and_true, ↓reduceIte, Bool.false_eq_true, List.getElem?_cons_zero, List.getElem?_cons_succ, xs1, xs2, xclr, Value.category, List.length_cons, List.length_nil, Nat.reduceAdd, Nat.reduceLT, Nat.reduceEqDiff, Nat.reduceLeDiff, Nat.zero_add, xicmp, Nat.lt_add_left_iff_pos, Nat.add_zero, Nat.reduceBEq, beq_self_eq_true, Bool.or_true, Bool.true_or, Bool.or_false, Bool.false_or, fF_L, fN_L, fI_L, fJ_L, fX_L, cs_L00]
  refine ⟨_, _, _, rfl, (Nat.le_of_ble_eq_true rfl), (Nat.le_of_ble_eq_true rfl), fun y hy => ?_⟩
  simp only [xwp_d d_L_law_0, xwp_d d_L_law_3, xwp_d d_L_law_4, xwp_d d_L_law_7, xwp_d d_L_law_8, xwp_d d_L_law_11, xwp_d d_L_law_12, xwp_d d_L_law_15, xwp_d d_L_law_16, xwp_d d_L_law_17, xwp_d d_L_law_19, xwp_d d_L_law_20, xwp_d d_L_law_21, xwp_d d_L_law_23, ci_0, ci_1, f4_1, f4_2, f4_3, xstep, true_and, and_true, ↓reduceIte, Bool.false_eq_true, List.getElem?_cons_zero, List.getElem?_cons_succ, xs1, xs2, xclr, Value.category, List.length_cons, List.length_nil, Nat.reduceAdd, Nat.reduceLT, Nat.reduceEqDiff, Nat.reduceLeDiff, Nat.zero_add, xicmp, Nat.lt_add_left_iff_pos, Nat.add_zero, Nat.reduceBEq, beq_self_eq_true, Bool.or_true, Bool.true_or, Bool.or_false, Bool.false_or, fF_L, fN_L, fI_L, fJ_L, fX_L, cs_L00]
  refine xwp_sound1 (hd := fun q => q == 3 || q == 11 || q == 23) (I := xW _ _ _ _ _ _ _ _ _ _ _ _ _ _) (hOK x1 y) (fun _ _ _ _ _ _ h => h) (f := 60) d_L_law_11 ?_
  simp only [xwp_d d_L_law_0, xwp_d d_L_law_3, xwp_d d_L_law_4, xwp_d d_L_law_7, xwp_d d_L_law_8, xwp_d d_L_law_11, xwp_d d_L_law_12, xwp_d d_L_law_15, xwp_d d_L_law_16, xwp_d d_L_law_17, xwp_d d_L_law_19, xwp_d d_L_law_20, xwp_d d_L_law_21, xwp_d d_L_law_23, ci_0, ci_1, f4_1, f4_2, f4_3, xstep, true_and, and_true, ↓reduceIte, Bool.false_eq_true, List.getElem?_cons_zero, List.getElem?_cons_succ, xs1, xs2, xclr, Value.category, List.length_cons, List.length_nil, Nat.reduceAdd, Nat.reduceLT, Nat.reduceEqDiff, Nat.reduceLeDiff, Nat.zero_add, xicmp, Nat.lt_add_left_iff_pos, Nat.add_zero, Nat.reduceBEq, beq_self_eq_true, Bool.or_true, Bool.true_or, Bool.or_false, Bool.false_or, fF_L, fN_L, fI_L, fJ_L, fX_L, cs_L00]
  refine xCal_mk [.ref y] [.ref y] rfl rfl ⟨rfl, xup_self _ _ _⟩ (Nat.le_of_ble_eq_true rfl) (Nat.le_of_ble_eq_true rfl) (Nat.le_of_ble_eq_true rfl) (fun z G2 hz => ?_)
  obtain ⟨rfl, A, hM, hk, hA⟩ := hz
  show xwp _ _ _ _ _ _ _ _ _ _ 15 [some (.ref b0), some (.ref x1), none, none, none, none, none, none] [.ref y] G2 23 71298
  simp only [xwp_d d_L_law_0, xwp_d d_L_law_3, xwp_d d_L_law_4, xwp_d d_L_law_7, xwp_d d_L_law_8, xwp_d d_L_law_11, xwp_d d_L_law_12, xwp_d d_L_law_15, xwp_d d_L_law_16, xwp_d d_L_law_17, xwp_d d_L_law_19, xwp_d d_L_law_20, xwp_d d_L_law_21, xwp_d d_L_law_23, ci_0, ci_1, f4_1, f4_2, f4_3, xstep, true_and, and_true, ↓reduceIte, Bool.false_eq_true, List.getElem?_cons_zero, List.getElem?_cons_succ, xs1, xs2, xclr, Value.category, List.length_cons, List.length_nil, Nat.reduceAdd, Nat.reduceLT, Nat.reduceEqDiff, Nat.reduceLeDiff, Nat.zero_add, xicmp, Nat.lt_add_left_iff_pos, Nat.add_zero, Nat.reduceBEq, beq_self_eq_true, Bool.or_true, Bool.true_or, Bool.or_false, Bool.false_or, fF_L, fN_L, fI_L, fJ_L, fX_L, cs_L00]
  refine ⟨by decide +kernel, by decide +kernel, (Nat.le_of_ble_eq_true rfl), (Nat.le_of_ble_eq_true rfl), fun oa ho => ?_⟩
  rw [show (1 : Int32).toNatClampNeg = 1 from by decide +kernel]
  show xwp _ _ _ _ _ _ _ _ _ _ 19 [some (.ref b0), some (.ref x1), some (.ref y), none, none, none, none, none] [.ref oa] (xup G2 oa (.inl (E.1.2.1, 1, .inr (.inl (fun _ => 0))))) 24 71299
  simp only [xwp_d d_L_law_0, xwp_d d_L_law_3, xwp_d d_L_law_4, xwp_d d_L_law_7, xwp_d d_L_law_8, xwp_d d_L_law_11, xwp_d d_L_law_12, xwp_d d_L_law_15, xwp_d d_L_law_16, xwp_d d_L_law_17, xwp_d d_L_law_19, xwp_d d_L_law_20, xwp_d d_L_law_21, xwp_d d_L_law_23, ci_0, ci_1, f4_1, f4_2, f4_3, xstep, true_and, and_true, ↓reduceIte, Bool.false_eq_true, List.getElem?_cons_zero, List.getElem?_cons_succ, xs1, xs2, xclr, Value.category, List.length_cons, List.length_nil, Nat.reduceAdd, Nat.reduceLT, Nat.reduceEqDiff, Nat.reduceLeDiff, Nat.zero_add, xicmp, Nat.lt_add_left_iff_pos, Nat.add_zero, Nat.reduceBEq, beq_self_eq_true, Bool.or_true, Bool.true_or, Bool.or_false, Bool.false_or, fF_L, fN_L, fI_L, fJ_L, fX_L, cs_L00]
  have fy : ∀ q, fpX Z st0 q → q ≠ y := fun q hq z => hR.some_ hq (by rw [z]; exact hy)
  have f1 : ∀ q, fpX Z st0 q → G2 q = G1 q := fun q hq => by
    have := hk q (fy q hq) (by rw [xup_ne _ _ (fy q hq)]; exact hR.some_ hq)
    rw [this, xup_ne _ _ (fy q hq)]
  have hR2 : RepX E G2 x1 Z st0 := hR.agree f1
  have hdis : ∀ q, MFt y A q → ¬ fpX Z st0 q := by
    intro q hq hf
    rcases hq with rfl | ⟨k, hk, rfl⟩
    · exact fy _ hf rfl
    · have := hA k hk
      rw [xup_ne _ _ (fy _ hf)] at this
      exact hR.some_ hf this
  have ne : ∀ q, q ≠ oa → xup G2 oa (.inl (E.1.2.1, 1, .inr (.inl (fun _ => 0)))) q = G2 q := fun q hq => xup_ne _ _ hq
  have o1 : ¬ fpX Z st0 oa := fun z => hR2.some_ z ho
  have o2 : ¬ MFt y A oa := fun z => hM.some_ z ho
  have hLI : LI E (xup G2 oa (.inl (E.1.2.1, 1, .inr (.inl (fun _ => 0))))) x1 y oa Z st0 0 A 0 (fun _ => 0) := ⟨hR2.agree (fun q hq => ne q (fun z => o1 (z ▸ hq))), hB, vI0, hM.agree (fun q hq => ne q (fun z => o2 (z ▸ hq))), hdis, xup_self _ _ _, o1, o2⟩
  exact law_loop hC hbs (L / 8) 0 0 _ Z st0 0 _ none none 24 71299 hLI (by omega) (by omega) (by omega) (by omega) (by omega)
