/-! A STATIC CALL of a method with an exception table, where stack traces are off. -/
theorem k_429 : (Cond.codeWith y_L_share method_3_code 5 (some .int) [(0, 9, 12, 13)] : Cond) ∈ xT := xT_in (List.mem_of_getElem? (i := 429) (by decide +kernel)) (by decide +kernel)
theorem xcd_SW {p : Program} {l : Launch} {e : Env} {R : Room} {s : State} {m : MethodId} {args : Array Value} {below : List Frame} {meth : Method} {c : Code} {Q : State → Prop} {D : va_G} {E : xEn} {b : Nat} {cc cy : ByteArray} {own : String} {y : MethodName} {mx : Nat} {ret : Option FieldType} {hh : List (Nat × Nat × Nat × Nat)} {fr lo mc ms x n : Nat} {pre : xEn → List Value → xH → Prop} {post : xEn → List Value → xH → Option Value → xH → Prop} (S : CallFix p m c cc c.maxLocals s args xT own) (hE : xE D E b s) (hbs : b ≤ s.heap.size) (htr : e.platform.stackTraces = false) (hM : xMetW l y cy mx ret hh fr lo pre post mc ms)
    (k1 : Cond.methodLink own x y ∈ xT) (k2 : Cond.static y ∈ xT) (k4 : Cond.initialized y.cls ∈ xT) (k5 : Cond.codeWith y cy mx ret hh ∈ xT)
    (hd : y.cls ≠ "java/lang/invoke/MethodHandle" ∧ y.cls ≠ "java/lang/invoke/VarHandle" ∧ (parseMethodDescriptor y.desc).map (fun d => d.parameters.length) = some n) (hR : fr + 1 ≤ R.frames ∧ 8 + (mx + 11) + lo ≤ R.locals) :
    xCd (xW p l e R s m args below meth c Q D xcls b) R cc x ((2, n), pre E, post E, mc, ms) := by
  intro pc lv As r G ce sl hdec hp h8 hce hsl kk
  rcases hdec with ⟨e0, hdec⟩ | ⟨e0, hdec⟩ | ⟨e0, hdec⟩
  · cases e0
  · cases e0
  · have hlen : As.length = n := by
      have := congrArg Prod.snd e0
      simp at this
      omega
    intro H locs ls hP hS hl hn
    obtain ⟨hx, hb, hml, hown, hts⟩ := id S
    have hgood : ∀ w ∈ xT, ∀ (a' : Array Value) (U : State), s.WarmedH U.vm → w.before a' U = true := fun w hw a' U hW => word_at (a' := a') hW (good_of_word (List.mem_filter.mp hw).2) (hts _ hw)
    have hK : Back l R p e below s args y 3 8 (PreOf R mc ms (xPc D E b As G)) (PostOf (xQc D b (post E As G)) mc ms (fun q => b ≤ q)) := by
      refine va_ofFreeW (hh := hh) (S := headSpec (.codeWith y cy mx ret hh :: xT) { frames := fr, cells := mc, slots := ms, locals := lo }) (bytes := cy) (maxL := mx) (ret := ret)
        (E := fun a st o t L k n => k = mc ∧ n = ms ∧ ∀ q ∈ L, b ≤ q.base) (hM D E b As G hp) hR.1 hR.2 ?_ ?_ (fun _ _ _ _ _ _ _ _ _ => htr) ?_ ?_
      · intro m meth c A a X hp
        exact ⟨atoms_intro fun w hw => (by
          rcases List.mem_cons.mp hw with rfl | hw
          · exact hgood _ k5 _ _ X.warmed
          · exact hgood _ hw _ _ X.warmed), hgood _ k5 _ _ X.warmed, hgood _ k4 _ _ X.warmed, hp.1, hp.2.1⟩
      · intro m meth c A a g mk X hp
        exact xPc.blind _ _ _ _ hp.2.2
      · intro a st o t ⟨hq, L, hF, hL⟩
        exact ⟨L, mc, ms, hF, rfl, rfl, hL⟩
      · intro m meth c A a g mk v t L k n X hp hq hF ⟨e1, e2, hL⟩
        subst e1; subst e2
        exact ⟨g, mk, t, L, rfl, rfl, hq.1, rfl, hL, rfl, rfl⟩
    refine xw_call (a := As.toArray) (po := post E As G) (st0 := As.reverse ++ r) (rest := r) ?_ hS hl hn kk
    intro T hT X
    obtain ⟨mk, methM, cM, hnamed, hmethM, -, -, -, -, -, -, hsigM⟩ := Cond.codeWith_spec (hts _ k5)
    have hstatic : methM.isStatic = true := Cond.static_spec hnamed hmethM (hts _ k2)
    obtain ⟨kP, hkP, -⟩ := className_of_methodNamed hnamed
    have hinitP : kP.init = .initialized := Cond.initialized_spec (findClass_of_methodNamed hnamed) hkP (hts _ k4)
    have hlenA : As.length = methM.sig.parameters.length := by
      have h2 := hd.2.2
      rw [hsigM] at h2
      rw [hlen]
      exact (Option.some.inj h2).symm
    obtain ⟨vm₁, X₁, hstep₁⟩ := X.invokestatic hx hown (hts _ k1) hnamed hmethM hstatic hkP hinitP ⟨hd.1, hd.2.1⟩ (g := F0 m pc ls (As.reverse ++ r)) rfl (argsL := As) (rest := r) hlenA rfl (by rw [hb]; exact hdec)
    obtain ⟨v, B, X', ⟨g', mk', t, L, e1, e2, hq, h1, hL, h2, h3⟩, hsteps⟩ := hK m meth c ⟨T.setVm vm₁, locs, ce, sl⟩ (F0 m pc ls r) (.invokestatic x) mk As.toArray X₁ rfl (by rw [← hn]; exact hl.1) (by rw [hb]; exact hdec) (lv_room h8) (X₁.named hnamed) ⟨hce, hsl, rfl, by show b ≤ T.heap.size; rw [hT]; exact Nat.le_trans hbs hS.1, by show xP D xcls b G T.heap; rw [hT]; exact hP, hE.moved hS (show (T.setVm vm₁).heap = H from hT) X₁.warmed⟩
    obtain ⟨U', l2, c2, s2⟩ := B
    dsimp only [Pt.U, Pt.locs, Pt.cells, Pt.slots] at X' e1 e2 h1 h2 h3 hsteps
    subst h1; subst h2; subst h3
    exact ⟨v, (T.setVm vm₁).calling g' mk' As.toArray, t, U', L, hT, X', hL, e1, e2, hq, fun target h => hstep₁ _ fun acts => by rw [doInvoke_state]; exact hsteps.trans h⟩
