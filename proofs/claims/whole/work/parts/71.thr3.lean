/-! A CALL THAT THROWS, CAUGHT by the caller: the law's own share. -/
theorem xOK_gen {p : Program} {l : Launch} {e : Env} {R : Room} {s : State} {m : MethodId} {args : Array Value} {below : List Frame} {meth : Method} {c : Code} {D : va_G} {E : xEn} {b : Nat} {y : MethodName} {cc : ByteArray} {mx : Nat} {ret : Option FieldType} {P : Option Value → xH → Nat → Nat → Prop} {Q : State → Prop} {tb : xTb} {ini : Bool} (hI : xIn p s m args meth c D E b y cc mx ret) (hini : ini = true → y.name = "<init>")
    (h1 : ∀ x f, tb.1 x = some f → xFd s args y.cls xT xcls x f) (h2 : ∀ x o, tb.2.1 x = some o → xNd s args y.cls xT xcls x o) (h3 : ∀ x v, tb.2.2.1 x = some v → (Cond.constant y.cls x v).before args s = true) (h4 : ∀ x v, tb.2.2.2.1 x = some v → (Cond.constantLong y.cls x v).before args s = true)
    (h5 : ∀ x sp, tb.2.2.2.2.1 x = some sp → xCd (xW p l e R s m args below meth c Q D xcls b) R cc x sp) (h6 : ∀ x ci, tb.2.2.2.2.2 x = some ci → ∃ (r : vw_C) (nm : String), xcls[ci]? = some r ∧ (Cond.classLink y.cls x nm).before args s = true ∧ va_Nw (.castable r.1 nm) s)
    (h7 : xRs (xW p l e R s m args below meth c Q D xcls b) cc ret P) : xOK p l R s m args meth c D xcls b cc y.cls xT tb E.1 ini ret P (xW p l e R s m args below meth c Q D xcls b) := by
  obtain ⟨S, hE, hbs, hnm, hr, hlk, hmx⟩ := hI
  refine ⟨S, hE.1, hbs, fun h => by rw [hnm]; exact hini h, h1, h2, h3, h4, h5, h6, fun ci r hci hr => ?_, S.2.2.2.2 _ k_115, S.2.2.2.2 _ k_580, S.2.2.2.2 _ k_581, h7⟩
  obtain ⟨-, -, -, hc, -⟩ := hE
  match ci, hci, hr with
  | 0, _, hr => cases hr; exact hc ("FleetWaves", "java/lang/Object") (by decide)
  | 1, _, hr => cases hr; exact hc ("FleetWaves$Car", "java/lang/Object") (by decide)
  | 2, _, hr => cases hr; exact hc ("FleetWaves$Campaign", "java/lang/Object") (by decide)
  | 3, _, hr => cases hr; exact hc ("FleetWaves$Wave", "java/lang/Object") (by decide)
  | 4, _, hr => cases hr; exact hc ("FleetWaves$Failure", "java/lang/Object") (by decide)
  | 5, _, hr => cases hr; exact hc ("FleetWavesModel", "java/lang/Object") (by decide)
  | k + 6, hk, _ => omega
/-- nothing returns -/
theorem xRs_no {k : xJ} {cc : ByteArray} {rt : Option FieldType} : xRs k cc rt (fun _ _ _ _ => False) := ⟨fun _ _ _ _ _ _ _ h => h.2.elim, fun _ _ _ _ _ _ _ h => h.2.elim, fun _ _ _ _ _ _ _ _ h => h.2.elim, fun _ _ _ _ _ _ h => h.2.elim⟩
/-- a throwing callee's contract -/
def xThr (l : Launch) (y : MethodName) (cc : ByteArray) (mx : Nat) (ret : Option FieldType) (fr lo : Nat) (pre : xEn → List Value → xH → Prop) : Prop :=
  ∀ (D : va_G) (E : xEn) (b : Nat) (As : List Value) (G : xH), pre E As G → MetFree l y (headSpec (.code y cc mx ret :: xT) { frames := fr, cells := 1, slots := 6, locals := lo }) (xPc D E b As G) (fun _ e _ _ _ => e.platform.stackTraces = false) (fun _ st o t => ∃ x : Addr, o = .threw x ∧ tQ D b G st t x 1 6)
theorem lw_catch : Cond.classLink "FleetWavesLaw" 13 AE ∈ xT := by decide +kernel
set_option maxHeartbeats 4000000 in
theorem xw_caught {p : Program} {l : Launch} {e : Env} {R : Room} {s : State} {m : MethodId} {args : Array Value} {below : List Frame} {meth : Method} {c : Code} {Q : State → Prop} {D : va_G} {E : xEn} {b : Nat} {G : xH} {cc cy : ByteArray} {y : MethodName} {mx fr lo x pc hpc ce sl a n : Nat} {ret : Option FieldType} {lv : xL} {As rest : List Value} {fs : List Value} {pre : xEn → List Value → xH → Prop}
    (S : CallFix p m c cc c.maxLocals s args xT "FleetWavesLaw") (hE : xE D E b s) (hbs : b ≤ s.heap.size) (htr : e.platform.stackTraces = false) (hM : xThr l y cy mx ret fr lo pre) (hp : pre E (.ref a :: As) G) (hG : G a = some (.inr (0, fs)))
    (hy : y.cls = "FleetWaves") (k1 : Cond.methodLink "FleetWavesLaw" x y ∈ xT) (k2 : Cond.instanceMethod y ∈ xT) (k3 : Cond.selects "FleetWaves" y y ∈ xT) (k4 : Cond.initialized "FleetWaves" ∈ xT) (k5 : Cond.code y cy mx ret ∈ xT) (hn : (parseMethodDescriptor y.desc).map (fun d => d.parameters.length) = some n) (hAs : As.length = n)
    (hR1 : fr + 1 ≤ R.frames) (hR2 : (rest.map fun v => v.category).sum + (mx + 11) + lo ≤ R.locals) (hR3 : ce + 1 ≤ R.cells) (hR4 : sl + 6 ≤ R.slots) (hd : decode cc pc = .ok (.invokevirtual x, 3)) (htab : c.exceptionTable.toList = [⟨0, 9, hpc, 13⟩]) (hpc9 : pc < 9)
    (h : ∀ z : Nat, xW p l e R s m args below meth c Q D xcls b hpc lv [.ref z] G (ce + 1) (sl + 6)) : xW p l e R s m args below meth c Q D xcls b pc lv (As.reverse ++ .ref a :: rest) G ce sl := by
  intro H locs ls hP hS hl hlen T hT X
  obtain ⟨hx, hb, hml, hown, hts⟩ := id S
  obtain ⟨ws, g1, g2, g3⟩ := id hP
  obtain ⟨q0, hq⟩ := (g3 _ _).mp hG
  obtain ⟨cellB, hcell, hobj, hclB⟩ := va_recv hE.1 g1 (show xcls[0]? = some _ from rfl) hq
  have hyc : y.cls ≠ "java/lang/invoke/MethodHandle" ∧ y.cls ≠ "java/lang/invoke/VarHandle" := by rw [hy]; decide
  have hcode := hts _ k5
  obtain ⟨mk, methM, hnamed, hmethM, hstM, habM⟩ := Cond.instanceMethod_spec (hts _ k2)
  obtain ⟨methM', cM, hmethM', hcM, -, hmxM, -, -, -, hsigM⟩ := Cond.code_spec hnamed hcode
  cases hmethM.symm.trans hmethM'
  obtain ⟨c2, r2, m2, q1, q2, q3, q4, kP, hkP, hkPi⟩ := Cond.selects_spec (hts _ k3)
  cases hclB.symm.trans q1
  cases (State.methodFound?_of_named hnamed hyc).symm.trans q2
  cases hnamed.symm.trans q3
  have hselP : selectMethod e.platform s.vm cellB.cls mk = .method mk := by rw [Launch.admits_selectMethod X.admits]; exact q4
  have hlenA : As.length = methM.sig.parameters.length := by
    rw [hsigM] at hn
    have hn := Option.some.inj hn
    rw [hAs]
    exact hn.symm
  have hlsz : ls.size = c.maxLocals := by rw [← hlen]; exact hl.1
  obtain ⟨vm₁, X₁, hstep₁⟩ := X.invokevirtual hx hown (hts _ k1) hnamed hmethM hstM hkP hkPi hyc (a := a) (cell := cellB) (by rw [hT]; exact hcell) (fun z hz => by rw [hz] at hobj; cases hobj) hselP hmethM habM hkP hkPi (g := F0 m pc ls (As.reverse ++ .ref a :: rest)) rfl (argsL := As) (rest := rest) hlenA rfl (by rw [hb]; exact hd)
  have hU : (T.setVm vm₁).heap = H := hT
  have hW₁ : s.WarmedH (T.setVm vm₁).vm := X₁.warmed
  have hnU : (T.setVm vm₁).methodNamed? y = some mk := X₁.named hnamed
  obtain ⟨kY, hkY, -⟩ := className_of_methodNamed hnU
  have hinitY : kY.init = .initialized := Cond.initialized_spec (findClass_of_methodNamed hnU) hkY (by rw [hy]; exact word_at (a' := args) hW₁ (good_of_word (List.mem_filter.mp k4).2) (hts _ k4))
  have hAt : At (T.setVm vm₁) (F0 m pc ls rest).method c below := X₁.here
  have hmU : (T.setVm vm₁).vm.method? mk = some methM := by rw [hW₁.alike.method?]; exact hmethM
  have happ : (headSpec (.code y cy mx ret :: xT) { frames := fr, cells := 1, slots := 6, locals := lo }).appliesLoose y e.platform ((T.setVm vm₁).calling (F0 m pc ls rest) mk (Value.ref a :: As).toArray) = true :=
    Spec.appliesLoose_calling (g := F0 m pc ls rest) hAt (by rw [hb]; exact hd) hnU hkY hinitY (X₁.room_calling (g := F0 m pc ls rest) (R' := { frames := fr, cells := 1, slots := 6, locals := lo }) hlsz hmU hcM hR1 (by rw [hmxM]; show 2 * 0 + (rest.map fun v => v.category).sum + (mx + 11) + lo ≤ R.locals; omega) hR3 hR4)
      (atoms_intro fun w hw => by
        rcases List.mem_cons.mp hw with rfl | hw
        · exact word_at hW₁ (good_of_word (List.mem_filter.mp k5).2) hcode
        · exact word_at hW₁ (good_of_word (List.mem_filter.mp hw).2) (hts w hw))
  obtain ⟨mid, hmid⟩ := hAt.above
  have hfr : ((T.setVm vm₁).setTop (F0 m pc ls rest)).frames = (.java (F0 m pc ls rest) :: mid) ++ below := by rw [State.frames_setTop' _ hAt.top, hmid]; rfl
  have hPc : xPc D E b (.ref a :: As) G (Value.ref a :: As).toArray (T.setVm vm₁) := ⟨rfl, by rw [hU]; exact Nat.le_trans hbs hS.1, by rw [hU]; exact hP, hE.moved hS hU hW₁⟩
  obtain ⟨o, t, hsteps, -, hend, z, rfl, cell, j1, j2, j3, j4, j5, j6, L, j7, j8⟩ := Steps.callFree (hM D E b (.ref a :: As) G hp) p X.admits X.cas X.clock (acts := []) hfr happ (xPc.blind _ _ _ _ hPc) htr
  rw [State.frames_setTop' _ hAt.top, X₁.tail] at hend
  obtain ⟨T', X', hW', hsm, ht⟩ := X₁.outOfThrown (g := F0 m pc ls rest) rfl hend j6 j7
  have hheap : T'.heap = t.heap := by rw [ht]; rfl
  have hpl : e.platform.magicAccessors = ({} : Platform).magicAccessors := by rw [X.admits.platform]
  obtain ⟨cE, hcE, hlk⟩ := Cond.classLink_spec hown (hts _ lw_catch) e.platform hpl
  obtain ⟨hgv, hwm, hrd⟩ := State.classEntry (e := e) X'.warmed hlk
  generalize T'.vm.noted m.cls 13 (.cls cE) = vm₂ at hgv hwm hrd
  have hcls : cell.cls = cE := by
    have h1 : (T.setVm vm₁).vm.findClass AE = some cell.cls := j4
    rw [hW₁.alike.findClass, hcE] at h1
    exact (Option.some.inj h1).symm
  obtain ⟨cc1, cc2, w1, w2, w3⟩ := Cond.castable_spec (hE.2.2.2.1 (AE, AE) (by decide))
  have w1 : s.vm.findClass AE = some cc1 := w1
  have w2 : s.vm.findClass AE = some cc2 := w2
  cases hcE.symm.trans w1
  cases hcE.symm.trans w2
  have hkc : ∃ k, vm₂.classes[cE]? = some k := Vm.classAt_of_findClass (name := AE) (by rw [hwm.alike.findClass]; exact hcE)
  have hfit : vm₂.assignable cell.cls cE = true := by rw [hwm.alike.assignable, hcls]; exact w3
  have hmt : T'.vm.method? m = some meth := X'.method'
  obtain ⟨t2, a1, b1⟩ := h z T'.heap (locs ++ L) ls (by rw [hheap]; exact j1)
    ⟨by rw [hheap]; exact Nat.le_trans hS.1 (by have := j5.1; rw [← hU]; exact this), fun q h1 h2 => by rw [hheap, j5.2 q (by show q < (T.setVm vm₁).heap.size; rw [hU]; exact Nat.lt_of_lt_of_le h1 hS.1) h2]; show (T.setVm vm₁).heap[q]? = _; rw [hU]; exact hS.2.1 q h1 h2, fun q hq => by
      rcases List.mem_append.mp hq with h | h
      · exact hS.2.2 q h
      · exact j8 q h⟩ hl hlen (T'.setVm vm₂) rfl (X'.noted hwm)
  refine ⟨t2, hstep₁ _ (fun acts => ?_), b1⟩
  rw [doInvoke_state]
  refine Steps.trans hsteps ?_
  rw [ht]
  refine caught_cold (vm' := vm₂) (pc := hpc) (c := c) X'.here (fun Q E d acts => ?_) a1
  rw [W.findHandler_eq (meth := meth) (code := c) (by rw [throwing_vm]; exact hmt) X.code, htab]
  refine fh_cold (c := cE) (cell := cell) (vm' := vm₂) (show covers (⟨0, 9, hpc, 13⟩ : ExceptionTableEntry) pc = true by simp [covers]; omega) (by show (13 : Nat) ≠ 0; decide) (by rw [throwing_vm]; exact hgv) (by rw [throwing_vm, hwm.2.1, X'.warmed.2.1]; exact Nat.le_refl _) (by rw [throwing_heap, hheap]; exact j2) (fun k hk => by rw [j3] at hk; cases hk) (by rw [hcls]; exact hkc) hkc hfit
