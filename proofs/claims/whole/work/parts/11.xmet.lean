/-! CONTRACTS over the partial map: their form, their use at a call, their proof by a walk. -/
/-- the array classes' ids; the empty array that all fresh lists share; the Class object of Object[] -/
abbrev xEn : Type := xA4 × Nat × Nat
def xcast : List (String × String) := [("FleetWaves", "java/lang/Object"), ("FleetWaves$Car", "java/lang/Object"), ("FleetWaves$Campaign", "java/lang/Object"), ("FleetWaves$Wave", "java/lang/Object"), ("FleetWaves$Failure", "java/lang/Object"), ("FleetWavesModel", "java/lang/Object"), ("FleetWaves$Car", "FleetWaves$Car"), ("FleetWaves$Campaign", "FleetWaves$Campaign"), ("FleetWaves$Wave", "FleetWaves$Wave"), ("java/lang/ArithmeticException", "java/lang/ArithmeticException")]
/-- what the tables say of a throw: words that no method's own list bears -/
def xdec : List Cond := [.declares ⟨"java/lang/RuntimeException", "<init>", "(Ljava/lang/String;)V"⟩, .declares ⟨"java/lang/Exception", "<init>", "(Ljava/lang/String;)V"⟩, .declares ⟨"java/lang/Throwable", "<init>", "(Ljava/lang/String;)V"⟩]
theorem ls_kept {C n d : String} {b : Nat} {s U : State} (hZ : va_Zq C n d (fun q => b ≤ q) s s.heap) (hl : (Cond.laysStatic C n d).before #[] s = true) (hz : ∀ a : Nat, a < s.heap.size → ¬ b ≤ a → U.heap[a]? = s.heap[a]?) (hvm : s.vm.Alike U.vm) : (Cond.laysStatic C n d).before #[] U = true := by
  obtain ⟨c, k, i, f, a, cell, q1, q2, q3, q4, q5, q6, q7, q8, q9⟩ := Cond.laysStatic_spec hl
  have hA : ¬ b ≤ a := by
    rcases hZ with ⟨cf, kf, fi, f', a', cell', h1, h2, h3, h4, h5, h6, h7, h8⟩ | ⟨t, cf, kf, fi, f', a', cell', h1, h2, h3, h4, h5, h6, h7, h8⟩ <;>
    · cases q2.symm.trans h1
      cases q4.symm.trans h4
      exact h8
  have hlt := (Array.getElem?_eq_some_iff.mp q5).1
  have h9 : (Cond.laysStatic C n d).before #[] (U.setVm s.vm) = true := Cond.laysStatic_of (s := U.setVm s.vm) q1 q2 q3 q4 (by show U.heap[a]? = _; rw [hz a hlt hA]; exact q5) q6 q7 q8 q9
  have h10 := Cond.laysStatic_setVm (s := U.setVm s.vm) (vm' := U.vm) hvm h9
  exact h10
def xTh (b : Nat) (U : State) : Prop := va_Zq "java/lang/Throwable" "UNASSIGNED_STACK" "[Ljava/lang/StackTraceElement;" (fun q => b ≤ q) U U.heap ∧ va_Zq "java/lang/Throwable" "SUPPRESSED_SENTINEL" "Ljava/util/List;" (fun q => b ≤ q) U U.heap ∧ va_Nw (.laysStatic "java/lang/Throwable" "UNASSIGNED_STACK" "[Ljava/lang/StackTraceElement;") U ∧ va_Nw (.laysStatic "java/lang/Throwable" "SUPPRESSED_SENTINEL" "Ljava/util/List;") U ∧ (∀ w ∈ xdec, va_Nw w U) ∧ ∃ sa, vk_R "FleetWaves" 127 "no reports" sa U
theorem xTh.vm {b : Nat} {s U : State} (h : xTh b s) (hz : ∀ a : Nat, a < s.heap.size → ¬ b ≤ a → U.heap[a]? = s.heap[a]?) (hW : s.WarmedH U.vm) : xTh b U := by
  obtain ⟨h1, h2, h3, h4, h5, sa, h6⟩ := h
  have hvm := hW.alike
  refine ⟨va_Zq.moved hvm (va_Zq.kept h1 hz), va_Zq.moved hvm (va_Zq.kept h2 hz), ls_kept h1 h3 hz hvm, ls_kept h2 h4 hz hvm, fun w hw => ?_, sa, h6.warm hW⟩
  simp only [xdec, List.mem_cons, List.not_mem_nil, or_false] at hw
  rcases hw with rfl | rfl | rfl <;> exact va_tabs rfl (rfl : (s.setVm U.vm).vm = U.vm) (by rw [Cond.declares_setVm hvm]; exact h5 _ (by simp [xdec]))
/-- what old cells and tables hold, and nobody writes -/
def xE (D : va_G) (E : xEn) (b : Nat) (U : State) : Prop := va_K D xcls (xtys E.1) U ∧ va_Z "java/util/ArrayList" "DEFAULTCAPACITY_EMPTY_ELEMENTDATA" "[Ljava/lang/Object;" (.ref E.2.1) (fun q => b ≤ q) U U.heap ∧ va_T (.object "java/lang/Object") E.2.1 0 (fun _ => .null) (fun q => b ≤ q) U U.heap ∧ (∀ q ∈ xcast, va_Nw (.castable q.1 q.2) U) ∧ va_AO "java/lang/Object" U ∧ va_Dc U ∧ va_Mi "[Ljava/lang/Object;" E.2.2 U ∧ xTh b U
theorem xE.vm {D : va_G} {E : xEn} {b : Nat} {s U : State} (h : xE D E b s) (hz : ∀ a : Nat, a < s.heap.size → ¬ b ≤ a → U.heap[a]? = s.heap[a]?) (hW : s.WarmedH U.vm) : xE D E b U := by
  obtain ⟨h1, h2, h3, h4, h5, h6, h7, h8⟩ := h
  have hvm := hW.alike
  exact ⟨va_K.moved hvm h1, va_Z.moved hvm (va_Z.kept h2 hz), va_T.moved hvm (va_T.kept h3 hz), fun q hq => va_tabs rfl (rfl : (s.setVm U.vm).vm = U.vm) (by rw [Cond.castable_setVm hvm]; exact h4 q hq), va_AO.moved hvm h5, va_Dc.moved hvm h6, va_Mi.moved hvm h7, h8.vm hz hW⟩
theorem xE.moved {D : va_G} {E : xEn} {b : Nat} {s U : State} {H : Heap} {locs : List Loc} (h : xE D E b s) (hS : va_S (fun q => b ≤ q) s.heap H locs) (hU : U.heap = H) (hvm : s.WarmedH U.vm) : xE D E b U := h.vm (fun a h1 h2 => by rw [hU]; exact hS.2.1 a h1 h2) hvm
theorem xE.blind {D : va_G} {E : xEn} {b : Nat} {U : State} {g : JFrame} {mk : MethodId} {a : Array Value} (h : xE D E b U) : xE D E b (U.calling g mk a) := h.vm (U := U.calling g mk a) (fun _ _ _ => rfl) (State.WarmedH.refl U)
def xQc (D : va_G) (b : Nat) (po : Option Value → xH → Prop) : Array Value → State → Outcome → State → Prop := fun _ st oc t => (∃ (v : Option Value) (G' : xH), oc = .returned v ∧ po v G' ∧ xP D xcls b G' t.heap) ∧ va_F (fun q => b ≤ q) st t
def xPc (D : va_G) (E : xEn) (b : Nat) (As : List Value) (G : xH) : Array Value → State → Prop := va_Pc As (fun U => b ≤ U.heap.size ∧ xP D xcls b G U.heap ∧ xE D E b U)
theorem xPc.blind {D : va_G} {E : xEn} {b : Nat} {As : List Value} {G : xH} : FrameBlind (xPc D E b As G) := by
  intro a U g mk h
  obtain ⟨h0, h1, h2, h3⟩ := h
  exact ⟨h0, h1, h2, h3.blind⟩
def xMet (l : Launch) (y : MethodName) (cc : ByteArray) (mx : Nat) (ret : Option FieldType) (fr lo : Nat) (pre : xEn → List Value → xH → Prop) (post : xEn → List Value → xH → Option Value → xH → Prop) (mc ms : Nat) : Prop :=
  ∀ (D : va_G) (E : xEn) (b : Nat) (As : List Value) (G : xH), pre E As G → Met l y (.code y cc mx ret :: xT) { frames := fr, cells := mc, slots := ms, locals := lo } (xPc D E b As G) (xQc D b (post E As G)) mc ms (fun q => b ≤ q)
section XM
variable {p : Program} {l : Launch} {e : Env} {R : Room} {s : State} {m : MethodId} {args : Array Value} {below : List Frame} {meth : Method} {c : Code} {Q : State → Prop} {D : va_G} {E : xEn} {b : Nat} {cc cy : ByteArray} {own : String}
theorem xw_call {H : Heap} {locs : List Loc} {ls : Array Slot} {lv : xL} {pc ce sl mc ms : Nat} {st0 rest : List Value} {a : Array Value} {po : Option Value → xH → Prop} (hr : va_Run p l e R s m args below meth c H locs ce sl mc ms (F0 m pc ls st0) rest (xQc D b po a) (fun q => b ≤ q)) (hS : va_S (fun q => b ≤ q) s.heap H locs) (hl : xl ls lv) (hn : lv.length = c.maxLocals)
    (kk : ∀ (v : Option Value) (G' : xH), po v G' → xW p l e R s m args below meth c Q D xcls b (pc + 3) lv (v.toList ++ rest) G' (ce + mc) (sl + ms)) : W p l e R s m args below meth c H locs ce sl Q (F0 m pc ls st0) := by
  intro T hT X
  obtain ⟨v, st₀, t, T', L, h0, X', hL, e1, e2, ⟨⟨v', G', hv, hp, hb⟩, hz, hk⟩, st⟩ := hr T hT X
  cases hv
  rw [h0] at hz hk
  obtain ⟨t2, a1, b1⟩ := kk v G' hp T'.heap (locs ++ L) ls (by rw [e1]; exact hb)
    ⟨Nat.le_trans hS.1 (by rw [e1]; exact hz), fun q h1 h2 => by rw [e1, hk q (Nat.lt_of_lt_of_le h1 hS.1) h2]; exact hS.2.1 q h1 h2, fun q hq => by
      rcases List.mem_append.mp hq with h | h
      · exact hS.2.2 q h
      · exact hL q h⟩ hl hn T' rfl X'
  exact ⟨t2, st t2 a1, b1⟩
theorem xcd_V {y : MethodName} {mx : Nat} {ret : Option FieldType} {fr lo mc ms x ci n : Nat} {C : String} {T : u_T} {N : Nat} {pre : xEn → List Value → xH → Prop} {post : xEn → List Value → xH → Option Value → xH → Prop} (S : CallFix p m c cc c.maxLocals s args xT own) (hE : xE D E b s) (hbs : b ≤ s.heap.size) (hM : xMet l y cy mx ret fr lo pre post mc ms)
    (hc : xcls[ci]? = some (C, T, N)) (k1 : Cond.methodLink own x y ∈ xT) (k2 : Cond.instanceMethod y ∈ xT) (k3 : Cond.selects C y y ∈ xT) (k4 : Cond.initialized C ∈ xT) (k5 : Cond.code y cy mx ret ∈ xT)
    (hd : y.cls = C ∧ y.cls ≠ "java/lang/invoke/MethodHandle" ∧ y.cls ≠ "java/lang/invoke/VarHandle" ∧ (parseMethodDescriptor y.desc).map (fun d => d.parameters.length) = some n) (hR : fr + 1 ≤ R.frames ∧ 8 + (mx + 11) + lo ≤ R.locals)
    (hrec : ∀ As G, pre E As G → ∃ (a : Nat) (As' : List Value) (fs : List Value), As = .ref a :: As' ∧ G a = some (.inr (ci, fs))) :
    xCd (xW p l e R s m args below meth c Q D xcls b) R cc x ((0, n + 1), pre E, post E, mc, ms) := by
  intro pc lv As r G ce sl hdec hp h8 hce hsl kk
  rcases hdec with ⟨e0, hdec⟩ | ⟨e0, hdec⟩ | ⟨e0, hdec⟩
  · obtain ⟨a, As', fs, rfl, hG⟩ := hrec As G hp
    have hlen : As'.length = n := by
      have := congrArg Prod.snd e0
      simp at this
      omega
    intro H locs ls hP hS hl hn
    obtain ⟨ws, g1, g2, g3⟩ := id hP
    obtain ⟨q0, hq⟩ := (g3 _ _).mp hG
    have hg : GoodIn xT (wsV own x C y (.code y cy mx ret :: xT)) := xT_good (fun w hw => by
      simp only [wsV, List.cons_append, List.nil_append, List.mem_cons] at hw
      rcases hw with rfl | rfl | rfl | rfl | rfl | hw
      · exact k1
      · exact k2
      · exact k3
      · exact k4
      · exact k5
      · exact hw)
    refine xw_call (va_runV (As := As') (b := a) (rest := r) S (hM D E b (.ref a :: As') G hp) (cwV n S.2.2.2.2 hg rfl rfl rfl hd hR) ⟨xPc.blind, va_recv hE.1 g1 hc hq, fun U hU hW => ⟨rfl, by rw [hU]; exact Nat.le_trans hbs hS.1, by rw [hU]; exact hP, hE.moved hS hU hW⟩⟩ rfl hlen (by rw [← hn]; exact hl.1) (by simp) (lv_room h8) hdec ⟨hce, hsl⟩) hS hl hn kk
  · cases e0
  · cases e0
theorem xcd_S {y : MethodName} {mx : Nat} {ret : Option FieldType} {fr lo mc ms x n : Nat} {pre : xEn → List Value → xH → Prop} {post : xEn → List Value → xH → Option Value → xH → Prop} (S : CallFix p m c cc c.maxLocals s args xT own) (hE : xE D E b s) (hbs : b ≤ s.heap.size) (hM : xMet l y cy mx ret fr lo pre post mc ms)
    (k1 : Cond.methodLink own x y ∈ xT) (k2 : Cond.static y ∈ xT) (k4 : Cond.initialized y.cls ∈ xT) (k5 : Cond.code y cy mx ret ∈ xT)
    (hd : y.cls ≠ "java/lang/invoke/MethodHandle" ∧ y.cls ≠ "java/lang/invoke/VarHandle" ∧ (parseMethodDescriptor y.desc).map (fun d => d.parameters.length) = some n) (hR : fr + 1 ≤ R.frames ∧ 8 + (mx + 11) + lo ≤ R.locals) :
    xCd (xW p l e R s m args below meth c Q D xcls b) R cc x ((2, n), pre E, post E, mc, ms) := by
  intro pc lv As r G ce sl hdec hp h8 hce hsl kk
  rcases hdec with ⟨e0, hdec⟩ | ⟨e0, hdec⟩ | ⟨e0, hdec⟩
  · cases e0
  · cases e0
  · have hlen : As.length = n := by
      have := congrArg Prod.snd e0
      simp at this
      omega
    intro H locs ls hP hS hl hn
    have hg : GoodIn xT (va_wsS own x y (.code y cy mx ret :: xT)) := xT_good (fun w hw => by
      simp only [va_wsS, List.cons_append, List.nil_append, List.mem_cons] at hw
      rcases hw with rfl | rfl | rfl | rfl | hw
      · exact k1
      · exact k2
      · exact k4
      · exact k5
      · exact hw)
    refine xw_call (va_runS (As := As) (rest := r) S (hM D E b As G hp) (va_cwS n S.2.2.2.2 hg rfl rfl rfl hd hR) ⟨xPc.blind, fun U hU hW => ⟨rfl, by rw [hU]; exact Nat.le_trans hbs hS.1, by rw [hU]; exact hP, hE.moved hS hU hW⟩⟩ rfl hlen (by rw [← hn]; exact hl.1) rfl (lv_room h8) hdec ⟨hce, hsl⟩) hS hl hn kk
theorem xcd_I {y : MethodName} {mx : Nat} {fr lo mc ms x n : Nat} {pre : xEn → List Value → xH → Prop} {post : xEn → List Value → xH → Option Value → xH → Prop} (S : CallFix p m c cc c.maxLocals s args xT own) (hE : xE D E b s) (hbs : b ≤ s.heap.size) (hM : xMet l y cy mx none fr lo pre post mc ms)
    (k1 : Cond.methodLink own x y ∈ xT) (k2 : Cond.instanceMethod y ∈ xT) (k4 : Cond.initialized y.cls ∈ xT) (k5 : Cond.code y cy mx none ∈ xT) (hy : y.name = "<init>")
    (hd : y.cls ≠ "java/lang/invoke/MethodHandle" ∧ y.cls ≠ "java/lang/invoke/VarHandle" ∧ (parseMethodDescriptor y.desc).map (fun d => d.parameters.length) = some n) (hR : fr + 1 ≤ R.frames ∧ 8 + (mx + 11) + lo ≤ R.locals)
    (hrec : ∀ As G, pre E As G → ∃ (a : Nat) (As' : List Value), As = .ref a :: As') :
    xCd (xW p l e R s m args below meth c Q D xcls b) R cc x ((1, n + 1), pre E, post E, mc, ms) := by
  intro pc lv As r G ce sl hdec hp h8 hce hsl kk
  rcases hdec with ⟨e0, hdec⟩ | ⟨e0, hdec⟩ | ⟨e0, hdec⟩
  · cases e0
  · obtain ⟨a, As', rfl⟩ := hrec As G hp
    have hlen : As'.length = n := by
      have := congrArg Prod.snd e0
      simp at this
      omega
    intro H locs ls hP hS hl hn
    have hg : GoodIn xT (.code y cy mx none :: xT) := xT_good (fun w hw => by
      simp only [List.mem_cons] at hw
      rcases hw with rfl | hw
      · exact k5
      · exact hw)
    refine xw_call (va_runI (As := As') (b := a) (rest := r) S (hM D E b (.ref a :: As') G hp) (cwI n S.2.2.2.2 hg rfl rfl rfl (S.2.2.2.2 _ k4) (S.2.2.2.2 _ k1) (S.2.2.2.2 _ k2) hy hd hR) ⟨xPc.blind, fun U hU hW => ⟨rfl, by rw [hU]; exact Nat.le_trans hbs hS.1, by rw [hU]; exact hP, hE.moved hS hU hW⟩⟩ rfl hlen (by rw [← hn]; exact hl.1) (by simp) (lv_room h8) hdec ⟨hce, hsl⟩) hS hl hn kk
  · cases e0
/-- Object's constructor -/
theorem xcd_O {x : Nat} (S : CallFix p m c cc c.maxLocals s args xT own) (k1 : Cond.methodLink own x objectInit ∈ xT) (k2 : Cond.instanceMethod objectInit ∈ xT) (k3 : Cond.code objectInit ⟨#[0xb1]⟩ 1 none ∈ xT) (hR : 1 ≤ R.frames ∧ 20 ≤ R.locals) :
    xCd (xW p l e R s m args below meth c Q D xcls b) R cc x ((1, 1), (fun As _ => ∃ a : Nat, As = [.ref a]), (fun _ G v G' => v = none ∧ G' = G), 0, 0) := by
  intro pc lv As r G ce sl hdec hp h8 hce hsl kk
  obtain ⟨hx, hb, hml, hown, hts⟩ := S
  rcases hdec with ⟨e0, hdec⟩ | ⟨e0, hdec⟩ | ⟨e0, hdec⟩
  · cases e0
  · obtain ⟨a, rfl⟩ := hp
    intro H locs ls hP hS hl hn
    refine W.objInit (a := a) (rest := r) hx hb hown (hts _ k1) (hts _ k2) (hts _ k3) rfl (by rw [← hn]; exact hl.1) rfl hdec hR.1 (by show 2 * 0 + _ + 12 ≤ _; omega) ?_
    exact kk none G ⟨rfl, rfl⟩ H locs ls hP hS hl hn
  · cases e0
theorem xRs_of {rt : Option FieldType} {po : Option Value → xH → Prop} {mc ms : Nat} (hx : p.tables.exec = Jvm.exec) (hb : c.code = cc) (hr : meth.sig.returnType = rt) (hlocks : meth.locks = false) :
    xRs (xW p l e R s m args below meth c (MQ below (xQc D b po) args s mc ms (fun q => b ≤ q)) D xcls b) cc rt (fun v G ce sl => ce ≤ mc ∧ sl ≤ ms ∧ po v G) := by
  refine ⟨fun pc lv v G ce sl hd h => ?_, fun pc lv v G ce sl hd h => ?_, fun pc lv v G ce sl hv hd h => ?_, fun pc lv G ce sl hd h => ?_⟩
  · obtain ⟨h1, h2, h3, h4⟩ := h
    intro H locs ls hP hS hl hn
    cases rt with
    | none => exact h1.elim
    | some t =>
      refine W.widen h2 h3 (W.zret hx hb hr ?_ (fun t ht hW => ⟨⟨_, G, rfl, h4, by rw [ht]; exact hP⟩, hS.F ht⟩) hS.2.2 hd)
      cases t <;> exact h1
  · obtain ⟨h1, h2, h3, h4⟩ := h
    intro H locs ls hP hS hl hn
    have e1 : rt = some .long := by
      cases rt with
      | none => exact h1.elim
      | some t => cases t <;> first | rfl | exact h1.elim
    subst e1
    exact W.widen h2 h3 (W.lret hx hb hr (fun t ht hW => ⟨⟨_, G, rfl, h4, by rw [ht]; exact hP⟩, hS.F ht⟩) hS.2.2 hd)
  · obtain ⟨h1, h2, h3, h4⟩ := h
    intro H locs ls hP hS hl hn
    have e1 : ∃ t, rt = some t ∧ ((∃ n, t = .object n) ∨ ∃ t', t = .array t') := by
      cases rt with
      | none => rcases hv with rfl | ⟨a, rfl⟩ <;> exact h1.elim
      | some t =>
        refine ⟨t, rfl, ?_⟩
        cases t <;> first | exact Or.inl ⟨_, rfl⟩ | exact Or.inr ⟨_, rfl⟩ | (rcases hv with rfl | ⟨a, rfl⟩ <;> exact h1.elim)
    obtain ⟨t, rfl, e2⟩ := e1
    exact W.widen h2 h3 (W.aret hx hb hr e2 hv (fun t ht hW => ⟨⟨_, G, rfl, h4, by rw [ht]; exact hP⟩, hS.F ht⟩) hS.2.2 hd)
  · obtain ⟨h1, h2, h3, h4⟩ := h
    intro H locs ls hP hS hl hn
    have e1 : rt = none := by
      cases rt with
      | none => rfl
      | some t => cases t <;> exact h1.elim
    subst e1
    exact W.widen h2 h3 (W.vret hx hb hr (fun t ht hW => ⟨⟨_, G, rfl, h4, by rw [ht]; exact hP⟩, hS.F ht⟩) hS.2.2 hd)
end XM
/-- the locals at the entry -/
def xfl : List Value → xL
  | [] => []
  | v :: vs => if v.category = 2 then some v :: none :: xfl vs else some v :: xfl vs
def xent (As : List Value) (n : Nat) : xL := xfl As ++ List.replicate (n - (xfl As).length) none
theorem xpr_rep : ∀ (k i : Nat), xpr i (List.replicate k none) = []
  | 0, i => rfl
  | k + 1, i => by rw [List.replicate_succ, xpr]; exact xpr_rep k (i + 1)
theorem xpr_app : ∀ (a c : xL) (i : Nat), xpr i (a ++ c) = xpr i a ++ xpr (i + a.length) c
  | [], c, i => by simp [xpr]
  | none :: t, c, i => by
    simp only [List.cons_append, xpr, List.length_cons]
    rw [xpr_app t c (i + 1)]
    congr 2
    omega
  | some v :: t, c, i => by
    simp only [List.cons_append, xpr, List.length_cons]
    rw [xpr_app t c (i + 1), show i + 1 + t.length = i + (t.length + 1) by omega]
theorem xpr_fl : ∀ (vs : List Value) (i : Nat), xpr i (xfl vs) = lv_args i vs
  | [], i => rfl
  | v :: vs, i => by
    unfold xfl lv_args
    by_cases h : v.category = 2
    · rw [if_pos h, if_pos h, xpr, xpr, xpr_fl vs (i + 1 + 1)]
    · rw [if_neg h, if_neg h, xpr, xpr_fl vs (i + 1)]
theorem xfl_len : ∀ (vs : List Value), (xfl vs).length = (lg_sl vs).length
  | [] => rfl
  | v :: vs => by
    have ih := xfl_len vs
    unfold xfl lg_sl
    rw [List.flatMap_cons, List.length_append]
    by_cases h : v.category = 2
    · rw [if_pos h, if_pos h]
      simp only [List.length_cons, List.length_nil]
      rw [ih]
      unfold lg_sl
      omega
    · rw [if_neg h, if_neg h]
      simp only [List.length_cons, List.length_nil]
      rw [ih]
      unfold lg_sl
      omega
theorem xent_xl (As : List Value) (n : Nat) (h : (xfl As).length ≤ n) : xl ((lg_sl As ++ List.replicate (n - (lg_sl As).length) Slot.unset).toArray) (xent As n) ∧ (xent As n).length = n := by
  have hlen : (xent As n).length = n := by
    unfold xent
    rw [List.length_append, List.length_replicate]
    omega
  refine ⟨?_, hlen⟩
  unfold xl
  rw [hlen]
  have e1 : xpr 0 (xent As n) = lv_args 0 As := by
    unfold xent
    rw [xpr_app, xpr_rep, List.append_nil, xpr_fl]
  rw [e1]
  exact lv_entry As (by rw [← xfl_len]; exact h)
/-- what a method's walk may use of its start -/
def xIn (p : Program) (s : State) (m : MethodId) (args : Array Value) (meth : Method) (c : Code) (D : va_G) (E : xEn) (b : Nat) (y : MethodName) (cc : ByteArray) (mx : Nat) (ret : Option FieldType) : Prop :=
  CallFix p m c cc c.maxLocals s args xT y.cls ∧ xE D E b s ∧ b ≤ s.heap.size ∧ meth.name = y.name ∧ meth.sig.returnType = ret ∧ meth.locks = false ∧ c.maxLocals = mx
theorem xMet_of {l : Launch} {y : MethodName} {cc : ByteArray} {mx : Nat} {ret : Option FieldType} {fr lo mc ms : Nat} {pre : xEn → List Value → xH → Prop} {post : xEn → List Value → xH → Option Value → xH → Prop} (hy : plainName y.cls = true)
    (body : ∀ (E : xEn) (As : List Value) (G : xH), pre E As G → (xfl As).length ≤ mx ∧ ∀ (D : va_G) (b : Nat) (p : Program) (e : Env) (s : State) (m : MethodId) (args : Array Value) (below : List Frame) (meth : Method) (c : Code), xIn p s m args meth c D E b y cc mx ret →
      xW p l e { frames := fr, cells := mc, slots := ms, locals := lo } s m args below meth c (MQ below (xQc D b (post E As G)) args s mc ms (fun q => b ≤ q)) D xcls b 0 (xent As mx) [] G 0 0) : xMet l y cc mx ret fr lo pre post mc ms := by
  intro D E b As G hpre
  obtain ⟨hlen, body⟩ := body E As G hpre
  refine Met.ofW (cc := cc) (maxL := mx) (ret := ret) hy rfl ?_
  intro p e s m args below meth c s₁ B hml hv
  obtain ⟨rfl, hbs, hP, hE⟩ := hv
  have hts := atoms_spec (ws := .code y cc mx ret :: xT) B.pre
  have hI : xIn p s m As.toArray meth c D E b y cc mx ret := ⟨⟨B.exec, B.bytes, rfl, findClass_of_methodNamed B.named, fun w hw => hts w (List.mem_cons_of_mem _ hw)⟩, hE, hbs, (name_of_methodNamed B.named B.method).1, B.returns, B.notSynchronized, hml⟩
  obtain ⟨h1, h2⟩ := xent_xl As mx hlen
  rw [lg_entry_eq]
  exact body D b p e s m As.toArray below meth c hI s.heap [] _ hP va_S.rf h1 (by rw [h2]; exact hml.symm)
