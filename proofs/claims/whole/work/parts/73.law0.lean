def R_law : String := "FleetWavesLaw"
def lw_P (b : Addr) (xs : List Int32) (args : Array Value) (s : State) : Prop := args = #[.ref b] ∧ s.IntsAt b xs ∧ xs.length ≤ 4096 ∧ (Jvm.Cond.and given_1 narrow_1).before args s = true
def lw_Q (_ : Array Value) (s : State) (o : Outcome) (t : State) : Prop := o = .returned (some (.int 1)) ∧ Framed s o t [] 601024 7293034
def lw_Z (below : List Frame) (a : Array Value) (s : State) : State → Prop := fun t => ∃ o, t.status = .running ∧ Ended t below o ∧ lw_Q a s o t
/-- the law's own end, with 1 on the stack, nothing written that was there before, its room as the claim has it -/
theorem lw_ret {p : Program} {l : Launch} {e : Env} {s : State} {m : MethodId} {below : List Frame} {meth : Method} {c : Code} {b : Nat} (hx : p.tables.exec = Jvm.exec) (hb : c.code = code) (hr : meth.sig.returnType = ret) (hlocks : meth.locks = false) {pc : Nat} {H : Heap} {ls : Array Slot} (hdg : decode code pc = .ok (.ireturn, 1)) : W p l e room_1 s m #[Value.ref b] below meth c H [] 601024 7293034 (lw_Z below #[Value.ref b] s) (F0 m pc ls [.int 1]) := by
  intro T hT X
  obtain ⟨fs, hret, hrun, hended, hW, hframe⟩ := X.leave (v := some (.int 1)) (hlocks := hlocks) (fun h => by rw [hr] at h; cases h)
  have hmeth' : T.vm.method? m = some meth := X.method'
  refine ⟨T.setFrames fs, ?_, .returned (some (.int 1)), hrun, hended, rfl, ⟨_, rfl⟩, hW, hframe⟩
  jvm_step X.here [X.here.top, hx, hb, hdg, hmeth', hr, ret, narrow_b1]
  (try refine ⟨rfl, ?_⟩); (try refine ⟨rfl, ?_⟩)
  first | (intro acts; rw [hret _ acts rfl rfl rfl]) | rw [hret _ _ rfl rfl rfl]
  exact Steps.refl _
/-- what holds at the law's entry: the machine, the code, the tables' words (any of lw_tbl by 'hts w (by decide +kernel)'), the script of L ints xs at the cell b, what the Statement gives of the start (any of its parts by flat_of_before) -/
def lw_At (p : Program) (s : State) (m : MethodId) (meth : Method) (c : Code) (b L : Nat) (xs : Nat → Int32) : Prop :=
  p.tables.exec = Jvm.exec ∧ c.code = code ∧ meth.sig.returnType = ret ∧ c.maxLocals = 8 ∧ s.vm.findClass R_law = some m.cls ∧ (∀ w ∈ lw_tbl, w.before #[Value.ref b] s = true) ∧ va_X b L xs s s.heap ∧ b < s.heap.size ∧ meth.locks = false ∧ (Jvm.Cond.and given_1 narrow_1).before #[Value.ref b] s = true
/-! THE LAW: its rows over the script; one turn for each kind of call. -/
def jL (a b : Int32) : Int64 := (a.toInt64 <<< ((32 : Int32).toInt64 &&& 63)) ||| (b.toInt64 &&& 4294967295)
/-- what stands at the law's start -/
def LC (p : Program) (e : Env) (s : State) (m : MethodId) (meth : Method) (c : Code) (D : va_G) (E : xEn) (b b0 L : Nat) (xs : Nat → Int32) : Prop := xIn p s m #[Value.ref b0] meth c D E b x code 8 (some .boolean) ∧ e.platform.stackTraces = false ∧ va_X b0 L xs s s.heap ∧ b0 < s.heap.size ∧ ¬ b ≤ b0 ∧ L ≤ 4096
/-- what stands at each turn's start -/
def LI (E : xEn) (G : xH) (x1 y oa : Nat) (Z : xZ) (σ : St) (N : Nat) (A : Nat → Nat) (cd : Int32) (f : Nat → Int64) : Prop := RepX E G x1 Z σ ∧ BfX Z σ ∧ vI N σ ∧ RepM E G y A cd σ ∧ (∀ q, MFt y A q → ¬ fpX Z σ q) ∧ G oa = some (.inl (E.1.2.1, 1, .inr (.inl f))) ∧ ¬ fpX Z σ oa ∧ ¬ MFt y A oa
theorem RepM.some_ {E : xEn} {G : xH} {y : Nat} {A : Nat → Nat} {cd : Int32} {σ : St} (h : RepM E G y A cd σ) {q : Nat} (hq : MFt y A q) : G q ≠ none := by
  obtain ⟨h1, h2, h3, h4, -⟩ := h
  rcases hq with rfl | ⟨k, hk, rfl⟩
  · rw [h1]; exact fun z => by cases z
  · simp only [mA, List.mem_cons, List.not_mem_nil, or_false] at hk
    rcases hk with rfl | rfl | rfl | rfl | rfl | rfl | rfl | rfl | rfl | rfl | rfl | rfl | rfl | rfl | rfl | rfl | rfl | rfl | rfl
    all_goals first | (rw [h2 _ (by decide)]; exact fun z => by cases z) | (rw [h3 _ (by decide)]; exact fun z => by cases z) | (rw [h4 _ (by decide)]; exact fun z => by cases z)
theorem RepM.agree {E : xEn} {G G' : xH} {y : Nat} {A : Nat → Nat} {cd : Int32} {σ : St} (h : RepM E G y A cd σ) (hg : ∀ q, MFt y A q → G' q = G q) : RepM E G' y A cd σ := by
  obtain ⟨h1, h2, h3, h4, h5⟩ := h
  have hk : ∀ k, k ∈ mI ∨ k ∈ mZ ∨ k ∈ mL → k ∈ mA := by intro k hk; simp only [mI, mZ, mL, mA, List.mem_cons, List.not_mem_nil, or_false] at hk ⊢; omega
  exact ⟨by rw [hg y (Or.inl rfl)]; exact h1, fun k q => by rw [hg _ (Or.inr ⟨k, hk k (Or.inl q), rfl⟩)]; exact h2 k q, fun k q => by rw [hg _ (Or.inr ⟨k, hk k (Or.inr (Or.inl q)), rfl⟩)]; exact h3 k q, fun k q => by rw [hg _ (Or.inr ⟨k, hk k (Or.inr (Or.inr q)), rfl⟩)]; exact h4 k q, h5⟩
section LW
variable {E : xEn} {G G1 G2 : xH} {x1 y oa N N' : Nat} {Z Z' : xZ} {σ σ' : St} {A : Nat → Nat} {cd cd' : Int32} {f : Nat → Int64}
theorem LI.mid (h : LI E G x1 y oa Z σ N A cd f) (hF : FrX Z σ G Z' σ' G1) : RepM E G1 y A cd σ := h.2.2.2.1.agree (fun q hq => (hF q (h.2.2.2.2.1 q hq) (h.2.2.2.1.some_ hq)).2)
theorem LI.next (h : LI E G x1 y oa Z σ N A cd f) (hF : FrX Z σ G Z' σ' G1) (hR : RepX E G1 x1 Z' σ') (hB : BfX Z' σ') (ho : vI N' σ') (hM : RepM E G2 y A cd' σ') (hG : ∀ q, ¬ MFt y A q → G2 q = G1 q) : LI E G2 x1 y oa Z' σ' N' A cd' f := by
  obtain ⟨h1, h2, h3, h4, h5, h6, h7, h8⟩ := h
  have hdis : ∀ q, MFt y A q → ¬ fpX Z' σ' q := fun q hq => (hF q (h5 q hq) (h4.some_ hq)).1
  have hoa := hF oa h7 (by rw [h6]; exact fun z => by cases z)
  exact ⟨hR.agree (fun q hq => hG q (fun z => hdis q z hq)), hB, ho, hM, hdis, by rw [hG oa h8, hoa.2]; exact h6, hoa.1, h8⟩
end LW
section LX
variable {p : Program} {l : Launch} {e : Env} {R : Room} {s : State} {m : MethodId} {args : Array Value} {below : List Frame} {meth : Method} {c : Code} {Q : State → Prop} {D : va_G} {E : xEn} {b b0 L : Nat} {xs : Nat → Int32} {cc : ByteArray}
theorem xw_sld (hx : p.tables.exec = Jvm.exec) (hb : c.code = cc) (hX : va_X b0 L xs s s.heap) (hbl : b0 < s.heap.size) (hbA : ¬ b ≤ b0) (hL4 : L ≤ 4096) {pc j : Nat} {idx : Int32} {lv : xL} {r : List Value} {G : xH} {ce sl : Nat} (hj : idx = nI j) (hjL : j < L) (hd : decode cc pc = .ok (.iaload, 1)) (h : xW p l e R s m args below meth c Q D xcls b (pc + 1) lv (.int (xs j) :: r) G ce sl) : xW p l e R s m args below meth c Q D xcls b pc lv (.int idx :: .ref b0 :: r) G ce sl := by
  intro H locs ls hp hs hl hn
  subst hj
  refine va_sld (A := fun q => b ≤ q) hx hb hX hbl hbA hs (vp_in_nI hjL (by omega)) hd ?_
  rw [nI_clamp (by omega)]
  exact h H locs ls hp hs hl hn
theorem xw_slen (hx : p.tables.exec = Jvm.exec) (hb : c.code = cc) (hX : va_X b0 L xs s s.heap) (hbl : b0 < s.heap.size) (hbA : ¬ b ≤ b0) {pc : Nat} {lv : xL} {r : List Value} {G : xH} {ce sl : Nat} (hd : decode cc pc = .ok (.arraylength, 1)) (h : xW p l e R s m args below meth c Q D xcls b (pc + 1) lv (.int (nI L) :: r) G ce sl) : xW p l e R s m args below meth c Q D xcls b pc lv (.ref b0 :: r) G ce sl :=
  fun H locs ls hp hs hl hn => va_slen (A := fun q => b ≤ q) hx hb hX hbl hbA hs hd (h H locs ls hp hs hl hn)
theorem law_rs {b0 : Nat} (hx : p.tables.exec = Jvm.exec) (hb : c.code = code) (hr : meth.sig.returnType = ret) (hlocks : meth.locks = false) (hbs : s.heap.size ≤ b) : xRs (xW p l e room_1 s m #[Value.ref b0] below meth c (lw_Z below #[Value.ref b0] s) D xcls b) code (some .boolean) (fun v _ ce sl => v = some (.int 1) ∧ ce ≤ 601024 ∧ sl ≤ 7293034) := by
  refine ⟨fun pc lv v G ce sl hd h => ?_, fun pc lv v G ce sl hd h => ?_, fun pc lv v G ce sl hv hd h => ?_, fun pc lv G ce sl hd h => ?_⟩
  · obtain ⟨-, h1, h2, h3⟩ := h
    cases h1
    intro H locs ls hp hs hl hn
    refine va_forget (fun q hq => Nat.le_trans hbs (hs.2.2 q hq)) ?_
    exact W.widen h2 h3 (lw_ret hx hb hr hlocks hd)
  · obtain ⟨-, h1, -⟩ := h
    cases h1
  · obtain ⟨-, h1, -⟩ := h
    rcases hv with rfl | ⟨a, rfl⟩ <;> cases h1
  · obtain ⟨-, h1, -⟩ := h
    cases h1
end LX
