def xFd (s : State) (args : Array Value) (own : String) (Ts : List Cond) (cl : List vw_C) (x : Nat) (f : xFe) : Prop :=
  ∃ (C ref : String) (T : u_T) (N : Nat) (ty0 : Nat → FieldType), cl[f.1]? = some (C, T, N) ∧ (∀ w ∈ u_ws C T N, w ∈ Ts) ∧ f.2.1 < N ∧ (Cond.fieldLink own x ref (T f.2.1).2.1 (T f.2.1).2.2.1).before args s = true ∧
    (∀ y, s.fieldFound? (T f.2.1).1 (T f.2.1).2.1 (T f.2.1).2.2.1 = some y → s.fieldFound? ref (T f.2.1).2.1 (T f.2.1).2.2.1 = some y) ∧ (∀ k, k < N → parseFieldDescriptor (T k).2.2.1 = some (ty0 k)) ∧ (∀ a, a < N → ∀ b, b < N → a ≠ b → (T a).2.1 ≠ (T b).2.1) ∧
    parseFieldDescriptor (T f.2.1).2.2.1 = some f.2.2.1 ∧ (f.2.2.2 = 0 → (T f.2.1).2.2.2 = false) ∧ (f.2.2.2 = 1 → (T f.2.1).2.2.2 = true ∧ (T f.2.1).1 = own)
def xNd (s : State) (args : Array Value) (own : String) (Ts : List Cond) (cl : List vw_C) (x : Nat) (o : Nat × Nat × List Value) : Prop :=
  ∃ (C : String) (T : u_T) (ty : Nat → FieldType), cl[o.1]? = some (C, T, o.2.1) ∧ (∀ w ∈ u_ws C T o.2.1, w ∈ Ts) ∧ (∀ k, k < o.2.1 → parseFieldDescriptor (T k).2.2.1 = some (ty k)) ∧ (Cond.classLink own x C).before args s = true ∧ (Cond.instantiable C o.2.1).before args s = true ∧ (Cond.initialized C).before args s = true ∧ (∀ j, j < o.2.1 → defaultValue (ty j) = vp_V o.2.2 j)
def xCd (k : xJ) (R : Room) (cc : ByteArray) (x : Nat) (sp : xSp) : Prop :=
  ∀ (pc : Nat) (lv : xL) (As r : List Value) (G : xH) (ce sl : Nat), ((sp.1 = (0, As.length) ∧ decode cc pc = .ok (.invokevirtual x, 3)) ∨ (sp.1 = (1, As.length) ∧ decode cc pc = .ok (.invokespecial x, 3)) ∨ (sp.1 = (2, As.length) ∧ decode cc pc = .ok (.invokestatic x, 3))) → sp.2.1 As G → (r.map fun v => v.category).sum ≤ 8 → ce + sp.2.2.2.1 ≤ R.cells → sl + sp.2.2.2.2 ≤ R.slots →
    (∀ (v : Option Value) (G' : xH), sp.2.2.1 As G v G' → k (pc + 3) lv (v.toList ++ r) G' (ce + sp.2.2.2.1) (sl + sp.2.2.2.2)) → k pc lv (As.reverse ++ r) G ce sl
def xRs (k : xJ) (cc : ByteArray) (rt : Option FieldType) (P : Option Value → xH → Nat → Nat → Prop) : Prop :=
  (∀ (pc : Nat) (lv : xL) (v : Int32) (G : xH) (ce sl : Nat), decode cc pc = .ok (.ireturn, 1) → xRet P rt (some (.int v)) G ce sl → k pc lv [.int v] G ce sl) ∧
  (∀ (pc : Nat) (lv : xL) (v : Int64) (G : xH) (ce sl : Nat), decode cc pc = .ok (.lreturn, 1) → xRet P rt (some (.long v)) G ce sl → k pc lv [.long v] G ce sl) ∧
  (∀ (pc : Nat) (lv : xL) (v : Value) (G : xH) (ce sl : Nat), (v = .null ∨ ∃ a, v = .ref a) → decode cc pc = .ok (.areturn, 1) → xRet P rt (some v) G ce sl → k pc lv [v] G ce sl) ∧
  (∀ (pc : Nat) (lv : xL) (G : xH) (ce sl : Nat), decode cc pc = .ok (.return_, 1) → xRet P rt none G ce sl → k pc lv [] G ce sl)
/-- what a method's pool and the tables say of its instructions -/
def xOK (p : Program) (l : Launch) (R : Room) (s : State) (m : MethodId) (args : Array Value) (meth : Method) (c : Code) (D : va_G) (cl : List vw_C) (b : Nat) (cc : ByteArray) (own : String) (Ts : List Cond) (tb : xTb) (A : xA4) (ini : Bool) (rt : Option FieldType) (P : Option Value → xH → Nat → Nat → Prop) (k : xJ) : Prop :=
  CallFix p m c cc c.maxLocals s args Ts own ∧ va_K D cl (xtys A) s ∧ b ≤ s.heap.size ∧ (ini = true → meth.name = "<init>") ∧ (∀ x f, tb.1 x = some f → xFd s args own Ts cl x f) ∧ (∀ x o, tb.2.1 x = some o → xNd s args own Ts cl x o) ∧
  (∀ x v, tb.2.2.1 x = some v → (Cond.constant own x v).before args s = true) ∧ (∀ x v, tb.2.2.2.1 x = some v → (Cond.constantLong own x v).before args s = true) ∧ (∀ x sp, tb.2.2.2.2.1 x = some sp → xCd k R cc x sp) ∧
  (∀ x ci, tb.2.2.2.2.2 x = some ci → ∃ (r : vw_C) (nm : String), cl[ci]? = some r ∧ (Cond.classLink own x nm).before args s = true ∧ va_Nw (.castable r.1 nm) s) ∧
  (∀ (ci : Nat) (r : vw_C), ci < 6 → cl[ci]? = some r → va_Nw (.castable r.1 "java/lang/Object") s) ∧ (Cond.arrayClass .int).before args s = true ∧ (Cond.arrayClass .long).before args s = true ∧ (Cond.arrayClass .boolean).before args s = true ∧ xRs k cc rt P
section XS
variable {p : Program} {l : Launch} {e : Env} {R : Room} {s : State} {m : MethodId} {args : Array Value} {below : List Frame} {meth : Method} {c : Code} {Q : State → Prop} {D : va_G} {cl : List vw_C} {b : Nat} {cc : ByteArray} {own : String} {Ts : List Cond} {tb : xTb} {A : xA4} {ini : Bool} {rt : Option FieldType} {P : Option Value → xH → Nat → Nat → Prop}
theorem xw_st1 {pc pc2 i : Nat} {lv : xL} {v : Value} {r st : List Value} {G : xH} {ce sl : Nat} (hi : i < lv.length)
    (row : ∀ (H : Heap) (locs : List Loc) (ls : Array Slot), lv_has ls lv.length (xpr 0 lv) → (∀ ls' : Array Slot, lv_has ls' lv.length ((i, v) :: (xpr 0 lv).filter (fun q => !(q.1 == i) && !(q.1 + 1 == i && q.2.category == 2))) → W p l e R s m args below meth c H locs ce sl Q (F0 m pc2 ls' r)) → W p l e R s m args below meth c H locs ce sl Q (F0 m pc ls st))
    (h : xW p l e R s m args below meth c Q D cl b pc2 (xs1 lv i v) r G ce sl) : xW p l e R s m args below meth c Q D cl b pc lv st G ce sl :=
  fun H locs ls hp hs hl hn => row H locs ls hl (fun ls' h' => h H locs ls' hp hs (xl.s1 h') (by rw [xs1_len]; exact hn))
theorem xw_st2 {pc pc2 i : Nat} {lv : xL} {v : Value} {r st : List Value} {G : xH} {ce sl : Nat} (hi : i + 1 < lv.length)
    (row : ∀ (H : Heap) (locs : List Loc) (ls : Array Slot), lv_has ls lv.length (xpr 0 lv) → (∀ ls' : Array Slot, lv_has ls' lv.length ((i, v) :: (xpr 0 lv).filter (fun q => !(q.1 == i) && (!(q.1 == i + 1) && !(q.1 + 1 == i && q.2.category == 2)))) → W p l e R s m args below meth c H locs ce sl Q (F0 m pc2 ls' r)) → W p l e R s m args below meth c H locs ce sl Q (F0 m pc ls st))
    (h : xW p l e R s m args below meth c Q D cl b pc2 (xs2 lv i v) r G ce sl) : xW p l e R s m args below meth c Q D cl b pc lv st G ce sl :=
  fun H locs ls hp hs hl hn => row H locs ls hl (fun ls' h' => h H locs ls' hp hs (xl.s2 h') (by rw [xs2_len]; exact hn))
theorem xw_nwa_int (hx : p.tables.exec = Jvm.exec) (hb : c.code = cc) (hA : (Cond.arrayClass .int).before args s = true) (hK : va_K D cl (xtys A) s) (hbs : b ≤ s.heap.size) {pc : Nat} {lv : xL} {r : List Value} {n : Int32} {G : xH} {ce sl : Nat} (hd : decode cc pc = .ok (.newarray .int, 2)) (e1 : ¬ n < 0) (e2 : n.toNatClampNeg ≤ 60000) (e3 : ce + 1 ≤ R.cells) (e4 : sl + n.toNatClampNeg ≤ R.slots)
    (h : ∀ q : Nat, G q = none → xW p l e R s m args below meth c Q D cl b (pc + 2) lv (.ref q :: r) (xup G q (.inl (A.1, n.toNatClampNeg, .inl (fun _ => 0)))) (ce + 1) (sl + n.toNatClampNeg)) : xW p l e R s m args below meth c Q D cl b pc lv (.int n :: r) G ce sl := by
  refine fun H locs ls hp hs hl hn => ?_
  obtain ⟨ws, g1, g2, g3⟩ := id hp
  have hty : newarray.typeOf .int = .int := rfl
  have hA' : (Cond.arrayClass (newarray.typeOf .int)).before args s = true := by rw [hty]; exact hA
  have hby : n.toNatClampNeg * componentBytes .int ≤ 536870912 := by
    have hc : componentBytes .int ≤ 8 := by decide
    exact Nat.le_trans (Nat.mul_le_mul e2 hc) (by decide)
  refine va_newa (atype := .int) (ty := .int) (a0 := (n.toNatClampNeg, .inl (fun _ => 0))) hx hb hA' hty hK g1 g2 hs (fun q hq => Nat.le_trans hbs hq) (fun cA => rfl) e1 rfl hby e3 e4 hd (fun q cA H1 hK' a1 a2 a3 => ?_)
  have h1 : s.vm.findClass ("[" ++ FieldType.int.toString) = some cA := (hK'.2 4 (cA, .int) rfl).2
  have h2 : s.vm.findClass ("[" ++ FieldType.int.toString) = some A.1 := (hK.2 0 (A.1, .int) rfl).2
  have h3 : cA = A.1 := Option.some.inj (h1.symm.trans h2)
  subst h3
  exact h q (xG_push g3 a2).1 H1 locs ls (xP.mk a1 a2 (xG_push g3 a2).2) a3 hl hn
theorem xw_nwa_long (hx : p.tables.exec = Jvm.exec) (hb : c.code = cc) (hA : (Cond.arrayClass .long).before args s = true) (hK : va_K D cl (xtys A) s) (hbs : b ≤ s.heap.size) {pc : Nat} {lv : xL} {r : List Value} {n : Int32} {G : xH} {ce sl : Nat} (hd : decode cc pc = .ok (.newarray .long, 2)) (e1 : ¬ n < 0) (e2 : n.toNatClampNeg ≤ 60000) (e3 : ce + 1 ≤ R.cells) (e4 : sl + n.toNatClampNeg ≤ R.slots)
    (h : ∀ q : Nat, G q = none → xW p l e R s m args below meth c Q D cl b (pc + 2) lv (.ref q :: r) (xup G q (.inl (A.2.1, n.toNatClampNeg, .inr (.inl (fun _ => 0))))) (ce + 1) (sl + n.toNatClampNeg)) : xW p l e R s m args below meth c Q D cl b pc lv (.int n :: r) G ce sl := by
  refine fun H locs ls hp hs hl hn => ?_
  obtain ⟨ws, g1, g2, g3⟩ := id hp
  have hty : newarray.typeOf .long = .long := rfl
  have hA' : (Cond.arrayClass (newarray.typeOf .long)).before args s = true := by rw [hty]; exact hA
  have hby : n.toNatClampNeg * componentBytes .long ≤ 536870912 := by
    have hc : componentBytes .long ≤ 8 := by decide
    exact Nat.le_trans (Nat.mul_le_mul e2 hc) (by decide)
  refine va_newa (atype := .long) (ty := .long) (a0 := (n.toNatClampNeg, .inr (.inl (fun _ => 0)))) hx hb hA' hty hK g1 g2 hs (fun q hq => Nat.le_trans hbs hq) (fun cA => rfl) e1 rfl hby e3 e4 hd (fun q cA H1 hK' a1 a2 a3 => ?_)
  have h1 : s.vm.findClass ("[" ++ FieldType.long.toString) = some cA := (hK'.2 4 (cA, .long) rfl).2
  have h2 : s.vm.findClass ("[" ++ FieldType.long.toString) = some A.2.1 := (hK.2 1 (A.2.1, .long) rfl).2
  have h3 : cA = A.2.1 := Option.some.inj (h1.symm.trans h2)
  subst h3
  exact h q (xG_push g3 a2).1 H1 locs ls (xP.mk a1 a2 (xG_push g3 a2).2) a3 hl hn
theorem xw_nwa_boolean (hx : p.tables.exec = Jvm.exec) (hb : c.code = cc) (hA : (Cond.arrayClass .boolean).before args s = true) (hK : va_K D cl (xtys A) s) (hbs : b ≤ s.heap.size) {pc : Nat} {lv : xL} {r : List Value} {n : Int32} {G : xH} {ce sl : Nat} (hd : decode cc pc = .ok (.newarray .boolean, 2)) (e1 : ¬ n < 0) (e2 : n.toNatClampNeg ≤ 60000) (e3 : ce + 1 ≤ R.cells) (e4 : sl + n.toNatClampNeg ≤ R.slots)
    (h : ∀ q : Nat, G q = none → xW p l e R s m args below meth c Q D cl b (pc + 2) lv (.ref q :: r) (xup G q (.inl (A.2.2.1, n.toNatClampNeg, .inl (fun _ => 0)))) (ce + 1) (sl + n.toNatClampNeg)) : xW p l e R s m args below meth c Q D cl b pc lv (.int n :: r) G ce sl := by
  refine fun H locs ls hp hs hl hn => ?_
  obtain ⟨ws, g1, g2, g3⟩ := id hp
  have hty : newarray.typeOf .boolean = .boolean := rfl
  have hA' : (Cond.arrayClass (newarray.typeOf .boolean)).before args s = true := by rw [hty]; exact hA
  have hby : n.toNatClampNeg * componentBytes .boolean ≤ 536870912 := by
    have hc : componentBytes .boolean ≤ 8 := by decide
    exact Nat.le_trans (Nat.mul_le_mul e2 hc) (by decide)
  refine va_newa (atype := .boolean) (ty := .boolean) (a0 := (n.toNatClampNeg, .inl (fun _ => 0))) hx hb hA' hty hK g1 g2 hs (fun q hq => Nat.le_trans hbs hq) (fun cA => rfl) e1 rfl hby e3 e4 hd (fun q cA H1 hK' a1 a2 a3 => ?_)
  have h1 : s.vm.findClass ("[" ++ FieldType.boolean.toString) = some cA := (hK'.2 4 (cA, .boolean) rfl).2
  have h2 : s.vm.findClass ("[" ++ FieldType.boolean.toString) = some A.2.2.1 := (hK.2 2 (A.2.2.1, .boolean) rfl).2
  have h3 : cA = A.2.2.1 := Option.some.inj (h1.symm.trans h2)
  subst h3
  exact h q (xG_push g3 a2).1 H1 locs ls (xP.mk a1 a2 (xG_push g3 a2).2) a3 hl hn
theorem xw_fresh {G : xH} {H : Heap} (hp : xP D cl b G H) : G H.size = none := by
  obtain ⟨ws, g1, g2, g3⟩ := hp
  cases hg : G H.size with
  | none => rfl
  | some e1 =>
    obtain ⟨q0, hq⟩ := (g3 _ _).mp hg
    exact absurd (g1 q0 _ hq).lt (Nat.lt_irrefl _)
theorem xstep_a {k : xJ} (hC : xOK p l R s m args meth c D cl b cc own Ts tb A ini rt P (xW p l e R s m args below meth c Q D cl b)) (hk : ∀ pc lv st G ce sl, k pc lv st G ce sl → xW p l e R s m args below meth c Q D cl b pc lv st G ce sl)
    {pc len : Nat} {i : Instr} {lv : xL} {st : List Value} {G : xH} {ce sl : Nat} (hd : decode cc pc = .ok (i, len)) (h : xstep tb A R ini rt P k pc i len lv st G ce sl) : xW p l e R s m args below meth c Q D cl b pc lv st G ce sl := by
  obtain ⟨⟨hx, hb, hml, hown, hts⟩, hK, hbs, hin, hF, hN, hI, hJ, hCa, hX, hO, hAi, hAl, hAz, hR⟩ := hC
  cases i
  case aconst_null =>
    obtain ⟨rfl, h⟩ := h
    exact fun H locs ls hp hs hl hn => lv_null hx hb hd (hk _ _ _ _ _ _ h H locs ls hp hs hl hn)
  case iconst n =>
    obtain ⟨rfl, h⟩ := h
    exact fun H locs ls hp hs hl hn => lv_iconst hx hb hd rfl (hk _ _ _ _ _ _ h H locs ls hp hs hl hn)
  case bipush n =>
    obtain ⟨rfl, h⟩ := h
    exact fun H locs ls hp hs hl hn => lv_bipush hx hb hd rfl (hk _ _ _ _ _ _ h H locs ls hp hs hl hn)
  case sipush n =>
    obtain ⟨rfl, h⟩ := h
    exact fun H locs ls hp hs hl hn => lv_sipush hx hb hd rfl (hk _ _ _ _ _ _ h H locs ls hp hs hl hn)
  case lconst n =>
    obtain ⟨rfl, h⟩ := h
    exact fun H locs ls hp hs hl hn => lv_lconst hx hb hd rfl (hk _ _ _ _ _ _ h H locs ls hp hs hl hn)
  case ldc x =>
    obtain ⟨rfl, h⟩ := h
    split at h
    next v e1 => exact fun H locs ls hp hs hl hn => lv_ldc hx hb hown (hI _ _ e1) hd (hk _ _ _ _ _ _ h H locs ls hp hs hl hn)
    · exact h.elim
  case ldc2_w x =>
    obtain ⟨rfl, h⟩ := h
    split at h
    next v e1 => exact fun H locs ls hp hs hl hn => lv_ldc2 hx hb hown (hJ _ _ e1) hd (hk _ _ _ _ _ _ h H locs ls hp hs hl hn)
    · exact h.elim
  case iload_n n =>
    obtain ⟨rfl, h⟩ := h
    split at h
    next x e1 => exact fun H locs ls hp hs hl hn => lv_iload_n hx hb hd rfl (hl.at e1) (hk _ _ _ _ _ _ h H locs ls hp hs hl hn)
    · exact h.elim
  case iload n =>
    obtain ⟨rfl, h⟩ := h
    split at h
    next x e1 => exact fun H locs ls hp hs hl hn => lv_iload hx hb hd (hl.at e1) (hk _ _ _ _ _ _ h H locs ls hp hs hl hn)
    · exact h.elim
  case lload_n n =>
    obtain ⟨rfl, h⟩ := h
    split at h
    next x e1 => exact fun H locs ls hp hs hl hn => lv_lload_n hx hb hd rfl (hl.at e1) (hk _ _ _ _ _ _ h H locs ls hp hs hl hn)
    · exact h.elim
  case lload n =>
    obtain ⟨rfl, h⟩ := h
    split at h
    next x e1 => exact fun H locs ls hp hs hl hn => lv_lload hx hb hd (hl.at e1) (hk _ _ _ _ _ _ h H locs ls hp hs hl hn)
    · exact h.elim
  case aload_n n =>
    obtain ⟨rfl, h⟩ := h
    split at h
    next x e1 => exact fun H locs ls hp hs hl hn => lv_aload_n hx hb hd rfl (hl.at e1) (hk _ _ _ _ _ _ h H locs ls hp hs hl hn)
    next e1 => exact fun H locs ls hp hs hl hn => lv_aload_nN hx hb hd rfl (hl.at e1) (hk _ _ _ _ _ _ h H locs ls hp hs hl hn)
    · exact h.elim
  case aload n =>
    obtain ⟨rfl, h⟩ := h
    split at h
    next x e1 => exact fun H locs ls hp hs hl hn => lv_aload hx hb hd (hl.at e1) (hk _ _ _ _ _ _ h H locs ls hp hs hl hn)
    next e1 => exact fun H locs ls hp hs hl hn => lv_aloadN hx hb hd (hl.at e1) (hk _ _ _ _ _ _ h H locs ls hp hs hl hn)
    · exact h.elim
  case istore_n n =>
    obtain ⟨rfl, hi, h⟩ := h
    split at h
    · exact xw_st1 hi (fun H locs ls hl kk => lv_istore_n hx hb hd rfl hl hi rfl kk) (hk _ _ _ _ _ _ h)
    · exact h.elim
  case istore n =>
    obtain ⟨rfl, hi, h⟩ := h
    split at h
    · exact xw_st1 hi (fun H locs ls hl kk => lv_istore hx hb hd hl hi rfl kk) (hk _ _ _ _ _ _ h)
    · exact h.elim
  case lstore_n n =>
    obtain ⟨rfl, hi, h⟩ := h
    split at h
    · exact xw_st2 hi (fun H locs ls hl kk => lv_lstore_n hx hb hd rfl hl hi rfl kk) (hk _ _ _ _ _ _ h)
    · exact h.elim
  case lstore n =>
    obtain ⟨rfl, hi, h⟩ := h
    split at h
    · exact xw_st2 hi (fun H locs ls hl kk => lv_lstore hx hb hd hl hi rfl kk) (hk _ _ _ _ _ _ h)
    · exact h.elim
  case astore_n n =>
    obtain ⟨rfl, hi, h⟩ := h
    split at h
    · exact xw_st1 hi (fun H locs ls hl kk => lv_astore_n hx hb hd rfl hl hi rfl kk) (hk _ _ _ _ _ _ h)
    · exact xw_st1 hi (fun H locs ls hl kk => lv_astore_nN hx hb hd rfl hl hi rfl kk) (hk _ _ _ _ _ _ h)
    · exact h.elim
  case astore n =>
    obtain ⟨rfl, hi, h⟩ := h
    split at h
    · exact xw_st1 hi (fun H locs ls hl kk => lv_astore hx hb hd hl hi rfl kk) (hk _ _ _ _ _ _ h)
    · exact xw_st1 hi (fun H locs ls hl kk => lv_astoreN hx hb hd hl hi rfl kk) (hk _ _ _ _ _ _ h)
    · exact h.elim
  case iinc n d =>
    obtain ⟨rfl, hi, h⟩ := h
    split at h
    next x e1 =>
      obtain ⟨kx, hkx⟩ := List.getElem?_of_mem ((xpr_mem lv 0 (n, .int x)).mpr ⟨n, by simp, e1⟩)
      exact xw_st1 hi (fun H locs ls hl kk => lv_iinc hx hb hd hl hkx rfl hi rfl kk) (hk _ _ _ _ _ _ h)
    · exact h.elim
  case iadd =>
    obtain ⟨rfl, h⟩ := h
    split at h
    · exact fun H locs ls hp hs hl hn => lv_iadd hx hb hd (hk _ _ _ _ _ _ h H locs ls hp hs hl hn)
    · exact h.elim
  case isub =>
    obtain ⟨rfl, h⟩ := h
    split at h
    · exact fun H locs ls hp hs hl hn => lv_isub hx hb hd (hk _ _ _ _ _ _ h H locs ls hp hs hl hn)
    · exact h.elim
  case imul =>
    obtain ⟨rfl, h⟩ := h
    split at h
    · exact fun H locs ls hp hs hl hn => lv_imul hx hb hd (hk _ _ _ _ _ _ h H locs ls hp hs hl hn)
    · exact h.elim
  case iand =>
    obtain ⟨rfl, h⟩ := h
    split at h
    · exact fun H locs ls hp hs hl hn => lv_iand hx hb hd (hk _ _ _ _ _ _ h H locs ls hp hs hl hn)
    · exact h.elim
  case ixor =>
    obtain ⟨rfl, h⟩ := h
    split at h
    · exact fun H locs ls hp hs hl hn => lv_ixor hx hb hd (hk _ _ _ _ _ _ h H locs ls hp hs hl hn)
    · exact h.elim
  case ladd =>
    obtain ⟨rfl, h⟩ := h
    split at h
    · exact fun H locs ls hp hs hl hn => lv_ladd hx hb hd (hk _ _ _ _ _ _ h H locs ls hp hs hl hn)
    · exact h.elim
  case lsub =>
    obtain ⟨rfl, h⟩ := h
    split at h
    · exact fun H locs ls hp hs hl hn => lv_lsub hx hb hd (hk _ _ _ _ _ _ h H locs ls hp hs hl hn)
    · exact h.elim
  case lmul =>
    obtain ⟨rfl, h⟩ := h
    split at h
    · exact fun H locs ls hp hs hl hn => lv_lmul hx hb hd (hk _ _ _ _ _ _ h H locs ls hp hs hl hn)
    · exact h.elim
  case land =>
    obtain ⟨rfl, h⟩ := h
    split at h
    · exact fun H locs ls hp hs hl hn => lv_land hx hb hd (hk _ _ _ _ _ _ h H locs ls hp hs hl hn)
    · exact h.elim
  case lor =>
    obtain ⟨rfl, h⟩ := h
    split at h
    · exact fun H locs ls hp hs hl hn => lv_lor hx hb hd (hk _ _ _ _ _ _ h H locs ls hp hs hl hn)
    · exact h.elim
  case lxor =>
    obtain ⟨rfl, h⟩ := h
    split at h
    · exact fun H locs ls hp hs hl hn => lv_lxor hx hb hd (hk _ _ _ _ _ _ h H locs ls hp hs hl hn)
    · exact h.elim
  case ishr =>
    obtain ⟨rfl, h⟩ := h
    split at h
    · exact fun H locs ls hp hs hl hn => lv_ishr hx hb hd (hk _ _ _ _ _ _ h H locs ls hp hs hl hn)
    · exact h.elim
  case lshl =>
    obtain ⟨rfl, h⟩ := h
    split at h
    · exact fun H locs ls hp hs hl hn => lv_lshl hx hb hd rfl (hk _ _ _ _ _ _ h H locs ls hp hs hl hn)
    · exact h.elim
  case lshr =>
    obtain ⟨rfl, h⟩ := h
    split at h
    · exact fun H locs ls hp hs hl hn => lv_lshr hx hb hd rfl (hk _ _ _ _ _ _ h H locs ls hp hs hl hn)
    · exact h.elim
  case lushr =>
    obtain ⟨rfl, h⟩ := h
    split at h
    · exact fun H locs ls hp hs hl hn => lv_lushr hx hb hd rfl (hk _ _ _ _ _ _ h H locs ls hp hs hl hn)
    · exact h.elim
  case i2l =>
    obtain ⟨rfl, h⟩ := h
    split at h
    · exact fun H locs ls hp hs hl hn => lv_i2l hx hb hd rfl (hk _ _ _ _ _ _ h H locs ls hp hs hl hn)
    · exact h.elim
  case l2i =>
    obtain ⟨rfl, h⟩ := h
    split at h
    · exact fun H locs ls hp hs hl hn => lv_l2i hx hb hd rfl (hk _ _ _ _ _ _ h H locs ls hp hs hl hn)
    · exact h.elim
  case idiv =>
    obtain ⟨rfl, h⟩ := h
    split at h
    · exact fun H locs ls hp hs hl hn => lv_idiv hx hb hd h.1 (hk _ _ _ _ _ _ h.2 H locs ls hp hs hl hn)
    · exact h.elim
  case irem =>
    obtain ⟨rfl, h⟩ := h
    split at h
    · exact fun H locs ls hp hs hl hn => lv_irem hx hb hd h.1 (hk _ _ _ _ _ _ h.2 H locs ls hp hs hl hn)
    · exact h.elim
  case lrem =>
    obtain ⟨rfl, h⟩ := h
    split at h
    · exact fun H locs ls hp hs hl hn => lv_lrem hx hb hd h.1 (hk _ _ _ _ _ _ h.2 H locs ls hp hs hl hn)
    · exact h.elim
  case lcmp =>
    obtain ⟨rfl, h⟩ := h
    split at h
    · exact fun H locs ls hp hs hl hn => W.lcmp hx hb hd (hk _ _ _ _ _ _ h H locs ls hp hs hl hn)
    · exact h.elim
  case dup =>
    obtain ⟨rfl, h⟩ := h
    split at h
    · exact fun H locs ls hp hs hl hn => lv_dup hx hb hd h.1 (hk _ _ _ _ _ _ h.2 H locs ls hp hs hl hn)
    · exact h.elim
  case pop =>
    obtain ⟨rfl, h⟩ := h
    split at h
    · exact fun H locs ls hp hs hl hn => lv_pop hx hb hd h.1 (hk _ _ _ _ _ _ h.2 H locs ls hp hs hl hn)
    · exact h.elim
  case dup_x1 =>
    obtain ⟨rfl, h⟩ := h
    split at h
    · exact fun H locs ls hp hs hl hn => lv_dup_x1 hx hb hd h.1 h.2.1 (hk _ _ _ _ _ _ h.2.2 H locs ls hp hs hl hn)
    · exact h.elim
  case dup2 =>
    obtain ⟨rfl, h⟩ := h
    split at h
    · exact fun H locs ls hp hs hl hn => lv_dup2_11 hx hb hd h.1 h.2.1 (hk _ _ _ _ _ _ h.2.2 H locs ls hp hs hl hn)
    · exact h.elim
  case goto off =>
    obtain ⟨rfl, hj, h⟩ := h
    exact fun H locs ls hp hs hl hn => lv_goto hx hb hd (xtgt_ok hj) (hk _ _ _ _ _ _ h H locs ls hp hs hl hn)
  case ifCond cd off =>
    obtain ⟨rfl, hj, h⟩ := h
    split at h
    · obtain ⟨h1, h2⟩ := h
      cases cd
      case eq => exact fun H locs ls hp hs hl hn => lv_if_eq hx hb hd (xtgt_ok hj) (fun q => hk _ _ _ _ _ _ (h1 q) H locs ls hp hs hl hn) (fun q => hk _ _ _ _ _ _ (h2 q) H locs ls hp hs hl hn)
      case ne => exact fun H locs ls hp hs hl hn => lv_if_ne hx hb hd (xtgt_ok hj) (fun q => hk _ _ _ _ _ _ (h1 q) H locs ls hp hs hl hn) (fun q => hk _ _ _ _ _ _ (h2 (fun z => z q)) H locs ls hp hs hl hn)
      case lt => exact fun H locs ls hp hs hl hn => lv_if_lt hx hb hd (xtgt_ok hj) (fun q => hk _ _ _ _ _ _ (h1 q) H locs ls hp hs hl hn) (fun q => hk _ _ _ _ _ _ (h2 q) H locs ls hp hs hl hn)
      case ge => exact fun H locs ls hp hs hl hn => lv_if_ge hx hb hd (xtgt_ok hj) (fun q => hk _ _ _ _ _ _ (h1 q) H locs ls hp hs hl hn) (fun q => hk _ _ _ _ _ _ (h2 q) H locs ls hp hs hl hn)
      case gt => exact fun H locs ls hp hs hl hn => lv_if_gt hx hb hd (xtgt_ok hj) (fun q => hk _ _ _ _ _ _ (h1 q) H locs ls hp hs hl hn) (fun q => hk _ _ _ _ _ _ (h2 q) H locs ls hp hs hl hn)
      case le => exact fun H locs ls hp hs hl hn => lv_if_le hx hb hd (xtgt_ok hj) (fun q => hk _ _ _ _ _ _ (h1 q) H locs ls hp hs hl hn) (fun q => hk _ _ _ _ _ _ (h2 q) H locs ls hp hs hl hn)
    · exact h.elim
  case if_icmp cd off =>
    obtain ⟨rfl, hj, h⟩ := h
    split at h
    · obtain ⟨h1, h2⟩ := h
      cases cd
      case eq => exact fun H locs ls hp hs hl hn => lv_icmp_eq hx hb hd (xtgt_ok hj) (fun q => hk _ _ _ _ _ _ (h1 q) H locs ls hp hs hl hn) (fun q => hk _ _ _ _ _ _ (h2 q) H locs ls hp hs hl hn)
      case ne => exact fun H locs ls hp hs hl hn => lv_icmp_ne hx hb hd (xtgt_ok hj) (fun q => hk _ _ _ _ _ _ (h1 q) H locs ls hp hs hl hn) (fun q => hk _ _ _ _ _ _ (h2 (fun z => z q)) H locs ls hp hs hl hn)
      case lt => exact fun H locs ls hp hs hl hn => lv_icmp_lt hx hb hd (xtgt_ok hj) (fun q => hk _ _ _ _ _ _ (h1 q) H locs ls hp hs hl hn) (fun q => hk _ _ _ _ _ _ (h2 q) H locs ls hp hs hl hn)
      case ge => exact fun H locs ls hp hs hl hn => lv_icmp_ge hx hb hd (xtgt_ok hj) (fun q => hk _ _ _ _ _ _ (h1 q) H locs ls hp hs hl hn) (fun q => hk _ _ _ _ _ _ (h2 q) H locs ls hp hs hl hn)
      case gt => exact fun H locs ls hp hs hl hn => lv_icmp_gt hx hb hd (xtgt_ok hj) (fun q => hk _ _ _ _ _ _ (h1 q) H locs ls hp hs hl hn) (fun q => hk _ _ _ _ _ _ (h2 q) H locs ls hp hs hl hn)
      case le => exact fun H locs ls hp hs hl hn => lv_icmp_le hx hb hd (xtgt_ok hj) (fun q => hk _ _ _ _ _ _ (h1 q) H locs ls hp hs hl hn) (fun q => hk _ _ _ _ _ _ (h2 q) H locs ls hp hs hl hn)
    · exact h.elim
  case ifnull off =>
    obtain ⟨rfl, hj, h⟩ := h
    split at h
    · exact fun H locs ls hp hs hl hn => lv_ifnullN hx hb hd (xtgt_ok hj) (hk _ _ _ _ _ _ h H locs ls hp hs hl hn)
    · exact fun H locs ls hp hs hl hn => lv_ifnull hx hb hd (hk _ _ _ _ _ _ h H locs ls hp hs hl hn)
    · exact h.elim
  case ifnonnull off =>
    obtain ⟨rfl, hj, h⟩ := h
    split at h
    · exact fun H locs ls hp hs hl hn => lv_ifnonnullN hx hb hd (hk _ _ _ _ _ _ h H locs ls hp hs hl hn)
    · exact fun H locs ls hp hs hl hn => lv_ifnonnull hx hb hd (xtgt_ok hj) (hk _ _ _ _ _ _ h H locs ls hp hs hl hn)
    · exact h.elim
  case if_acmp cd off =>
    obtain ⟨rfl, hj, h⟩ := h
    split at h
    next y x r =>
      obtain ⟨h1, h2⟩ := h
      exact fun H locs ls hp hs hl hn => lv_acmp_eq (rx := some x) (ry := some y) hx hb hd (xtgt_ok hj) (fun q => hk _ _ _ _ _ _ (h1 (by simpa using q)) H locs ls hp hs hl hn) (fun q => hk _ _ _ _ _ _ (h2 (by simpa using q)) H locs ls hp hs hl hn)
    next y x r =>
      obtain ⟨h1, h2⟩ := h
      exact fun H locs ls hp hs hl hn => lv_acmp_ne (rx := some x) (ry := some y) hx hb hd (xtgt_ok hj) (fun q => hk _ _ _ _ _ _ (h1 (by simpa using q)) H locs ls hp hs hl hn) (fun q => hk _ _ _ _ _ _ (h2 (by simpa using q)) H locs ls hp hs hl hn)
    · exact h.elim
  case tableswitch d lo hi offs =>
    simp only [xstep] at h
    split at h
    next x r =>
      by_cases q : x.toInt < lo ∨ hi < x.toInt
      · obtain ⟨hj, h⟩ := h.1 q
        exact fun H locs ls hp hs hl hn => lv_tableOut hx hb hd q (xtgt_ok hj) (hk _ _ _ _ _ _ h H locs ls hp hs hl hn)
      · obtain ⟨off, ho, hj, h⟩ := h.2 (fun z => q (Or.inl z)) (fun z => q (Or.inr z))
        exact fun H locs ls hp hs hl hn => lv_tableIn hx hb hd (fun z => q (Or.inl z)) (fun z => q (Or.inr z)) ho (xtgt_ok hj) (hk _ _ _ _ _ _ h H locs ls hp hs hl hn)
    · exact h.elim
  case getfield x =>
    obtain ⟨rfl, h⟩ := h
    split at h
    · obtain ⟨ci, j, t, fi, fs, v, e1, e2, e3, h⟩ := h
      obtain ⟨C, ref, T, N, ty0, f1, f2, f3, f4, f5, f6, f7, f8, f9, f10⟩ := hF _ _ e1
      refine fun H locs ls hp hs hl hn => ?_
      obtain ⟨ws, g1, g2, g3⟩ := id hp
      obtain ⟨q0, hq⟩ := (g3 _ _).mp e2
      exact va_get hx hb hts f2 hown hK g1 q0 hq f1 j f3 f4 f5 e3 hd (hk _ _ _ _ _ _ h H locs ls hp hs hl hn)
    · exact h.elim
  case putfield x =>
    obtain ⟨rfl, h⟩ := h
    split at h
    · obtain ⟨ci, j, t, fi, fs, e1, e4, e2, e3, e5, e6, h⟩ := h
      obtain ⟨C, ref, T, N, ty0, f1, f2, f3, f4, f5, f6, f7, f8, f9, f10⟩ := hF _ _ e1
      refine fun H locs ls hp hs hl hn => ?_
      obtain ⟨ws, g1, g2, g3⟩ := id hp
      obtain ⟨q0, hq⟩ := (g3 _ _).mp e2
      rcases e4 with rfl | ⟨rfl, e4⟩
      · exact va_put hx hb hts f2 ty0 f6 f7 hown hK g1 g2 hs q0 hq f1 j f3 f4 f5 (f9 rfl) f8 e5 e6 e3 hd (fun H1 locs1 a1 a2 a3 => hk _ _ _ _ _ _ h H1 locs1 ls (xP.mk a1 a2 (xG_set g3 g2 hq)) a3 hl hn)
      · exact va_putF hx hb hts f2 ty0 f6 f7 hown hK g1 g2 hs q0 hq f1 j f3 f4 f5 (f10 rfl).1 (hin e4) (f10 rfl).2 f8 e5 e6 e3 hd (fun H1 locs1 a1 a2 a3 => hk _ _ _ _ _ _ h H1 locs1 ls (xP.mk a1 a2 (xG_set g3 g2 hq)) a3 hl hn)
    · exact h.elim
  case new x =>
    obtain ⟨rfl, ci, N, fs, e1, e2, e3, h⟩ := h
    obtain ⟨C, T, ty, f1, f2, f3, f4, f5, f6, f7⟩ := hN _ _ e1
    refine fun H locs ls hp hs hl hn => ?_
    obtain ⟨ws, g1, g2, g3⟩ := id hp
    exact va_new hx hb hts f2 ty f3 hown f4 f5 f6 hK g1 g2 hs (fun q hq => Nat.le_trans hbs hq) f1 f7 e2 e3 hd (fun q H1 a1 a2 a3 => hk _ _ _ _ _ _ (h q (xG_push g3 a2).1) H1 locs ls (xP.mk a1 a2 (xG_push g3 a2).2) a3 hl hn)
  case iaload =>
    obtain ⟨rfl, h⟩ := h
    split at h
    · obtain ⟨N, f, e1, e2, h⟩ := h
      refine fun H locs ls hp hs hl hn => ?_
      obtain ⟨ws, g1, g2, g3⟩ := id hp
      obtain ⟨q0, hq⟩ := (g3 _ _).mp e1
      exact va_iald hx hb hK g1 q0 0 hq rfl e2 hd (hk _ _ _ _ _ _ h H locs ls hp hs hl hn)
    · exact h.elim
  case baload =>
    obtain ⟨rfl, h⟩ := h
    split at h
    · obtain ⟨N, f, e1, e2, h⟩ := h
      refine fun H locs ls hp hs hl hn => ?_
      obtain ⟨ws, g1, g2, g3⟩ := id hp
      obtain ⟨q0, hq⟩ := (g3 _ _).mp e1
      exact va_zald hx hb hK g1 q0 2 hq rfl e2 hd (hk _ _ _ _ _ _ h H locs ls hp hs hl hn)
    · exact h.elim
  case laload =>
    obtain ⟨rfl, h⟩ := h
    split at h
    · obtain ⟨N, f, e1, e2, h⟩ := h
      refine fun H locs ls hp hs hl hn => ?_
      obtain ⟨ws, g1, g2, g3⟩ := id hp
      obtain ⟨q0, hq⟩ := (g3 _ _).mp e1
      exact va_lald hx hb hK g1 q0 1 hq rfl e2 hd (hk _ _ _ _ _ _ h H locs ls hp hs hl hn)
    · exact h.elim
  case aaload =>
    obtain ⟨rfl, h⟩ := h
    split at h
    · obtain ⟨N, f, e1, e2, h⟩ := h
      refine fun H locs ls hp hs hl hn => ?_
      obtain ⟨ws, g1, g2, g3⟩ := id hp
      obtain ⟨q0, hq⟩ := (g3 _ _).mp e1
      exact va_aldq hx hb hK g1 q0 3 hq rfl e2 hd (hk _ _ _ _ _ _ h H locs ls hp hs hl hn)
    · exact h.elim
  case iastore =>
    obtain ⟨rfl, h⟩ := h
    split at h
    · obtain ⟨N, f, e1, e2, h⟩ := h
      refine fun H locs ls hp hs hl hn => ?_
      obtain ⟨ws, g1, g2, g3⟩ := id hp
      obtain ⟨q0, hq⟩ := (g3 _ _).mp e1
      exact va_iast hx hb hK g1 g2 hs q0 0 hq rfl e2 hd (fun H1 locs1 a1 a2 a3 => hk _ _ _ _ _ _ h H1 locs1 ls (xP.mk a1 a2 (xG_set g3 g2 hq)) a3 hl hn)
    · exact h.elim
  case bastore =>
    obtain ⟨rfl, h⟩ := h
    split at h
    · obtain ⟨N, f, e1, e2, h⟩ := h
      refine fun H locs ls hp hs hl hn => ?_
      obtain ⟨ws, g1, g2, g3⟩ := id hp
      obtain ⟨q0, hq⟩ := (g3 _ _).mp e1
      exact va_zast hx hb hK g1 g2 hs q0 2 hq rfl e2 hd (fun H1 locs1 a1 a2 a3 => hk _ _ _ _ _ _ h H1 locs1 ls (xP.mk a1 a2 (xG_set g3 g2 hq)) a3 hl hn)
    · exact h.elim
  case lastore =>
    obtain ⟨rfl, h⟩ := h
    split at h
    · obtain ⟨N, f, e1, e2, h⟩ := h
      refine fun H locs ls hp hs hl hn => ?_
      obtain ⟨ws, g1, g2, g3⟩ := id hp
      obtain ⟨q0, hq⟩ := (g3 _ _).mp e1
      exact va_last hx hb hK g1 g2 hs q0 1 hq rfl e2 hd (fun H1 locs1 a1 a2 a3 => hk _ _ _ _ _ _ h H1 locs1 ls (xP.mk a1 a2 (xG_set g3 g2 hq)) a3 hl hn)
    · exact h.elim
  case aastore =>
    obtain ⟨rfl, h⟩ := h
    split at h
    · obtain ⟨N, f, ci, vs, e1, e2, e3, e4, h⟩ := h
      refine fun H locs ls hp hs hl hn => ?_
      obtain ⟨ws, g1, g2, g3⟩ := id hp
      obtain ⟨q0, hq⟩ := (g3 _ _).mp e1
      obtain ⟨qk, hqk⟩ := (g3 _ _).mp e3
      obtain ⟨r1, hr1, -⟩ := g1 qk _ hqk
      exact va_astqO hx hb hK g1 g2 hs q0 3 qk ci hq rfl (hO ci r1 e4 hr1) hqk hr1 e2 hd (fun H1 locs1 a1 a2 a3 => hk _ _ _ _ _ _ h H1 locs1 ls (xP.mk a1 a2 (xG_set g3 g2 hq)) a3 hl hn)
    · exact h.elim
  case arraylength =>
    obtain ⟨rfl, h⟩ := h
    split at h
    · obtain ⟨cA, x, e1, e2, h⟩ := h
      refine fun H locs ls hp hs hl hn => ?_
      obtain ⟨ws, g1, g2, g3⟩ := id hp
      obtain ⟨q0, hq⟩ := (g3 _ _).mp e1
      rcases e2 with rfl | rfl | rfl | rfl
      · exact va_alen hx hb hK g1 q0 0 hq rfl rfl hd (hk _ _ _ _ _ _ h H locs ls hp hs hl hn)
      · exact va_alen hx hb hK g1 q0 1 hq rfl rfl hd (hk _ _ _ _ _ _ h H locs ls hp hs hl hn)
      · exact va_alen hx hb hK g1 q0 2 hq rfl rfl hd (hk _ _ _ _ _ _ h H locs ls hp hs hl hn)
      · exact va_alen hx hb hK g1 q0 3 hq rfl rfl hd (hk _ _ _ _ _ _ h H locs ls hp hs hl hn)
    · exact h.elim
  case checkcast x =>
    obtain ⟨rfl, h⟩ := h
    split at h
    · exact fun H locs ls hp hs hl hn => lv_castN hx hb hd (hk _ _ _ _ _ _ h H locs ls hp hs hl hn)
    · obtain ⟨ci, fs, e1, e2, h⟩ := h
      obtain ⟨r1, nm, f1, f2, f3⟩ := hX _ _ e1
      refine fun H locs ls hp hs hl hn => ?_
      obtain ⟨ws, g1, g2, g3⟩ := id hp
      obtain ⟨q0, hq⟩ := (g3 _ _).mp e2
      exact va_castY hx hb hown f2 f3 (va_recv hK g1 f1 hq) hd (hk _ _ _ _ _ _ h H locs ls hp hs hl hn)
    · exact h.elim
  case invokevirtual x =>
    obtain ⟨rfl, sp, As, r, e1, rfl, e2, e3, e4, e5, e6, h⟩ := h
    exact hCa _ _ e1 pc lv As r G ce sl (Or.inl ⟨e2, hd⟩) e3 e4 e5 e6 (fun v G' hq => hk _ _ _ _ _ _ (h v G' hq))
  case invokespecial x =>
    obtain ⟨rfl, sp, As, r, e1, rfl, e2, e3, e4, e5, e6, h⟩ := h
    exact hCa _ _ e1 pc lv As r G ce sl (Or.inr (Or.inl ⟨e2, hd⟩)) e3 e4 e5 e6 (fun v G' hq => hk _ _ _ _ _ _ (h v G' hq))
  case invokestatic x =>
    obtain ⟨rfl, sp, As, r, e1, rfl, e2, e3, e4, e5, e6, h⟩ := h
    exact hCa _ _ e1 pc lv As r G ce sl (Or.inr (Or.inr ⟨e2, hd⟩)) e3 e4 e5 e6 (fun v G' hq => hk _ _ _ _ _ _ (h v G' hq))
  case ireturn =>
    obtain ⟨rfl, h⟩ := h
    split at h
    · exact hR.1 _ _ _ _ _ _ hd h
    · exact h.elim
  case lreturn =>
    obtain ⟨rfl, h⟩ := h
    split at h
    · exact hR.2.1 _ _ _ _ _ _ hd h
    · exact h.elim
  case areturn =>
    obtain ⟨rfl, h⟩ := h
    split at h
    · exact hR.2.2.1 _ _ _ _ _ _ (Or.inr ⟨_, rfl⟩) hd h
    · exact hR.2.2.1 _ _ _ _ _ _ (Or.inl rfl) hd h
    · exact h.elim
  case return_ =>
    obtain ⟨rfl, h⟩ := h
    split at h
    · exact hR.2.2.2 _ _ _ _ _ hd h
    · exact h.elim
  case newarray t =>
    obtain ⟨rfl, h⟩ := h
    split at h
    next n r =>
      obtain ⟨e1, e2, e3, e4, h⟩ := h
      cases t
      case int => exact xw_nwa_int hx hb hAi hK hbs hd e1 e2 e3 e4 (fun q hq => hk _ _ _ _ _ _ (h q hq))
      case long => exact xw_nwa_long hx hb hAl hK hbs hd e1 e2 e3 e4 (fun q hq => hk _ _ _ _ _ _ (h q hq))
      case boolean => exact xw_nwa_boolean hx hb hAz hK hbs hd e1 e2 e3 e4 (fun q hq => hk _ _ _ _ _ _ (h q hq))
      all_goals exact fun H locs ls hp hs hl hn => (h H.size (xw_fresh hp) : False).elim
    · exact h.elim
  all_goals exact (h : False).elim
theorem xwp_sound {hd : Nat → Bool} {I : xJ} (hC : xOK p l R s m args meth c D cl b cc own Ts tb A ini rt P (xW p l e R s m args below meth c Q D cl b)) (hI : ∀ pc lv st G ce sl, I pc lv st G ce sl → xW p l e R s m args below meth c Q D cl b pc lv st G ce sl) :
    ∀ (f pc : Nat) (lv : xL) (st : List Value) (G : xH) (ce sl : Nat), xwp cc tb A R ini rt P hd I f pc lv st G ce sl → xW p l e R s m args below meth c Q D cl b pc lv st G ce sl
  | 0, pc, lv, st, G, ce, sl, h => hI _ _ _ _ _ _ h
  | f + 1, pc, lv, st, G, ce, sl, h => by
    simp only [xwp] at h
    split at h
    · exact hI _ _ _ _ _ _ h
    · split at h
      next i len e1 => exact xstep_a hC (xwp_sound hC hI f) e1 h
      · exact h.elim
/-- a first step without a look at the cuts: for a loop's head -/
theorem xwp_sound1 {hd : Nat → Bool} {I : xJ} (hC : xOK p l R s m args meth c D cl b cc own Ts tb A ini rt P (xW p l e R s m args below meth c Q D cl b)) (hI : ∀ pc lv st G ce sl, I pc lv st G ce sl → xW p l e R s m args below meth c Q D cl b pc lv st G ce sl)
    {f pc len : Nat} {i : Instr} {lv : xL} {st : List Value} {G : xH} {ce sl : Nat} (e1 : decode cc pc = .ok (i, len)) (h : xstep tb A R ini rt P (xwp cc tb A R ini rt P hd I f) pc i len lv st G ce sl) : xW p l e R s m args below meth c Q D cl b pc lv st G ce sl :=
  xstep_a hC (xwp_sound hC hI f) e1 h
end XS
