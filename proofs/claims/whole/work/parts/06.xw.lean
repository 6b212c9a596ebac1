/-! ONE JUDGEMENT over the partial map and the locals' list; one step of the machine as a predicate transformer; its soundness. -/
abbrev xL : Type := List (Option Value)
abbrev xJ : Type := Nat → xL → List Value → xH → Nat → Nat → Prop
/-- a field's place: class, slot, type, 0 no final, 1 final and own, 2 final and another class's -/
abbrev xFe : Type := Nat × Nat × FieldType × Nat
/-- a callee: its kind (0 virtual, 1 special, 2 static) and how many stack entries it takes, what it asks, what it gives, cells, slots -/
abbrev xSp : Type := (Nat × Nat) × (List Value → xH → Prop) × (List Value → xH → Option Value → xH → Prop) × Nat × Nat
/-- a class's pool: fields, classes that are made, ints, longs, calls, casts -/
abbrev xTb : Type := (Nat → Option xFe) × (Nat → Option (Nat × Nat × List Value)) × (Nat → Option Int32) × (Nat → Option Int64) × (Nat → Option xSp) × (Nat → Option Nat)
def xW (p : Program) (l : Launch) (e : Env) (R : Room) (s : State) (m : MethodId) (args : Array Value) (below : List Frame) (meth : Method) (c : Code) (Q : State → Prop) (D : va_G) (cl : List vw_C) (b : Nat) : xJ := fun pc lv st G ce sl =>
  ∀ (H : Heap) (locs : List Loc) (ls : Array Slot), xP D cl b G H → va_S (fun q => b ≤ q) s.heap H locs → xl ls lv → lv.length = c.maxLocals → W p l e R s m args below meth c H locs ce sl Q (F0 m pc ls st)
def xtgt (pc : Nat) (off : Int) : Nat := ((pc : Int) + off).toNat
def xokj (pc : Nat) (off : Int) : Prop := 0 ≤ (pc : Int) + off
theorem xtgt_ok {pc : Nat} {off : Int} (h : xokj pc off) : (pc : Int) + off = (xtgt pc off : Int) := (Int.toNat_of_nonneg h).symm
def xGet (k : xJ) (o : Option xFe) (a pc : Nat) (lv : xL) (r : List Value) (G : xH) (ce sl : Nat) : Prop :=
  ∃ (ci j : Nat) (t : FieldType) (fi : Nat) (fs : List Value) (v : Value), o = some (ci, j, t, fi) ∧ G a = some (.inr (ci, fs)) ∧ fs[j]? = some v ∧ k (pc + 3) lv (v :: r) G ce sl
theorem xGet_mk {k : xJ} {a pc : Nat} {lv : xL} {r : List Value} {G : xH} {ce sl ci j : Nat} {t : FieldType} {fi : Nat} {fs : List Value} {v : Value} (h : G a = some (.inr (ci, fs))) (hv : fs[j]? = some v) (K : k (pc + 3) lv (v :: r) G ce sl) : xGet k (some (ci, j, t, fi)) a pc lv r G ce sl := ⟨ci, j, t, fi, fs, v, rfl, h, hv, K⟩
def xPut (ini : Bool) (k : xJ) (o : Option xFe) (a : Nat) (v : Value) (pc : Nat) (lv : xL) (r : List Value) (G : xH) (ce sl : Nat) : Prop :=
  ∃ (ci j : Nat) (t : FieldType) (fi : Nat) (fs : List Value), o = some (ci, j, t, fi) ∧ (fi = 0 ∨ (fi = 1 ∧ ini = true)) ∧ G a = some (.inr (ci, fs)) ∧ j < fs.length ∧ narrow t v = v ∧ fits t v = true ∧ k (pc + 3) lv r (xup G a (.inr (ci, fs.set j v))) ce sl
theorem xPut_mk {ini : Bool} {k : xJ} {a pc : Nat} {lv : xL} {r : List Value} {G : xH} {ce sl ci j : Nat} {t : FieldType} {fi : Nat} {fs : List Value} {v : Value} (h : G a = some (.inr (ci, fs))) (hf : fi = 0 ∨ (fi = 1 ∧ ini = true)) (hl : j < fs.length) (hn : narrow t v = v) (hv : fits t v = true) (K : k (pc + 3) lv r (xup G a (.inr (ci, fs.set j v))) ce sl) : xPut ini k (some (ci, j, t, fi)) a v pc lv r G ce sl := ⟨ci, j, t, fi, fs, rfl, hf, h, hl, hn, hv, K⟩
def xNew (R : Room) (k : xJ) (o : Option (Nat × Nat × List Value)) (pc : Nat) (lv : xL) (r : List Value) (G : xH) (ce sl : Nat) : Prop :=
  ∃ (ci N : Nat) (fs : List Value), o = some (ci, N, fs) ∧ ce + 1 ≤ R.cells ∧ sl + N ≤ R.slots ∧ ∀ q : Nat, G q = none → k (pc + 3) lv (.ref q :: r) (xup G q (.inr (ci, fs))) (ce + 1) (sl + N)
/-- the ids of the array classes: int, long, boolean, Object -/
abbrev xA4 : Type := ClassId × ClassId × ClassId × ClassId
def xtys (A : xA4) : List (ClassId × FieldType) := [(A.1, .int), (A.2.1, .long), (A.2.2.1, .boolean), (A.2.2.2, .object "java/lang/Object")]
def xNwa (R : Room) (A : xA4) (k : xJ) (at_ : ArrayType) (n : Int32) (pc : Nat) (lv : xL) (r : List Value) (G : xH) (ce sl : Nat) : Prop :=
  ¬ n < 0 ∧ n.toNatClampNeg ≤ 60000 ∧ ce + 1 ≤ R.cells ∧ sl + n.toNatClampNeg ≤ R.slots ∧ ∀ q : Nat, G q = none → match at_ with
    | .int => k (pc + 2) lv (.ref q :: r) (xup G q (.inl (A.1, n.toNatClampNeg, .inl (fun _ => 0)))) (ce + 1) (sl + n.toNatClampNeg)
    | .long => k (pc + 2) lv (.ref q :: r) (xup G q (.inl (A.2.1, n.toNatClampNeg, .inr (.inl (fun _ => 0))))) (ce + 1) (sl + n.toNatClampNeg)
    | .boolean => k (pc + 2) lv (.ref q :: r) (xup G q (.inl (A.2.2.1, n.toNatClampNeg, .inl (fun _ => 0)))) (ce + 1) (sl + n.toNatClampNeg)
    | _ => False
def xIal (k : xJ) (cA : ClassId) (a : Nat) (i : Int32) (pc : Nat) (lv : xL) (r : List Value) (G : xH) (ce sl : Nat) : Prop :=
  ∃ (N : Nat) (f : Nat → Int32), G a = some (.inl (cA, N, .inl f)) ∧ vp_in i N ∧ k (pc + 1) lv (.int (f i.toNatClampNeg) :: r) G ce sl
theorem xIal_mk {k : xJ} {cA : ClassId} {a pc : Nat} {i : Int32} {lv : xL} {r : List Value} {G : xH} {ce sl N : Nat} {f : Nat → Int32} (h : G a = some (.inl (cA, N, .inl f))) (hi : vp_in i N) (K : k (pc + 1) lv (.int (f i.toNatClampNeg) :: r) G ce sl) : xIal k cA a i pc lv r G ce sl := ⟨N, f, h, hi, K⟩
def xLal (k : xJ) (cA : ClassId) (a : Nat) (i : Int32) (pc : Nat) (lv : xL) (r : List Value) (G : xH) (ce sl : Nat) : Prop :=
  ∃ (N : Nat) (f : Nat → Int64), G a = some (.inl (cA, N, .inr (.inl f))) ∧ vp_in i N ∧ k (pc + 1) lv (.long (f i.toNatClampNeg) :: r) G ce sl
theorem xLal_mk {k : xJ} {cA : ClassId} {a pc : Nat} {i : Int32} {lv : xL} {r : List Value} {G : xH} {ce sl N : Nat} {f : Nat → Int64} (h : G a = some (.inl (cA, N, .inr (.inl f)))) (hi : vp_in i N) (K : k (pc + 1) lv (.long (f i.toNatClampNeg) :: r) G ce sl) : xLal k cA a i pc lv r G ce sl := ⟨N, f, h, hi, K⟩
def xAal (k : xJ) (cA : ClassId) (a : Nat) (i : Int32) (pc : Nat) (lv : xL) (r : List Value) (G : xH) (ce sl : Nat) : Prop :=
  ∃ (N : Nat) (f : Nat → Option Nat), G a = some (.inl (cA, N, .inr (.inr (.inr (.inr f))))) ∧ vp_in i N ∧ k (pc + 1) lv (va_rf (f i.toNatClampNeg) :: r) G ce sl
def xIas (k : xJ) (cA : ClassId) (g : Int32 → Int32) (a : Nat) (i x : Int32) (pc : Nat) (lv : xL) (r : List Value) (G : xH) (ce sl : Nat) : Prop :=
  ∃ (N : Nat) (f : Nat → Int32), G a = some (.inl (cA, N, .inl f)) ∧ vp_in i N ∧ k (pc + 1) lv r (xup G a (.inl (cA, N, .inl (upd f i.toNatClampNeg (g x))))) ce sl
theorem xIas_mk {k : xJ} {cA : ClassId} {g : Int32 → Int32} {a pc : Nat} {i x : Int32} {lv : xL} {r : List Value} {G : xH} {ce sl N : Nat} {f : Nat → Int32} (h : G a = some (.inl (cA, N, .inl f))) (hi : vp_in i N) (K : k (pc + 1) lv r (xup G a (.inl (cA, N, .inl (upd f i.toNatClampNeg (g x))))) ce sl) : xIas k cA g a i x pc lv r G ce sl := ⟨N, f, h, hi, K⟩
def xLas (k : xJ) (cA : ClassId) (a : Nat) (i : Int32) (x : Int64) (pc : Nat) (lv : xL) (r : List Value) (G : xH) (ce sl : Nat) : Prop :=
  ∃ (N : Nat) (f : Nat → Int64), G a = some (.inl (cA, N, .inr (.inl f))) ∧ vp_in i N ∧ k (pc + 1) lv r (xup G a (.inl (cA, N, .inr (.inl (vp_updL f i.toNatClampNeg x))))) ce sl
theorem xLas_mk {k : xJ} {cA : ClassId} {a pc : Nat} {i : Int32} {x : Int64} {lv : xL} {r : List Value} {G : xH} {ce sl N : Nat} {f : Nat → Int64} (h : G a = some (.inl (cA, N, .inr (.inl f)))) (hi : vp_in i N) (K : k (pc + 1) lv r (xup G a (.inl (cA, N, .inr (.inl (vp_updL f i.toNatClampNeg x))))) ce sl) : xLas k cA a i x pc lv r G ce sl := ⟨N, f, h, hi, K⟩
def xAas (k : xJ) (cA : ClassId) (a : Nat) (i : Int32) (v : Nat) (pc : Nat) (lv : xL) (r : List Value) (G : xH) (ce sl : Nat) : Prop :=
  ∃ (N : Nat) (f : Nat → Option Nat) (ci : Nat) (vs : List Value), G a = some (.inl (cA, N, .inr (.inr (.inr (.inr f))))) ∧ vp_in i N ∧ G v = some (.inr (ci, vs)) ∧ ci < 6 ∧ k (pc + 1) lv r (xup G a (.inl (cA, N, .inr (.inr (.inr (.inr (va_up f i.toNatClampNeg (some v)))))))) ce sl
def xLen (A : xA4) (k : xJ) (a : Nat) (pc : Nat) (lv : xL) (r : List Value) (G : xH) (ce sl : Nat) : Prop :=
  ∃ (cA : ClassId) (x : vp_A), G a = some (.inl (cA, x)) ∧ (cA = A.1 ∨ cA = A.2.1 ∨ cA = A.2.2.1 ∨ cA = A.2.2.2) ∧ k (pc + 1) lv (.int (nI x.1) :: r) G ce sl
def xCal (kd : Nat) (R : Room) (k : xJ) (o : Option xSp) (pc : Nat) (lv : xL) (st : List Value) (G : xH) (ce sl : Nat) : Prop :=
  ∃ (sp : xSp) (As r : List Value), o = some sp ∧ st = As.reverse ++ r ∧ sp.1 = (kd, As.length) ∧ sp.2.1 As G ∧ (r.map fun v => v.category).sum ≤ 8 ∧ ce + sp.2.2.2.1 ≤ R.cells ∧ sl + sp.2.2.2.2 ≤ R.slots ∧ ∀ (v : Option Value) (G' : xH), sp.2.2.1 As G v G' → k (pc + 3) lv (v.toList ++ r) G' (ce + sp.2.2.2.1) (sl + sp.2.2.2.2)
theorem xCal_mk {kd : Nat} {R : Room} {k : xJ} {pc : Nat} {lv : xL} {st : List Value} {G : xH} {ce sl n mc ms : Nat} {pre : List Value → xH → Prop} {post : List Value → xH → Option Value → xH → Prop} (As r : List Value) (h1 : st = As.reverse ++ r) (h2 : As.length = n) (hp : pre As G) (h8 : (r.map fun v => v.category).sum ≤ 8) (hc : ce + mc ≤ R.cells) (hs : sl + ms ≤ R.slots)
    (K : ∀ (v : Option Value) (G' : xH), post As G v G' → k (pc + 3) lv (v.toList ++ r) G' (ce + mc) (sl + ms)) : xCal kd R k (some ((kd, n), pre, post, mc, ms)) pc lv st G ce sl := ⟨_, As, r, rfl, h1, by rw [h2], hp, h8, hc, hs, K⟩
def xCst (k : xJ) (o : Option Nat) (a pc : Nat) (lv : xL) (r : List Value) (G : xH) (ce sl : Nat) : Prop :=
  ∃ (ci : Nat) (fs : List Value), o = some ci ∧ G a = some (.inr (ci, fs)) ∧ k (pc + 3) lv (.ref a :: r) G ce sl
theorem xCst_mk {k : xJ} {a pc : Nat} {lv : xL} {r : List Value} {G : xH} {ce sl ci : Nat} {fs : List Value} (h : G a = some (.inr (ci, fs))) (K : k (pc + 3) lv (.ref a :: r) G ce sl) : xCst k (some ci) a pc lv r G ce sl := ⟨ci, fs, rfl, h, K⟩
def xIf (k : xJ) (q : Prop) (t f : Nat) (lv : xL) (r : List Value) (G : xH) (ce sl : Nat) : Prop := (q → k t lv r G ce sl) ∧ (¬ q → k f lv r G ce sl)
def xRet (P : Option Value → xH → Nat → Nat → Prop) (rt : Option FieldType) (v : Option Value) (G : xH) (ce sl : Nat) : Prop := (match rt, v with
  | none, none => True
  | some t, some (.int x) => narrow t (.int x) = .int x
  | some .long, some (.long _) => True
  | some (.object _), some .null => True
  | some (.object _), some (.ref _) => True
  | some (.array _), some .null => True
  | some (.array _), some (.ref _) => True
  | _, _ => False) ∧ P v G ce sl
def xicmp (cd : ClassFile.Cond) (x y : Int32) : Prop := match cd with
  | .eq => x = y
  | .ne => ¬ x = y
  | .lt => x < y
  | .ge => y ≤ x
  | .gt => y < x
  | .le => x ≤ y
