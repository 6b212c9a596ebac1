/-! SPECIAL ROWS: the shared empty array, arrays of references, Math.max and min, getClass, arraycopy. -/
section XQ
variable {p : Program} {l : Launch} {e : Env} {R : Room} {s : State} {m : MethodId} {args : Array Value} {below : List Frame} {meth : Method} {c : Code} {Q : State → Prop} {D : va_G} {E : xEn} {b : Nat} {cc : ByteArray} {own : String}
theorem xw_gets {pc x : Nat} {lv : xL} {st : List Value} {G : xH} {ce sl : Nat} (S : CallFix p m c cc c.maxLocals s args xT own) (hE : xE D E b s) (hk : Cond.fieldLink own x "java/util/ArrayList" "DEFAULTCAPACITY_EMPTY_ELEMENTDATA" "[Ljava/lang/Object;" ∈ xT) (hd : decode cc pc = .ok (.getstatic x, 3))
    (h : xW p l e R s m args below meth c Q D xcls b (pc + 3) lv (.ref E.2.1 :: st) G ce sl) : xW p l e R s m args below meth c Q D xcls b pc lv st G ce sl :=
  fun H locs ls hp hs hl hn => va_gets S.1 S.2.1 hE.2.1 hs S.2.2.2.1 (S.2.2.2.2 _ hk) (fun _ h9 => h9) hd (h H locs ls hp hs hl hn)
theorem xw_len0 {pc : Nat} {lv : xL} {st : List Value} {G : xH} {ce sl : Nat} (S : CallFix p m c cc c.maxLocals s args xT own) (hE : xE D E b s) (hd : decode cc pc = .ok (.arraylength, 1))
    (h : xW p l e R s m args below meth c Q D xcls b (pc + 1) lv (.int 0 :: st) G ce sl) : xW p l e R s m args below meth c Q D xcls b pc lv (.ref E.2.1 :: st) G ce sl :=
  fun H locs ls hp hs hl hn => va_tlen S.1 S.2.1 hE.2.2.1 hs rfl hd (h H locs ls hp hs hl hn)
theorem xw_anew {pc x : Nat} {lv : xL} {r : List Value} {n : Int32} {G : xH} {ce sl : Nat} (S : CallFix p m c cc c.maxLocals s args xT own) (hE : xE D E b s) (hbs : b ≤ s.heap.size) (hk : Cond.classLink own x "java/lang/Object" ∈ xT) (hd : decode cc pc = .ok (.anewarray x, 3)) (e1 : ¬ n < 0) (e2 : n.toNatClampNeg ≤ 60000) (e3 : ce + 1 ≤ R.cells) (e4 : sl + n.toNatClampNeg ≤ R.slots)
    (h : ∀ q : Nat, G q = none → xW p l e R s m args below meth c Q D xcls b (pc + 3) lv (.ref q :: r) (xup G q (.inl (E.1.2.2.2, n.toNatClampNeg, .inr (.inr (.inr (.inr (fun _ => none))))))) (ce + 1) (sl + n.toNatClampNeg)) : xW p l e R s m args below meth c Q D xcls b pc lv (.int n :: r) G ce sl := by
  refine fun H locs ls hp hs hl hn => ?_
  obtain ⟨ws, g1, g2, g3⟩ := id hp
  refine va_newq S.1 S.2.1 S.2.2.2.1 (S.2.2.2.2 _ hk) hE.2.2.2.2.1 hE.1 g1 g2 hs (fun q hq => Nat.le_trans hbs hq) e1 rfl (by omega) e3 e4 hd (fun q cA H1 hK' a1 a2 a3 => ?_)
  obtain ⟨kA, comp, f1, f2, f3, f4⟩ := (hK'.2 4 (cA, .object "java/lang/Object") rfl).2
  obtain ⟨kA', comp', f1', f2', f3', f4'⟩ := (hE.1.2 3 (E.1.2.2.2, .object "java/lang/Object") rfl).2
  have h3 : cA = E.1.2.2.2 := Option.some.inj (f4.symm.trans f4')
  subst h3
  exact h q (xG_push g3 a2).1 H1 locs ls (xP.mk a1 a2 (xG_push g3 a2).2) a3 hl hn
theorem xw_ldcM {pc x : Nat} {lv : xL} {st : List Value} {G : xH} {ce sl : Nat} (S : CallFix p m c cc c.maxLocals s args xT own) (hE : xE D E b s) (hk : Cond.classLink own x "[Ljava/lang/Object;" ∈ xT) (hd : decode cc pc = .ok (.ldc x, 2))
    (h : xW p l e R s m args below meth c Q D xcls b (pc + 2) lv (.ref E.2.2 :: st) G ce sl) : xW p l e R s m args below meth c Q D xcls b pc lv st G ce sl :=
  fun H locs ls hp hs hl hn => va_ldcM S.1 S.2.1 S.2.2.2.1 (S.2.2.2.2 _ hk) hE.2.2.2.2.2.2.1 hd (h H locs ls hp hs hl hn)
def pr_JM_max : xEn → List Value → xH → Prop := fun _ As _ => ∃ x y : Int32, As = [.int x, .int y]
def po_JM_max : xEn → List Value → xH → Option Value → xH → Prop := fun _ As G v G' => G' = G ∧ ∀ x y : Int32, As = [.int x, .int y] → v = some (.int (if x < y then y else x))
def pr_JM_min : xEn → List Value → xH → Prop := fun _ As _ => ∃ x y : Int32, As = [.int x, .int y]
def po_JM_min : xEn → List Value → xH → Option Value → xH → Prop := fun _ As G v G' => G' = G ∧ ∀ x y : Int32, As = [.int x, .int y] → v = some (.int (if y < x then y else x))
theorem xcd_max {x : Nat} (S : CallFix p m c cc c.maxLocals s args xT own) (hk : Cond.methodLink own x Lib.Math.max.name ∈ xT) (hR : 1 ≤ R.frames ∧ 21 ≤ R.locals) :
    xCd (xW p l e R s m args below meth c Q D xcls b) R cc x ((2, 2), pr_JM_max E, po_JM_max E, 0, 0) := by
  intro pc lv As r G ce sl hdec hp h8 hce hsl kk
  obtain ⟨u, w, rfl⟩ := hp
  rcases hdec with ⟨e0, hdec⟩ | ⟨e0, hdec⟩ | ⟨e0, hdec⟩
  · cases e0
  · cases e0
  · intro H locs ls hP hS hl hn
    exact va_mmax (rest := r) S.1 S.2.1 (by rw [← hn]; exact hl.1.symm) S.2.2.2.1 (S.2.2.2.2 _ hk) (S.2.2.2.2 _ k_136) (S.2.2.2.2 _ k_10) (S.2.2.2.2 _ k_137) hR.1 (by omega) hce hsl hdec (kk (some (.int (if u < w then w else u))) G ⟨rfl, fun x y h => by cases h; rfl⟩ H locs ls hP hS hl hn)
theorem xcd_min {x : Nat} (S : CallFix p m c cc c.maxLocals s args xT own) (hk : Cond.methodLink own x Lib.Math.min.name ∈ xT) (hR : 1 ≤ R.frames ∧ 21 ≤ R.locals) :
    xCd (xW p l e R s m args below meth c Q D xcls b) R cc x ((2, 2), pr_JM_min E, po_JM_min E, 0, 0) := by
  intro pc lv As r G ce sl hdec hp h8 hce hsl kk
  obtain ⟨u, w, rfl⟩ := hp
  rcases hdec with ⟨e0, hdec⟩ | ⟨e0, hdec⟩ | ⟨e0, hdec⟩
  · cases e0
  · cases e0
  · intro H locs ls hP hS hl hn
    exact va_mmin (rest := r) S.1 S.2.1 (by rw [← hn]; exact hl.1.symm) S.2.2.2.1 (S.2.2.2.2 _ hk) (S.2.2.2.2 _ k_164) (S.2.2.2.2 _ k_10) (S.2.2.2.2 _ k_165) hR.1 (by omega) hce hsl hdec (kk (some (.int (if w < u then w else u))) G ⟨rfl, fun x y h => by cases h; rfl⟩ H locs ls hP hS hl hn)
def pr_gc : xEn → List Value → xH → Prop := fun E As G => ∃ (a N : Nat) (f : Nat → Option Nat), As = [.ref a] ∧ G a = some (.inl (E.1.2.2.2, N, .inr (.inr (.inr (.inr f)))))
def po_gc : xEn → List Value → xH → Option Value → xH → Prop := fun E _ G v G' => G' = G ∧ v = some (.ref E.2.2)
theorem xcd_gc (S : CallFix p m c cc c.maxLocals s args xT "java/util/Arrays") (hE : xE D E b s) (hR : 1 ≤ R.frames ∧ 22 ≤ R.locals) :
    xCd (xW p l e R s m args below meth c Q D xcls b) R cc 86 ((0, 1), pr_gc E, po_gc E, 0, 0) := by
  intro pc lv As r G ce sl hdec hp h8 hce hsl kk
  obtain ⟨a, N, f, rfl, hG⟩ := hp
  rcases hdec with ⟨e0, hdec⟩ | ⟨e0, hdec⟩ | ⟨e0, hdec⟩
  · intro H locs ls hP hS hl hn
    obtain ⟨ws, g1, g2, g3⟩ := id hP
    obtain ⟨q0, hq⟩ := (g3 _ _).mp hG
    have hcell : H[a]? = some (vp_cell E.1.2.2.2 (N, .inr (.inr (.inr (.inr f))))) := g1 q0 _ hq
    have hfc : s.vm.findClass "[Ljava/lang/Object;" = some E.1.2.2.2 := va_nmO (hE.1.2 3 (E.1.2.2.2, .object "java/lang/Object") rfl).2 (by decide +kernel)
    exact va_getC (C := "[Ljava/lang/Object;") (rest := r) S.1 S.2.1 (by rw [← hn]; exact hl.1.symm) S.2.2.2.1 (S.2.2.2.2 _ k_145) (va_Dc.use hE.2.2.2.2.2.1) (S.2.2.2.2 _ k_695) (S.2.2.2.2 _ k_146) (S.2.2.2.2 _ k_156) hE.2.2.2.2.2.2.1 ⟨_, hcell, rfl, hfc⟩ hR.1 (by omega) hdec (kk (some (.ref E.2.2)) G ⟨rfl, rfl⟩ H locs ls hP hS hl hn)
  · cases e0
  · cases e0
def pr_cp : xEn → List Value → xH → Prop := fun E As G => ∃ (a0 a n0 n1 : Nat) (f g : Nat → Option Nat) (sp dp n : Int32), As = [.ref a0, .int sp, .ref a, .int dp, .int n] ∧ G a0 = some (.inl (E.1.2.2.2, n0, .inr (.inr (.inr (.inr f))))) ∧ G a = some (.inl (E.1.2.2.2, n1, .inr (.inr (.inr (.inr g))))) ∧ ¬ sp < 0 ∧ ¬ dp < 0 ∧ ¬ n < 0 ∧ sp.toNatClampNeg + n.toNatClampNeg ≤ n0 ∧ dp.toNatClampNeg + n.toNatClampNeg ≤ n1 ∧
  ∀ i : Nat, i < n.toNatClampNeg → ∀ y : Nat, f (sp.toNatClampNeg + i) = some y → ∃ (ci : Nat) (fs : List Value), ci < 6 ∧ G y = some (.inr (ci, fs))
def po_cp : xEn → List Value → xH → Option Value → xH → Prop := fun E As G v G' => v = none ∧ ∀ (a0 a n0 n1 : Nat) (f g : Nat → Option Nat) (sp dp n : Int32), As = [.ref a0, .int sp, .ref a, .int dp, .int n] → G a0 = some (.inl (E.1.2.2.2, n0, .inr (.inr (.inr (.inr f))))) → G a = some (.inl (E.1.2.2.2, n1, .inr (.inr (.inr (.inr g))))) → G' = xup G a (.inl (E.1.2.2.2, n1, .inr (.inr (.inr (.inr (va_cpy f g sp.toNatClampNeg dp.toNatClampNeg n.toNatClampNeg))))))
theorem xcd_cp (S : CallFix p m c cc c.maxLocals s args xT "java/util/Arrays") (hE : xE D E b s) (hR : 1 ≤ R.frames ∧ 30 ≤ R.locals) :
    xCd (xW p l e R s m args below meth c Q D xcls b) R cc 150 ((2, 5), pr_cp E, po_cp E, 0, 0) := by
  intro pc lv As r G ce sl hdec hp h8 hce hsl kk
  obtain ⟨a0, a, n0, n1, f, g, sp, dp, n, rfl, h1, h2, h3, h4, h5, h6, h7, h9⟩ := hp
  rcases hdec with ⟨e0, hdec⟩ | ⟨e0, hdec⟩ | ⟨e0, hdec⟩
  · cases e0
  · cases e0
  · intro H locs ls hP hS hl hn
    obtain ⟨ws, g1, g2, g3⟩ := id hP
    obtain ⟨q0, hq0⟩ := (g3 _ _).mp h1
    obtain ⟨q1, hq1⟩ := (g3 _ _).mp h2
    have hnw : nativeFrameWords "java/lang/System" "arraycopy" 5 ≤ 11 := by decide
    refine va_copyM (rest := r) S.1 S.2.1 (by rw [← hn]; exact hl.1.symm) S.2.2.2.1 (S.2.2.2.2 _ k_166) (S.2.2.2.2 _ k_168) (S.2.2.2.2 _ k_167) (S.2.2.2.2 _ k_12) hE.1 g1 g2 hS q0 q1 3 3 hq0 hq1 rfl rfl h3 h4 h5 h6 h7 (fun i hi y hy => ?_) hR.1 (by omega) hdec (fun H1 locs1 a1 a2 a3 => kk none _ ⟨rfl, fun a0' a' n0' n1' f' g' sp' dp' n' e1 e2 e3 => ?_⟩ H1 locs1 ls (xP.mk a1 a2 (xG_set g3 g2 hq1)) a3 hl hn)
    · obtain ⟨ci, fs, hci, hGy⟩ := h9 i hi y hy
      obtain ⟨qy, hqy⟩ := (g3 _ _).mp hGy
      obtain ⟨r1, hr1, -⟩ := g1 qy _ hqy
      refine va_rAny hE.1 g1 hqy hr1 (fun comp c0 hc1 hc2 => ?_)
      have hcast : va_Nw (.castable r1.1 "java/lang/Object") s := by
        match ci, hci, hr1 with
        | 0, _, hr => cases hr; exact hE.2.2.2.1 ("FleetWaves", "java/lang/Object") (by decide)
        | 1, _, hr => cases hr; exact hE.2.2.2.1 ("FleetWaves$Car", "java/lang/Object") (by decide)
        | 2, _, hr => cases hr; exact hE.2.2.2.1 ("FleetWaves$Campaign", "java/lang/Object") (by decide)
        | 3, _, hr => cases hr; exact hE.2.2.2.1 ("FleetWaves$Wave", "java/lang/Object") (by decide)
        | 4, _, hr => cases hr; exact hE.2.2.2.1 ("FleetWaves$Failure", "java/lang/Object") (by decide)
        | 5, _, hr => cases hr; exact hE.2.2.2.1 ("FleetWavesModel", "java/lang/Object") (by decide)
        | k + 6, hk, _ => omega
      obtain ⟨c1, c2, j1, j2, j3⟩ := Cond.castable_spec hcast
      cases hc2.symm.trans j1
      cases hc1.symm.trans j2
      exact j3
    · cases e1
      rw [h1] at e2
      cases e2
      rw [h2] at e3
      cases e3
      rfl
end XQ
