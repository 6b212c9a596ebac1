/-! THE CLASS'S HEAP: a campaign's object is written, field by field. -/
theorem num2 {k : Int32} {n : Nat} (hn : n ≤ 1000) (h : ¬ (k < 1 ∨ nI n < k)) : 1 ≤ k.toNatClampNeg ∧ k.toNatClampNeg ≤ n ∧ nI k.toNatClampNeg = k := by
  obtain ⟨j, j1, j2, j3, j4⟩ := num_of hn h
  rw [j4]
  exact ⟨j1, j2, j3.symm⟩
theorem rst_I (σ : St) {k : Nat} (g : Nat → Int32) (hk : k = 8 ∨ k = 15 ∨ k = 16) : rstX σ (σ.setI k g) := by
  rcases hk with rfl | rfl | rfl <;> exact ⟨rfl, rfl, rfl, rfl, rfl, rfl, rfl, rfl, rfl, rfl, rfl, rfl, rfl, rfl, rfl⟩
theorem BfX.same {Z Z' : xZ} {σ σ' : St} (h : BfX Z σ) (hz : Z'.bf = Z.bf) (h1 : σ'.2.1 = σ.2.1) (h6 : σ'.I 6 = σ.I 6) (h7 : σ'.I 7 = σ.I 7) (h17 : σ'.I 17 = σ.I 17) : BfX Z' σ' := by
  intro k k1 k2 j j1 j2
  rw [h1] at k2
  have := h k k1 k2 j j1 j2
  unfold befB at this ⊢
  rw [hz, h1, h6, h7, h17]
  exact this
section RK
variable {E : xEn} {G : xH} {x : Nat} {Z : xZ} {σ : St}
theorem RepX.st (h : RepX E G x Z σ) {k : Nat} (h1 : 1 ≤ k) (h2 : k ≤ σ.2.1) (v : Int32) :
    RepX E (xup G (Z.ad 5 k) (campOb (nI k) (pt σ k) (mm σ k) (kr σ k) (σ.I 7 k) (Z.ad 1 k) v (Z.bf k) (σ.L 13 k) (σ.L 14 k) (σ.I 15 k + σ.I 16 k) (σ.I 16 k))) x Z (σ.setI 8 (upd (σ.I 8) k v)) ∧ FrX Z σ G Z (σ.setI 8 (upd (σ.I 8) k v)) (xup G (Z.ad 5 k) (campOb (nI k) (pt σ k) (mm σ k) (kr σ k) (σ.I 7 k) (Z.ad 1 k) v (Z.bf k) (σ.L 13 k) (σ.L 14 k) (σ.I 15 k + σ.I 16 k) (σ.I 16 k))) := by
  have := h.cmp (σ' := σ.setI 8 (upd (σ.I 8) k v)) h1 h2 (Z.bf k) (rst_I σ _ (Or.inl rfl)) (fun j hj => ⟨upd_ne _ _ hj, rfl, rfl, rfl, rfl⟩)
  rw [sbf_same, show (σ.setI 8 (upd (σ.I 8) k v)).I 8 k = v from upd_self _ _ _] at this
  exact this
theorem RepX.bef (h : RepX E G x Z σ) {k : Nat} (h1 : 1 ≤ k) (h2 : k ≤ σ.2.1) (v : Int64) :
    RepX E (xup G (Z.ad 5 k) (campOb (nI k) (pt σ k) (mm σ k) (kr σ k) (σ.I 7 k) (Z.ad 1 k) (σ.I 8 k) v (σ.L 13 k) (σ.L 14 k) (σ.I 15 k + σ.I 16 k) (σ.I 16 k))) x (Z.sbf k v) σ ∧ FrX Z σ G (Z.sbf k v) σ (xup G (Z.ad 5 k) (campOb (nI k) (pt σ k) (mm σ k) (kr σ k) (σ.I 7 k) (Z.ad 1 k) (σ.I 8 k) v (σ.L 13 k) (σ.L 14 k) (σ.I 15 k + σ.I 16 k) (σ.I 16 k))) :=
  h.cmp (σ' := σ) h1 h2 v ⟨rfl, rfl, rfl, rfl, rfl, rfl, rfl, rfl, rfl, rfl, rfl, rfl, rfl, rfl, rfl⟩ (fun j _ => ⟨rfl, rfl, rfl, rfl, rfl⟩)
theorem RepX.rul (h : RepX E G x Z σ) {k : Nat} (h1 : 1 ≤ k) (h2 : k ≤ σ.2.1) (u d : Int64) :
    RepX E (xup G (Z.ad 5 k) (campOb (nI k) (pt σ k) (mm σ k) (kr σ k) (σ.I 7 k) (Z.ad 1 k) (σ.I 8 k) (Z.bf k) u d (σ.I 15 k + σ.I 16 k) (σ.I 16 k))) x Z (ruleS σ k u d) ∧ FrX Z σ G Z (ruleS σ k u d) (xup G (Z.ad 5 k) (campOb (nI k) (pt σ k) (mm σ k) (kr σ k) (σ.I 7 k) (Z.ad 1 k) (σ.I 8 k) (Z.bf k) u d (σ.I 15 k + σ.I 16 k) (σ.I 16 k))) := by
  have := h.cmp (σ' := ruleS σ k u d) h1 h2 (Z.bf k) ⟨rfl, rfl, rfl, rfl, rfl, rfl, rfl, rfl, rfl, rfl, rfl, rfl, rfl, rfl, rfl⟩ (fun j hj => ⟨rfl, updL_ne _ _ hj, updL_ne _ _ hj, rfl, rfl⟩)
  rw [sbf_same, show (ruleS σ k u d).L 13 k = u from updL_self _ _ _, show (ruleS σ k u d).L 14 k = d from updL_self _ _ _] at this
  exact this
/-- reports: all of them, and the bad ones -/
theorem RepX.rep (h : RepX E G x Z σ) {k : Nat} (h1 : 1 ≤ k) (h2 : k ≤ σ.2.1) (g b : Int32) :
    RepX E (xup G (Z.ad 5 k) (campOb (nI k) (pt σ k) (mm σ k) (kr σ k) (σ.I 7 k) (Z.ad 1 k) (σ.I 8 k) (Z.bf k) (σ.L 13 k) (σ.L 14 k) (g + b) b)) x Z ((σ.setI 15 (upd (σ.I 15) k g)).setI 16 (upd (σ.I 16) k b)) ∧ FrX Z σ G Z ((σ.setI 15 (upd (σ.I 15) k g)).setI 16 (upd (σ.I 16) k b)) (xup G (Z.ad 5 k) (campOb (nI k) (pt σ k) (mm σ k) (kr σ k) (σ.I 7 k) (Z.ad 1 k) (σ.I 8 k) (Z.bf k) (σ.L 13 k) (σ.L 14 k) (g + b) b)) := by
  have := h.cmp (σ' := (σ.setI 15 (upd (σ.I 15) k g)).setI 16 (upd (σ.I 16) k b)) h1 h2 (Z.bf k) ⟨rfl, rfl, rfl, rfl, rfl, rfl, rfl, rfl, rfl, rfl, rfl, rfl, rfl, rfl, rfl⟩ (fun j hj => ⟨rfl, rfl, rfl, by show upd (σ.I 15) k g j + upd (σ.I 16) k b j = _; rw [upd_ne _ _ hj, upd_ne _ _ hj], upd_ne _ _ hj⟩)
  rw [sbf_same, show ((σ.setI 15 (upd (σ.I 15) k g)).setI 16 (upd (σ.I 16) k b)).I 15 k = g from upd_self _ _ _, show ((σ.setI 15 (upd (σ.I 15) k g)).setI 16 (upd (σ.I 16) k b)).I 16 k = b from upd_self _ _ _] at this
  exact this
/-- what look does -/
theorem RepX.lok {N : Nat} (h : RepX E G x Z σ) (o : vI N σ) (hN : N ≤ 1000) {k : Nat} (h1 : 1 ≤ k) (h2 : k ≤ σ.2.1) {G' : xH} (hG : G' = if brokeB (σ.I 8 k) (σ.L 13 k) (σ.L 14 k) (σ.I 15 k + σ.I 16 k) (σ.I 16 k) = true then xup G (Z.ad 5 k) (campOb (nI k) (pt σ k) (mm σ k) (kr σ k) (σ.I 7 k) (Z.ad 1 k) 2 (Z.bf k) (σ.L 13 k) (σ.L 14 k) (σ.I 15 k + σ.I 16 k) (σ.I 16 k)) else G) : RepX E G' x Z (lookS σ k) ∧ FrX Z σ G Z (lookS σ k) G' := by
  have hK := h.K40
  have hb := broke_look o hN h1 (show k ≤ 40 by omega)
  unfold lookS
  by_cases e : brokeB (σ.I 8 k) (σ.L 13 k) (σ.L 14 k) (σ.I 15 k + σ.I 16 k) (σ.I 16 k) = true
  · rw [if_pos e] at hG
    rw [if_pos (hb.mp e), hG]
    exact h.st h1 h2 2
  · rw [if_neg e] at hG
    rw [if_neg (fun z => e (hb.mpr z)), hG]
    exact ⟨h, FrX_refl⟩
/-- array 18 is nobody's -/
theorem RepX.scr (h : RepX E G x Z σ) (g : Nat → Int32) : RepX E G x Z (σ.setI 18 g) := by
  obtain ⟨h1, h2, h3, h4, h5, h6⟩ := h
  refine ⟨h1, fun a i hi => ?_, fun a i c j hi hj => h3 a i c j hi hj, h4, h5, h6⟩
  rw [h2 a i hi]
  rcases live_cases (σ := σ) hi with rfl | rfl | rfl | rfl | rfl | rfl | rfl | ⟨rfl, rfl⟩
  · rw [cellX_1, cellX_1]; rfl
  · rw [cellX_2, cellX_2]
  · rw [cellX_3, cellX_3]; rfl
  · rw [cellX_4, cellX_4]
  · rw [cellX_5, cellX_5]; rfl
  · rw [cellX_6, cellX_6]; rfl
  · rw [cellX_7, cellX_7]; rfl
  · rw [cellX_9, cellX_9]; rfl
end RK
/-- a state's arrays put back -/
theorem fI_fI {α : Type} (k : Nat) (g h : Nat → α) (I : Nat → Nat → α) : fI k g (fI k h I) = fI k g I := by
  funext j
  unfold fI
  split <;> rfl
theorem fI_same {α : Type} (k : Nat) (I : Nat → Nat → α) : fI k (I k) I = I := by
  funext j
  unfold fI
  split
  · subst_vars; rfl
  · rfl
theorem fI_comm {α : Type} {k j : Nat} (h : k ≠ j) (g f : Nat → α) (I : Nat → Nat → α) : fI k g (fI j f I) = fI j f (fI k g I) := by
  funext i
  unfold fI
  by_cases e : i = k
  · rw [if_pos e, if_neg (by omega), if_pos e]
  · rw [if_neg e, if_neg e]
theorem upd_upd (f : Nat → Int32) (k : Nat) (a b : Int32) : upd (upd f k a) k b = upd f k b := by
  funext j
  unfold upd
  split <;> rfl
theorem upd_same (f : Nat → Int32) (k : Nat) : upd f k (f k) = f := by
  funext j
  unfold upd
  split
  · subst_vars; rfl
  · rfl
