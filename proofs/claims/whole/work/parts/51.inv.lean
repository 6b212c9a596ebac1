/-! WHAT EVERY STATE KEEPS. -/
def shOK (u d : Int64) : Prop := 1 ≤ d ∧ d ≤ 1073741824 ∧ 0 ≤ u ∧ u ≤ d
theorem sh_of {u d : Int64} (h : ¬ noShare u d = true) : shOK u d := by
  simp only [noShare, Bool.or_eq_true, decide_eq_true_eq, not_or] at h
  obtain ⟨⟨⟨h1, h2⟩, h3⟩, h4⟩ := h
  exact ⟨Int64.not_lt.mp h1, Int64.not_lt.mp h2, Int64.not_lt.mp h3, Int64.not_lt.mp h4⟩
/-- counts; the time; waves; rules; formulas; numbers; slots that nobody uses -/
def vC (N : Nat) (σ : St) : Prop := ∀ k, k ≤ 40 → ∃ g b : Nat, σ.I 15 k = nI g ∧ σ.I 16 k = nI b ∧ g + b ≤ N
def vW (σ : St) : Prop := ∀ k w, 1 ≤ k → k ≤ 40 → 1 ≤ w → w ≤ wv σ k → shOK (σ.L 10 (21 * k + w)) (σ.L 11 (21 * k + w)) ∧ 0 ≤ σ.L 12 (21 * k + w) ∧ σ.L 12 (21 * k + w) ≤ σ.2.2.1 ∧ (w + 1 ≤ wv σ k → σ.L 12 (21 * k + w) ≤ σ.L 12 (21 * k + (w + 1)))
def vR (σ : St) : Prop := ∀ k, 1 ≤ k → k ≤ 40 → (σ.L 13 k = 0 ∧ σ.L 14 k = 0) ∨ shOK (σ.L 13 k) (σ.L 14 k)
def vF (σ : St) : Prop := ∀ k, 1 ≤ k → k ≤ σ.2.1 → ∃ f : Nat, f ≤ 8388607 ∧ σ.I 6 k = nI f
def vN (σ : St) : Prop := ∀ c, 1 ≤ c → c ≤ σ.1 → 1 ≤ σ.L 2 c
def vU (σ : St) : Prop := ∀ k, σ.2.1 < k → k ≤ 40 → σ.I 8 k = 0 ∧ wv σ k = 0 ∧ σ.I 15 k = 0 ∧ σ.I 16 k = 0 ∧ σ.L 13 k = 0 ∧ σ.L 14 k = 0
def vT (σ : St) : Prop := ∀ k b, k ≤ 40 → b ≤ 40 → (σ.2.1 < k ∨ σ.2.1 < b ∨ k = b) → σ.I 17 (41 * k + b) = 0
def vX (σ : St) : Prop := ∀ c k, c ≤ 500 → 1 ≤ k → k ≤ 40 → (σ.1 < c ∨ σ.2.1 < k) → σ.I 19 (41 * c + k) = 0 ∧ σ.I 21 (41 * c + k) = 0
def vO (σ : St) : Prop := ∀ c, c ≤ 500 → (σ.I 4 c = 0 ∨ σ.I 4 c = 1) ∧ (σ.1 < c → σ.I 4 c = 0)
def vM (N : Nat) (σ : St) : Prop := ∀ c k, 1 ≤ c → c ≤ σ.1 → 1 ≤ k → k ≤ σ.2.1 → ∃ m : Nat, m ≤ N ∧ σ.I 19 (41 * c + k) = nI m
def vB (σ : St) : Prop := ∀ c k, 1 ≤ c → c ≤ σ.1 → 1 ≤ k → k ≤ σ.2.1 → ¬ σ.I 21 (41 * c + k) = 0 → meant σ k c = true ∧ ∀ j, 1 ≤ j → j ≤ σ.2.1 → ¬ σ.I 21 (41 * c + j) = 0 → j = k
def vI (N : Nat) (σ : St) : Prop := ok0 σ ∧ vC N σ ∧ 0 ≤ σ.2.2.1 ∧ vW σ ∧ vR σ ∧ vF σ ∧ vN σ ∧ vU σ ∧ vT σ ∧ vX σ ∧ vO σ ∧ vM N σ ∧ vB σ
section IV
variable {N : Nat} {σ σ' : St}
theorem meant_eq {k c : Nat} (h2 : σ'.L 2 c = σ.L 2 c) (h6 : σ'.I 6 k = σ.I 6 k) (h7 : σ'.I 7 k = σ.I 7 k) (h3 : σ'.I 3 (8 * c + pt σ k) = σ.I 3 (8 * c + pt σ k)) : meant σ' k c = meant σ k c := by
  have a1 : mm σ' k = mm σ k := by unfold mm; rw [h6]
  have a2 : rr σ' k = rr σ k := by unfold rr; rw [h6, a1]
  have a3 : pt σ' k = pt σ k := by unfold pt; rw [h6]
  unfold meant
  rw [a1, a2, a3, h2, h7, h3]
/-- the same arrays, but for those that are named -/
def same (A B : List Nat) (σ σ' : St) : Prop := σ'.1 = σ.1 ∧ σ'.2.1 = σ.2.1 ∧ σ'.2.2.1 = σ.2.2.1 ∧ (∀ j, j ∉ A → σ'.I j = σ.I j) ∧ (∀ j, j ∉ B → σ'.L j = σ.L j)
theorem ok0_same {A B : List Nat} (h : same A B σ σ') (h9 : 9 ∉ A) (o : ok0 σ) : ok0 σ' := by
  obtain ⟨s1, s2, s3, s4, s5⟩ := h
  unfold ok0 wv
  rw [s1, s2, s4 9 h9]
  exact o
theorem vC_same {A B : List Nat} (h : same A B σ σ') (h1 : 15 ∉ A) (h2 : 16 ∉ A) (o : vC N σ) : vC N σ' := by
  unfold vC
  rw [h.2.2.2.1 15 h1, h.2.2.2.1 16 h2]
  exact o
theorem vW_same {A B : List Nat} (h : same A B σ σ') (h1 : 9 ∉ A) (h2 : 10 ∉ B) (h3 : 11 ∉ B) (h4 : 12 ∉ B) (o : vW σ) : vW σ' := by
  obtain ⟨s1, s2, s3, s4, s5⟩ := h
  unfold vW wv
  rw [s4 9 h1, s5 10 h2, s5 11 h3, s5 12 h4, s3]
  exact o
theorem vR_same {A B : List Nat} (h : same A B σ σ') (h1 : 13 ∉ B) (h2 : 14 ∉ B) (o : vR σ) : vR σ' := by
  unfold vR
  rw [h.2.2.2.2 13 h1, h.2.2.2.2 14 h2]
  exact o
theorem vF_same {A B : List Nat} (h : same A B σ σ') (h1 : 6 ∉ A) (o : vF σ) : vF σ' := by
  unfold vF
  rw [h.2.2.2.1 6 h1, h.2.1]
  exact o
theorem vN_same {A B : List Nat} (h : same A B σ σ') (h1 : 2 ∉ B) (o : vN σ) : vN σ' := by
  unfold vN
  rw [h.2.2.2.2 2 h1, h.1]
  exact o
theorem vU_same {A B : List Nat} (h : same A B σ σ') (h1 : 8 ∉ A) (h2 : 9 ∉ A) (h3 : 15 ∉ A) (h4 : 16 ∉ A) (h5 : 13 ∉ B) (h6 : 14 ∉ B) (o : vU σ) : vU σ' := by
  obtain ⟨s1, s2, s3, s4, s5⟩ := h
  unfold vU wv
  rw [s2, s4 8 h1, s4 9 h2, s4 15 h3, s4 16 h4, s5 13 h5, s5 14 h6]
  exact o
theorem vT_same {A B : List Nat} (h : same A B σ σ') (h1 : 17 ∉ A) (o : vT σ) : vT σ' := by
  unfold vT
  rw [h.2.2.2.1 17 h1, h.2.1]
  exact o
theorem vX_same {A B : List Nat} (h : same A B σ σ') (h1 : 19 ∉ A) (h2 : 21 ∉ A) (o : vX σ) : vX σ' := by
  obtain ⟨s1, s2, s3, s4, s5⟩ := h
  unfold vX
  rw [s1, s2, s4 19 h1, s4 21 h2]
  exact o
theorem vO_same {A B : List Nat} (h : same A B σ σ') (h1 : 4 ∉ A) (o : vO σ) : vO σ' := by
  unfold vO
  rw [h.2.2.2.1 4 h1, h.1]
  exact o
theorem vM_same {A B : List Nat} (h : same A B σ σ') (h1 : 19 ∉ A) (o : vM N σ) : vM N σ' := by
  obtain ⟨s1, s2, s3, s4, s5⟩ := h
  unfold vM
  rw [s1, s2, s4 19 h1]
  exact o
theorem meant_same {A B : List Nat} (h : same A B σ σ') (h1 : 3 ∉ A) (h2 : 6 ∉ A) (h3 : 7 ∉ A) (h4 : 2 ∉ B) (k c : Nat) : meant σ' k c = meant σ k c := meant_eq (by rw [h.2.2.2.2 2 h4]) (by rw [h.2.2.2.1 6 h2]) (by rw [h.2.2.2.1 7 h3]) (by rw [h.2.2.2.1 3 h1])
theorem vB_same {A B : List Nat} (h : same A B σ σ') (h0 : 21 ∉ A) (h1 : 3 ∉ A) (h2 : 6 ∉ A) (h3 : 7 ∉ A) (h4 : 2 ∉ B) (o : vB σ) : vB σ' := by
  obtain ⟨s1, s2, s3, s4, s5⟩ := id h
  unfold vB
  rw [s1, s2, s4 21 h0]
  intro c k
  rw [meant_same h h1 h2 h3 h4]
  exact o c k
theorem same_I (σ : St) (k : Nat) (g : Nat → Int32) : same [k] [] σ (σ.setI k g) := ⟨rfl, rfl, rfl, fun j hj => fI_ne _ _ (fun z => hj (by rw [z]; exact List.mem_cons_self)), fun _ _ => rfl⟩
theorem same_L (σ : St) (k : Nat) (g : Nat → Int64) : same [] [k] σ (σ.setL k g) := ⟨rfl, rfl, rfl, fun _ _ => rfl, fun j hj => fI_ne _ _ (fun z => hj (by rw [z]; exact List.mem_cons_self))⟩
theorem same_trans {A B C D : List Nat} {s1 s2 s3 : St} (h : same A B s1 s2) (h2 : same C D s2 s3) : same (A ++ C) (B ++ D) s1 s3 := by
  obtain ⟨a1, a2, a3, a4, a5⟩ := h
  obtain ⟨b1, b2, b3, b4, b5⟩ := h2
  exact ⟨b1.trans a1, b2.trans a2, b3.trans a3, fun j hj => (b4 j (fun z => hj (List.mem_append_right _ z))).trans (a4 j (fun z => hj (List.mem_append_left _ z))), fun j hj => (b5 j (fun z => hj (List.mem_append_right _ z))).trans (a5 j (fun z => hj (List.mem_append_left _ z)))⟩
theorem vC_mono {M : Nat} (h : N ≤ M) (o : vC N σ) : vC M σ := fun k hk => by
  obtain ⟨g, b, h1, h2, h3⟩ := o k hk
  exact ⟨g, b, h1, h2, by omega⟩
theorem vM_mono {M : Nat} (h : N ≤ M) (o : vM N σ) : vM M σ := fun c k a b d e => by
  obtain ⟨m, h1, h2⟩ := o c k a b d e
  exact ⟨m, by omega, h2⟩
theorem vI_mono {M : Nat} (h : N ≤ M) (o : vI N σ) : vI M σ := by
  obtain ⟨h1, h2, h3, h4, h5, h6, h7, h8, h9, h10, h11, h12, h13⟩ := o
  exact ⟨h1, vC_mono h h2, h3, h4, h5, h6, h7, h8, h9, h10, h11, vM_mono h h12, h13⟩
theorem vI.ok1 (o : vI N σ) (h : N ≤ 1000) : ok1 σ := by
  intro k hk
  obtain ⟨g, b, h1, h2, h3⟩ := o.2.1 k hk
  have e1 : gdN σ k = g := by unfold gdN; rw [h1, nI_clamp (by omega)]
  have e2 : bdN σ k = b := by unfold bdN; rw [h2, nI_clamp (by omega)]
  rw [e1, e2]
  exact ⟨by omega, by omega, h1, h2⟩
/-- states of campaigns that are there -/
theorem vI.st (o : vI N σ) {k : Nat} (hk : k ≤ σ.2.1) (v : Int32) : vI N (σ.setI 8 (upd (σ.I 8) k v)) := by
  obtain ⟨h1, h2, h3, h4, h5, h6, h7, h8, h9, h10, h11, h12, h13⟩ := o
  have s := same_I σ 8 (upd (σ.I 8) k v)
  refine ⟨ok0_same s (by decide) h1, vC_same s (by decide) (by decide) h2, h3, vW_same s (by decide) (by decide) (by decide) (by decide) h4, vR_same s (by decide) (by decide) h5, vF_same s (by decide) h6, vN_same s (by decide) h7, ?_, vT_same s (by decide) h9, vX_same s (by decide) (by decide) h10, vO_same s (by decide) h11, vM_same s (by decide) h12, vB_same s (by decide) (by decide) (by decide) (by decide) (by decide) h13⟩
  intro j j1 j2
  have j1 : σ.2.1 < j := j1
  obtain ⟨u1, u2⟩ := h8 j j1 j2
  refine ⟨?_, u2⟩
  show upd (σ.I 8) k v j = 0
  rw [upd_ne _ _ (by omega)]
  exact u1
theorem vI.look (o : vI N σ) {k : Nat} (hk : k ≤ σ.2.1) : vI N (lookS σ k) := by
  unfold lookS
  split
  · exact o.st hk 2
  · exact o
theorem vI.told (o : vI N σ) {k b : Nat} (k1 : k ≤ σ.2.1) (b1 : b ≤ σ.2.1) (hkb : k ≠ b) (v : Int32) : vI N (σ.setI 17 (upd (σ.I 17) (41 * k + b) v)) := by
  obtain ⟨h1, h2, h3, h4, h5, h6, h7, h8, h9, h10, h11, h12, h13⟩ := o
  have s := same_I σ 17 (upd (σ.I 17) (41 * k + b) v)
  refine ⟨ok0_same s (by decide) h1, vC_same s (by decide) (by decide) h2, h3, vW_same s (by decide) (by decide) (by decide) (by decide) h4, vR_same s (by decide) (by decide) h5, vF_same s (by decide) h6, vN_same s (by decide) h7, vU_same s (by decide) (by decide) (by decide) (by decide) (by decide) (by decide) h8, ?_, vX_same s (by decide) (by decide) h10, vO_same s (by decide) h11, vM_same s (by decide) h12, vB_same s (by decide) (by decide) (by decide) (by decide) (by decide) h13⟩
  intro j c j1 j2 j3
  have j3 : σ.2.1 < j ∨ σ.2.1 < c ∨ j = c := j3
  have := h1.2.1
  show upd (σ.I 17) (41 * k + b) v (41 * j + c) = 0
  rw [upd_ne _ _ (by omega)]
  exact h9 j c j1 j2 j3
theorem vI.scr (o : vI N σ) (g : Nat → Int32) : vI N (σ.setI 18 g) := by
  obtain ⟨h1, h2, h3, h4, h5, h6, h7, h8, h9, h10, h11, h12, h13⟩ := o
  have s := same_I σ 18 g
  exact ⟨ok0_same s (by decide) h1, vC_same s (by decide) (by decide) h2, h3, vW_same s (by decide) (by decide) (by decide) (by decide) h4, vR_same s (by decide) (by decide) h5, vF_same s (by decide) h6, vN_same s (by decide) h7, vU_same s (by decide) (by decide) (by decide) (by decide) (by decide) (by decide) h8, vT_same s (by decide) h9, vX_same s (by decide) (by decide) h10, vO_same s (by decide) h11, vM_same s (by decide) h12, vB_same s (by decide) (by decide) (by decide) (by decide) (by decide) h13⟩
theorem vI.cons (o : vI N σ) {c : Nat} (hc : c ≤ σ.1) {v : Int32} (hv : v = 0 ∨ v = 1) : vI N (σ.setI 4 (upd (σ.I 4) c v)) := by
  obtain ⟨h1, h2, h3, h4, h5, h6, h7, h8, h9, h10, h11, h12, h13⟩ := o
  have s := same_I σ 4 (upd (σ.I 4) c v)
  refine ⟨ok0_same s (by decide) h1, vC_same s (by decide) (by decide) h2, h3, vW_same s (by decide) (by decide) (by decide) (by decide) h4, vR_same s (by decide) (by decide) h5, vF_same s (by decide) h6, vN_same s (by decide) h7, vU_same s (by decide) (by decide) (by decide) (by decide) (by decide) (by decide) h8, vT_same s (by decide) h9, vX_same s (by decide) (by decide) h10, ?_, vM_same s (by decide) h12, vB_same s (by decide) (by decide) (by decide) (by decide) (by decide) h13⟩
  intro j j2
  show (upd (σ.I 4) c v j = 0 ∨ upd (σ.I 4) c v j = 1) ∧ (σ.1 < j → upd (σ.I 4) c v j = 0)
  by_cases e : j = c
  · subst e
    rw [upd_self]
    exact ⟨hv, fun z => by omega⟩
  · rw [upd_ne _ _ e]
    exact h11 j j2
theorem vI.rule (o : vI N σ) {k : Nat} (hk : k ≤ σ.2.1) {u d : Int64} (hs : shOK u d) : vI N (ruleS σ k u d) := by
  obtain ⟨h1, h2, h3, h4, h5, h6, h7, h8, h9, h10, h11, h12, h13⟩ := o
  have s : same [] [13, 14] σ (ruleS σ k u d) := same_trans (same_L σ 13 (vp_updL (σ.L 13) k u)) (same_L _ 14 (vp_updL (σ.L 14) k d))
  refine ⟨ok0_same s (by decide) h1, vC_same s (by decide) (by decide) h2, h3, vW_same s (by decide) (by decide) (by decide) (by decide) h4, ?_, vF_same s (by decide) h6, vN_same s (by decide) h7, ?_, vT_same s (by decide) h9, vX_same s (by decide) (by decide) h10, vO_same s (by decide) h11, vM_same s (by decide) h12, vB_same s (by decide) (by decide) (by decide) (by decide) (by decide) h13⟩
  · intro j j1 j2
    show (vp_updL (σ.L 13) k u j = 0 ∧ vp_updL (σ.L 14) k d j = 0) ∨ shOK (vp_updL (σ.L 13) k u j) (vp_updL (σ.L 14) k d j)
    by_cases e : j = k
    · subst e
      rw [updL_self, updL_self]
      exact Or.inr hs
    · rw [updL_ne _ _ e, updL_ne _ _ e]
      exact h5 j j1 j2
  · intro j j1 j2
    have j1 : σ.2.1 < j := j1
    obtain ⟨u1, u2, u3, u4, u5, u6⟩ := h8 j j1 j2
    refine ⟨u1, u2, u3, u4, ?_, ?_⟩
    · show vp_updL (σ.L 13) k u j = 0
      rw [updL_ne _ _ (by omega)]; exact u5
    · show vp_updL (σ.L 14) k d j = 0
      rw [updL_ne _ _ (by omega)]; exact u6
theorem vI.time (o : vI N σ) {t : Int64} (ht : ¬ t < σ.2.2.1) : vI N (tS σ t) := by
  obtain ⟨h1, h2, h3, h4, h5, h6, h7, h8, h9, h10, h11, h12, h13⟩ := o
  have ht := Int64.not_lt.mp ht
  refine ⟨h1, h2, Int64.le_trans h3 ht, fun k w k1 k2 w1 w2 => ?_, h5, h6, h7, h8, h9, h10, h11, h12, h13⟩
  obtain ⟨a1, a2, a3, a4⟩ := h4 k w k1 k2 w1 w2
  exact ⟨a1, a2, Int64.le_trans a3 ht, a4⟩
/-- a campaign is begun -/
theorem vI.beg (o : vI N σ) {k c : Nat} (c1 : 1 ≤ c) (c2 : c ≤ σ.1) (k1 : 1 ≤ k) (k2 : k ≤ σ.2.1) (hm : meant σ k c = true) (hn : ∀ j, 1 ≤ j → j ≤ σ.2.1 → σ.I 21 (41 * c + j) = 0) (v : Int32) : vI N (begS σ k c v) := by
  obtain ⟨h1, h2, h3, h4, h5, h6, h7, h8, h9, h10, h11, h12, h13⟩ := o
  have hK := h1.2.1
  have s := same_I σ 21 (upd (σ.I 21) (41 * c + k) v)
  refine ⟨ok0_same s (by decide) h1, vC_same s (by decide) (by decide) h2, h3, vW_same s (by decide) (by decide) (by decide) (by decide) h4, vR_same s (by decide) (by decide) h5, vF_same s (by decide) h6, vN_same s (by decide) h7, vU_same s (by decide) (by decide) (by decide) (by decide) (by decide) (by decide) h8, vT_same s (by decide) h9, ?_, vO_same s (by decide) h11, vM_same s (by decide) h12, ?_⟩
  · intro a j a1 j1 j2 j3
    have j3 : σ.1 < a ∨ σ.2.1 < j := j3
    refine ⟨(h10 a j a1 j1 j2 j3).1, ?_⟩
    show upd (σ.I 21) (41 * c + k) v (41 * a + j) = 0
    rw [upd_ne _ _ (by omega)]
    exact (h10 a j a1 j1 j2 j3).2
  · intro a j a1 a2 j1 j2 j3
    have a2 : a ≤ σ.1 := a2
    have j2 : j ≤ σ.2.1 := j2
    have j3 : ¬ upd (σ.I 21) (41 * c + k) v (41 * a + j) = 0 := j3
    rw [show meant (begS σ k c v) j a = meant σ j a from meant_same s (by decide) (by decide) (by decide) (by decide) j a]
    by_cases e : a = c
    · subst e
      have hu : ∀ i, 1 ≤ i → i ≤ σ.2.1 → ¬ upd (σ.I 21) (41 * a + k) v (41 * a + i) = 0 → i = k := by
        intro i i1 i2 i3
        by_cases ei : i = k
        · exact ei
        · rw [upd_ne _ _ (by omega)] at i3
          exact absurd (hn i i1 i2) i3
      have ej := hu j j1 j2 j3
      refine ⟨by rw [ej]; exact hm, fun i i1 i2 i3 => ?_⟩
      rw [ej]
      exact hu i i1 i2 i3
    · rw [upd_ne _ _ (by omega)] at j3
      obtain ⟨b1, b2⟩ := h13 a j a1 a2 j1 j2 j3
      refine ⟨b1, fun i i1 i2 i3 => ?_⟩
      have i2 : i ≤ σ.2.1 := i2
      have i3 : ¬ upd (σ.I 21) (41 * c + k) v (41 * a + i) = 0 := i3
      rw [upd_ne _ _ (by omega)] at i3
      exact b2 i i1 i2 i3
end IV
