/-! THE CLASS'S HEAP grows: a failure, a car, a campaign, a wave. -/
def u2 (f : Nat → Nat → Nat) (a i q : Nat) : Nat → Nat → Nat := fun c j => if c = a ∧ j = i then q else f c j
theorem u2_self (f : Nat → Nat → Nat) (a i q : Nat) : u2 f a i q a i = q := if_pos ⟨rfl, rfl⟩
theorem u2_ne (f : Nat → Nat → Nat) {a i q c j : Nat} (h : ¬ (c = a ∧ j = i)) : u2 f a i q c j = f c j := if_neg h
theorem sbf_same (Z : xZ) (k : Nat) : Z.sbf k (Z.bf k) = Z := by
  have e : uN Z.bf k (Z.bf k) = Z.bf := by
    funext j
    unfold uN
    split
    · subst_vars; rfl
    · rfl
  unfold xZ.sbf
  rw [e]
section RG
variable {E : xEn} {G G' : xH} {x : Nat} {Z Z' : xZ} {σ σ' : St}
theorem RepX.sm (h : RepX E G x Z σ) {a i : Nat} (hh : liveX Z σ a i) : G (Z.ad a i) ≠ none := fun z => by rw [h.2.1 a i hh] at z; cases z
theorem RepX.grow (h : RepX E G x Z σ) (N : Nat → Nat → Prop) (hN : ∀ a i, N a i → G (Z'.ad a i) = none) (hNd : ∀ a i c j, N a i → N c j → Z'.ad a i = Z'.ad c j → a = c ∧ i = j) (hl : ∀ a i, liveX Z' σ' a i → N a i ∨ (liveX Z σ a i ∧ Z'.ad a i = Z.ad a i)) (hc : ∀ a i, liveX Z' σ' a i → G' (Z'.ad a i) = Option.some (cellX E Z' σ' a i)) (hr : Z'.ad 9 0 = x) (hsh : ShX Z' σ') : RepX E G' x Z' σ' := by
  refine ⟨hr, hc, fun a i c j hi hj he => ?_, hsh⟩
  rcases hl a i hi with h1 | ⟨h1, e1⟩ <;> rcases hl c j hj with h2 | ⟨h2, e2⟩
  · exact hNd _ _ _ _ h1 h2 he
  · exact absurd (by rw [← e2, ← he]; exact hN _ _ h1) (h.sm h2)
  · exact absurd (by rw [← e1, he]; exact hN _ _ h2) (h.sm h1)
  · exact h.2.2.1 a i c j h1 h2 (by rw [← e1, ← e2]; exact he)
theorem FrX_grow (N : Nat → Nat → Prop) (hN : ∀ a i, N a i → G (Z'.ad a i) = none) (hl : ∀ a i, liveX Z' σ' a i → N a i ∨ (liveX Z σ a i ∧ Z'.ad a i = Z.ad a i)) (hk : ∀ q, ¬ fpX Z σ q → G q ≠ none → G' q = G q) : FrX Z σ G Z' σ' G' := by
  intro q hq hn
  refine ⟨fun hz => ?_, hk q hq hn⟩
  obtain ⟨a, i, h1, h2⟩ := hz
  rcases hl a i h1 with h3 | ⟨h3, e3⟩
  · exact hn (by rw [h2]; exact hN _ _ h3)
  · exact hq ⟨a, i, h3, by rw [h2, e3]⟩
theorem aft_mem {k j : Nat} : ∀ (L : List Nat), j ∈ aftX k L → j ∈ L
  | [], h => h
  | i :: L, h => by
    rw [aftX] at h
    split at h
    · exact List.mem_cons_of_mem _ h
    · exact List.mem_cons_of_mem _ (aft_mem L h)
theorem hd_eq {c : Nat} : ∀ (L : List Nat), (∀ j, j ∈ L → Z'.ad 7 (41 * c + j) = Z.ad 7 (41 * c + j)) → hdX Z' c L = hdX Z c L
  | [], _ => rfl
  | k :: _, h => by rw [hdX, hdX, h k List.mem_cons_self]
/-- a failure's ghosts -/
abbrev xZ.fa (Z : xZ) (c k q : Nat) : xZ := (u2 Z.ad 7 (41 * c + k) q, Z.2.1, Z.2.2.1, Z.2.2.2.1, Z.ef, Z.bg, Z.bf, uN Z.Lf c (k :: Z.Lf c))
theorem RepX.fan (h : RepX E G x Z σ) {c k q : Nat} (h1 : 1 ≤ c) (h2 : c ≤ σ.1) (k1 : 1 ≤ k) (k2 : k ≤ σ.2.1) (h3 : k ∉ Z.Lf c) (hq : G q = none) {v : Int32} (hv : ¬ v = 0) (t : Int64) :
    RepX E (xup (xup G (Z.ad 3 c) (carOb (σ.L 2 c) (Z.ad 4 c) (if σ.I 4 c = 0 then 1 else 0) (nI (Z.bg c)) (Option.some q))) q (.inr (4, [.int (nI k), va_rf (hdX Z c (Z.Lf c)), .int v, .long t]))) x (Z.fa c k q) ((σ.setI 19 (upd (σ.I 19) (41 * c + k) v)).setL 20 (vp_updL (σ.L 20) (41 * c + k) t))
    ∧ FrX Z σ G (Z.fa c k q) ((σ.setI 19 (upd (σ.I 19) (41 * c + k) v)).setL 20 (vp_updL (σ.L 20) (41 * c + k) t)) (xup (xup G (Z.ad 3 c) (carOb (σ.L 2 c) (Z.ad 4 c) (if σ.I 4 c = 0 then 1 else 0) (nI (Z.bg c)) (Option.some q))) q (.inr (4, [.int (nI k), va_rf (hdX Z c (Z.Lf c)), .int v, .long t]))) := by
  have h6 := h.K40
  have e1 : (41 * c + k) / 41 = c := by omega
  have e2 : (41 * c + k) % 41 = k := by omega
  have hcar : liveX Z σ 3 c := ⟨h1, h2⟩
  have hqc : Z.ad 3 c ≠ q := fun z => h.sm hcar (by rw [z]; exact hq)
  have hqn : ∀ a i, liveX Z σ a i → Z.ad a i ≠ q := fun a i hi z => h.sm hi (by rw [z]; exact hq)
  have hin : ∀ c' j, 1 ≤ c' → c' ≤ σ.1 → j ∈ Z.Lf c' → u2 Z.ad 7 (41 * c + k) q 7 (41 * c' + j) = Z.ad 7 (41 * c' + j) := by
    intro c' j a1 a2 a3
    have a4 := (h.2.2.2.2.2 c' a1 a2).2.2.2.1 j a3
    refine u2_ne _ (fun z => ?_)
    obtain ⟨rfl, rfl⟩ : c' = c ∧ j = k := by omega
    exact h3 a3
  have hhd : ∀ c' L, 1 ≤ c' → c' ≤ σ.1 → (∀ j, j ∈ L → j ∈ Z.Lf c') → hdX (Z.fa c k q) c' L = hdX Z c' L := fun c' L a1 a2 a3 => hd_eq L (fun j hj => hin c' j a1 a2 (a3 j hj))
  have hl : ∀ a i, liveX (Z.fa c k q) ((σ.setI 19 (upd (σ.I 19) (41 * c + k) v)).setL 20 (vp_updL (σ.L 20) (41 * c + k) t)) a i → (a = 7 ∧ i = 41 * c + k) ∨ (liveX Z σ a i ∧ (Z.fa c k q).ad a i = Z.ad a i) := by
    intro a i hi
    by_cases e : a = 7 ∧ i = 41 * c + k
    · exact Or.inl e
    · right
      refine ⟨?_, u2_ne _ e⟩
      rcases live_cases hi with rfl | rfl | rfl | rfl | rfl | rfl | rfl | ⟨rfl, rfl⟩
      all_goals first | exact hi | skip
      obtain ⟨b1, b2, b3⟩ := hi
      refine ⟨b1, b2, ?_⟩
      have b3 : i % 41 ∈ uN Z.Lf c (k :: Z.Lf c) (i / 41) := b3
      by_cases e5 : i / 41 = c
      · rw [e5, uN_self] at b3
        rw [e5]
        rcases List.mem_cons.mp b3 with z | z
        · exact absurd ⟨rfl, by omega⟩ e
        · exact z
      · rw [uN_ne _ _ e5] at b3
        exact b3
  have hN : ∀ a i, (a = 7 ∧ i = 41 * c + k) → G ((Z.fa c k q).ad a i) = none := by
    rintro a i ⟨rfl, rfl⟩
    show G (u2 Z.ad 7 (41 * c + k) q 7 (41 * c + k)) = none
    rw [u2_self]; exact hq
  refine ⟨h.grow (fun a i => a = 7 ∧ i = 41 * c + k) hN (fun a i c2 j hs hr _ => ⟨by rw [hs.1, hr.1], by rw [hs.2, hr.2]⟩) hl (fun a i hi => ?_) ?_ ⟨h.2.2.2.1, ?_, fun c' q1 q2 => ?_⟩, FrX_grow (fun a i => a = 7 ∧ i = 41 * c + k) hN hl (fun r hr hn => ?_)⟩
  · rcases hl a i hi with z | ⟨z, e⟩
    · obtain ⟨rfl, rfl⟩ := z
      show xup _ q _ (u2 Z.ad 7 (41 * c + k) q 7 (41 * c + k)) = _
      rw [u2_self, xup_self]
      show _ = Option.some (α := va_E) (Sum.inr (4, [.int (nI ((41 * c + k) % 41)), va_rf (hdX (Z.fa c k q) ((41 * c + k) / 41) (aftX ((41 * c + k) % 41) (uN Z.Lf c (k :: Z.Lf c) ((41 * c + k) / 41)))), .int (upd (σ.I 19) (41 * c + k) v (41 * c + k)), .long (vp_updL (σ.L 20) (41 * c + k) t (41 * c + k))]))
      rw [e1, e2, upd_self, updL_self, uN_self, aftX, if_pos rfl, hhd c _ h1 h2 (fun _ hh => hh)]
    · rw [e, xup_ne _ _ (hqn a i z)]
      by_cases e3 : a = 3 ∧ i = c
      · obtain ⟨rfl, rfl⟩ := e3
        rw [xup_self]
        show _ = Option.some (carOb (σ.L 2 i) (u2 Z.ad 7 (41 * i + k) q 4 i) (if σ.I 4 i = 0 then 1 else 0) (nI (Z.bg i)) (hdX (Z.fa i k q) i (uN Z.Lf i (k :: Z.Lf i) i)))
        rw [uN_self]
        show _ = Option.some (carOb _ (u2 Z.ad 7 (41 * i + k) q 4 i) _ _ (Option.some (u2 Z.ad 7 (41 * i + k) q 7 (41 * i + k))))
        rw [u2_self, u2_ne _ (by omega)]
      · rw [xup_ne _ _ (fun w => e3 (h.2.2.1 a i 3 c z hcar w)), h.2.1 a i z]
        congr 1
        rcases live_cases z with rfl | rfl | rfl | rfl | rfl | rfl | rfl | ⟨rfl, rfl⟩
        · show (.inr (6, [.ref (arX E Z i), _, _]) : va_E) = .inr (6, [.ref (arX E (Z.fa c k q) i), _, _])
          have e9 : arX E (Z.fa c k q) i = arX E Z i := by
            unfold arX
            show (if Z.cap i = 0 then E.2.1 else u2 Z.ad 7 (41 * c + k) q 2 i) = _
            rw [u2_ne _ (by omega)]
          rw [e9]; rfl
        · rfl
        · have hic : i ≠ c := fun w => e3 ⟨rfl, w⟩
          show carOb (σ.L 2 i) (Z.ad 4 i) _ _ (hdX Z i (Z.Lf i)) = carOb (σ.L 2 i) (u2 Z.ad 7 (41 * c + k) q 4 i) _ _ (hdX (Z.fa c k q) i (uN Z.Lf c (k :: Z.Lf c) i))
          rw [uN_ne _ _ hic, hhd i _ z.1 z.2 (fun _ hh => hh), u2_ne _ (by omega)]; rfl
        · rfl
        · show campOb _ _ _ _ _ (Z.ad 1 i) _ _ _ _ _ _ = campOb _ _ _ _ _ (u2 Z.ad 7 (41 * c + k) q 1 i) _ _ _ _ _ _
          rw [u2_ne _ (by omega)]; rfl
        · rfl
        · have hic : i ≠ 41 * c + k := fun w => by
            obtain ⟨b1, b2, b3⟩ := z
            have b3 : i % 41 ∈ Z.Lf (i / 41) := b3
            rw [w, e1, e2] at b3
            exact h3 b3
          obtain ⟨b1, b2, b3⟩ := z
          have b1 : 1 ≤ i / 41 := b1
          have b2 : i / 41 ≤ σ.1 := b2
          have b3 : i % 41 ∈ Z.Lf (i / 41) := b3
          show (.inr (4, [.int (nI (i % 41)), va_rf (hdX Z (i / 41) (aftX (i % 41) (Z.Lf (i / 41)))), .int (σ.I 19 i), .long (σ.L 20 i)]) : va_E) = .inr (4, [.int (nI (i % 41)), va_rf (hdX (Z.fa c k q) (i / 41) (aftX (i % 41) (uN Z.Lf c (k :: Z.Lf c) (i / 41)))), .int (upd (σ.I 19) (41 * c + k) v i), .long (vp_updL (σ.L 20) (41 * c + k) t i)])
          rw [upd_ne _ _ hic, updL_ne _ _ hic]
          have e8 : aftX (i % 41) (uN Z.Lf c (k :: Z.Lf c) (i / 41)) = aftX (i % 41) (Z.Lf (i / 41)) := by
            by_cases e5 : i / 41 = c
            · rw [e5, uN_self, aftX, if_neg (by omega)]
            · rw [uN_ne _ _ e5]
          rw [e8, hhd _ _ b1 b2 (fun j hj => aft_mem _ hj)]
        · show (.inr (0, [.ref (Z.ad 1 0), .ref (Z.ad 1 100), _]) : va_E) = .inr (0, [.ref (u2 Z.ad 7 (41 * c + k) q 1 0), .ref (u2 Z.ad 7 (41 * c + k) q 1 100), _])
          rw [u2_ne _ (by omega), u2_ne _ (by omega)]; rfl
  · show u2 Z.ad 7 (41 * c + k) q 9 0 = x
    rw [u2_ne _ (by omega)]; exact h.1
  · intro s hs
    obtain ⟨a1, a2, a3⟩ := h.2.2.2.2.1 s hs
    refine ⟨a1, a2, fun i hi => ?_⟩
    have e9 : elX (Z.fa c k q) s (i + 1) = elX Z s (i + 1) := by
      unfold elX
      show (if s = 0 then u2 Z.ad 7 (41 * c + k) q 3 (i + 1) else if s = 100 then u2 Z.ad 7 (41 * c + k) q 5 (i + 1) else u2 Z.ad 7 (41 * c + k) q 6 (21 * s + (i + 1))) = _
      rw [u2_ne _ (by omega), u2_ne _ (by omega), u2_ne _ (by omega)]
    rw [e9]
    exact a3 i hi
  · obtain ⟨p1, p2, p3, p4, p5⟩ := h.2.2.2.2.2 c' q1 q2
    refine ⟨p1, p2, ?_⟩
    show (uN Z.Lf c (k :: Z.Lf c) c').Nodup ∧ (∀ j, j ∈ uN Z.Lf c (k :: Z.Lf c) c' → 1 ≤ j ∧ j ≤ σ.2.1) ∧ ∀ j, 1 ≤ j → j ≤ 40 → (j ∈ uN Z.Lf c (k :: Z.Lf c) c' ↔ ¬ upd (σ.I 19) (41 * c + k) v (41 * c' + j) = 0)
    by_cases e : c' = c
    · subst e
      rw [uN_self]
      refine ⟨List.nodup_cons.mpr ⟨h3, p3⟩, fun j hj => ?_, fun j j1 j2 => ?_⟩
      · rcases List.mem_cons.mp hj with z | z
        · subst z; exact ⟨k1, k2⟩
        · exact p4 j z
      · by_cases e4 : j = k
        · subst e4
          rw [upd_self]
          exact ⟨fun _ => hv, fun _ => List.mem_cons_self⟩
        · rw [upd_ne _ _ (by omega), ← p5 j j1 j2]
          exact ⟨fun z => (List.mem_cons.mp z).elim (fun z => absurd z e4) id, fun z => List.mem_cons_of_mem _ z⟩
    · rw [uN_ne _ _ e]
      refine ⟨p3, p4, fun j j1 j2 => ?_⟩
      rw [upd_ne _ _ (by omega)]
      exact p5 j j1 j2
  · rw [xup_ne _ _ (fun z => hn (by rw [z]; exact hq)), xup_ne _ _ (fun z => hr ⟨3, c, hcar, z⟩)]
/-- a list of ours takes one more -/
theorem RepX.app (h : RepX E G x Z σ) {G1 : xH} {t v n : Nat} {md : Value} (ht : tlX σ t) (ha : aPost E G1 (Z.ad 1 t) v (arX E Z t) n md (Z.cap t) (Z.h t) G') : ∃ (ed' cap' : Nat) (f' : Nat → Option Nat), G' (Z.ad 1 t) = Option.some (.inr (6, [.ref ed', .int (nI (n + 1)), md])) ∧ G' ed' = Option.some (.inl (E.1.2.2.2, cap', xrf f')) ∧ 0 < cap' ∧ n + 1 ≤ cap' ∧ cap' ≤ 1000 ∧ (∀ i, i < n → f' i = Z.h t i) ∧ f' n = Option.some v ∧ ((ed' = Z.ad 2 t ∧ Z.cap t ≠ 0) ∨ G1 ed' = none) ∧ ∀ q, G1 q ≠ none → q ≠ Z.ad 1 t → ¬ (Z.cap t ≠ 0 ∧ q = Z.ad 2 t) → G' q = G1 q := by
  obtain ⟨ed', cap', f', a1, a2, a3, a4, a5, a6, a7, a8, a9⟩ := ha
  refine ⟨ed', cap', f', a1, a2, a3, a4, a5, a6, a7, ?_, ?_⟩
  · rcases a8 with ⟨b1, b2⟩ | b1
    · left
      refine ⟨?_, by omega⟩
      rw [b1, arX, if_neg (by omega)]
    · exact Or.inr b1
  · intro q q1 q2 q3
    refine a9 q q2 (fun z => ?_)
    rcases a8 with ⟨b1, b2⟩ | b1
    · refine q3 ⟨by omega, ?_⟩
      rw [z, b1, arX, if_neg (by omega)]
    · exact q1 (by rw [z]; exact b1)
end RG
