/-! THE CLASS'S HEAP is written: cells that were there before. -/
def uN {α : Type} (f : Nat → α) (k : Nat) (v : α) : Nat → α := fun j => if j = k then v else f j
theorem uN_self {α : Type} (f : Nat → α) (k : Nat) (v : α) : uN f k v k = v := if_pos rfl
theorem uN_ne {α : Type} (f : Nat → α) {k j : Nat} (v : α) (h : j ≠ k) : uN f k v j = f j := if_neg h
theorem upd_self (f : Nat → Int32) (k : Nat) (v : Int32) : upd f k v k = v := if_pos rfl
theorem upd_ne (f : Nat → Int32) {k j : Nat} (v : Int32) (h : j ≠ k) : upd f k v j = f j := if_neg h
theorem updL_self (f : Nat → Int64) (k : Nat) (v : Int64) : vp_updL f k v k = v := if_pos rfl
theorem updL_ne (f : Nat → Int64) {k j : Nat} (v : Int64) (h : j ≠ k) : vp_updL f k v j = f j := if_neg h
abbrev xZ.sef (Z : xZ) (c : Nat) (f : Nat → Int32) : xZ := (Z.1, Z.2.1, Z.2.2.1, Z.2.2.2.1, uN Z.ef c f, Z.bg, Z.bf, Z.Lf)
abbrev xZ.sbg (Z : xZ) (c k : Nat) : xZ := (Z.1, Z.2.1, Z.2.2.1, Z.2.2.2.1, Z.ef, uN Z.bg c k, Z.bf, Z.Lf)
abbrev xZ.sbf (Z : xZ) (k : Nat) (v : Int64) : xZ := (Z.1, Z.2.1, Z.2.2.1, Z.2.2.2.1, Z.ef, Z.bg, uN Z.bf k v, Z.Lf)
section RS
variable {E : xEn} {G : xH} {x : Nat} {Z Z' : xZ} {σ σ' : St}
theorem live_cases {a i : Nat} (h : liveX Z σ a i) : a = 1 ∨ a = 2 ∨ a = 3 ∨ a = 4 ∨ a = 5 ∨ a = 6 ∨ a = 7 ∨ (a = 9 ∧ i = 0) := by
  unfold liveX at h
  split at h
  all_goals first | exact h.elim | (have h9 := h; omega) | simp
theorem RepX.set (h : RepX E G x Z σ) {a0 i0 : Nat} {e : va_E} (had : Z'.ad = Z.ad) (hl : ∀ a i, liveX Z' σ' a i → liveX Z σ a i) (h0 : liveX Z σ a0 i0) (he : cellX E Z' σ' a0 i0 = e) (hc : ∀ a i, liveX Z σ a i → ¬ (a = a0 ∧ i = i0) → cellX E Z' σ' a i = cellX E Z σ a i) (hsh : ShX Z' σ') : RepX E (xup G (Z.ad a0 i0) e) x Z' σ' := by
  obtain ⟨h1, h2, h3, -⟩ := h
  refine ⟨by rw [had]; exact h1, fun a i hi => ?_, fun a i c j hi hj he => h3 a i c j (hl a i hi) (hl c j hj) (by rw [had] at he; exact he), hsh⟩
  rw [had]
  by_cases e0 : a = a0 ∧ i = i0
  · obtain ⟨rfl, rfl⟩ := e0
    rw [xup_self, he]
  · rw [xup_ne _ _ (fun z => e0 (h3 a i a0 i0 (hl a i hi) h0 z)), hc a i (hl a i hi) e0]
    exact h2 a i (hl a i hi)
theorem FrX_set {a0 i0 : Nat} {e : va_E} (had : Z'.ad = Z.ad) (hl : ∀ a i, liveX Z' σ' a i → liveX Z σ a i) (h0 : liveX Z σ a0 i0) : FrX Z σ G Z' σ' (xup G (Z.ad a0 i0) e) := by
  intro q hq _
  refine ⟨fun hz => ?_, xup_ne _ _ (fun z => hq ⟨a0, i0, h0, z⟩)⟩
  obtain ⟨a, i, h1, h2⟩ := hz
  exact hq ⟨a, i, hl a i h1, by rw [h2, had]⟩
theorem FrX_refl : FrX Z σ G Z σ G := fun q hq _ => ⟨hq, rfl⟩
theorem FrX_trans {Z1 Z2 : xZ} {s1 s2 : St} {G1 G2 : xH} (h1 : FrX Z σ G Z1 s1 G1) (h2 : FrX Z1 s1 G1 Z2 s2 G2) : FrX Z σ G Z2 s2 G2 := by
  intro q hq hn
  obtain ⟨a1, a2⟩ := h1 q hq hn
  obtain ⟨b1, b2⟩ := h2 q a1 (by rw [a2]; exact hn)
  exact ⟨b1, by rw [b2, a2]⟩
/-- the time -/
theorem RepX.now (h : RepX E G x Z σ) (t : Int64) : RepX E (xup G x (.inr (0, [.ref (Z.ad 1 0), .ref (Z.ad 1 100), .long t]))) x Z (tS σ t) ∧ FrX Z σ G Z (tS σ t) (xup G x (.inr (0, [.ref (Z.ad 1 0), .ref (Z.ad 1 100), .long t]))) := by
  have hr := h.1
  have h0 : liveX Z σ 9 0 := rfl
  rw [show xup G x = xup G (Z.ad 9 0) by rw [hr]]
  refine ⟨h.set (σ' := tS σ t) rfl (fun _ _ hh => hh) h0 rfl (fun a i hi hn => ?_) h.2.2.2, FrX_set rfl (fun _ _ hh => hh) h0⟩
  rcases live_cases hi with rfl | rfl | rfl | rfl | rfl | rfl | rfl | e
  all_goals first | rfl | exact absurd e hn
/-- a car's begun campaign -/
theorem RepX.bgn (h : RepX E G x Z σ) {c b : Nat} (h1 : 1 ≤ c) (h2 : c ≤ σ.1) (hb : b ≤ σ.2.1) {g : Nat → Int32} (hg : ∀ k, 1 ≤ k → k ≤ 40 → (g (41 * c + k) = 0 ↔ k ≠ b)) (hg2 : ∀ c' k, c' ≠ c → 1 ≤ k → k ≤ 40 → g (41 * c' + k) = σ.I 21 (41 * c' + k)) :
    RepX E (xup G (Z.ad 3 c) (carOb (σ.L 2 c) (Z.ad 4 c) (if σ.I 4 c = 0 then 1 else 0) (nI b) (hdX Z c (Z.Lf c)))) x (Z.sbg c b) (σ.setI 21 g) ∧ FrX Z σ G (Z.sbg c b) (σ.setI 21 g) (xup G (Z.ad 3 c) (carOb (σ.L 2 c) (Z.ad 4 c) (if σ.I 4 c = 0 then 1 else 0) (nI b) (hdX Z c (Z.Lf c)))) := by
  have h0 : liveX Z σ 3 c := ⟨h1, h2⟩
  refine ⟨h.set (σ' := σ.setI 21 g) (Z' := Z.sbg c b) rfl (fun _ _ hh => hh) h0 ?_ (fun a i hi hn => ?_) ⟨h.2.2.2.1, h.2.2.2.2.1, fun c' q1 q2 => ?_⟩, FrX_set rfl (fun _ _ hh => hh) h0⟩
  · show carOb (σ.L 2 c) (Z.ad 4 c) (if σ.I 4 c = 0 then 1 else 0) (nI (uN Z.bg c b c)) (hdX (Z.sbg c b) c (Z.Lf c)) = _
    rw [uN_self]
    cases Z.Lf c <;> rfl
  · rcases live_cases hi with rfl | rfl | rfl | rfl | rfl | rfl | rfl | e
    all_goals first | rfl | skip
    · show carOb (σ.L 2 i) (Z.ad 4 i) (if σ.I 4 i = 0 then 1 else 0) (nI (uN Z.bg c b i)) (hdX (Z.sbg c b) i (Z.Lf i)) = _
      rw [uN_ne _ _ (fun z => hn ⟨rfl, z⟩)]
      rfl
    · obtain ⟨rfl, rfl⟩ := e
      rfl
  · obtain ⟨p1, ⟨p2, p3⟩, p4⟩ := h.2.2.2.2.2 c' q1 q2
    refine ⟨p1, ?_, p4⟩
    by_cases e : c' = c
    · subst e
      show uN Z.bg c' b c' ≤ σ.2.1 ∧ ∀ k, 1 ≤ k → k ≤ 40 → (g (41 * c' + k) = 0 ↔ k ≠ uN Z.bg c' b c')
      rw [uN_self]
      exact ⟨hb, hg⟩
    · show uN Z.bg c b c' ≤ σ.2.1 ∧ ∀ k, 1 ≤ k → k ≤ 40 → (g (41 * c' + k) = 0 ↔ k ≠ uN Z.bg c b c')
      rw [uN_ne _ _ e]
      refine ⟨p2, fun k k1 k2 => ?_⟩
      rw [hg2 c' k e k1 k2]
      exact p3 k k1 k2
/-- a car's consent -/
theorem RepX.cns (h : RepX E G x Z σ) {c : Nat} (h1 : 1 ≤ c) (h2 : c ≤ σ.1) (v : Int32) :
    RepX E (xup G (Z.ad 3 c) (carOb (σ.L 2 c) (Z.ad 4 c) (if v = 0 then 1 else 0) (nI (Z.bg c)) (hdX Z c (Z.Lf c)))) x Z (σ.setI 4 (upd (σ.I 4) c v)) ∧ FrX Z σ G Z (σ.setI 4 (upd (σ.I 4) c v)) (xup G (Z.ad 3 c) (carOb (σ.L 2 c) (Z.ad 4 c) (if v = 0 then 1 else 0) (nI (Z.bg c)) (hdX Z c (Z.Lf c)))) := by
  have h0 : liveX Z σ 3 c := ⟨h1, h2⟩
  refine ⟨h.set (σ' := σ.setI 4 (upd (σ.I 4) c v)) rfl (fun _ _ hh => hh) h0 ?_ (fun a i hi hn => ?_) ⟨h.2.2.2.1, h.2.2.2.2.1, h.2.2.2.2.2⟩, FrX_set rfl (fun _ _ hh => hh) h0⟩
  · show carOb (σ.L 2 c) (Z.ad 4 c) (if upd (σ.I 4) c v c = 0 then 1 else 0) _ _ = _
    rw [upd_self]
  · rcases live_cases hi with rfl | rfl | rfl | rfl | rfl | rfl | rfl | e
    all_goals first | rfl | skip
    · show carOb (σ.L 2 i) (Z.ad 4 i) (if upd (σ.I 4) c v i = 0 then 1 else 0) _ _ = _
      rw [upd_ne _ _ (fun z => hn ⟨rfl, z⟩)]
      rfl
    · obtain ⟨rfl, rfl⟩ := e
      rfl
/-- a car's editions -/
theorem RepX.edn (h : RepX E G x Z σ) {c : Nat} (h1 : 1 ≤ c) (h2 : c ≤ σ.1) {f g : Nat → Int32} (hg : ∀ p, p < 8 → f p = g (8 * c + p)) (hg2 : ∀ c' p, c' ≠ c → p < 8 → g (8 * c' + p) = σ.I 3 (8 * c' + p)) :
    RepX E (xup G (Z.ad 4 c) (.inl (E.1.1, 8, .inl f))) x (Z.sef c f) (σ.setI 3 g) ∧ FrX Z σ G (Z.sef c f) (σ.setI 3 g) (xup G (Z.ad 4 c) (.inl (E.1.1, 8, .inl f))) := by
  have h0 : liveX Z σ 4 c := ⟨h1, h2⟩
  refine ⟨h.set (σ' := σ.setI 3 g) (Z' := Z.sef c f) rfl (fun _ _ hh => hh) h0 ?_ (fun a i hi hn => ?_) ⟨h.2.2.2.1, h.2.2.2.2.1, fun c' q1 q2 => ?_⟩, FrX_set rfl (fun _ _ hh => hh) h0⟩
  · show (.inl (E.1.1, 8, .inl (uN Z.ef c f c)) : va_E) = _
    rw [uN_self]
  · rcases live_cases hi with rfl | rfl | rfl | rfl | rfl | rfl | rfl | e
    all_goals first | rfl | skip
    · show (.inl (E.1.1, 8, .inl (uN Z.ef c f i)) : va_E) = _
      rw [uN_ne _ _ (fun z => hn ⟨rfl, z⟩)]
      rfl
    · obtain ⟨rfl, rfl⟩ := e
      rfl
  · obtain ⟨p1, p2⟩ := h.2.2.2.2.2 c' q1 q2
    refine ⟨fun p hp => ?_, p2⟩
    show uN Z.ef c f c' p = g (8 * c' + p)
    by_cases e : c' = c
    · subst e
      rw [uN_self]
      exact hg p hp
    · rw [uN_ne _ _ e, hg2 c' p e hp]
      exact p1 p hp
/-- nothing but what campaigns' objects hold is other -/
def rstX (σ σ' : St) : Prop := σ'.1 = σ.1 ∧ σ'.2.1 = σ.2.1 ∧ σ'.2.2.1 = σ.2.2.1 ∧ σ'.L 2 = σ.L 2 ∧ σ'.I 3 = σ.I 3 ∧ σ'.I 4 = σ.I 4 ∧ σ'.I 6 = σ.I 6 ∧ σ'.I 7 = σ.I 7 ∧ σ'.I 9 = σ.I 9 ∧ σ'.L 10 = σ.L 10 ∧ σ'.L 11 = σ.L 11 ∧ σ'.L 12 = σ.L 12 ∧ σ'.I 19 = σ.I 19 ∧ σ'.L 20 = σ.L 20 ∧ σ'.I 21 = σ.I 21
theorem wv_eq (h : σ'.I 9 = σ.I 9) (k : Nat) : wv σ' k = wv σ k := by unfold wv; rw [h]
theorem pt_eq (h : σ'.I 6 = σ.I 6) (k : Nat) : pt σ' k = pt σ k := by unfold pt; rw [h]
theorem mm_eq (h : σ'.I 6 = σ.I 6) (k : Nat) : mm σ' k = mm σ k := by unfold mm; rw [h]
theorem kr_eq (h : σ'.I 6 = σ.I 6) (k : Nat) : kr σ' k = kr σ k := by unfold kr; rw [h]
/-- a campaign's object -/
theorem RepX.cmp (h : RepX E G x Z σ) {k : Nat} (h1 : 1 ≤ k) (h2 : k ≤ σ.2.1) (v : Int64) (hr : rstX σ σ') (hne : ∀ j, j ≠ k → σ'.I 8 j = σ.I 8 j ∧ σ'.L 13 j = σ.L 13 j ∧ σ'.L 14 j = σ.L 14 j ∧ σ'.I 15 j + σ'.I 16 j = σ.I 15 j + σ.I 16 j ∧ σ'.I 16 j = σ.I 16 j) :
    RepX E (xup G (Z.ad 5 k) (campOb (nI k) (pt σ k) (mm σ k) (kr σ k) (σ.I 7 k) (Z.ad 1 k) (σ'.I 8 k) v (σ'.L 13 k) (σ'.L 14 k) (σ'.I 15 k + σ'.I 16 k) (σ'.I 16 k))) x (Z.sbf k v) σ' ∧ FrX Z σ G (Z.sbf k v) σ' (xup G (Z.ad 5 k) (campOb (nI k) (pt σ k) (mm σ k) (kr σ k) (σ.I 7 k) (Z.ad 1 k) (σ'.I 8 k) v (σ'.L 13 k) (σ'.L 14 k) (σ'.I 15 k + σ'.I 16 k) (σ'.I 16 k))) := by
  obtain ⟨r1, r2, r3, r4, r5, r6, r7, r8, r9, r10, r11, r12, r13, r14, r15⟩ := hr
  have h0 : liveX Z σ 5 k := ⟨h1, h2⟩
  have hl : ∀ a i, liveX (Z.sbf k v) σ' a i → liveX Z σ a i := by
    intro a i hi
    rcases live_cases hi with rfl | rfl | rfl | rfl | rfl | rfl | rfl | ⟨rfl, rfl⟩
    · show tlX σ i
      unfold tlX
      rw [← r2]; exact hi
    · show tlX σ i ∧ _
      unfold tlX
      rw [← r2]; exact hi
    · show 1 ≤ i ∧ i ≤ σ.1
      rw [← r1]; exact hi
    · show 1 ≤ i ∧ i ≤ σ.1
      rw [← r1]; exact hi
    · show 1 ≤ i ∧ i ≤ σ.2.1
      rw [← r2]; exact hi
    · show 1 ≤ i / 21 ∧ i / 21 ≤ σ.2.1 ∧ 1 ≤ i % 21 ∧ i % 21 ≤ wv σ (i / 21)
      rw [← r2, ← wv_eq r9]; exact hi
    · show 1 ≤ i / 41 ∧ i / 41 ≤ σ.1 ∧ _
      rw [← r1]; exact hi
    · rfl
  have hd : ∀ c L, hdX (Z.sbf k v) c L = hdX Z c L := fun c L => by cases L <;> rfl
  have hlen : ∀ t, lenX σ' t = lenX σ t := fun t => by unfold lenX; rw [r1, r2, wv_eq r9]
  refine ⟨h.set (σ' := σ') (Z' := Z.sbf k v) rfl hl h0 ?_ (fun a i hi hn => ?_) ⟨?_, ?_, fun c q1 q2 => ?_⟩, FrX_set rfl hl h0⟩
  · show campOb (nI k) (pt σ' k) (mm σ' k) (kr σ' k) (σ'.I 7 k) (Z.ad 1 k) (σ'.I 8 k) (uN Z.bf k v k) _ _ _ _ = _
    rw [uN_self, pt_eq r7, mm_eq r7, kr_eq r7, r8]
  · rcases live_cases hi with rfl | rfl | rfl | rfl | rfl | rfl | rfl | e
    · rw [cellX_1, cellX_1, hlen]; rfl
    · rw [cellX_2, cellX_2]
    · rw [cellX_3, cellX_3, r4, r6, hd]
    · rw [cellX_4, cellX_4]
    · have hik : i ≠ k := fun z => hn ⟨rfl, z⟩
      obtain ⟨n1, n2, n3, n4, n5⟩ := hne i hik
      have n0 : (Z.sbf k v).bf i = Z.bf i := uN_ne _ _ hik
      rw [cellX_5, cellX_5, n0, pt_eq r7, mm_eq r7, kr_eq r7, r8, n1, n2, n3, n4, n5]
    · rw [cellX_6, cellX_6, r10, r11, r12]
    · rw [cellX_7, cellX_7, r13, r14, hd]
    · obtain ⟨rfl, rfl⟩ := e
      rw [cellX_9, cellX_9, r3]
  · obtain ⟨o1, o2, o3⟩ := h.2.2.2.1
    refine ⟨by rw [r1]; exact o1, by rw [r2]; exact o2, fun k hk => ?_⟩
    rw [wv_eq r9, r9]
    exact o3 k hk
  · intro t ht
    rw [hlen]
    exact h.2.2.2.2.1 t (by unfold tlX; rw [← r2]; exact ht)
  · obtain ⟨p1, p2, p3, p4, p5⟩ := h.2.2.2.2.2 c q1 (by rw [← r1]; exact q2)
    refine ⟨?_, ?_, p3, ?_, ?_⟩
    · rw [r5]; exact p1
    · rw [r2, r15]; exact p2
    · rw [r2]; exact p4
    · rw [r13]; exact p5
/-- a failure that was there -/
theorem RepX.fai (h : RepX E G x Z σ) {c k : Nat} (h1 : 1 ≤ c) (h2 : c ≤ σ.1) (h3 : k ∈ Z.Lf c) {v : Int32} (hv : ¬ v = 0) (t : Int64) :
    RepX E (xup G (Z.ad 7 (41 * c + k)) (.inr (4, [.int (nI k), va_rf (hdX Z c (aftX k (Z.Lf c))), .int v, .long t]))) x Z ((σ.setI 19 (upd (σ.I 19) (41 * c + k) v)).setL 20 (vp_updL (σ.L 20) (41 * c + k) t)) ∧ FrX Z σ G Z ((σ.setI 19 (upd (σ.I 19) (41 * c + k) v)).setL 20 (vp_updL (σ.L 20) (41 * c + k) t)) (xup G (Z.ad 7 (41 * c + k)) (.inr (4, [.int (nI k), va_rf (hdX Z c (aftX k (Z.Lf c))), .int v, .long t]))) := by
  have h5 := (h.2.2.2.2.2 c h1 h2).2.2.2.1 k h3
  have h6 := h.K40
  have e1 : (41 * c + k) / 41 = c := by omega
  have e2 : (41 * c + k) % 41 = k := by omega
  have h0 : liveX Z σ 7 (41 * c + k) := by
    show 1 ≤ (41 * c + k) / 41 ∧ (41 * c + k) / 41 ≤ σ.1 ∧ (41 * c + k) % 41 ∈ Z.Lf ((41 * c + k) / 41)
    rw [e1, e2]
    exact ⟨h1, h2, h3⟩
  refine ⟨h.set (σ' := (σ.setI 19 (upd (σ.I 19) (41 * c + k) v)).setL 20 (vp_updL (σ.L 20) (41 * c + k) t)) rfl (fun _ _ hh => hh) h0 ?_ (fun a i hi hn => ?_) ⟨h.2.2.2.1, h.2.2.2.2.1, fun c' q1 q2 => ?_⟩, FrX_set rfl (fun _ _ hh => hh) h0⟩
  · show (.inr (4, [.int (nI ((41 * c + k) % 41)), va_rf (hdX Z ((41 * c + k) / 41) (aftX ((41 * c + k) % 41) (Z.Lf ((41 * c + k) / 41)))), .int (upd (σ.I 19) (41 * c + k) v (41 * c + k)), .long (vp_updL (σ.L 20) (41 * c + k) t (41 * c + k))]) : va_E) = _
    rw [e1, e2, upd_self, updL_self]
  · rcases live_cases hi with rfl | rfl | rfl | rfl | rfl | rfl | rfl | e
    all_goals first | rfl | skip
    · show (.inr (4, [.int (nI (i % 41)), _, .int (upd (σ.I 19) (41 * c + k) v i), .long (vp_updL (σ.L 20) (41 * c + k) t i)]) : va_E) = _
      rw [upd_ne _ _ (fun z => hn ⟨rfl, z⟩), updL_ne _ _ (fun z => hn ⟨rfl, z⟩)]
      rfl
    · obtain ⟨rfl, rfl⟩ := e
      rfl
  · obtain ⟨p1, p2, p3, p4, p5⟩ := h.2.2.2.2.2 c' q1 q2
    refine ⟨p1, p2, p3, p4, fun j j1 j2 => ?_⟩
    show j ∈ Z.Lf c' ↔ ¬ upd (σ.I 19) (41 * c + k) v (41 * c' + j) = 0
    by_cases e : 41 * c' + j = 41 * c + k
    · obtain ⟨rfl, rfl⟩ : c' = c ∧ j = k := by omega
      rw [upd_self]
      exact ⟨fun _ => hv, fun _ => h3⟩
    · rw [upd_ne _ _ e]
      exact p5 j j1 j2
end RS
