def fF_F : Nat → Option xFe := fun x => match x with
  | 10 => some (0, 0, (.object "java/util/ArrayList"), 1)
  | 16 => some (0, 1, (.object "java/util/ArrayList"), 1)
  | 54 => some (2, 0, .int, 2)
  | 66 => some (0, 2, .long, 0)
  | 73 => some (2, 6, .int, 0)
  | 76 => some (2, 5, (.object "java/util/ArrayList"), 2)
  | 88 => some (1, 3, .int, 0)
  | 95 => some (2, 10, .int, 0)
  | 98 => some (2, 1, .int, 2)
  | 101 => some (2, 4, .int, 2)
  | 108 => some (2, 11, .int, 0)
  | 132 => some (2, 8, .long, 0)
  | 135 => some (2, 9, .long, 0)
  | 142 => some (1, 2, .boolean, 0)
  | 172 => some (2, 7, .long, 0)
  | 179 => some (1, 0, .long, 2)
  | _ => none
def fN_F : Nat → Option (Nat × Nat × List Value) := fun x => match x with
  | 7 => some (6, 3, [.null, .int 0, .int 0])
  | 27 => some (1, 5, [.long 0, .null, .int 0, .int 0, .null])
  | 38 => some (2, 12, [.int 0, .int 0, .int 0, .int 0, .int 0, .null, .int 0, .long 0, .long 0, .long 0, .int 0, .int 0])
  | 79 => some (3, 3, [.long 0, .long 0, .long 0])
  | _ => none
def fI_F : Nat → Option Int32 := fun x => match x with
  | 36 => some 8388607
  | _ => none
def fJ_F : Nat → Option Int64 := fun x => match x with
  | 119 => some (-1)
  | 195 => some 1073741824
  | _ => none
def fX_F : Nat → Option Nat := fun x => match x with
  | 27 => some 1
  | 38 => some 2
  | 79 => some 3
  | _ => none
abbrev tb_F (cs : Nat → Option xSp) : xTb := (fF_F, fN_F, fI_F, fJ_F, cs, fX_F)
theorem okF_F {s : State} {args : Array Value} (hts : ∀ w ∈ xT, w.before args s = true) : ∀ x f, fF_F x = some f → xFd s args "FleetWaves" xT xcls x f := by
  intro x f h
  unfold fF_F at h
  split at h
  · cases h; exact ⟨"FleetWaves", "FleetWaves", T_F, 3, ty_F, rfl, in_F, by decide, hts _ k_54, (fun _ h9 => h9), ty_F_ok, nm_F, by decide +kernel, (fun h9 => absurd h9 (by decide)), (fun _ => ⟨rfl, rfl⟩)⟩
  · cases h; exact ⟨"FleetWaves", "FleetWaves", T_F, 3, ty_F, rfl, in_F, by decide, hts _ k_55, (fun _ h9 => h9), ty_F_ok, nm_F, by decide +kernel, (fun h9 => absurd h9 (by decide)), (fun _ => ⟨rfl, rfl⟩)⟩
  · cases h; exact ⟨"FleetWaves$Campaign", "FleetWaves$Campaign", T_K, 12, ty_K, rfl, in_K, by decide, hts _ k_196, (fun _ h9 => h9), ty_K_ok, nm_K, by decide +kernel, (fun h9 => absurd h9 (by decide)), (fun h9 => absurd h9 (by decide))⟩
  · cases h; exact ⟨"FleetWaves", "FleetWaves", T_F, 3, ty_F, rfl, in_F, by decide, hts _ k_56, (fun _ h9 => h9), ty_F_ok, nm_F, by decide +kernel, (fun _ => rfl), (fun h9 => absurd h9 (by decide))⟩
  · cases h; exact ⟨"FleetWaves$Campaign", "FleetWaves$Campaign", T_K, 12, ty_K, rfl, in_K, by decide, hts _ k_206, (fun _ h9 => h9), ty_K_ok, nm_K, by decide +kernel, (fun _ => rfl), (fun h9 => absurd h9 (by decide))⟩
  · cases h; exact ⟨"FleetWaves$Campaign", "FleetWaves$Campaign", T_K, 12, ty_K, rfl, in_K, by decide, hts _ k_204, (fun _ h9 => h9), ty_K_ok, nm_K, by decide +kernel, (fun h9 => absurd h9 (by decide)), (fun h9 => absurd h9 (by decide))⟩
  · cases h; exact ⟨"FleetWaves$Car", "FleetWaves$Car", T_C, 5, ty_C, rfl, in_C, by decide, hts _ k_102, (fun _ h9 => h9), ty_C_ok, nm_C, by decide +kernel, (fun _ => rfl), (fun h9 => absurd h9 (by decide))⟩
  · cases h; exact ⟨"FleetWaves$Campaign", "FleetWaves$Campaign", T_K, 12, ty_K, rfl, in_K, by decide, hts _ k_212, (fun _ h9 => h9), ty_K_ok, nm_K, by decide +kernel, (fun _ => rfl), (fun h9 => absurd h9 (by decide))⟩
  · cases h; exact ⟨"FleetWaves$Campaign", "FleetWaves$Campaign", T_K, 12, ty_K, rfl, in_K, by decide, hts _ k_198, (fun _ h9 => h9), ty_K_ok, nm_K, by decide +kernel, (fun h9 => absurd h9 (by decide)), (fun h9 => absurd h9 (by decide))⟩
  · cases h; exact ⟨"FleetWaves$Campaign", "FleetWaves$Campaign", T_K, 12, ty_K, rfl, in_K, by decide, hts _ k_202, (fun _ h9 => h9), ty_K_ok, nm_K, by decide +kernel, (fun h9 => absurd h9 (by decide)), (fun h9 => absurd h9 (by decide))⟩
  · cases h; exact ⟨"FleetWaves$Campaign", "FleetWaves$Campaign", T_K, 12, ty_K, rfl, in_K, by decide, hts _ k_214, (fun _ h9 => h9), ty_K_ok, nm_K, by decide +kernel, (fun _ => rfl), (fun h9 => absurd h9 (by decide))⟩
  · cases h; exact ⟨"FleetWaves$Campaign", "FleetWaves$Campaign", T_K, 12, ty_K, rfl, in_K, by decide, hts _ k_209, (fun _ h9 => h9), ty_K_ok, nm_K, by decide +kernel, (fun _ => rfl), (fun h9 => absurd h9 (by decide))⟩
  · cases h; exact ⟨"FleetWaves$Campaign", "FleetWaves$Campaign", T_K, 12, ty_K, rfl, in_K, by decide, hts _ k_211, (fun _ h9 => h9), ty_K_ok, nm_K, by decide +kernel, (fun _ => rfl), (fun h9 => absurd h9 (by decide))⟩
  · cases h; exact ⟨"FleetWaves$Car", "FleetWaves$Car", T_C, 5, ty_C, rfl, in_C, by decide, hts _ k_101, (fun _ h9 => h9), ty_C_ok, nm_C, by decide +kernel, (fun _ => rfl), (fun h9 => absurd h9 (by decide))⟩
  · cases h; exact ⟨"FleetWaves$Campaign", "FleetWaves$Campaign", T_K, 12, ty_K, rfl, in_K, by decide, hts _ k_207, (fun _ h9 => h9), ty_K_ok, nm_K, by decide +kernel, (fun _ => rfl), (fun h9 => absurd h9 (by decide))⟩
  · cases h; exact ⟨"FleetWaves$Car", "FleetWaves$Car", T_C, 5, ty_C, rfl, in_C, by decide, hts _ k_98, (fun _ h9 => h9), ty_C_ok, nm_C, by decide +kernel, (fun h9 => absurd h9 (by decide)), (fun h9 => absurd h9 (by decide))⟩
  · cases h
theorem okN_F {s : State} {args : Array Value} (hts : ∀ w ∈ xT, w.before args s = true) : ∀ x o, fN_F x = some o → xNd s args "FleetWaves" xT xcls x o := by
  intro x f h
  unfold fN_F at h
  split at h
  · cases h; exact ⟨"java/util/ArrayList", T_A, ty_A, rfl, in_A, ty_A_ok, hts _ k_28, hts _ k_29, hts _ k_4, fun j hj => by have hj : j < 3 := hj; rcases (show j = 0 ∨ j = 1 ∨ j = 2 by omega) with rfl | rfl | rfl <;> rfl⟩
  · cases h; exact ⟨"FleetWaves$Car", T_C, ty_C, rfl, in_C, ty_C_ok, hts _ k_90, hts _ k_91, hts _ k_8, fun j hj => by have hj : j < 5 := hj; rcases (show j = 0 ∨ j = 1 ∨ j = 2 ∨ j = 3 ∨ j = 4 by omega) with rfl | rfl | rfl | rfl | rfl <;> rfl⟩
  · cases h; exact ⟨"FleetWaves$Campaign", T_K, ty_K, rfl, in_K, ty_K_ok, hts _ k_186, hts _ k_187, hts _ k_13, fun j hj => by have hj : j < 12 := hj; rcases (show j = 0 ∨ j = 1 ∨ j = 2 ∨ j = 3 ∨ j = 4 ∨ j = 5 ∨ j = 6 ∨ j = 7 ∨ j = 8 ∨ j = 9 ∨ j = 10 ∨ j = 11 by omega) with rfl | rfl | rfl | rfl | rfl | rfl | rfl | rfl | rfl | rfl | rfl | rfl <;> rfl⟩
  · cases h; exact ⟨"FleetWaves$Wave", T_V, ty_V, rfl, in_V, ty_V_ok, hts _ k_272, hts _ k_273, hts _ k_14, fun j hj => by have hj : j < 3 := hj; rcases (show j = 0 ∨ j = 1 ∨ j = 2 by omega) with rfl | rfl | rfl <;> rfl⟩
  · cases h
theorem okI_F {s : State} {args : Array Value} (hts : ∀ w ∈ xT, w.before args s = true) : ∀ x v, fI_F x = some v → (Cond.constant "FleetWaves" x v).before args s = true := by
  intro x f h
  unfold fI_F at h
  split at h
  · cases h; exact hts _ k_175
  · cases h
theorem okJ_F {s : State} {args : Array Value} (hts : ∀ w ∈ xT, w.before args s = true) : ∀ x v, fJ_F x = some v → (Cond.constantLong "FleetWaves" x v).before args s = true := by
  intro x f h
  unfold fJ_F at h
  split at h
  · cases h; exact hts _ k_347
  · cases h; exact hts _ k_260
  · cases h
theorem okX_F {s : State} {args : Array Value} (hts : ∀ w ∈ xT, w.before args s = true) (hc : ∀ q ∈ xcast, va_Nw (.castable q.1 q.2) s) : ∀ x ci, fX_F x = some ci → ∃ (r : vw_C) (nm : String), xcls[ci]? = some r ∧ (Cond.classLink "FleetWaves" x nm).before args s = true ∧ va_Nw (.castable r.1 nm) s := by
  intro x f h
  unfold fX_F at h
  split at h
  · cases h; exact ⟨_, "FleetWaves$Car", rfl, hts _ k_90, hc ("FleetWaves$Car", "FleetWaves$Car") (by decide)⟩
  · cases h; exact ⟨_, "FleetWaves$Campaign", rfl, hts _ k_186, hc ("FleetWaves$Campaign", "FleetWaves$Campaign") (by decide)⟩
  · cases h; exact ⟨_, "FleetWaves$Wave", rfl, hts _ k_272, hc ("FleetWaves$Wave", "FleetWaves$Wave") (by decide)⟩
  · cases h
def fF_C : Nat → Option xFe := fun x => match x with
  | 9 => some (1, 1, (.array .int), 1)
  | 15 => some (1, 2, .boolean, 0)
  | 19 => some (1, 0, .long, 1)
  | 29 => some (1, 4, (.object "FleetWaves$Failure"), 0)
  | 36 => some (4, 2, .int, 0)
  | 40 => some (4, 3, .long, 0)
  | 45 => some (4, 1, (.object "FleetWaves$Failure"), 2)
  | 48 => some (4, 0, .int, 2)
  | _ => none
def fN_C : Nat → Option (Nat × Nat × List Value) := fun x => match x with
  | 27 => some (4, 4, [.int 0, .null, .int 0, .long 0])
  | _ => none
def fI_C : Nat → Option Int32 := fun x => match x with
  | _ => none
def fJ_C : Nat → Option Int64 := fun x => match x with
  | 43 => some 100
  | _ => none
def fX_C : Nat → Option Nat := fun x => match x with
  | _ => none
abbrev tb_C (cs : Nat → Option xSp) : xTb := (fF_C, fN_C, fI_C, fJ_C, cs, fX_C)
theorem okF_C {s : State} {args : Array Value} (hts : ∀ w ∈ xT, w.before args s = true) : ∀ x f, fF_C x = some f → xFd s args "FleetWaves$Car" xT xcls x f := by
  intro x f h
  unfold fF_C at h
  split at h
  · cases h; exact ⟨"FleetWaves$Car", "FleetWaves$Car", T_C, 5, ty_C, rfl, in_C, by decide, hts _ k_99, (fun _ h9 => h9), ty_C_ok, nm_C, by decide +kernel, (fun h9 => absurd h9 (by decide)), (fun _ => ⟨rfl, rfl⟩)⟩
  · cases h; exact ⟨"FleetWaves$Car", "FleetWaves$Car", T_C, 5, ty_C, rfl, in_C, by decide, hts _ k_100, (fun _ h9 => h9), ty_C_ok, nm_C, by decide +kernel, (fun _ => rfl), (fun h9 => absurd h9 (by decide))⟩
  · cases h; exact ⟨"FleetWaves$Car", "FleetWaves$Car", T_C, 5, ty_C, rfl, in_C, by decide, hts _ k_96, (fun _ h9 => h9), ty_C_ok, nm_C, by decide +kernel, (fun h9 => absurd h9 (by decide)), (fun _ => ⟨rfl, rfl⟩)⟩
  · cases h; exact ⟨"FleetWaves$Car", "FleetWaves$Car", T_C, 5, ty_C, rfl, in_C, by decide, hts _ k_103, (fun _ h9 => h9), ty_C_ok, nm_C, by decide +kernel, (fun _ => rfl), (fun h9 => absurd h9 (by decide))⟩
  · cases h; exact ⟨"FleetWaves$Failure", "FleetWaves$Failure", T_E, 4, ty_E, rfl, in_E, by decide, hts _ k_370, (fun _ h9 => h9), ty_E_ok, nm_E, by decide +kernel, (fun _ => rfl), (fun h9 => absurd h9 (by decide))⟩
  · cases h; exact ⟨"FleetWaves$Failure", "FleetWaves$Failure", T_E, 4, ty_E, rfl, in_E, by decide, hts _ k_371, (fun _ h9 => h9), ty_E_ok, nm_E, by decide +kernel, (fun _ => rfl), (fun h9 => absurd h9 (by decide))⟩
  · cases h; exact ⟨"FleetWaves$Failure", "FleetWaves$Failure", T_E, 4, ty_E, rfl, in_E, by decide, hts _ k_369, (fun _ h9 => h9), ty_E_ok, nm_E, by decide +kernel, (fun h9 => absurd h9 (by decide)), (fun h9 => absurd h9 (by decide))⟩
  · cases h; exact ⟨"FleetWaves$Failure", "FleetWaves$Failure", T_E, 4, ty_E, rfl, in_E, by decide, hts _ k_367, (fun _ h9 => h9), ty_E_ok, nm_E, by decide +kernel, (fun h9 => absurd h9 (by decide)), (fun h9 => absurd h9 (by decide))⟩
  · cases h
theorem okN_C {s : State} {args : Array Value} (hts : ∀ w ∈ xT, w.before args s = true) : ∀ x o, fN_C x = some o → xNd s args "FleetWaves$Car" xT xcls x o := by
  intro x f h
  unfold fN_C at h
  split at h
  · cases h; exact ⟨"FleetWaves$Failure", T_E, ty_E, rfl, in_E, ty_E_ok, hts _ k_360, hts _ k_361, hts _ k_15, fun j hj => by have hj : j < 4 := hj; rcases (show j = 0 ∨ j = 1 ∨ j = 2 ∨ j = 3 by omega) with rfl | rfl | rfl | rfl <;> rfl⟩
  · cases h
theorem okI_C {s : State} {args : Array Value} (hts : ∀ w ∈ xT, w.before args s = true) : ∀ x v, fI_C x = some v → (Cond.constant "FleetWaves$Car" x v).before args s = true := by
  intro x f h
  unfold fI_C at h
  split at h
  · cases h
theorem okJ_C {s : State} {args : Array Value} (hts : ∀ w ∈ xT, w.before args s = true) : ∀ x v, fJ_C x = some v → (Cond.constantLong "FleetWaves$Car" x v).before args s = true := by
  intro x f h
  unfold fJ_C at h
  split at h
  · cases h; exact hts _ k_323
  · cases h
theorem okX_C {s : State} {args : Array Value} (hts : ∀ w ∈ xT, w.before args s = true) (hc : ∀ q ∈ xcast, va_Nw (.castable q.1 q.2) s) : ∀ x ci, fX_C x = some ci → ∃ (r : vw_C) (nm : String), xcls[ci]? = some r ∧ (Cond.classLink "FleetWaves$Car" x nm).before args s = true ∧ va_Nw (.castable r.1 nm) s := by
  intro x f h
  unfold fX_C at h
  split at h
  · cases h
def fF_K : Nat → Option xFe := fun x => match x with
  | 12 => some (2, 5, (.object "java/util/ArrayList"), 1)
  | 18 => some (2, 6, .int, 0)
  | 22 => some (2, 0, .int, 1)
  | 29 => some (2, 1, .int, 1)
  | 38 => some (2, 2, .int, 1)
  | 41 => some (2, 3, .int, 1)
  | 44 => some (2, 4, .int, 1)
  | 47 => some (1, 0, .long, 2)
  | 76 => some (3, 1, .long, 2)
  | 79 => some (3, 0, .long, 2)
  | 90 => some (3, 2, .long, 2)
  | 95 => some (2, 9, .long, 0)
  | 98 => some (2, 11, .int, 0)
  | 101 => some (2, 8, .long, 0)
  | 104 => some (2, 10, .int, 0)
  | _ => none
def fN_K : Nat → Option (Nat × Nat × List Value) := fun x => match x with
  | 9 => some (6, 3, [.null, .int 0, .int 0])
  | 74 => some (3, 3, [.long 0, .long 0, .long 0])
  | _ => none
def fI_K : Nat → Option Int32 := fun x => match x with
  | _ => none
def fJ_K : Nat → Option Int64 := fun x => match x with
  | 56 => some 31
  | 58 => some (-49064778989728563)
  | 60 => some (-4265267296055464877)
  | 93 => some (-1)
  | _ => none
def fX_K : Nat → Option Nat := fun x => match x with
  | 74 => some 3
  | _ => none
abbrev tb_K (cs : Nat → Option xSp) : xTb := (fF_K, fN_K, fI_K, fJ_K, cs, fX_K)
theorem okF_K {s : State} {args : Array Value} (hts : ∀ w ∈ xT, w.before args s = true) : ∀ x f, fF_K x = some f → xFd s args "FleetWaves$Campaign" xT xcls x f := by
  intro x f h
  unfold fF_K at h
  split at h
  · cases h; exact ⟨"FleetWaves$Campaign", "FleetWaves$Campaign", T_K, 12, ty_K, rfl, in_K, by decide, hts _ k_203, (fun _ h9 => h9), ty_K_ok, nm_K, by decide +kernel, (fun h9 => absurd h9 (by decide)), (fun _ => ⟨rfl, rfl⟩)⟩
  · cases h; exact ⟨"FleetWaves$Campaign", "FleetWaves$Campaign", T_K, 12, ty_K, rfl, in_K, by decide, hts _ k_205, (fun _ h9 => h9), ty_K_ok, nm_K, by decide +kernel, (fun _ => rfl), (fun h9 => absurd h9 (by decide))⟩
  · cases h; exact ⟨"FleetWaves$Campaign", "FleetWaves$Campaign", T_K, 12, ty_K, rfl, in_K, by decide, hts _ k_195, (fun _ h9 => h9), ty_K_ok, nm_K, by decide +kernel, (fun h9 => absurd h9 (by decide)), (fun _ => ⟨rfl, rfl⟩)⟩
  · cases h; exact ⟨"FleetWaves$Campaign", "FleetWaves$Campaign", T_K, 12, ty_K, rfl, in_K, by decide, hts _ k_197, (fun _ h9 => h9), ty_K_ok, nm_K, by decide +kernel, (fun h9 => absurd h9 (by decide)), (fun _ => ⟨rfl, rfl⟩)⟩
  · cases h; exact ⟨"FleetWaves$Campaign", "FleetWaves$Campaign", T_K, 12, ty_K, rfl, in_K, by decide, hts _ k_199, (fun _ h9 => h9), ty_K_ok, nm_K, by decide +kernel, (fun h9 => absurd h9 (by decide)), (fun _ => ⟨rfl, rfl⟩)⟩
  · cases h; exact ⟨"FleetWaves$Campaign", "FleetWaves$Campaign", T_K, 12, ty_K, rfl, in_K, by decide, hts _ k_200, (fun _ h9 => h9), ty_K_ok, nm_K, by decide +kernel, (fun h9 => absurd h9 (by decide)), (fun _ => ⟨rfl, rfl⟩)⟩
  · cases h; exact ⟨"FleetWaves$Campaign", "FleetWaves$Campaign", T_K, 12, ty_K, rfl, in_K, by decide, hts _ k_201, (fun _ h9 => h9), ty_K_ok, nm_K, by decide +kernel, (fun h9 => absurd h9 (by decide)), (fun _ => ⟨rfl, rfl⟩)⟩
  · cases h; exact ⟨"FleetWaves$Car", "FleetWaves$Car", T_C, 5, ty_C, rfl, in_C, by decide, hts _ k_97, (fun _ h9 => h9), ty_C_ok, nm_C, by decide +kernel, (fun h9 => absurd h9 (by decide)), (fun h9 => absurd h9 (by decide))⟩
  · cases h; exact ⟨"FleetWaves$Wave", "FleetWaves$Wave", T_V, 3, ty_V, rfl, in_V, by decide, hts _ k_281, (fun _ h9 => h9), ty_V_ok, nm_V, by decide +kernel, (fun h9 => absurd h9 (by decide)), (fun h9 => absurd h9 (by decide))⟩
  · cases h; exact ⟨"FleetWaves$Wave", "FleetWaves$Wave", T_V, 3, ty_V, rfl, in_V, by decide, hts _ k_279, (fun _ h9 => h9), ty_V_ok, nm_V, by decide +kernel, (fun h9 => absurd h9 (by decide)), (fun h9 => absurd h9 (by decide))⟩
  · cases h; exact ⟨"FleetWaves$Wave", "FleetWaves$Wave", T_V, 3, ty_V, rfl, in_V, by decide, hts _ k_283, (fun _ h9 => h9), ty_V_ok, nm_V, by decide +kernel, (fun h9 => absurd h9 (by decide)), (fun h9 => absurd h9 (by decide))⟩
  · cases h; exact ⟨"FleetWaves$Campaign", "FleetWaves$Campaign", T_K, 12, ty_K, rfl, in_K, by decide, hts _ k_210, (fun _ h9 => h9), ty_K_ok, nm_K, by decide +kernel, (fun _ => rfl), (fun h9 => absurd h9 (by decide))⟩
  · cases h; exact ⟨"FleetWaves$Campaign", "FleetWaves$Campaign", T_K, 12, ty_K, rfl, in_K, by decide, hts _ k_215, (fun _ h9 => h9), ty_K_ok, nm_K, by decide +kernel, (fun _ => rfl), (fun h9 => absurd h9 (by decide))⟩
  · cases h; exact ⟨"FleetWaves$Campaign", "FleetWaves$Campaign", T_K, 12, ty_K, rfl, in_K, by decide, hts _ k_208, (fun _ h9 => h9), ty_K_ok, nm_K, by decide +kernel, (fun _ => rfl), (fun h9 => absurd h9 (by decide))⟩
  · cases h; exact ⟨"FleetWaves$Campaign", "FleetWaves$Campaign", T_K, 12, ty_K, rfl, in_K, by decide, hts _ k_213, (fun _ h9 => h9), ty_K_ok, nm_K, by decide +kernel, (fun _ => rfl), (fun h9 => absurd h9 (by decide))⟩
  · cases h
theorem okN_K {s : State} {args : Array Value} (hts : ∀ w ∈ xT, w.before args s = true) : ∀ x o, fN_K x = some o → xNd s args "FleetWaves$Campaign" xT xcls x o := by
  intro x f h
  unfold fN_K at h
  split at h
  · cases h; exact ⟨"java/util/ArrayList", T_A, ty_A, rfl, in_A, ty_A_ok, hts _ k_192, hts _ k_29, hts _ k_4, fun j hj => by have hj : j < 3 := hj; rcases (show j = 0 ∨ j = 1 ∨ j = 2 by omega) with rfl | rfl | rfl <;> rfl⟩
  · cases h; exact ⟨"FleetWaves$Wave", T_V, ty_V, rfl, in_V, ty_V_ok, hts _ k_271, hts _ k_273, hts _ k_14, fun j hj => by have hj : j < 3 := hj; rcases (show j = 0 ∨ j = 1 ∨ j = 2 by omega) with rfl | rfl | rfl <;> rfl⟩
  · cases h
theorem okI_K {s : State} {args : Array Value} (hts : ∀ w ∈ xT, w.before args s = true) : ∀ x v, fI_K x = some v → (Cond.constant "FleetWaves$Campaign" x v).before args s = true := by
  intro x f h
  unfold fI_K at h
  split at h
  · cases h
theorem okJ_K {s : State} {args : Array Value} (hts : ∀ w ∈ xT, w.before args s = true) : ∀ x v, fJ_K x = some v → (Cond.constantLong "FleetWaves$Campaign" x v).before args s = true := by
  intro x f h
  unfold fJ_K at h
  split at h
  · cases h; exact hts _ k_339
  · cases h; exact hts _ k_340
  · cases h; exact hts _ k_341
  · cases h; exact hts _ k_346
  · cases h
theorem okX_K {s : State} {args : Array Value} (hts : ∀ w ∈ xT, w.before args s = true) (hc : ∀ q ∈ xcast, va_Nw (.castable q.1 q.2) s) : ∀ x ci, fX_K x = some ci → ∃ (r : vw_C) (nm : String), xcls[ci]? = some r ∧ (Cond.classLink "FleetWaves$Campaign" x nm).before args s = true ∧ va_Nw (.castable r.1 nm) s := by
  intro x f h
  unfold fX_K at h
  split at h
  · cases h; exact ⟨_, "FleetWaves$Wave", rfl, hts _ k_271, hc ("FleetWaves$Wave", "FleetWaves$Wave") (by decide)⟩
  · cases h
def fF_V : Nat → Option xFe := fun x => match x with
  | 7 => some (3, 0, .long, 1)
  | 13 => some (3, 1, .long, 1)
  | 16 => some (3, 2, .long, 1)
  | _ => none
def fN_V : Nat → Option (Nat × Nat × List Value) := fun x => match x with
  | _ => none
def fI_V : Nat → Option Int32 := fun x => match x with
  | _ => none
def fJ_V : Nat → Option Int64 := fun x => match x with
  | _ => none
def fX_V : Nat → Option Nat := fun x => match x with
  | _ => none
abbrev tb_V (cs : Nat → Option xSp) : xTb := (fF_V, fN_V, fI_V, fJ_V, cs, fX_V)
theorem okF_V {s : State} {args : Array Value} (hts : ∀ w ∈ xT, w.before args s = true) : ∀ x f, fF_V x = some f → xFd s args "FleetWaves$Wave" xT xcls x f := by
  intro x f h
  unfold fF_V at h
  split at h
  · cases h; exact ⟨"FleetWaves$Wave", "FleetWaves$Wave", T_V, 3, ty_V, rfl, in_V, by decide, hts _ k_278, (fun _ h9 => h9), ty_V_ok, nm_V, by decide +kernel, (fun h9 => absurd h9 (by decide)), (fun _ => ⟨rfl, rfl⟩)⟩
  · cases h; exact ⟨"FleetWaves$Wave", "FleetWaves$Wave", T_V, 3, ty_V, rfl, in_V, by decide, hts _ k_280, (fun _ h9 => h9), ty_V_ok, nm_V, by decide +kernel, (fun h9 => absurd h9 (by decide)), (fun _ => ⟨rfl, rfl⟩)⟩
  · cases h; exact ⟨"FleetWaves$Wave", "FleetWaves$Wave", T_V, 3, ty_V, rfl, in_V, by decide, hts _ k_282, (fun _ h9 => h9), ty_V_ok, nm_V, by decide +kernel, (fun h9 => absurd h9 (by decide)), (fun _ => ⟨rfl, rfl⟩)⟩
  · cases h
theorem okN_V {s : State} {args : Array Value} (hts : ∀ w ∈ xT, w.before args s = true) : ∀ x o, fN_V x = some o → xNd s args "FleetWaves$Wave" xT xcls x o := by
  intro x f h
  unfold fN_V at h
  split at h
  · cases h
theorem okI_V {s : State} {args : Array Value} (hts : ∀ w ∈ xT, w.before args s = true) : ∀ x v, fI_V x = some v → (Cond.constant "FleetWaves$Wave" x v).before args s = true := by
  intro x f h
  unfold fI_V at h
  split at h
  · cases h
theorem okJ_V {s : State} {args : Array Value} (hts : ∀ w ∈ xT, w.before args s = true) : ∀ x v, fJ_V x = some v → (Cond.constantLong "FleetWaves$Wave" x v).before args s = true := by
  intro x f h
  unfold fJ_V at h
  split at h
  · cases h
theorem okX_V {s : State} {args : Array Value} (hts : ∀ w ∈ xT, w.before args s = true) (hc : ∀ q ∈ xcast, va_Nw (.castable q.1 q.2) s) : ∀ x ci, fX_V x = some ci → ∃ (r : vw_C) (nm : String), xcls[ci]? = some r ∧ (Cond.classLink "FleetWaves$Wave" x nm).before args s = true ∧ va_Nw (.castable r.1 nm) s := by
  intro x f h
  unfold fX_V at h
  split at h
  · cases h
def fF_E : Nat → Option xFe := fun x => match x with
  | 7 => some (4, 0, .int, 1)
  | 13 => some (4, 1, (.object "FleetWaves$Failure"), 1)
  | _ => none
def fN_E : Nat → Option (Nat × Nat × List Value) := fun x => match x with
  | _ => none
def fI_E : Nat → Option Int32 := fun x => match x with
  | _ => none
def fJ_E : Nat → Option Int64 := fun x => match x with
  | _ => none
def fX_E : Nat → Option Nat := fun x => match x with
  | _ => none
abbrev tb_E (cs : Nat → Option xSp) : xTb := (fF_E, fN_E, fI_E, fJ_E, cs, fX_E)
theorem okF_E {s : State} {args : Array Value} (hts : ∀ w ∈ xT, w.before args s = true) : ∀ x f, fF_E x = some f → xFd s args "FleetWaves$Failure" xT xcls x f := by
  intro x f h
  unfold fF_E at h
  split at h
  · cases h; exact ⟨"FleetWaves$Failure", "FleetWaves$Failure", T_E, 4, ty_E, rfl, in_E, by decide, hts _ k_366, (fun _ h9 => h9), ty_E_ok, nm_E, by decide +kernel, (fun h9 => absurd h9 (by decide)), (fun _ => ⟨rfl, rfl⟩)⟩
  · cases h; exact ⟨"FleetWaves$Failure", "FleetWaves$Failure", T_E, 4, ty_E, rfl, in_E, by decide, hts _ k_368, (fun _ h9 => h9), ty_E_ok, nm_E, by decide +kernel, (fun h9 => absurd h9 (by decide)), (fun _ => ⟨rfl, rfl⟩)⟩
  · cases h
theorem okN_E {s : State} {args : Array Value} (hts : ∀ w ∈ xT, w.before args s = true) : ∀ x o, fN_E x = some o → xNd s args "FleetWaves$Failure" xT xcls x o := by
  intro x f h
  unfold fN_E at h
  split at h
  · cases h
theorem okI_E {s : State} {args : Array Value} (hts : ∀ w ∈ xT, w.before args s = true) : ∀ x v, fI_E x = some v → (Cond.constant "FleetWaves$Failure" x v).before args s = true := by
  intro x f h
  unfold fI_E at h
  split at h
  · cases h
theorem okJ_E {s : State} {args : Array Value} (hts : ∀ w ∈ xT, w.before args s = true) : ∀ x v, fJ_E x = some v → (Cond.constantLong "FleetWaves$Failure" x v).before args s = true := by
  intro x f h
  unfold fJ_E at h
  split at h
  · cases h
theorem okX_E {s : State} {args : Array Value} (hts : ∀ w ∈ xT, w.before args s = true) (hc : ∀ q ∈ xcast, va_Nw (.castable q.1 q.2) s) : ∀ x ci, fX_E x = some ci → ∃ (r : vw_C) (nm : String), xcls[ci]? = some r ∧ (Cond.classLink "FleetWaves$Failure" x nm).before args s = true ∧ va_Nw (.castable r.1 nm) s := by
  intro x f h
  unfold fX_E at h
  split at h
  · cases h
def fF_M : Nat → Option xFe := fun x => match x with
  | 7 => some (5, 2, (.array .long), 1)
  | 13 => some (5, 3, (.array .int), 1)
  | 17 => some (5, 4, (.array .boolean), 1)
  | 21 => some (5, 6, (.array .int), 1)
  | 24 => some (5, 7, (.array .int), 1)
  | 27 => some (5, 8, (.array .int), 1)
  | 30 => some (5, 9, (.array .int), 1)
  | 33 => some (5, 10, (.array .long), 1)
  | 36 => some (5, 11, (.array .long), 1)
  | 39 => some (5, 12, (.array .long), 1)
  | 42 => some (5, 13, (.array .long), 1)
  | 45 => some (5, 14, (.array .long), 1)
  | 48 => some (5, 15, (.array .int), 1)
  | 51 => some (5, 16, (.array .int), 1)
  | 54 => some (5, 17, (.array .boolean), 1)
  | 57 => some (5, 18, (.array .boolean), 1)
  | 60 => some (5, 19, (.array .int), 1)
  | 63 => some (5, 20, (.array .long), 1)
  | 66 => some (5, 21, (.array .boolean), 1)
  | 69 => some (5, 0, .int, 0)
  | 73 => some (5, 1, .int, 0)
  | 76 => some (5, 5, .int, 0)
  | 104 => some (5, 22, .long, 0)
  | _ => none
def fN_M : Nat → Option (Nat × Nat × List Value) := fun x => match x with
  | _ => none
def fI_M : Nat → Option Int32 := fun x => match x with
  | 79 => some 8388607
  | _ => none
def fJ_M : Nat → Option Int64 := fun x => match x with
  | 80 => some 31
  | 82 => some (-49064778989728563)
  | 84 => some (-4265267296055464877)
  | 94 => some 1073741824
  | 112 => some (-1)
  | 122 => some 100
  | _ => none
def fX_M : Nat → Option Nat := fun x => match x with
  | _ => none
abbrev tb_M (cs : Nat → Option xSp) : xTb := (fF_M, fN_M, fI_M, fJ_M, cs, fX_M)
theorem okF_M {s : State} {args : Array Value} (hts : ∀ w ∈ xT, w.before args s = true) : ∀ x f, fF_M x = some f → xFd s args "FleetWavesModel" xT xcls x f := by
  intro x f h
  unfold fF_M at h
  split at h
  · cases h; exact ⟨"FleetWavesModel", "FleetWavesModel", T_M, 23, ty_M, rfl, in_M, by decide, hts _ k_512, (fun _ h9 => h9), ty_M_ok, nm_M, by decide +kernel, (fun h9 => absurd h9 (by decide)), (fun _ => ⟨rfl, rfl⟩)⟩
  · cases h; exact ⟨"FleetWavesModel", "FleetWavesModel", T_M, 23, ty_M, rfl, in_M, by decide, hts _ k_513, (fun _ h9 => h9), ty_M_ok, nm_M, by decide +kernel, (fun h9 => absurd h9 (by decide)), (fun _ => ⟨rfl, rfl⟩)⟩
  · cases h; exact ⟨"FleetWavesModel", "FleetWavesModel", T_M, 23, ty_M, rfl, in_M, by decide, hts _ k_514, (fun _ h9 => h9), ty_M_ok, nm_M, by decide +kernel, (fun h9 => absurd h9 (by decide)), (fun _ => ⟨rfl, rfl⟩)⟩
  · cases h; exact ⟨"FleetWavesModel", "FleetWavesModel", T_M, 23, ty_M, rfl, in_M, by decide, hts _ k_516, (fun _ h9 => h9), ty_M_ok, nm_M, by decide +kernel, (fun h9 => absurd h9 (by decide)), (fun _ => ⟨rfl, rfl⟩)⟩
  · cases h; exact ⟨"FleetWavesModel", "FleetWavesModel", T_M, 23, ty_M, rfl, in_M, by decide, hts _ k_517, (fun _ h9 => h9), ty_M_ok, nm_M, by decide +kernel, (fun h9 => absurd h9 (by decide)), (fun _ => ⟨rfl, rfl⟩)⟩
  · cases h; exact ⟨"FleetWavesModel", "FleetWavesModel", T_M, 23, ty_M, rfl, in_M, by decide, hts _ k_518, (fun _ h9 => h9), ty_M_ok, nm_M, by decide +kernel, (fun h9 => absurd h9 (by decide)), (fun _ => ⟨rfl, rfl⟩)⟩
  · cases h; exact ⟨"FleetWavesModel", "FleetWavesModel", T_M, 23, ty_M, rfl, in_M, by decide, hts _ k_519, (fun _ h9 => h9), ty_M_ok, nm_M, by decide +kernel, (fun h9 => absurd h9 (by decide)), (fun _ => ⟨rfl, rfl⟩)⟩
  · cases h; exact ⟨"FleetWavesModel", "FleetWavesModel", T_M, 23, ty_M, rfl, in_M, by decide, hts _ k_520, (fun _ h9 => h9), ty_M_ok, nm_M, by decide +kernel, (fun h9 => absurd h9 (by decide)), (fun _ => ⟨rfl, rfl⟩)⟩
  · cases h; exact ⟨"FleetWavesModel", "FleetWavesModel", T_M, 23, ty_M, rfl, in_M, by decide, hts _ k_521, (fun _ h9 => h9), ty_M_ok, nm_M, by decide +kernel, (fun h9 => absurd h9 (by decide)), (fun _ => ⟨rfl, rfl⟩)⟩
  · cases h; exact ⟨"FleetWavesModel", "FleetWavesModel", T_M, 23, ty_M, rfl, in_M, by decide, hts _ k_522, (fun _ h9 => h9), ty_M_ok, nm_M, by decide +kernel, (fun h9 => absurd h9 (by decide)), (fun _ => ⟨rfl, rfl⟩)⟩
  · cases h; exact ⟨"FleetWavesModel", "FleetWavesModel", T_M, 23, ty_M, rfl, in_M, by decide, hts _ k_523, (fun _ h9 => h9), ty_M_ok, nm_M, by decide +kernel, (fun h9 => absurd h9 (by decide)), (fun _ => ⟨rfl, rfl⟩)⟩
  · cases h; exact ⟨"FleetWavesModel", "FleetWavesModel", T_M, 23, ty_M, rfl, in_M, by decide, hts _ k_524, (fun _ h9 => h9), ty_M_ok, nm_M, by decide +kernel, (fun h9 => absurd h9 (by decide)), (fun _ => ⟨rfl, rfl⟩)⟩
  · cases h; exact ⟨"FleetWavesModel", "FleetWavesModel", T_M, 23, ty_M, rfl, in_M, by decide, hts _ k_525, (fun _ h9 => h9), ty_M_ok, nm_M, by decide +kernel, (fun h9 => absurd h9 (by decide)), (fun _ => ⟨rfl, rfl⟩)⟩
  · cases h; exact ⟨"FleetWavesModel", "FleetWavesModel", T_M, 23, ty_M, rfl, in_M, by decide, hts _ k_526, (fun _ h9 => h9), ty_M_ok, nm_M, by decide +kernel, (fun h9 => absurd h9 (by decide)), (fun _ => ⟨rfl, rfl⟩)⟩
  · cases h; exact ⟨"FleetWavesModel", "FleetWavesModel", T_M, 23, ty_M, rfl, in_M, by decide, hts _ k_527, (fun _ h9 => h9), ty_M_ok, nm_M, by decide +kernel, (fun h9 => absurd h9 (by decide)), (fun _ => ⟨rfl, rfl⟩)⟩
  · cases h; exact ⟨"FleetWavesModel", "FleetWavesModel", T_M, 23, ty_M, rfl, in_M, by decide, hts _ k_528, (fun _ h9 => h9), ty_M_ok, nm_M, by decide +kernel, (fun h9 => absurd h9 (by decide)), (fun _ => ⟨rfl, rfl⟩)⟩
  · cases h; exact ⟨"FleetWavesModel", "FleetWavesModel", T_M, 23, ty_M, rfl, in_M, by decide, hts _ k_529, (fun _ h9 => h9), ty_M_ok, nm_M, by decide +kernel, (fun h9 => absurd h9 (by decide)), (fun _ => ⟨rfl, rfl⟩)⟩
  · cases h; exact ⟨"FleetWavesModel", "FleetWavesModel", T_M, 23, ty_M, rfl, in_M, by decide, hts _ k_530, (fun _ h9 => h9), ty_M_ok, nm_M, by decide +kernel, (fun h9 => absurd h9 (by decide)), (fun _ => ⟨rfl, rfl⟩)⟩
  · cases h; exact ⟨"FleetWavesModel", "FleetWavesModel", T_M, 23, ty_M, rfl, in_M, by decide, hts _ k_531, (fun _ h9 => h9), ty_M_ok, nm_M, by decide +kernel, (fun h9 => absurd h9 (by decide)), (fun _ => ⟨rfl, rfl⟩)⟩
  · cases h; exact ⟨"FleetWavesModel", "FleetWavesModel", T_M, 23, ty_M, rfl, in_M, by decide, hts _ k_510, (fun _ h9 => h9), ty_M_ok, nm_M, by decide +kernel, (fun _ => rfl), (fun h9 => absurd h9 (by decide))⟩
  · cases h; exact ⟨"FleetWavesModel", "FleetWavesModel", T_M, 23, ty_M, rfl, in_M, by decide, hts _ k_511, (fun _ h9 => h9), ty_M_ok, nm_M, by decide +kernel, (fun _ => rfl), (fun h9 => absurd h9 (by decide))⟩
  · cases h; exact ⟨"FleetWavesModel", "FleetWavesModel", T_M, 23, ty_M, rfl, in_M, by decide, hts _ k_515, (fun _ h9 => h9), ty_M_ok, nm_M, by decide +kernel, (fun _ => rfl), (fun h9 => absurd h9 (by decide))⟩
  · cases h; exact ⟨"FleetWavesModel", "FleetWavesModel", T_M, 23, ty_M, rfl, in_M, by decide, hts _ k_532, (fun _ h9 => h9), ty_M_ok, nm_M, by decide +kernel, (fun _ => rfl), (fun h9 => absurd h9 (by decide))⟩
  · cases h
theorem okN_M {s : State} {args : Array Value} (hts : ∀ w ∈ xT, w.before args s = true) : ∀ x o, fN_M x = some o → xNd s args "FleetWavesModel" xT xcls x o := by
  intro x f h
  unfold fN_M at h
  split at h
  · cases h
theorem okI_M {s : State} {args : Array Value} (hts : ∀ w ∈ xT, w.before args s = true) : ∀ x v, fI_M x = some v → (Cond.constant "FleetWavesModel" x v).before args s = true := by
  intro x f h
  unfold fI_M at h
  split at h
  · cases h; exact hts _ k_594
  · cases h
theorem okJ_M {s : State} {args : Array Value} (hts : ∀ w ∈ xT, w.before args s = true) : ∀ x v, fJ_M x = some v → (Cond.constantLong "FleetWavesModel" x v).before args s = true := by
  intro x f h
  unfold fJ_M at h
  split at h
  · cases h; exact hts _ k_643
  · cases h; exact hts _ k_644
  · cases h; exact hts _ k_645
  · cases h; exact hts _ k_606
  · cases h; exact hts _ k_635
  · cases h; exact hts _ k_626
  · cases h
theorem okX_M {s : State} {args : Array Value} (hts : ∀ w ∈ xT, w.before args s = true) (hc : ∀ q ∈ xcast, va_Nw (.castable q.1 q.2) s) : ∀ x ci, fX_M x = some ci → ∃ (r : vw_C) (nm : String), xcls[ci]? = some r ∧ (Cond.classLink "FleetWavesModel" x nm).before args s = true ∧ va_Nw (.castable r.1 nm) s := by
  intro x f h
  unfold fX_M at h
  split at h
  · cases h
def fF_A : Nat → Option xFe := fun x => match x with
  | 9 => some (6, 0, (.array (.object "java/lang/Object")), 0)
  | 48 => some (6, 1, .int, 0)
  | 63 => some (6, 2, .int, 0)
  | _ => none
def fN_A : Nat → Option (Nat × Nat × List Value) := fun x => match x with
  | _ => none
def fI_A : Nat → Option Int32 := fun x => match x with
  | _ => none
def fJ_A : Nat → Option Int64 := fun x => match x with
  | _ => none
def fX_A : Nat → Option Nat := fun x => match x with
  | _ => none
abbrev tb_A (cs : Nat → Option xSp) : xTb := (fF_A, fN_A, fI_A, fJ_A, cs, fX_A)
theorem okF_A {s : State} {args : Array Value} (hts : ∀ w ∈ xT, w.before args s = true) : ∀ x f, fF_A x = some f → xFd s args "java/util/ArrayList" xT xcls x f := by
  intro x f h
  unfold fF_A at h
  split at h
  · cases h; exact ⟨"java/util/ArrayList", "java/util/ArrayList", T_A, 3, ty_A, rfl, in_A, by decide, hts _ k_42, (fun _ h9 => h9), ty_A_ok, nm_A, by decide +kernel, (fun _ => rfl), (fun h9 => absurd h9 (by decide))⟩
  · cases h; exact ⟨"java/util/ArrayList", "java/util/ArrayList", T_A, 3, ty_A, rfl, in_A, by decide, hts _ k_43, (fun _ h9 => h9), ty_A_ok, nm_A, by decide +kernel, (fun _ => rfl), (fun h9 => absurd h9 (by decide))⟩
  · cases h; exact ⟨"java/util/ArrayList", "java/util/ArrayList", T_A, 3, ty_A, rfl, in_A, by decide, hts _ k_45, (fun x9 h9 => u_same (hts _ k_46) x9 h9), ty_A_ok, nm_A, by decide +kernel, (fun _ => rfl), (fun h9 => absurd h9 (by decide))⟩
  · cases h
theorem okN_A {s : State} {args : Array Value} (hts : ∀ w ∈ xT, w.before args s = true) : ∀ x o, fN_A x = some o → xNd s args "java/util/ArrayList" xT xcls x o := by
  intro x f h
  unfold fN_A at h
  split at h
  · cases h
theorem okI_A {s : State} {args : Array Value} (hts : ∀ w ∈ xT, w.before args s = true) : ∀ x v, fI_A x = some v → (Cond.constant "java/util/ArrayList" x v).before args s = true := by
  intro x f h
  unfold fI_A at h
  split at h
  · cases h
theorem okJ_A {s : State} {args : Array Value} (hts : ∀ w ∈ xT, w.before args s = true) : ∀ x v, fJ_A x = some v → (Cond.constantLong "java/util/ArrayList" x v).before args s = true := by
  intro x f h
  unfold fJ_A at h
  split at h
  · cases h
theorem okX_A {s : State} {args : Array Value} (hts : ∀ w ∈ xT, w.before args s = true) (hc : ∀ q ∈ xcast, va_Nw (.castable q.1 q.2) s) : ∀ x ci, fX_A x = some ci → ∃ (r : vw_C) (nm : String), xcls[ci]? = some r ∧ (Cond.classLink "java/util/ArrayList" x nm).before args s = true ∧ va_Nw (.castable r.1 nm) s := by
  intro x f h
  unfold fX_A at h
  split at h
  · cases h
def fF_L : Nat → Option xFe := fun x => match x with
  | _ => none
def fN_L : Nat → Option (Nat × Nat × List Value) := fun x => match x with
  | 8 => some (0, 3, [.null, .null, .long 0])
  | 16 => some (5, 23, [.int 0, .int 0, .null, .null, .null, .int 0, .null, .null, .null, .null, .null, .null, .null, .null, .null, .null, .null, .null, .null, .null, .null, .null, .long 0])
  | _ => none
def fI_L : Nat → Option Int32 := fun x => match x with
  | _ => none
def fJ_L : Nat → Option Int64 := fun x => match x with
  | 19 => some 4294967295
  | _ => none
def fX_L : Nat → Option Nat := fun x => match x with
  | _ => none
abbrev tb_L (cs : Nat → Option xSp) : xTb := (fF_L, fN_L, fI_L, fJ_L, cs, fX_L)
theorem okF_L {s : State} {args : Array Value} (hts : ∀ w ∈ xT, w.before args s = true) : ∀ x f, fF_L x = some f → xFd s args "FleetWavesLaw" xT xcls x f := by
  intro x f h
  unfold fF_L at h
  split at h
  · cases h
theorem okN_L {s : State} {args : Array Value} (hts : ∀ w ∈ xT, w.before args s = true) : ∀ x o, fN_L x = some o → xNd s args "FleetWavesLaw" xT xcls x o := by
  intro x f h
  unfold fN_L at h
  split at h
  · cases h; exact ⟨"FleetWaves", T_F, ty_F, rfl, in_F, ty_F_ok, hts _ k_20, hts _ k_21, hts _ k_1, fun j hj => by have hj : j < 3 := hj; rcases (show j = 0 ∨ j = 1 ∨ j = 2 by omega) with rfl | rfl | rfl <;> rfl⟩
  · cases h; exact ⟨"FleetWavesModel", T_M, ty_M, rfl, in_M, ty_M_ok, hts _ k_504, hts _ k_505, hts _ k_5, fun j hj => by have hj : j < 23 := hj; rcases (show j = 0 ∨ j = 1 ∨ j = 2 ∨ j = 3 ∨ j = 4 ∨ j = 5 ∨ j = 6 ∨ j = 7 ∨ j = 8 ∨ j = 9 ∨ j = 10 ∨ j = 11 ∨ j = 12 ∨ j = 13 ∨ j = 14 ∨ j = 15 ∨ j = 16 ∨ j = 17 ∨ j = 18 ∨ j = 19 ∨ j = 20 ∨ j = 21 ∨ j = 22 by omega) with rfl | rfl | rfl | rfl | rfl | rfl | rfl | rfl | rfl | rfl | rfl | rfl | rfl | rfl | rfl | rfl | rfl | rfl | rfl | rfl | rfl | rfl | rfl <;> rfl⟩
  · cases h
theorem okI_L {s : State} {args : Array Value} (hts : ∀ w ∈ xT, w.before args s = true) : ∀ x v, fI_L x = some v → (Cond.constant "FleetWavesLaw" x v).before args s = true := by
  intro x f h
  unfold fI_L at h
  split at h
  · cases h
theorem okJ_L {s : State} {args : Array Value} (hts : ∀ w ∈ xT, w.before args s = true) : ∀ x v, fJ_L x = some v → (Cond.constantLong "FleetWavesLaw" x v).before args s = true := by
  intro x f h
  unfold fJ_L at h
  split at h
  · cases h; exact hts _ k_689
  · cases h
theorem okX_L {s : State} {args : Array Value} (hts : ∀ w ∈ xT, w.before args s = true) (hc : ∀ q ∈ xcast, va_Nw (.castable q.1 q.2) s) : ∀ x ci, fX_L x = some ci → ∃ (r : vw_C) (nm : String), xcls[ci]? = some r ∧ (Cond.classLink "FleetWavesLaw" x nm).before args s = true ∧ va_Nw (.castable r.1 nm) s := by
  intro x f h
  unfold fX_L at h
  split at h
  · cases h
def fF_AL : Nat → Option xFe := fun x => match x with
  | 7 => some (6, 2, .int, 0)
  | _ => none
def fN_AL : Nat → Option (Nat × Nat × List Value) := fun x => match x with
  | _ => none
def fI_AL : Nat → Option Int32 := fun x => match x with
  | _ => none
def fJ_AL : Nat → Option Int64 := fun x => match x with
  | _ => none
def fX_AL : Nat → Option Nat := fun x => match x with
  | _ => none
abbrev tb_AL (cs : Nat → Option xSp) : xTb := (fF_AL, fN_AL, fI_AL, fJ_AL, cs, fX_AL)
theorem okF_AL {s : State} {args : Array Value} (hts : ∀ w ∈ xT, w.before args s = true) : ∀ x f, fF_AL x = some f → xFd s args "java/util/AbstractList" xT xcls x f := by
  intro x f h
  unfold fF_AL at h
  split at h
  · cases h; exact ⟨"java/util/ArrayList", "java/util/AbstractList", T_A, 3, ty_A, rfl, in_A, by decide, hts _ k_44, (fun _ h9 => h9), ty_A_ok, nm_A, by decide +kernel, (fun _ => rfl), (fun h9 => absurd h9 (by decide))⟩
  · cases h
theorem okN_AL {s : State} {args : Array Value} (hts : ∀ w ∈ xT, w.before args s = true) : ∀ x o, fN_AL x = some o → xNd s args "java/util/AbstractList" xT xcls x o := by
  intro x f h
  unfold fN_AL at h
  split at h
  · cases h
theorem okI_AL {s : State} {args : Array Value} (hts : ∀ w ∈ xT, w.before args s = true) : ∀ x v, fI_AL x = some v → (Cond.constant "java/util/AbstractList" x v).before args s = true := by
  intro x f h
  unfold fI_AL at h
  split at h
  · cases h
theorem okJ_AL {s : State} {args : Array Value} (hts : ∀ w ∈ xT, w.before args s = true) : ∀ x v, fJ_AL x = some v → (Cond.constantLong "java/util/AbstractList" x v).before args s = true := by
  intro x f h
  unfold fJ_AL at h
  split at h
  · cases h
theorem okX_AL {s : State} {args : Array Value} (hts : ∀ w ∈ xT, w.before args s = true) (hc : ∀ q ∈ xcast, va_Nw (.castable q.1 q.2) s) : ∀ x ci, fX_AL x = some ci → ∃ (r : vw_C) (nm : String), xcls[ci]? = some r ∧ (Cond.classLink "java/util/AbstractList" x nm).before args s = true ∧ va_Nw (.castable r.1 nm) s := by
  intro x f h
  unfold fX_AL at h
  split at h
  · cases h
def fF_AC : Nat → Option xFe := fun x => match x with
  | _ => none
def fN_AC : Nat → Option (Nat × Nat × List Value) := fun x => match x with
  | _ => none
def fI_AC : Nat → Option Int32 := fun x => match x with
  | _ => none
def fJ_AC : Nat → Option Int64 := fun x => match x with
  | _ => none
def fX_AC : Nat → Option Nat := fun x => match x with
  | _ => none
abbrev tb_AC (cs : Nat → Option xSp) : xTb := (fF_AC, fN_AC, fI_AC, fJ_AC, cs, fX_AC)
theorem okF_AC {s : State} {args : Array Value} (hts : ∀ w ∈ xT, w.before args s = true) : ∀ x f, fF_AC x = some f → xFd s args "java/util/AbstractCollection" xT xcls x f := by
  intro x f h
  unfold fF_AC at h
  split at h
  · cases h
theorem okN_AC {s : State} {args : Array Value} (hts : ∀ w ∈ xT, w.before args s = true) : ∀ x o, fN_AC x = some o → xNd s args "java/util/AbstractCollection" xT xcls x o := by
  intro x f h
  unfold fN_AC at h
  split at h
  · cases h
theorem okI_AC {s : State} {args : Array Value} (hts : ∀ w ∈ xT, w.before args s = true) : ∀ x v, fI_AC x = some v → (Cond.constant "java/util/AbstractCollection" x v).before args s = true := by
  intro x f h
  unfold fI_AC at h
  split at h
  · cases h
theorem okJ_AC {s : State} {args : Array Value} (hts : ∀ w ∈ xT, w.before args s = true) : ∀ x v, fJ_AC x = some v → (Cond.constantLong "java/util/AbstractCollection" x v).before args s = true := by
  intro x f h
  unfold fJ_AC at h
  split at h
  · cases h
theorem okX_AC {s : State} {args : Array Value} (hts : ∀ w ∈ xT, w.before args s = true) (hc : ∀ q ∈ xcast, va_Nw (.castable q.1 q.2) s) : ∀ x ci, fX_AC x = some ci → ∃ (r : vw_C) (nm : String), xcls[ci]? = some r ∧ (Cond.classLink "java/util/AbstractCollection" x nm).before args s = true ∧ va_Nw (.castable r.1 nm) s := by
  intro x f h
  unfold fX_AC at h
  split at h
  · cases h
def fF_JO : Nat → Option xFe := fun x => match x with
  | _ => none
def fN_JO : Nat → Option (Nat × Nat × List Value) := fun x => match x with
  | _ => none
def fI_JO : Nat → Option Int32 := fun x => match x with
  | _ => none
def fJ_JO : Nat → Option Int64 := fun x => match x with
  | _ => none
def fX_JO : Nat → Option Nat := fun x => match x with
  | _ => none
abbrev tb_JO (cs : Nat → Option xSp) : xTb := (fF_JO, fN_JO, fI_JO, fJ_JO, cs, fX_JO)
theorem okF_JO {s : State} {args : Array Value} (hts : ∀ w ∈ xT, w.before args s = true) : ∀ x f, fF_JO x = some f → xFd s args "java/util/Objects" xT xcls x f := by
  intro x f h
  unfold fF_JO at h
  split at h
  · cases h
theorem okN_JO {s : State} {args : Array Value} (hts : ∀ w ∈ xT, w.before args s = true) : ∀ x o, fN_JO x = some o → xNd s args "java/util/Objects" xT xcls x o := by
  intro x f h
  unfold fN_JO at h
  split at h
  · cases h
theorem okI_JO {s : State} {args : Array Value} (hts : ∀ w ∈ xT, w.before args s = true) : ∀ x v, fI_JO x = some v → (Cond.constant "java/util/Objects" x v).before args s = true := by
  intro x f h
  unfold fI_JO at h
  split at h
  · cases h
theorem okJ_JO {s : State} {args : Array Value} (hts : ∀ w ∈ xT, w.before args s = true) : ∀ x v, fJ_JO x = some v → (Cond.constantLong "java/util/Objects" x v).before args s = true := by
  intro x f h
  unfold fJ_JO at h
  split at h
  · cases h
theorem okX_JO {s : State} {args : Array Value} (hts : ∀ w ∈ xT, w.before args s = true) (hc : ∀ q ∈ xcast, va_Nw (.castable q.1 q.2) s) : ∀ x ci, fX_JO x = some ci → ∃ (r : vw_C) (nm : String), xcls[ci]? = some r ∧ (Cond.classLink "java/util/Objects" x nm).before args s = true ∧ va_Nw (.castable r.1 nm) s := by
  intro x f h
  unfold fX_JO at h
  split at h
  · cases h
def fF_JP : Nat → Option xFe := fun x => match x with
  | _ => none
def fN_JP : Nat → Option (Nat × Nat × List Value) := fun x => match x with
  | _ => none
def fI_JP : Nat → Option Int32 := fun x => match x with
  | _ => none
def fJ_JP : Nat → Option Int64 := fun x => match x with
  | _ => none
def fX_JP : Nat → Option Nat := fun x => match x with
  | _ => none
abbrev tb_JP (cs : Nat → Option xSp) : xTb := (fF_JP, fN_JP, fI_JP, fJ_JP, cs, fX_JP)
theorem okF_JP {s : State} {args : Array Value} (hts : ∀ w ∈ xT, w.before args s = true) : ∀ x f, fF_JP x = some f → xFd s args "jdk/internal/util/Preconditions" xT xcls x f := by
  intro x f h
  unfold fF_JP at h
  split at h
  · cases h
theorem okN_JP {s : State} {args : Array Value} (hts : ∀ w ∈ xT, w.before args s = true) : ∀ x o, fN_JP x = some o → xNd s args "jdk/internal/util/Preconditions" xT xcls x o := by
  intro x f h
  unfold fN_JP at h
  split at h
  · cases h
theorem okI_JP {s : State} {args : Array Value} (hts : ∀ w ∈ xT, w.before args s = true) : ∀ x v, fI_JP x = some v → (Cond.constant "jdk/internal/util/Preconditions" x v).before args s = true := by
  intro x f h
  unfold fI_JP at h
  split at h
  · cases h
theorem okJ_JP {s : State} {args : Array Value} (hts : ∀ w ∈ xT, w.before args s = true) : ∀ x v, fJ_JP x = some v → (Cond.constantLong "jdk/internal/util/Preconditions" x v).before args s = true := by
  intro x f h
  unfold fJ_JP at h
  split at h
  · cases h
theorem okX_JP {s : State} {args : Array Value} (hts : ∀ w ∈ xT, w.before args s = true) (hc : ∀ q ∈ xcast, va_Nw (.castable q.1 q.2) s) : ∀ x ci, fX_JP x = some ci → ∃ (r : vw_C) (nm : String), xcls[ci]? = some r ∧ (Cond.classLink "jdk/internal/util/Preconditions" x nm).before args s = true ∧ va_Nw (.castable r.1 nm) s := by
  intro x f h
  unfold fX_JP at h
  split at h
  · cases h
def fF_JS : Nat → Option xFe := fun x => match x with
  | _ => none
def fN_JS : Nat → Option (Nat × Nat × List Value) := fun x => match x with
  | _ => none
def fI_JS : Nat → Option Int32 := fun x => match x with
  | 200 => some 2147483639
  | _ => none
def fJ_JS : Nat → Option Int64 := fun x => match x with
  | _ => none
def fX_JS : Nat → Option Nat := fun x => match x with
  | _ => none
abbrev tb_JS (cs : Nat → Option xSp) : xTb := (fF_JS, fN_JS, fI_JS, fJ_JS, cs, fX_JS)
theorem okF_JS {s : State} {args : Array Value} (hts : ∀ w ∈ xT, w.before args s = true) : ∀ x f, fF_JS x = some f → xFd s args "jdk/internal/util/ArraysSupport" xT xcls x f := by
  intro x f h
  unfold fF_JS at h
  split at h
  · cases h
theorem okN_JS {s : State} {args : Array Value} (hts : ∀ w ∈ xT, w.before args s = true) : ∀ x o, fN_JS x = some o → xNd s args "jdk/internal/util/ArraysSupport" xT xcls x o := by
  intro x f h
  unfold fN_JS at h
  split at h
  · cases h
theorem okI_JS {s : State} {args : Array Value} (hts : ∀ w ∈ xT, w.before args s = true) : ∀ x v, fI_JS x = some v → (Cond.constant "jdk/internal/util/ArraysSupport" x v).before args s = true := by
  intro x f h
  unfold fI_JS at h
  split at h
  · cases h; exact hts _ k_138
  · cases h
theorem okJ_JS {s : State} {args : Array Value} (hts : ∀ w ∈ xT, w.before args s = true) : ∀ x v, fJ_JS x = some v → (Cond.constantLong "jdk/internal/util/ArraysSupport" x v).before args s = true := by
  intro x f h
  unfold fJ_JS at h
  split at h
  · cases h
theorem okX_JS {s : State} {args : Array Value} (hts : ∀ w ∈ xT, w.before args s = true) (hc : ∀ q ∈ xcast, va_Nw (.castable q.1 q.2) s) : ∀ x ci, fX_JS x = some ci → ∃ (r : vw_C) (nm : String), xcls[ci]? = some r ∧ (Cond.classLink "jdk/internal/util/ArraysSupport" x nm).before args s = true ∧ va_Nw (.castable r.1 nm) s := by
  intro x f h
  unfold fX_JS at h
  split at h
  · cases h
def fF_JA : Nat → Option xFe := fun x => match x with
  | _ => none
def fN_JA : Nat → Option (Nat × Nat × List Value) := fun x => match x with
  | _ => none
def fI_JA : Nat → Option Int32 := fun x => match x with
  | _ => none
def fJ_JA : Nat → Option Int64 := fun x => match x with
  | _ => none
def fX_JA : Nat → Option Nat := fun x => match x with
  | _ => none
abbrev tb_JA (cs : Nat → Option xSp) : xTb := (fF_JA, fN_JA, fI_JA, fJ_JA, cs, fX_JA)
theorem okF_JA {s : State} {args : Array Value} (hts : ∀ w ∈ xT, w.before args s = true) : ∀ x f, fF_JA x = some f → xFd s args "java/util/Arrays" xT xcls x f := by
  intro x f h
  unfold fF_JA at h
  split at h
  · cases h
theorem okN_JA {s : State} {args : Array Value} (hts : ∀ w ∈ xT, w.before args s = true) : ∀ x o, fN_JA x = some o → xNd s args "java/util/Arrays" xT xcls x o := by
  intro x f h
  unfold fN_JA at h
  split at h
  · cases h
theorem okI_JA {s : State} {args : Array Value} (hts : ∀ w ∈ xT, w.before args s = true) : ∀ x v, fI_JA x = some v → (Cond.constant "java/util/Arrays" x v).before args s = true := by
  intro x f h
  unfold fI_JA at h
  split at h
  · cases h
theorem okJ_JA {s : State} {args : Array Value} (hts : ∀ w ∈ xT, w.before args s = true) : ∀ x v, fJ_JA x = some v → (Cond.constantLong "java/util/Arrays" x v).before args s = true := by
  intro x f h
  unfold fJ_JA at h
  split at h
  · cases h
theorem okX_JA {s : State} {args : Array Value} (hts : ∀ w ∈ xT, w.before args s = true) (hc : ∀ q ∈ xcast, va_Nw (.castable q.1 q.2) s) : ∀ x ci, fX_JA x = some ci → ∃ (r : vw_C) (nm : String), xcls[ci]? = some r ∧ (Cond.classLink "java/util/Arrays" x nm).before args s = true ∧ va_Nw (.castable r.1 nm) s := by
  intro x f h
  unfold fX_JA at h
  split at h
  · cases h
def fF_JM : Nat → Option xFe := fun x => match x with
  | _ => none
def fN_JM : Nat → Option (Nat × Nat × List Value) := fun x => match x with
  | _ => none
def fI_JM : Nat → Option Int32 := fun x => match x with
  | _ => none
def fJ_JM : Nat → Option Int64 := fun x => match x with
  | _ => none
def fX_JM : Nat → Option Nat := fun x => match x with
  | _ => none
abbrev tb_JM (cs : Nat → Option xSp) : xTb := (fF_JM, fN_JM, fI_JM, fJ_JM, cs, fX_JM)
theorem okF_JM {s : State} {args : Array Value} (hts : ∀ w ∈ xT, w.before args s = true) : ∀ x f, fF_JM x = some f → xFd s args "java/lang/Math" xT xcls x f := by
  intro x f h
  unfold fF_JM at h
  split at h
  · cases h
theorem okN_JM {s : State} {args : Array Value} (hts : ∀ w ∈ xT, w.before args s = true) : ∀ x o, fN_JM x = some o → xNd s args "java/lang/Math" xT xcls x o := by
  intro x f h
  unfold fN_JM at h
  split at h
  · cases h
theorem okI_JM {s : State} {args : Array Value} (hts : ∀ w ∈ xT, w.before args s = true) : ∀ x v, fI_JM x = some v → (Cond.constant "java/lang/Math" x v).before args s = true := by
  intro x f h
  unfold fI_JM at h
  split at h
  · cases h
theorem okJ_JM {s : State} {args : Array Value} (hts : ∀ w ∈ xT, w.before args s = true) : ∀ x v, fJ_JM x = some v → (Cond.constantLong "java/lang/Math" x v).before args s = true := by
  intro x f h
  unfold fJ_JM at h
  split at h
  · cases h
theorem okX_JM {s : State} {args : Array Value} (hts : ∀ w ∈ xT, w.before args s = true) (hc : ∀ q ∈ xcast, va_Nw (.castable q.1 q.2) s) : ∀ x ci, fX_JM x = some ci → ∃ (r : vw_C) (nm : String), xcls[ci]? = some r ∧ (Cond.classLink "java/lang/Math" x nm).before args s = true ∧ va_Nw (.castable r.1 nm) s := by
  intro x f h
  unfold fX_JM at h
  split at h
  · cases h
theorem xOK_of {p : Program} {l : Launch} {e : Env} {R : Room} {s : State} {m : MethodId} {args : Array Value} {below : List Frame} {meth : Method} {c : Code} {D : va_G} {E : xEn} {b : Nat} {y : MethodName} {cc : ByteArray} {mx : Nat} {ret : Option FieldType} {mc ms : Nat} {po : Option Value → xH → Prop} {tb : xTb} {ini : Bool} (hI : xIn p s m args meth c D E b y cc mx ret) (hini : ini = true → y.name = "<init>")
    (h1 : ∀ x f, tb.1 x = some f → xFd s args y.cls xT xcls x f) (h2 : ∀ x o, tb.2.1 x = some o → xNd s args y.cls xT xcls x o) (h3 : ∀ x v, tb.2.2.1 x = some v → (Cond.constant y.cls x v).before args s = true) (h4 : ∀ x v, tb.2.2.2.1 x = some v → (Cond.constantLong y.cls x v).before args s = true)
    (h5 : ∀ x sp, tb.2.2.2.2.1 x = some sp → xCd (xW p l e R s m args below meth c (MQ below (xQc D b po) args s mc ms (fun q => b ≤ q)) D xcls b) R cc x sp) (h6 : ∀ x ci, tb.2.2.2.2.2 x = some ci → ∃ (r : vw_C) (nm : String), xcls[ci]? = some r ∧ (Cond.classLink y.cls x nm).before args s = true ∧ va_Nw (.castable r.1 nm) s) :
    xOK p l R s m args meth c D xcls b cc y.cls xT tb E.1 ini ret (fun v G ce sl => ce ≤ mc ∧ sl ≤ ms ∧ po v G) (xW p l e R s m args below meth c (MQ below (xQc D b po) args s mc ms (fun q => b ≤ q)) D xcls b) := by
  obtain ⟨S, hE, hbs, hnm, hr, hlk, hmx⟩ := hI
  refine ⟨S, hE.1, hbs, fun h => by rw [hnm]; exact hini h, h1, h2, h3, h4, h5, h6, fun ci r hci hr => ?_, S.2.2.2.2 _ k_115, S.2.2.2.2 _ k_580, S.2.2.2.2 _ k_581, xRs_of S.1 S.2.1 hr hlk⟩
  obtain ⟨-, -, -, hc, -⟩ := hE
  match ci, hci, hr with
  | 0, _, hr => cases hr; exact hc ("FleetWaves", "java/lang/Object") (by decide)
  | 1, _, hr => cases hr; exact hc ("FleetWaves$Car", "java/lang/Object") (by decide)
  | 2, _, hr => cases hr; exact hc ("FleetWaves$Campaign", "java/lang/Object") (by decide)
  | 3, _, hr => cases hr; exact hc ("FleetWaves$Wave", "java/lang/Object") (by decide)
  | 4, _, hr => cases hr; exact hc ("FleetWaves$Failure", "java/lang/Object") (by decide)
  | 5, _, hr => cases hr; exact hc ("FleetWavesModel", "java/lang/Object") (by decide)
  | k + 6, hk, _ => omega
