/-! share THROWS: from its 'new' to its end. -/
def AE : String := "java/lang/ArithmeticException"
def aeUp : List String := ["java/lang/RuntimeException", "java/lang/Exception"]
theorem own_where : ∀ a ∈ Bundle.ownAtoms "FleetWaves" 129 AE aeUp, a ∈ xT ∨ a ∈ xdec ∨ a = .castable AE AE ∨ a = .laysStatic "java/lang/Throwable" "UNASSIGNED_STACK" "[Ljava/lang/StackTraceElement;" ∨ a = .laysStatic "java/lang/Throwable" "SUPPRESSED_SENTINEL" "Ljava/util/List;" ∨ a = .isRef (.static "java/lang/Throwable" "UNASSIGNED_STACK" "[Ljava/lang/StackTraceElement;") ∨ a = .isRef (.static "java/lang/Throwable" "SUPPRESSED_SENTINEL" "Ljava/util/List;") := by decide +kernel
theorem ae_link : Cond.classLink "FleetWaves" 125 AE ∈ xT := by decide +kernel
theorem ae_inst : Cond.instantiable AE 6 ∈ xT := by decide +kernel
theorem ae_init : Cond.initialized AE ∈ xT := by decide +kernel
theorem xP.keep {D : va_G} {cl : List vw_C} {b : Nat} {G : xH} {H H1 : Heap} (h : xP D cl b G H) (hk : ∀ (a : Nat) (cell : Cell), H[a]? = some cell → H1[a]? = some cell) : xP D cl b G H1 := by
  obtain ⟨ws, h1, h2, h3⟩ := h
  refine ⟨ws, h1.kept (fun k q hq => ?_), h2, h3⟩
  have h4 := (h1 k q hq).lt
  rw [Array.getElem?_eq_getElem h4]
  exact hk q.1 _ (Array.getElem?_eq_getElem h4)
/-- what is left when it threw -/
def tQ (D : va_G) (b : Nat) (G : xH) (s t : State) (x : Addr) (k n : Nat) : Prop := ∃ cell : Cell, xP D xcls b G t.heap ∧ t.heap[x]? = some cell ∧ cell.vm = .none ∧ s.vm.findClass AE = some cell.cls ∧ va_F (fun q => b ≤ q) s t ∧ s.WarmedH t.vm ∧ ∃ L, s.sameButNew ({ t with vm := s.vm } : State) L k n ∧ ∀ q ∈ L, b ≤ q.base
set_option maxHeartbeats 4000000 in
theorem w_throw {p : Program} {l : Launch} {e : Env} {R : Room} {s : State} {m : MethodId} {args : Array Value} {below : List Frame} {meth : Method} {c : Code} {D : va_G} {E : xEn} {b : Nat} {G : xH} {H : Heap} {locs : List Loc} {ls : Array Slot} {ce sl : Nat}
    (S : CallFix p m c prog_1_method_7_code c.maxLocals s args xT "FleetWaves") (hE : xE D E b s) (htr : e.platform.stackTraces = false) (hlocks : meth.locks = false) (hnh : c.exceptionTable.isEmpty = true) (hp : xP D xcls b G H) (hs : va_S (fun q => b ≤ q) s.heap H locs) (hsize : ls.size = c.maxLocals)
    (hR1 : 5 < R.frames) (hR2 : 90 ≤ R.locals) (hR3 : ce + 1 ≤ R.cells) (hR4 : sl + 6 ≤ R.slots) :
    W p l e R s m args below meth c H locs ce sl (fun t => ∃ x : Addr, t.status = .running ∧ Ended t below (.threw x) ∧ tQ D b G s t x (ce + 1) (sl + 6)) (F0 m 32 ls []) := by
  intro T hT X
  obtain ⟨hx, hb, -, hown, hts⟩ := S
  have X' := stand_up X (by omega) (by omega)
  have hsm := X.same
  obtain ⟨s', hs'⟩ : ∃ s' : State, s' = { s with heap := T.heap, slotsUsed := T.slotsUsed } := ⟨_, rfl⟩
  rw [← hs'] at X'
  have hvm' : s'.vm = s.vm := by rw [hs']
  have hh' : s'.heap = T.heap := by rw [hs']
  have hWr : s.WarmedH s'.vm := by rw [hvm']; exact State.WarmedH.refl s
  have hE' : xE D E b s' := hE.vm (fun a h1 h2 => by rw [hh', hT]; exact hs.2.1 a h1 h2) hWr
  have hw : ∀ w ∈ xT, w.before args s' = true := fun w hw => word_at hWr (good_of_word (List.mem_filter.mp hw).2) (hts w hw)
  have hown' : s'.vm.findClass "FleetWaves" = some m.cls := by rw [hvm']; exact hown
  obtain ⟨-, -, -, hca, -, -, -, z1, z2, y1, y2, hdc, sa, hsr⟩ := hE'
  have hat : ∀ a ∈ Bundle.ownAtoms "FleetWaves" 129 AE aeUp, a.before args s' = true := by
    intro a ha
    rcases own_where a ha with h | h | rfl | rfl | rfl | rfl | rfl
    · exact hw a h
    · have h1 := hdc a h
      simp only [xdec, List.mem_cons, List.not_mem_nil, or_false] at h
      rcases h with rfl | rfl | rfl <;> exact h1
    · exact hca (AE, AE) (by decide)
    · exact y1
    · exact y2
    · exact zq_isRef z1
    · exact zq_isRef z2
  obtain ⟨vm₁, cX, kX, hfX, hkX, -, -, X₁, st1⟩ := X'.newCold hx (own := "FleetWaves") (C := AE) (index := 125) (n := 6) hown' (hw _ ae_link) (hw _ ae_inst) (hw _ ae_init) (g := F0 m 32 ls []) rfl (by rw [hb]; exact d_F_share_32) (by show 0 + 1 ≤ R.cells - ce; omega) (by show 0 + 6 ≤ R.slots - sl; omega)
  generalize hT1 : (T.setVm vm₁).pushCell { cls := cX, slots := kX.instanceTypes.map defaultValue, vm := .none } = T1 at X₁ st1
  have hcellA : T1.heap[T.heap.size]? = some (freshCell cX kX) := by rw [← hT1]; exact State.heap_pushCell_size _ _
  obtain ⟨U, hsteps, hrun, hend, hW, hsame, cf, hcf, K⟩ := X₁.ctorThrowS hx htr (own := "FleetWaves") (cls := AE) (names := aeUp) (ic := 129) hown' (by decide +kernel) (by decide +kernel) hat (fun y hy => by cases hy) hfX hkX hcellA (by rw [hh']; exact Nat.le_refl _) (msg := .ref sa) rfl
    (g := F0 m 38 ls [.ref sa, .ref T.heap.size, .ref T.heap.size]) rfl hsize rfl rfl (rest := []) rfl (by rw [hb]; exact d_F_share_38) (by rw [hb]; exact d_F_share_41) (covers_of_empty hnh _) (by show 2 + 3 < R.frames; omega) (by show 2 * 0 + 1 + (13 * (2 + 1) + 42) ≤ R.locals; omega) hlocks
  have hkeep : ∀ (a : Nat) (cell : Cell), T.heap[a]? = some cell → U.heap[a]? = some cell := by
    intro a cell h
    obtain ⟨c', h1, h2, h3, h4⟩ := hsame.2.2.2.2.2 a cell (by rw [hh']; exact h)
    have h5 : c'.slots = cell.slots := by
      apply Array.ext_getElem?
      intro i
      exact h4 i (by simp)
    have h6 : c' = cell := by rw [h2, h5]
    rw [← h6]
    exact h1
  refine ⟨U, ?_, T.heap.size, hrun, hend, cf, hp.keep (H1 := U.heap) (fun a cell h => hkeep a cell (by rw [hT]; exact h)), hcf, K.vm, by rw [← hvm']; exact K.cls, ⟨?_, ?_⟩, ?_, ?_⟩
  · refine st1 _ ?_
    show Steps p.tables e below (T1.setTop { method := m, pc := 35, locals := ls, stack := [.ref T.heap.size], locked := none }) _
    jvm_step X₁.here [X₁.here.top, hx, hb, d_F_share_35, Value.category]
    exact X₁.ldcString hx (own := "FleetWaves") (text := "no reports") (index := 127) (a := sa) hown' hsr.1 hsr.2 (g := F0 m 36 ls [.ref T.heap.size, .ref T.heap.size]) rfl (by rw [hb]; exact d_F_share_36) _ hsteps
  · have h1 : s'.heap.size ≤ U.heap.size := hsame.2.1
    rw [hh', hT] at h1
    exact Nat.le_trans hs.1 h1
  · intro q h1 h2
    have h3 := hs.2.1 q h1 h2
    rw [Array.getElem?_eq_getElem h1] at h3 ⊢
    exact hkeep q _ (by rw [hT]; exact h3)
  · have hW2 := hW
    rw [hs'] at hW2
    exact hW2
  · refine ⟨locs, ?_, hs.2.2⟩
    have h9 : (T.setVm s.vm).sameButNew ({ U with vm := s.vm } : State) [] 1 6 := by
      obtain ⟨a1, a2, a3, a4, a5, a6⟩ := hsame
      rw [hs'] at a1 a2 a3 a4 a5 a6
      refine ⟨?_, a2, a3, a4, a5, a6⟩
      have b1 := hsm.1
      have b2 : (T.setVm s.vm).setFrames U.frames = ({ (s.setFrames T.frames).setFrames U.frames with heap := T.heap, slotsUsed := T.slotsUsed } : State) := congrArg (fun z : State => z.setFrames U.frames) b1
      rw [State.setFrames_setFrames] at b2
      show ({ U with vm := s.vm } : State) = ({ (T.setVm s.vm).setFrames U.frames with heap := U.heap, slotsUsed := U.slotsUsed } : State)
      rw [b2]
      exact a1
    have h10 := hsm.trans h9
    rw [List.append_nil] at h10
    exact h10
