section EY
variable {p : Program} {l : Launch} {e : Env} {R : Room} {s : State} {m : MethodId} {args : Array Value} {below : List Frame} {meth : Method} {c : Code} {T : State} {H : Heap} {locs : List Loc} {cells slots : Nat} {Q : State → Prop}
variable {Qc : Array Value → State → Outcome → State → Prop} {XC : String → State → State → Prop} {mc ms : Nat} {free : Addr → Prop}
/-- the state of a walk, taken as if its method began there: all that was written before is part of the start -/
def ex_at (s T : State) (m : MethodId) (args : Array Value) (below : List Frame) : State := (T.setVm s.vm).setFrames (.invoking m args :: below)
theorem ex_at_heap : (ex_at s T m args below).heap = T.heap := rfl
theorem ex_at_vm : (ex_at s T m args below).vm = s.vm := rfl
theorem ex_here (X : Stand p l e R s m args below meth c T locs cells slots) {R' : Room} (hf : R'.frames ≤ R.frames) (hl : R'.locals ≤ R.locals) (hc : cells + R'.cells ≤ R.cells) (hs : slots + R'.slots ≤ R.slots) :
    Stand p l e R' (ex_at s T m args below) m args below meth c T [] 0 0 := by
  obtain ⟨g₀, hg₀⟩ := X.frames_eq
  have hg₁ : (T.setVm s.vm).frames = .java g₀ :: below := hg₀
  have hcur : (T.setVm s.vm).cur < (T.setVm s.vm).threads.size := State.cur_lt_of_frames hg₁
  have hF : (ex_at s T m args below).frames = .invoking m args :: below := State.frames_setFrames _ hcur
  have hroom : (ex_at s T m args below).hasRoom e.platform R' = true := by
    have h := X.room
    have hu : (ex_at s T m args below).localsInUse = s.localsInUse := by
      rw [State.localsInUse_invoking hF (meth := meth) (c := c) X.method X.code, State.localsInUse_invoking X.frames X.method X.code]
    have h1 := X.heapSize
    have h2 := X.used
    have h3 : e.platform.stackLimits (ex_at s T m args below).me = e.platform.stackLimits s.me := by
      unfold ex_at
      rw [State.stackLimits_setFrames]
      exact X.limits
    have h4 : (ex_at s T m args below).me.stackBytes = s.me.stackBytes := by
      unfold ex_at
      rw [State.stackBytes_setFrames]
      exact X.bytes
    have h5 : (ex_at s T m args below).heap.size = T.heap.size := rfl
    have h6 : (ex_at s T m args below).slotsUsed = T.slotsUsed := rfl
    have h7 : (ex_at s T m args below).slotsTrue = true := X.book
    simp only [State.hasRoom, Bool.and_eq_true, decide_eq_true_eq] at h ⊢
    obtain ⟨⟨⟨⟨a1, a2, a3, a4, a5, a6⟩, a7⟩, a8⟩, a9⟩ := h
    rw [X.frames, List.length_cons] at a2 a3
    simp only [hF, hu, h3, h4, h5, h6, List.length_cons]
    exact ⟨⟨⟨⟨by omega, by omega, by omega, by omega, by omega, a6⟩, by omega⟩, by omega⟩, h7⟩
  have hsame : (ex_at s T m args below).sameButNew (T.setVm (ex_at s T m args below).vm) [] 0 0 := by
    refine ⟨?_, Nat.le_refl _, Nat.le_refl _, ?_, ?_, fun a c9 h9 => ⟨c9, h9, rfl, rfl, fun _ _ => rfl⟩⟩
    · obtain ⟨t, ht, -⟩ := State.frames_cons hg₁
      show T.setVm s.vm = { (ex_at s T m args below).setFrames (T.setVm s.vm).frames with heap := T.heap, slotsUsed := T.slotsUsed }
      unfold ex_at
      rw [State.setFrames_setFrames, State.setFrames_self ht]
      rfl
    · have hd : T.heap.toList.drop T.heap.size = [] := List.drop_eq_nil_of_le (Nat.le_of_eq Array.length_toList)
      show T.slotsUsed = T.slotsUsed + ((T.heap.toList.drop T.heap.size).map (·.slots.size)).sum
      rw [hd]
      rfl
    · have hd : T.heap.toList.drop T.heap.size = [] := List.drop_eq_nil_of_le (Nat.le_of_eq Array.length_toList)
      show ((T.heap.toList.drop T.heap.size).map (·.slots.size)).sum ≤ 0
      rw [hd]
      exact Nat.le_refl _
  exact ⟨X.admits, X.cas, X.clock, hF, hroom, X.hears, X.method, X.code, X.here, X.tail, X.warmed, by unfold ex_at; rw [State.stackLimits_setFrames]; rfl, by unfold ex_at; rw [State.stackBytes_setFrames]; rfl, hsame⟩
/-- 'throw new E("text")' where nothing here catches it -/
theorem ex_throw {cc : ByteArray} {pc : Nat} {ls : Array Slot} {rest : List Value} (hexec : p.tables.exec = Jvm.exec) (hb : c.code = cc) (hl : l.stackTraces = false) {own cls text : String} {names : List String} {ik is ic sa : Nat}
    (hown : s.vm.findClass own = some m.cls) (hcls : Bundle.fit cls = true) (hnames : ∀ n ∈ names, Bundle.fit n = true)
    (hw : ∀ T : State, T.heap = H → s.WarmedH T.vm → ∀ w ∈ Cond.classLink own ik cls :: Cond.initialized cls :: Cond.stringRef own is text :: Bundle.ownAtoms own ic cls names, w.before args (ex_at s T m args below) = true)
    (hstr : ∀ T : State, T.heap = H → s.WarmedH T.vm → (Term.string own is).eval args (ex_at s T m args below) none [] (ex_at s T m args below) = some (.ref sa)) (hsize : ls.size = c.maxLocals) (htab : c.exceptionTable.toList = [])
    (d0 : decode cc pc = .ok (.new ik, 3)) (d3 : decode cc (pc + 3) = .ok (.dup, 1)) (d4 : decode cc (pc + 4) = .ok (.ldc is, 2)) (d6 : decode cc (pc + 6) = .ok (.invokespecial ic, 3)) (d9 : decode cc (pc + 9) = .ok (.athrow, 1))
    (hfr : names.length + 3 < R.frames) (hlo : (rest.map fun v => v.category).sum + (13 * (names.length + 1) + 43) ≤ R.locals) (hce : cells + 1 ≤ R.cells) (hsl : slots + 6 ≤ R.slots) (hlocks : meth.locks = false)
    (hx : ∀ t : State, H.size ≤ t.heap.size → (∀ q : Nat, q < H.size → t.heap[q]? = H[q]?) → XC cls s t)
    (hf : ∀ z ∈ locs, free z.base) (hc : cells + 1 ≤ mc) (hs : slots + 6 ≤ ms) :
    W p l e R s m args below meth c H locs cells slots (ex_MQ below Qc XC args s mc ms free) (F0 m pc ls rest) := by
  intro T hT X
  have htr : e.platform.stackTraces = false := (show e.platform.stackTraces = l.stackTraces by rw [X.admits.platform]).trans hl
  have Y := ex_here X (R' := { frames := R.frames, locals := R.locals, cells := 1, slots := 6 }) (Nat.le_refl _) (Nat.le_refl _) hce hsl
  have ws := hw T hT X.warmed
  have hev := hstr T hT X.warmed
  generalize hZ : ex_at s T m args below = Z at Y ws hev
  have zvm : Z.vm = s.vm := by rw [← hZ]; rfl
  have zhp : Z.heap = T.heap := by rw [← hZ]; rfl
  have hownZ : Z.vm.findClass own = some m.cls := by rw [zvm]; exact hown
  have w0 := ws _ List.mem_cons_self
  have w1 := ws _ (List.mem_cons_of_mem _ List.mem_cons_self)
  have w2 := ws _ (List.mem_cons_of_mem _ (List.mem_cons_of_mem _ List.mem_cons_self))
  have w3 : ∀ w ∈ Bundle.ownAtoms own ic cls names, w.before args Z = true := fun w h => ws w (List.mem_cons_of_mem _ (List.mem_cons_of_mem _ (List.mem_cons_of_mem _ h)))
  have wi : (Cond.instantiable cls 6).before args Z = true := w3 _ (by simp [Bundle.ownAtoms])
  obtain ⟨vm₁, cX, kX, hfX, hkX, -, -, X₁, st1⟩ := Y.newCold hexec hownZ w0 wi w1 (g := F0 m pc ls rest) rfl (by rw [hb]; exact d0) (Nat.le_refl _) (Nat.le_refl _)
  generalize hT1 : (T.setVm vm₁).pushCell { cls := cX, slots := kX.instanceTypes.map defaultValue, vm := .none } = T1 at X₁ st1
  have hnew : T1.heap[T.heap.size]? = some (freshCell cX kX) := by rw [← hT1]; exact State.heap_pushCell_size _ _
  have d3' : decode c.code (pc + 3) = .ok (.dup, 1) := by rw [hb]; exact d3
  obtain ⟨U, hsteps, hrun, hend, hW, hsame, ce, hce9, hO⟩ := X₁.ctorThrowS hexec htr (own := own) (cls := cls) (names := names) (ic := ic) hownZ hcls hnames w3 (fun x hx => nomatch hx) hfX hkX hnew (by rw [zhp]; exact Nat.le_refl _) (msg := .ref sa) rfl
    (g := { method := m, pc := pc + 6, locals := ls, stack := .ref sa :: .ref T.heap.size :: .ref T.heap.size :: rest, locked := none }) rfl hsize rfl rfl (rest := rest) rfl
    (by rw [hb]; exact d6) (by rw [hb]; exact d9) (by rw [htab]; exact fun x hx => nomatch hx) hfr (by
      have hcat : (Value.ref T.heap.size).category = 1 := rfl
      simp only [List.map_cons, List.sum_cons, hcat, JFrame.monitorRoom]
      simp
      omega) hlocks
  have hkeep : T.heap.size ≤ U.heap.size ∧ ∀ q : Nat, q < T.heap.size → U.heap[q]? = T.heap[q]? := by
    obtain ⟨-, k2, -, -, -, k6⟩ := hsame
    rw [zhp] at k2 k6
    refine ⟨k2, fun q hq => ?_⟩
    obtain ⟨c9, e1, e2, e3, e4⟩ := k6 q _ (Array.getElem?_eq_getElem hq)
    have hsl9 : c9.slots = (T.heap[q]).slots := Array.ext_getElem? fun i => e4 i (fun hm => nomatch hm)
    have h9 : c9 = T.heap[q] := by
      rw [hsl9] at e2
      exact e2
    have e5 : U.heap[q]? = some c9 := e1
    rw [e5, h9, Array.getElem?_eq_getElem hq]
  have hWs : s.WarmedH U.vm := by
    have h9 := hW
    rw [← hZ] at h9
    exact h9
  have hcl : s.vm.findClass cls = some ce.cls := by
    have h9 := hO.cls
    rw [zvm] at h9
    exact h9
  have hall : s.sameButNew ({ U with vm := s.vm } : State) locs mc ms := by
    subst hZ
    obtain ⟨e1, e2⟩ := hsame
    unfold ex_at at e1
    rw [State.setFrames_setFrames] at e1
    have h2 : (T.setVm s.vm).sameButNew ({ U with vm := s.vm } : State) [] (0 + 1) (0 + 6) := ⟨e1, e2⟩
    have h3 := X.same.trans h2
    rw [List.append_nil] at h3
    exact h3.mono hc hs
  refine ⟨U, ?_, .threw T.heap.size, hrun, hend, Or.inr ⟨T.heap.size, cls, ce, locs, rfl, hx U (by rw [← hT]; exact hkeep.1) (fun q hq => by rw [← hT] at hq ⊢; exact hkeep.2 q hq), hce9, hO.vm, hcl, hWs, hall, hf⟩⟩
  refine st1 _ ?_
  show Steps p.tables e below (T1.setTop { method := m, pc := pc + 3, locals := ls, stack := .ref T.heap.size :: rest, locked := none }) _
  jvm_step X₁.here [X₁.here.top, hexec, d3', Value.category]
  exact X₁.ldcString hexec (own := own) (text := text) (index := is) (a := sa) hownZ w2 hev
    (g := { method := m, pc := pc + 4, locals := ls, stack := .ref T.heap.size :: .ref T.heap.size :: rest, locked := none }) rfl (by rw [hb]; exact d4) _ hsteps
end EY
