section EY2
variable {p : Program} {l : Launch} {e : Env} {R : Room} {s : State} {m : MethodId} {args : Array Value} {below : List Frame} {meth : Method} {c : Code} {T : State} {H : Heap} {locs : List Loc} {cells slots : Nat} {Q : State → Prop}
variable {Qc : Array Value → State → Outcome → State → Prop} {XC : String → State → State → Prop} {mc ms : Nat} {free : Addr → Prop}
theorem ex_throwN {cc : ByteArray} {pc : Nat} {ls : Array Slot} {rest : List Value} (hexec : p.tables.exec = Jvm.exec) (hb : c.code = cc) (hl : l.stackTraces = false) {own cls sup text : String} {names : List String} {ik is ic ix sa : Nat} {rx : ByteArray} (x0 : decode rx 0 = .ok (.aload_n 0, 1)) (x1 : decode rx 1 = .ok (.aload_n 1, 1)) (x2 : decode rx 2 = .ok (.invokespecial ix, 3)) (x5 : decode rx 5 = .ok (.return_, 1))
    (hown : s.vm.findClass own = some m.cls) (hcls : Bundle.fit cls = true) (hsup : Bundle.fit sup = true) (hnames : ∀ n ∈ names, Bundle.fit n = true)
    (hw : ∀ T : State, T.heap = H → s.WarmedH T.vm → ∀ w ∈ Cond.classLink own ik cls :: Cond.initialized cls :: Cond.stringRef own is text :: ex_atoms own ic cls ix rx sup names, w.before args (ex_at s T m args below) = true)
    (hstr : ∀ T : State, T.heap = H → s.WarmedH T.vm → (Term.string own is).eval args (ex_at s T m args below) none [] (ex_at s T m args below) = some (.ref sa)) (hsize : ls.size = c.maxLocals) (htab : c.exceptionTable.toList = [])
    (d0 : decode cc pc = .ok (.new ik, 3)) (d3 : decode cc (pc + 3) = .ok (.dup, 1)) (d4 : decode cc (pc + 4) = .ok (.ldc is, 2)) (d6 : decode cc (pc + 6) = .ok (.invokespecial ic, 3)) (d9 : decode cc (pc + 9) = .ok (.athrow, 1))
    (hfr : names.length + 4 < R.frames) (hlo : (rest.map fun v => v.category).sum + (13 * (names.length + 2) + 43) ≤ R.locals) (hce : cells + 1 ≤ R.cells) (hsl : slots + 6 ≤ R.slots) (hlocks : meth.locks = false)
    (hx : ∀ t : State, H.size ≤ t.heap.size → (∀ q : Nat, q < H.size → t.heap[q]? = H[q]?) → XC cls s t)
    (hf : ∀ z ∈ locs, free z.base) (hc : cells + 1 ≤ mc) (hs : slots + 6 ≤ ms) :
    W p l e R s m args below meth c H locs cells slots (ex_MQ below Qc XC args s mc ms free) (F0 m pc ls rest) := by
  intro T hT X
  have htr : e.platform.stackTraces = false := (show e.platform.stackTraces = l.stackTraces by rw [X.admits.platform]).trans hl
  have Y := ex_here X (R' := { frames := R.frames, locals := R.locals, cells := 1, slots := 6 }) (Nat.le_refl _) (Nat.le_refl _) hce hsl
  have ws := hw T hT X.warmed
  have hev := hstr T hT X.warmed
  generalize hZ : ex_at s T m args below = Z at Y ws hev
  have zvm : Z.vm = s.vm := by rw [← hZ]; rfl
  have zhp : Z.heap = T.heap := by rw [← hZ]; rfl
  have hownZ : Z.vm.findClass own = some m.cls := by rw [zvm]; exact hown
  have w0 := ws _ List.mem_cons_self
  have w1 := ws _ (List.mem_cons_of_mem _ List.mem_cons_self)
  have w2 := ws _ (List.mem_cons_of_mem _ (List.mem_cons_of_mem _ List.mem_cons_self))
  have w3 : ∀ w ∈ ex_atoms own ic cls ix rx sup names, w.before args Z = true := fun w h => ws w (List.mem_cons_of_mem _ (List.mem_cons_of_mem _ (List.mem_cons_of_mem _ h)))
  have wi : (Cond.instantiable cls 6).before args Z = true := w3 _ (by simp [ex_atoms])
  obtain ⟨vm₁, cX, kX, hfX, hkX, -, -, X₁, st1⟩ := Y.newCold hexec hownZ w0 wi w1 (g := F0 m pc ls rest) rfl (by rw [hb]; exact d0) (Nat.le_refl _) (Nat.le_refl _)
  generalize hT1 : (T.setVm vm₁).pushCell { cls := cX, slots := kX.instanceTypes.map defaultValue, vm := .none } = T1 at X₁ st1
  have hnew : T1.heap[T.heap.size]? = some (freshCell cX kX) := by rw [← hT1]; exact State.heap_pushCell_size _ _
  have d3' : decode c.code (pc + 3) = .ok (.dup, 1) := by rw [hb]; exact d3
  obtain ⟨U, hsteps, hrun, hend, hW, hsame, ce, hce9, hOv, hOc⟩ := ex_ctorN X₁ hexec htr (own := own) (cls := cls) (sup := sup) (names := names) (ic := ic) x0 x1 x2 x5 hownZ hcls hsup hnames w3 hfX hkX hnew (by rw [zhp]; exact Nat.le_refl _) (msg := .ref sa) rfl
    (g := { method := m, pc := pc + 6, locals := ls, stack := .ref sa :: .ref T.heap.size :: .ref T.heap.size :: rest, locked := none }) rfl hsize rfl rfl (rest := rest) rfl
    (by rw [hb]; exact d6) (by rw [hb]; exact d9) (by rw [htab]; exact fun x hx => nomatch hx) hfr (by
      have hcat : (Value.ref T.heap.size).category = 1 := rfl
      simp only [List.map_cons, List.sum_cons, hcat, JFrame.monitorRoom]
      simp
      omega) hlocks
  have hkeep : T.heap.size ≤ U.heap.size ∧ ∀ q : Nat, q < T.heap.size → U.heap[q]? = T.heap[q]? := by
    obtain ⟨-, k2, -, -, -, k6⟩ := hsame
    rw [zhp] at k2 k6
    refine ⟨k2, fun q hq => ?_⟩
    obtain ⟨c9, e1, e2, e3, e4⟩ := k6 q _ (Array.getElem?_eq_getElem hq)
    have hsl9 : c9.slots = (T.heap[q]).slots := Array.ext_getElem? fun i => e4 i (fun hm => nomatch hm)
    have h9 : c9 = T.heap[q] := by
      rw [hsl9] at e2
      exact e2
    have e5 : U.heap[q]? = some c9 := e1
    rw [e5, h9, Array.getElem?_eq_getElem hq]
  have hWs : s.WarmedH U.vm := by
    have h9 := hW
    rw [← hZ] at h9
    exact h9
  have hcl : s.vm.findClass cls = some ce.cls := by
    have h9 := hOc
    rw [zvm] at h9
    exact h9
  have hall : s.sameButNew ({ U with vm := s.vm } : State) locs mc ms := by
    subst hZ
    obtain ⟨e1, e2⟩ := hsame
    unfold ex_at at e1
    rw [State.setFrames_setFrames] at e1
    have h2 : (T.setVm s.vm).sameButNew ({ U with vm := s.vm } : State) [] (0 + 1) (0 + 6) := ⟨e1, e2⟩
    have h3 := X.same.trans h2
    rw [List.append_nil] at h3
    exact h3.mono hc hs
  refine ⟨U, ?_, .threw T.heap.size, hrun, hend, Or.inr ⟨T.heap.size, cls, ce, locs, rfl, hx U (by rw [← hT]; exact hkeep.1) (fun q hq => by rw [← hT] at hq ⊢; exact hkeep.2 q hq), hce9, hOv, hcl, hWs, hall, hf⟩⟩
  refine st1 _ ?_
  show Steps p.tables e below (T1.setTop { method := m, pc := pc + 3, locals := ls, stack := .ref T.heap.size :: rest, locked := none }) _
  jvm_step X₁.here [X₁.here.top, hexec, d3', Value.category]
  exact X₁.ldcString hexec (own := own) (text := text) (index := is) (a := sa) hownZ w2 hev
    (g := { method := m, pc := pc + 4, locals := ls, stack := .ref T.heap.size :: .ref T.heap.size :: rest, locked := none }) rfl (by rw [hb]; exact d4) _ hsteps
end EY2
-- the methods of the class: their end by a throw, over one world
def ct_X {S : Type} (D : va_G) (A : Nat → Prop) (xp : String → S → Prop) (wf : S → va_W) : String → State → State → Prop := fun E st t => (∃ u, xp E u ∧ ct_at D A (wf u) t) ∧ va_F A st t
def ev_D (U : State) : Prop := ev_N U ∧ ev_T U
theorem ev_D.to {s U : State} (hW : s.WarmedH U.vm) (hk : st_same s U) (h : ev_D s) : ev_D U := ⟨h.1.warm hW, h.2.to hW hk⟩
theorem ev_D.same {s U : State} (hv : s.vm = U.vm) (hk : st_same s U) (h : ev_D s) : ev_D U := ⟨h.1.same hv, h.2.same hv hk⟩
theorem ev_D.blind (U : State) (g : JFrame) (mk : MethodId) (a : Array Value) (h : ev_D U) : ev_D (U.calling g mk a) := ev_D.same (s := U) (U := U.calling g mk a) rfl (fun _ _ h1 _ => h1) h
theorem ev_N.blind (U : State) (g : JFrame) (mk : MethodId) (a : Array Value) (h : ev_N U) : ev_N (U.calling g mk a) := ev_N.same (s := U) (U := U.calling g mk a) rfl h
theorem st_at {D : va_G} {cl : List vw_C} {q : Nat × va_E} {H : Heap} (h : va_at D cl q H) {cell : Cell} (hc : H[q.1]? = some cell) : cell.vm = .none := by
  obtain ⟨a, x⟩ := q
  cases x with
  | inl y =>
    have h1 : H[a]? = some (vp_cell y.1 y.2) := h
    have h2 : H[a]? = some cell := hc
    rw [h1] at h2
    cases h2
    obtain ⟨y1, n, f⟩ := y
    rcases f with f | f | f | f | f <;> rfl
  | inr y =>
    obtain ⟨r, -, c2, g1, -, g3, -⟩ := h
    have h2 : H[a]? = some cell := hc
    have h1 : H[a]? = some c2 := g1
    rw [h1] at h2
    cases h2
    exact g3
theorem st_of {s : State} {D : va_G} {cl : List vw_C} {w : va_W} {A : Nat → Prop} {H : Heap} {locs : List Loc} (hP0 : va_P D cl w s.heap) (hAe : va_A w s.heap.size = A) (hS : va_S A s.heap H locs) {a : Nat} {cell : Cell} (hc : s.heap[a]? = some cell) (hs : cell.vm.isStatics = true) : H[a]? = some cell := by
  have hlt := (Array.getElem?_eq_some_iff.mp hc).1
  rw [hS.2.1 a hlt (fun hA => ?_)]
  · exact hc
  · rw [← hAe] at hA
    rcases hA with ⟨k, x, h⟩ | h
    · have h9 := st_at (hP0 k (a, x) h) hc
      rw [h9] at hs
      cases hs
    · omega
section TH
variable {p : Program} {l : Launch} {e : Env} {R : Room} {s : State} {m : MethodId} {args : Array Value} {below : List Frame} {meth : Method} {c : Code} {H : Heap} {locs : List Loc} {cells slots : Nat}
variable {Qc : Array Value → State → Outcome → State → Prop} {mc ms : Nat} {A : Nat → Prop} {D : va_G} {w0 : va_W} {S : Type} {xp : String → S → Prop} {wf : S → va_W} {cc : ByteArray} {pc : Nat} {ls : Array Slot} {rest : List Value}
theorem th_x (cls : String) (u : S) (hxp : xp cls u) (hP : va_P D vwCl (wf u) H) (hD : va_D A (wf u)) (hS : va_S A s.heap H locs) : ∀ t : State, H.size ≤ t.heap.size → (∀ q : Nat, q < H.size → t.heap[q]? = H[q]?) → ct_X D A xp wf cls s t := by
  intro t h1 h2
  refine ⟨⟨u, hxp, fun k q hq => (hP k q hq).kept (h2 q.1 (hP k q hq).lt), hD⟩, Nat.le_trans hS.1 h1, fun q hq hA => ?_⟩
  rw [h2 q (Nat.lt_of_lt_of_le hq hS.1)]
  exact hS.2.1 q hq hA
theorem th_throw (hx : p.tables.exec = Jvm.exec) (hb : c.code = cc) (hl : l.stackTraces = false) {cls text : String} {ik is ic : Nat} (hown : s.vm.findClass "HearingDesk" = some m.cls) (hP0 : va_P D vwCl w0 s.heap) (hAe : va_A w0 s.heap.size = A)
    (hts : ∀ w ∈ W0, w.before args s = true) (hT : ev_T s) (hcls : Bundle.fit cls = true) (h3 : [Cond.classLink "HearingDesk" ik cls, Cond.initialized cls, Cond.stringRef "HearingDesk" is text].all thG = true) (hall : (Bundle.ownAtoms "HearingDesk" ic cls th_up).all thG = true)
    (hml : ls.size = c.maxLocals) (htab : c.exceptionTable.toList = []) (d0 : decode cc pc = .ok (.new ik, 3)) (d3 : decode cc (pc + 3) = .ok (.dup, 1)) (d4 : decode cc (pc + 4) = .ok (.ldc is, 2)) (d6 : decode cc (pc + 6) = .ok (.invokespecial ic, 3)) (d9 : decode cc (pc + 9) = .ok (.athrow, 1))
    (hlocks : meth.locks = false) (u : S) (hxp : xp cls u) (hP : va_P D vwCl (wf u) H) (hD : va_D A (wf u)) (hS : va_S A s.heap H locs)
    (hfr : 5 < R.frames) (hlo : (rest.map fun v => v.category).sum + 82 ≤ R.locals) (hce : cells + 1 ≤ R.cells) (hsl : slots + 6 ≤ R.slots) (hc : cells + 1 ≤ mc) (hs : slots + 6 ≤ ms) :
    W p l e R s m args below meth c H locs cells slots (ex_MQ below Qc (ct_X D A xp wf) args s mc ms A) (F0 m pc ls rest) := by
  have hkeep : ∀ T : State, T.heap = H → st_same s (ex_at s T m args below) := fun T hT9 a cell h1 h2 => by
    show T.heap[a]? = some cell
    rw [hT9]
    exact st_of hP0 hAe hS h1 h2
  have hstr := th_use (A' := args) (U := s) rfl (fun _ _ h _ => h) hts hT (List.all_eq_true.mp h3 (Cond.stringRef "HearingDesk" is text) (by simp))
  obtain ⟨k9, cf9, i9, sa, -, -, -, -, -, hev⟩ := Cond.stringRef_spec hown hstr
  refine ex_throw (sa := sa) (text := text) (names := th_up) hx hb hl hown hcls (by decide +kernel) (fun T hT9 _ w hw => ?_) (fun T _ _ => ?_) hml htab d0 d3 d4 d6 d9 hfr hlo hce hsl hlocks (th_x cls u hxp hP hD hS) hS.2.2 hc hs
  · rcases List.mem_cons.mp hw with rfl | hw
    · exact th_use (U := ex_at s T m args below) (show s.vm = s.vm from rfl) (hkeep T hT9) hts hT (List.all_eq_true.mp h3 _ List.mem_cons_self)
    rcases List.mem_cons.mp hw with rfl | hw
    · exact th_use (U := ex_at s T m args below) (show s.vm = s.vm from rfl) (hkeep T hT9) hts hT (List.all_eq_true.mp h3 _ (List.mem_cons_of_mem _ List.mem_cons_self))
    rcases List.mem_cons.mp hw with rfl | hw
    · exact th_use (U := ex_at s T m args below) (show s.vm = s.vm from rfl) (hkeep T hT9) hts hT (List.all_eq_true.mp h3 _ (List.mem_cons_of_mem _ (List.mem_cons_of_mem _ List.mem_cons_self)))
    · exact th_use (U := ex_at s T m args below) (show s.vm = s.vm from rfl) (hkeep T hT9) hts hT (List.all_eq_true.mp hall w hw)
  · exact hev
theorem th_throwN (hx : p.tables.exec = Jvm.exec) (hb : c.code = cc) (hl : l.stackTraces = false) {text : String} {is : Nat} (hown : s.vm.findClass "HearingDesk" = some m.cls) (hP0 : va_P D vwCl w0 s.heap) (hAe : va_A w0 s.heap.size = A)
    (hts : ∀ w ∈ W0, w.before args s = true) (hT : ev_T s) (h3 : [Cond.classLink "HearingDesk" 162 th_NS, Cond.initialized th_NS, Cond.stringRef "HearingDesk" is text].all thG = true)
    (hml : ls.size = c.maxLocals) (htab : c.exceptionTable.toList = []) (d0 : decode cc pc = .ok (.new 162, 3)) (d3 : decode cc (pc + 3) = .ok (.dup, 1)) (d4 : decode cc (pc + 4) = .ok (.ldc is, 2)) (d6 : decode cc (pc + 6) = .ok (.invokespecial 166, 3)) (d9 : decode cc (pc + 9) = .ok (.athrow, 1))
    (hlocks : meth.locks = false) (u : S) (hxp : xp th_NS u) (hP : va_P D vwCl (wf u) H) (hD : va_D A (wf u)) (hS : va_S A s.heap H locs)
    (hfr : 5 < R.frames) (hlo : (rest.map fun v => v.category).sum + 82 ≤ R.locals) (hce : cells + 1 ≤ R.cells) (hsl : slots + 6 ≤ R.slots) (hc : cells + 1 ≤ mc) (hs : slots + 6 ≤ ms) :
    W p l e R s m args below meth c H locs cells slots (ex_MQ below Qc (ct_X D A xp wf) args s mc ms A) (F0 m pc ls rest) := by
  have hkeep : ∀ T : State, T.heap = H → st_same s (ex_at s T m args below) := fun T hT9 a cell h1 h2 => by
    show T.heap[a]? = some cell
    rw [hT9]
    exact st_of hP0 hAe hS h1 h2
  have hstr := th_use (A' := args) (U := s) rfl (fun _ _ h _ => h) hts hT (List.all_eq_true.mp h3 (Cond.stringRef "HearingDesk" is text) (by simp))
  obtain ⟨k9, cf9, i9, sa, -, -, -, -, -, hev⟩ := Cond.stringRef_spec hown hstr
  refine ex_throwN (sa := sa) (text := text) (sup := "java/lang/RuntimeException") (names := ["java/lang/Exception"]) hx hb hl th_N0 th_N1 th_N2 th_N5 hown (by decide +kernel) (by decide +kernel) (by decide +kernel) (fun T hT9 _ w hw => ?_) (fun T _ _ => ?_) hml htab d0 d3 d4 d6 d9 hfr hlo hce hsl hlocks (th_x th_NS u hxp hP hD hS) hS.2.2 hc hs
  · rcases List.mem_cons.mp hw with rfl | hw
    · exact th_use (U := ex_at s T m args below) (show s.vm = s.vm from rfl) (hkeep T hT9) hts hT (List.all_eq_true.mp h3 _ List.mem_cons_self)
    rcases List.mem_cons.mp hw with rfl | hw
    · exact th_use (U := ex_at s T m args below) (show s.vm = s.vm from rfl) (hkeep T hT9) hts hT (List.all_eq_true.mp h3 _ (List.mem_cons_of_mem _ List.mem_cons_self))
    rcases List.mem_cons.mp hw with rfl | hw
    · exact th_use (U := ex_at s T m args below) (show s.vm = s.vm from rfl) (hkeep T hT9) hts hT (List.all_eq_true.mp h3 _ (List.mem_cons_of_mem _ (List.mem_cons_of_mem _ List.mem_cons_self)))
    · exact th_use (U := ex_at s T m args below) (show s.vm = s.vm from rfl) (hkeep T hT9) hts hT (List.all_eq_true.mp th_NS_w w hw)
  · exact hev
end TH
