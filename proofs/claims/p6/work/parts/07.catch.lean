-- the search of a handler, entries of the method's own table in their order, each linked when it is asked
def ex_F (e : Env) (s : State) (f : JFrame) (a : Addr) (h : Handler) (vm' : Vm) : Prop :=
  ∀ (Q : Handler → Pre) (E : CtlPost) (d : Bool) (acts : List Action), Sem.wp (findHandler f a) Q E e d acts s ↔ Q h d acts (s.setVm vm')
theorem ex_go_ask {e : Env} {s : State} {f : JFrame} {a : Addr} {x : ExceptionTableEntry} {t : List ExceptionTableEntry} {c : ClassId} {cell : Cell} (hx : covers x f.pc = true) (h0 : x.catchType ≠ 0)
    (hl : s.vm.ClassLinks e.platform f.method.cls x.catchType c) (hcell : s.heap[a]? = some cell) (hobj : ∀ k, cell.vm ≠ .statics k)
    (hk : ∃ k, s.vm.classes[cell.cls]? = some k) (hc : ∃ k, s.vm.classes[c]? = some k) (Q : Handler → Pre) (E : CtlPost) (d : Bool) (acts : List Action) :
    Sem.wp (findHandler.go f a (x :: t)) Q E e d acts s ↔
      if s.vm.assignable cell.cls c = true then Q (.found x.handlerPc) d acts (s.setVm (s.vm.noted f.method.cls x.catchType (.cls c))) else Sem.wp (findHandler.go f a t) Q E e d acts (s.setVm (s.vm.noted f.method.cls x.catchType (.cls c))) := by
  simp only [covers] at hx
  obtain ⟨ha, ht⟩ := (resolveClass_links e.toSetting hl).op (op := VmOp.resolveClass f.method.cls x.catchType) rfl
  have hal : s.vm.Alike (s.vm.noted f.method.cls x.catchType (.cls c)) := (Vm.Alike.refl s.vm).noted _ _ _
  obtain ⟨k1, hk1⟩ := hk
  obtain ⟨k2, hk2⟩ := hc
  obtain ⟨k1', hk1', -⟩ := hal.2.2 _ _ hk1
  obtain ⟨k2', hk2', -⟩ := hal.2.2 _ _ hk2
  cases hfit : s.vm.assignable cell.cls c
  · have hf9 : (s.vm.noted f.method.cls x.catchType (.cls c)).assignable cell.cls c = false := by rw [hal.assignable]; exact hfit
    simp [findHandler.go, hx, h0, ha, ht, hcell, hobj, hk1', hk2', hf9, VmOp.dirties, VmOp.acts]
  · have hf9 : (s.vm.noted f.method.cls x.catchType (.cls c)).assignable cell.cls c = true := by rw [hal.assignable]; exact hfit
    simp [findHandler.go, hx, h0, ha, ht, hcell, hobj, hk1', hk2', hf9, VmOp.dirties, VmOp.acts]
/-- the first entry whose class takes an E is the one of handler h; all cover the place -/
def ex_hit (own : String) (args : Array Value) (s : State) (E : String) (pc h : Nat) : List (Nat × Nat × Nat × Nat) → Prop
  | [] => False
  | y :: ys => y.1 ≤ pc ∧ pc < y.2.1 ∧ y.2.2.2 ≠ 0 ∧ ∃ name : String, (Cond.classLink own y.2.2.2 name).before args s = true ∧ (((Cond.castable E name).before args s = true ∧ y.2.2.1 = h) ∨ (va_Nc E name s ∧ ex_hit own args s E pc h ys))
theorem ex_go {e : Env} {s₀ : State} {f : JFrame} {a : Addr} {cell : Cell} {args : Array Value} {own E : String} {h : Nat} (hpl : e.platform.magicAccessors = ({} : Platform).magicAccessors) (hobj : ∀ k, cell.vm ≠ .statics k) (hcl : s₀.vm.findClass E = some cell.cls) (hown : s₀.vm.findClass own = some f.method.cls) :
    ∀ (tab : List ExceptionTableEntry) (S : State), s₀.WarmedH S.vm → S.heap[a]? = some cell → ex_hit own args s₀ E f.pc h (tab.map fun x => (x.startPc, x.endPc, x.handlerPc, x.catchType)) →
      ∃ vm', s₀.WarmedH vm' ∧ ∀ (Q : Handler → Pre) (E : CtlPost) (d : Bool) (acts : List Action), Sem.wp (findHandler.go f a tab) Q E e d acts S ↔ Q (.found h) d acts (S.setVm vm') := by
  obtain ⟨k0, hk0, -⟩ := Vm.findClass_spec hcl
  intro tab
  induction tab with
  | nil => intro S _ _ hh; exact absurd hh (fun z => z)
  | cons x t ih =>
    intro S hW hcell hh
    obtain ⟨c1, c2, c3, name, hlink, hor⟩ := hh
    have hcov : covers x f.pc = true := by
      have h1 : x.startPc ≤ f.pc := c1
      have h2 : f.pc < x.endPc := c2
      simp [covers, h1, h2]
    have h0 : x.catchType ≠ 0 := c3
    obtain ⟨cN, hcN, hlk⟩ := Cond.classLink_spec hown hlink e.platform hpl
    obtain ⟨dk, _, _, kt, hd, _, _, _, _, hkt, _, hopen⟩ := hlk.here
    obtain ⟨k0', hk0', -⟩ := hW.alike.2.2 _ _ hk0
    obtain ⟨kt', hkt', -⟩ := hW.alike.2.2 _ _ hkt
    have hWn : s₀.WarmedH (S.vm.noted f.method.cls x.catchType (.cls cN)) := hW.noted hd hopen (State.rightAt_cls hlk)
    have hask := fun (Q : Handler → Pre) (E : CtlPost) (d : Bool) (acts : List Action) => ex_go_ask (t := t) hcov h0 (hW.classLinks hlk) hcell hobj ⟨k0', hk0'⟩ ⟨kt', hkt'⟩ Q E d acts
    rcases hor with ⟨hcast, hh⟩ | ⟨hno, hrest⟩
    · obtain ⟨e1, e2, f1, f2, hasg⟩ := Cond.castable_spec hcast
      cases Option.some.inj (f1.symm.trans hcl)
      cases Option.some.inj (f2.symm.trans hcN)
      have hfit : S.vm.assignable cell.cls cN = true := by rw [hW.alike.assignable]; exact hasg
      have hh' : x.handlerPc = h := hh
      exact ⟨_, hWn, fun Q E d acts => by rw [hask Q E d acts, if_pos hfit, hh']⟩
    · obtain ⟨e1, e2, f1, f2, hasg⟩ := hno
      cases Option.some.inj (f1.symm.trans hcl)
      cases Option.some.inj (f2.symm.trans hcN)
      have hfit : ¬ S.vm.assignable cell.cls cN = true := by rw [hW.alike.assignable, hasg]; decide
      obtain ⟨vm', hW', hq⟩ := ih (S.setVm (S.vm.noted f.method.cls x.catchType (.cls cN))) hWn hcell hrest
      exact ⟨vm', hW', fun Q E d acts => by rw [hask Q E d acts, if_neg hfit]; exact hq Q E d acts⟩
theorem ex_stepTo {e : Env} {s : State} {a : Addr} {f : JFrame} {r : List Frame} {pc : Nat} {vm' : Vm} (hfind : ex_F e s f a (.found pc) vm') :
    (stepThrowing e s a (.java f :: r)).Is ((s.setVm vm').setFrames (.java { f with pc := pc, stack := [.ref a] } :: r)) [] := by
  simp only [stepThrowing, searchFrame, vmDo]
  generalize hr : Sem.go _ e false [] s = res
  obtain ⟨as, rfl, ha⟩ := Sem.eq_ok_of hr (a := Handler.found pc) (s' := s.setVm vm') (acts' := []) (by simp [hfind _ _ _ _])
  exact ⟨rfl, ha⟩
section EC
variable {p : Program} {l : Launch} {e : Env} {R : Room} {s : State} {m : MethodId} {args : Array Value} {below : List Frame} {meth : Method} {c : Code} {H : Heap} {locs : List Loc} {cells slots : Nat} {Q : State → Prop}
/-- an exception that a call here has thrown is caught here -/
theorem ex_catch {own E : String} {ce : Cell} {q : Addr} {pc h : Nat} {ls : Array Slot} {rest : List Value} {hs : List (Nat × Nat × Nat × Nat)} (hown : s.vm.findClass own = some m.cls) (htab : c.exceptionTable.toList.map (fun x => (x.startPc, x.endPc, x.handlerPc, x.catchType)) = hs) (hhit : ex_hit own args s E pc h hs)
    (hcell : H[q]? = some ce) (hv : ce.vm = .none) (hcl : s.vm.findClass E = some ce.cls)
    (kk : W p l e R s m args below meth c H locs cells slots Q (F0 m h ls [.ref q])) : ex_W p l e R s m args below meth c H locs cells slots Q (F0 m pc ls rest) q := by
  intro T hT X
  have hpl : e.platform.magicAccessors = ({} : Platform).magicAccessors := by rw [X.admits.platform]
  have hh0 : ((T.setTop (F0 m pc ls rest)).pushFrame (.throwing q)).heap = T.heap := Stand.throwing_heap _ _ _
  have hv0 : ((T.setTop (F0 m pc ls rest)).pushFrame (.throwing q)).vm = T.vm := Stand.throwing_vm _ _ _
  obtain ⟨vm', hW', hq⟩ := ex_go (e := e) (s₀ := s) (f := F0 m pc ls rest) (a := q) (cell := ce) (args := args) (own := own) (E := E) (h := h) hpl (fun k z => by rw [hv] at z; cases z) hcl hown c.exceptionTable.toList
    ((T.setTop (F0 m pc ls rest)).pushFrame (.throwing q)) (by rw [hv0]; exact X.warmed) (by rw [hh0, hT]; exact hcell) (by rw [htab]; exact hhit)
  have hfind : ex_F e ((T.setTop (F0 m pc ls rest)).pushFrame (.throwing q)) (F0 m pc ls rest) q (.found h) vm' := by
    intro Q9 E9 d9 acts9
    rw [_root_.Jvm.W.findHandler_eq (meth := meth) (code := c) (by rw [hv0]; exact X.method') X.code]
    exact hq Q9 E9 d9 acts9
  obtain ⟨t, a1, b1⟩ := kk (T.setVm vm') hT (X.noted hW')
  refine ⟨t, ?_, b1⟩
  obtain ⟨hgo, hw⟩ := (show At T (F0 m pc ls rest).method c below from X.here).throwing q
  refine Steps.head hgo hw ?_
  rw [stepThread_throwing (frames_entered X.here.top _), (ex_stepTo (s := (T.setTop (F0 m pc ls rest)).pushFrame (.throwing q)) hfind).1]
  obtain ⟨g₀, hg₀⟩ := X.frames_eq
  have hr' : (T.setVm vm').frames = .java g₀ :: below := hg₀
  rw [State.setTop_of_frames _ hr'] at a1
  rw [hg₀, List.tail_cons, State.pushFrame, State.setTop_of_frames _ hg₀]
  have e1 : ∀ (u : State) (F G : List Frame), ((u.setFrames F).setVm vm').setFrames G = (u.setVm vm').setFrames G := fun u F G => by
    have h1 : (u.setFrames F).setVm vm' = (u.setVm vm').setFrames F := rfl
    rw [h1, State.setFrames_setFrames]
  rw [e1, e1]
  exact a1
end EC
