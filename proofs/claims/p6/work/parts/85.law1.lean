-- the law's helpers: methods with a table of handlers, their calls, and calls of the class's methods over a part of a world
def ev_C (U : State) : Prop := va_Nc th_IO th_IA U ∧ va_Nc th_IA th_IO U ∧ va_Nc th_IA th_NS U ∧ va_Nc th_IS th_NS U
theorem ev_C.moved {s U : State} (hv : s.vm.Alike U.vm) (h : ev_C s) : ev_C U := ⟨h.1.moved hv, h.2.1.moved hv, h.2.2.1.moved hv, h.2.2.2.moved hv⟩
def ev_L (U : State) : Prop := ev_D U ∧ ev_C U
theorem ev_L.blind (U : State) (g : JFrame) (mk : MethodId) (a : Array Value) (h : ev_L U) : ev_L (U.calling g mk a) := ⟨ev_D.blind U g mk a h.1, ev_C.moved (s := U) (U := U.calling g mk a) (Vm.Alike.refl U.vm) h.2⟩
theorem ev_L.to {s U : State} (hW : s.WarmedH U.vm) (hk : st_same s U) (h : ev_L s) : ev_L U := ⟨h.1.to hW hk, h.2.moved hW.alike⟩
theorem ex_metW {l : Launch} {y : MethodName} {ws ws' : List Cond} {rm : Room} {Pc : Array Value → State → Prop} {Qc : Array Value → State → Outcome → State → Prop} {mc ms : Nat} {free : Addr → Prop} {cc : ByteArray} {maxL : Nat} {ret : Option FieldType} {hh : List (Nat × Nat × Nat × Nat)}
    (hy : plainName y.cls = true) (hw : ws = Cond.codeWith y cc maxL ret hh :: ws')
    (body : ∀ p e s m args below meth c s₁, BodyLoose p l y (headSpec ws rm) cc maxL ret e s m args below meth c s₁ → c.maxLocals = maxL → c.exceptionTable.toList.map (fun x => (x.startPc, x.endPc, x.handlerPc, x.catchType)) = hh → Pc args s →
      W p l e (headSpec ws rm).room s m args below meth c s.heap [] 0 0 (MQ below Qc args s mc ms free) (entryFrame m args maxL)) : Met l y ws rm Pc Qc mc ms free := by
  refine va_MetW hy hw (fun p e s m args below meth c s₁ B hml hP => ?_)
  have X := Stand.of_body B
  obtain ⟨m9, meth9, c9, hn9, h1, h2, -, -, h5, -⟩ := Cond.codeWith_spec (atoms_spec (ws := ws) B.pre _ (by rw [hw]; exact List.mem_cons_self))
  cases Option.some.inj (hn9.symm.trans B.named)
  cases Option.some.inj (h1.symm.trans B.method)
  cases Option.some.inj (h2.symm.trans X.code)
  exact body p e s m args below meth c s₁ B hml h5 hP
section LR
variable {p : Program} {l : Launch} {e : Env} {R : Room} {s : State} {m : MethodId} {args : Array Value} {below : List Frame} {meth : Method} {c : Code} {H : Heap} {locs : List Loc} {cells slots : Nat} {Q : State → Prop}
theorem sw_runS {y : MethodName} {bytes cc : ByteArray} {maxL nL mc ms n index : Nat} {ret : Option FieldType} {ws' : List Cond} {rm : Room} {Pc : Array Value → State → Prop} {Qc : Array Value → State → Outcome → State → Prop} {free : Addr → Prop} {own : String} {As rest : List Value} {g : JFrame} {hh : List (Nat × Nat × Nat × Nat)}
    (S : CallFix p m c cc nL s args W0 own) (hM : Met l y (Cond.codeWith y bytes maxL ret hh :: W0) rm Pc Qc mc ms free) (hrc : rm.cells = mc) (hrs : rm.slots = ms) (hfr : rm.frames + 1 ≤ R.frames) (hlo : 8 + (maxL + 11) + rm.locals ≤ R.locals)
    (hcw : Cond.codeWith y bytes maxL ret hh ∈ W0) (hst : Cond.static y ∈ W0) (hin : Cond.initialized y.cls ∈ W0) (hlk : Cond.methodLink own index y ∈ W0) (hy : y.cls ≠ "java/lang/invoke/MethodHandle" ∧ y.cls ≠ "java/lang/invoke/VarHandle" ∧ (parseMethodDescriptor y.desc).map (fun d => d.parameters.length) = some n) (hp : PreS s H Pc As)
    (hg : g.method = m) (hn : As.length = n) (hsize : g.locals.size = nL) (hstack : g.stack = As.reverse ++ rest) (hW : 2 * g.monitorRoom + (rest.map fun v => v.category).sum ≤ 8) (hdg : decode cc g.pc = .ok (.invokestatic index, 3)) (hf : cells + mc ≤ R.cells ∧ slots + ms ≤ R.slots) :
    va_Run p l e R s m args below meth c H locs cells slots mc ms g rest (Qc As.toArray) (free) := by
  obtain ⟨hx, hb, hml, ho, hts⟩ := S
  have hws : ∀ w ∈ Cond.codeWith y bytes maxL ret hh :: W0, ∀ (a' : Array Value) (U : State), s.WarmedH U.vm → w.before a' U = true := by
    intro w hw a' U hWm
    have hw0 : w ∈ W0 := by
      rcases List.mem_cons.mp hw with rfl | h
      · exact hcw
      · exact h
    exact word_at hWm (W0_good hw0) (hts w hw0)
  have hK : Back l R p e below s args y 3 8 (PreOf R mc ms Pc) (PostOf Qc mc ms free) := va_backW (hh := hh) (bytes := bytes) (maxL := maxL) (ret := ret) hM hp.1 hrc hrs hfr hlo hws List.mem_cons_self (fun a' U hWm => word_at hWm (W0_good hin) (hts _ hin))
  intro T hT X
  obtain ⟨mk, methM, cM, hnamed, hmethM, -, -, -, -, -, -, hsigM⟩ := Cond.codeWith_spec (show (Cond.codeWith y bytes maxL ret hh).holds args s none s [] = true from hts _ hcw)
  have hstatic : methM.isStatic = true := Cond.static_spec hnamed hmethM (hts _ hst)
  obtain ⟨kP, hkP, -⟩ := className_of_methodNamed hnamed
  have hinitP : kP.init = .initialized := Cond.initialized_spec (findClass_of_methodNamed hnamed) hkP (hts _ hin)
  obtain ⟨vm₁, X₁, hstep₁⟩ := X.invokestatic hx ho (hts _ hlk) hnamed hmethM hstatic hkP hinitP ⟨hy.1, hy.2.1⟩ (g := g) hg (argsL := As) (rest := rest) (by
    have h9 := hy.2.2
    rw [hsigM] at h9
    exact hn.trans (Option.some.inj h9).symm) hstack (by rw [hb]; exact hdg)
  obtain ⟨v, B, X', ⟨g', mk', t, L, e1, e2, hq, h1, hL, h2, h3⟩, hsteps⟩ := hK m meth c ⟨T.setVm vm₁, locs, cells, slots⟩ { g with stack := rest } (.invokestatic index) mk As.toArray X₁ hg (hsize.trans hml.symm) (by rw [hb]; exact hdg) hW (X₁.named hnamed) ⟨hf.1, hf.2, hp.2 (T.setVm vm₁) hT X₁.warmed⟩
  obtain ⟨U', l2, c2, s2⟩ := B
  dsimp only [Pt.U, Pt.locs, Pt.cells, Pt.slots] at X' e1 e2 h1 h2 h3 hsteps
  subst h1; subst h2; subst h3
  exact ⟨v, (T.setVm vm₁).calling g' mk' As.toArray, t, U', L, hT, X', hL, e1, e2, hq, fun target h => hstep₁ _ fun acts => by rw [doInvoke_state]; exact hsteps.trans h⟩
variable {pc : Nat} {ls : Array Slot} {rest st0 : List Value} {A : Nat → Prop} {H0 : Heap} {mc ms : Nat} {D : va_G} {wa wc wb : va_W}
theorem eg_S (hD : va_D A (wa ++ (wc ++ wb))) (hS : va_S A H0 H locs) (hA : ∀ q, H0.size ≤ q → A q) {st t : State} {L : List Loc} (hst : st.heap = H) (hL : ∀ q ∈ L, va_A wc H.size q.base) (hF : va_F (va_A wc H.size) st t) : va_S A H0 t.heap (locs ++ L) := by
  have hf := sg_free hD hS hA
  obtain ⟨h1, h2⟩ := hF
  rw [hst] at h1 h2
  refine ⟨Nat.le_trans hS.1 h1, fun q hq hn => ?_, fun z hz => ?_⟩
  · rw [h2 q (Nat.lt_of_lt_of_le hq hS.1) (fun h => hn (hf q h))]
    exact hS.2.1 q hq hn
  · rcases List.mem_append.mp hz with h | h
    · exact hS.2.2 z h
    · exact hf _ (hL z h)
theorem eg_J {w1 : va_W} (hP : va_P D vwCl (wa ++ (wc ++ wb)) H) (hD : va_D A (wa ++ (wc ++ wb))) (hS : va_S A H0 H locs) (hA : ∀ q, H0.size ≤ q → A q) {st t : State} (hst : st.heap = H) (hF : va_F (va_A wc H.size) st t) (hB : ct_at D (va_A wc H.size) w1 t) : va_P D vwCl (wa ++ (w1 ++ wb)) t.heap ∧ va_D A (wa ++ (w1 ++ wb)) := by
  obtain ⟨h1, h2⟩ := hF
  rw [hst] at h1 h2
  exact sg_join hP hD h2 (sg_free hD hS hA) hB.1 hB.2
variable {S S2 : Type} {xp : String → S2 → Prop} {wfx : S2 → va_W}
variable {y : MethodName} {bytes cc : ByteArray} {maxL nL n index : Nat} {ret : Option FieldType} {ws : List Cond} {rm : Room} {Pc : Array Value → State → Prop} {Ts : List Cond} {own C : String} {b : Addr} {As : List Value}
theorem eg_x (hP : va_P D vwCl (wa ++ (wc ++ wb)) H) (hD : va_D A (wa ++ (wc ++ wb))) (hS : va_S A H0 H locs) (hA : ∀ q, H0.size ≤ q → A q)
    (kx : ∀ (E : String) (ce : Cell) (q : Addr) (u : S2) (H1 : Heap) (locs1 : List Loc), xp E u → va_P D vwCl (wa ++ (wfx u ++ wb)) H1 → va_D A (wa ++ (wfx u ++ wb)) → va_S A H0 H1 locs1 → H1[q]? = some ce → ce.vm = .none → s.vm.findClass E = some ce.cls → ex_W p l e R s m args below meth c H1 locs1 (cells + mc) (slots + ms) Q (F0 m pc ls rest) q) :
    ∀ (E : String) (ce : Cell) (q : Addr) (st t : State) (L : List Loc), st.heap = H → s.vm.Alike t.vm → (∀ q ∈ L, va_A wc H.size q.base) → ct_X D (va_A wc H.size) xp wfx E st t → t.heap[q]? = some ce → ce.vm = .none → s.vm.findClass E = some ce.cls → ex_W p l e R s m args below meth c t.heap (locs ++ L) (cells + mc) (slots + ms) Q (F0 m pc ls rest) q := by
  intro E ce q st t L hst _ hL hX h1 h2 h3
  obtain ⟨⟨u, hxp, hB⟩, hF⟩ := hX
  obtain ⟨hP1, hD1⟩ := eg_J hP hD hS hA hst hF hB
  exact kx E ce q u t.heap (locs ++ L) hxp hP1 hD1 (eg_S hD hS hA hst hL hF) h1 h2 h3
theorem eg_i {post : Int32 → S → Prop} {wf : S → va_W} (Sx : CallFix p m c cc nL s args Ts own) (hM : ex_Met l y ws rm Pc (va_Qi post (fun u t => ct_at D (va_A wc H.size) (wf u) t) (va_A wc H.size)) (ct_X D (va_A wc H.size) xp wfx) mc ms (va_A wc H.size)) (cw : CallW R s args own C index y bytes maxL ret ws rm mc ms n) (hp : PreV s H C b Pc As)
    (hn : As.length = n) (hsize : ls.size = nL) (hstack : st0 = As.reverse ++ .ref b :: rest) (hW : (rest.map fun v => v.category).sum ≤ 8) (hdg : decode cc pc = .ok (.invokevirtual index, 3)) (hf : cells + mc ≤ R.cells ∧ slots + ms ≤ R.slots)
    (hP : va_P D vwCl (wa ++ (wc ++ wb)) H) (hD : va_D A (wa ++ (wc ++ wb))) (hS : va_S A H0 H locs) (hA : ∀ q, H0.size ≤ q → A q)
    (kr : ∀ (r : Int32) (u : S) (H1 : Heap) (locs1 : List Loc), post r u → va_P D vwCl (wa ++ (wf u ++ wb)) H1 → va_D A (wa ++ (wf u ++ wb)) → va_S A H0 H1 locs1 → W p l e R s m args below meth c H1 locs1 (cells + mc) (slots + ms) Q (F0 m (pc + 3) ls (.int r :: rest)))
    (kx : ∀ (E : String) (ce : Cell) (q : Addr) (u : S2) (H1 : Heap) (locs1 : List Loc), xp E u → va_P D vwCl (wa ++ (wfx u ++ wb)) H1 → va_D A (wa ++ (wfx u ++ wb)) → va_S A H0 H1 locs1 → H1[q]? = some ce → ce.vm = .none → s.vm.findClass E = some ce.cls → ex_W p l e R s m args below meth c H1 locs1 (cells + mc) (slots + ms) Q (F0 m pc ls rest) q) :
    W p l e R s m args below meth c H locs cells slots Q (F0 m pc ls st0) := by
  refine ex_callV Sx hM cw hp hn hsize hstack hW hdg hf (fun v st t L hst _ hL hq => ?_) (eg_x hP hD hS hA kx)
  obtain ⟨⟨r, u, hv, hpo, hB⟩, hF⟩ := hq
  cases hv
  obtain ⟨hP1, hD1⟩ := eg_J hP hD hS hA hst hF hB
  exact kr r u t.heap (locs ++ L) hpo hP1 hD1 (eg_S hD hS hA hst hL hF)
theorem eg_d {post : UInt64 → S → Prop} {wf : S → va_W} (Sx : CallFix p m c cc nL s args Ts own) (hM : ex_Met l y ws rm Pc (va_Qd post (fun u t => ct_at D (va_A wc H.size) (wf u) t) (va_A wc H.size)) (ct_X D (va_A wc H.size) xp wfx) mc ms (va_A wc H.size)) (cw : CallW R s args own C index y bytes maxL ret ws rm mc ms n) (hp : PreV s H C b Pc As)
    (hn : As.length = n) (hsize : ls.size = nL) (hstack : st0 = As.reverse ++ .ref b :: rest) (hW : (rest.map fun v => v.category).sum ≤ 8) (hdg : decode cc pc = .ok (.invokevirtual index, 3)) (hf : cells + mc ≤ R.cells ∧ slots + ms ≤ R.slots)
    (hP : va_P D vwCl (wa ++ (wc ++ wb)) H) (hD : va_D A (wa ++ (wc ++ wb))) (hS : va_S A H0 H locs) (hA : ∀ q, H0.size ≤ q → A q)
    (kr : ∀ (r : UInt64) (u : S) (H1 : Heap) (locs1 : List Loc), post r u → va_P D vwCl (wa ++ (wf u ++ wb)) H1 → va_D A (wa ++ (wf u ++ wb)) → va_S A H0 H1 locs1 → W p l e R s m args below meth c H1 locs1 (cells + mc) (slots + ms) Q (F0 m (pc + 3) ls (.double r :: rest)))
    (kx : ∀ (E : String) (ce : Cell) (q : Addr) (u : S2) (H1 : Heap) (locs1 : List Loc), xp E u → va_P D vwCl (wa ++ (wfx u ++ wb)) H1 → va_D A (wa ++ (wfx u ++ wb)) → va_S A H0 H1 locs1 → H1[q]? = some ce → ce.vm = .none → s.vm.findClass E = some ce.cls → ex_W p l e R s m args below meth c H1 locs1 (cells + mc) (slots + ms) Q (F0 m pc ls rest) q) :
    W p l e R s m args below meth c H locs cells slots Q (F0 m pc ls st0) := by
  refine ex_callV Sx hM cw hp hn hsize hstack hW hdg hf (fun v st t L hst _ hL hq => ?_) (eg_x hP hD hS hA kx)
  obtain ⟨⟨r, u, hv, hpo, hB⟩, hF⟩ := hq
  cases hv
  obtain ⟨hP1, hD1⟩ := eg_J hP hD hS hA hst hF hB
  exact kr r u t.heap (locs ++ L) hpo hP1 hD1 (eg_S hD hS hA hst hL hF)
theorem eg_v {post : S → Prop} {wf : S → va_W} (Sx : CallFix p m c cc nL s args Ts own) (hM : ex_Met l y ws rm Pc (va_Qv post (fun u t => ct_at D (va_A wc H.size) (wf u) t) (va_A wc H.size)) (ct_X D (va_A wc H.size) xp wfx) mc ms (va_A wc H.size)) (cw : CallW R s args own C index y bytes maxL ret ws rm mc ms n) (hp : PreV s H C b Pc As)
    (hn : As.length = n) (hsize : ls.size = nL) (hstack : st0 = As.reverse ++ .ref b :: rest) (hW : (rest.map fun v => v.category).sum ≤ 8) (hdg : decode cc pc = .ok (.invokevirtual index, 3)) (hf : cells + mc ≤ R.cells ∧ slots + ms ≤ R.slots)
    (hP : va_P D vwCl (wa ++ (wc ++ wb)) H) (hD : va_D A (wa ++ (wc ++ wb))) (hS : va_S A H0 H locs) (hA : ∀ q, H0.size ≤ q → A q)
    (kr : ∀ (u : S) (H1 : Heap) (locs1 : List Loc), post u → va_P D vwCl (wa ++ (wf u ++ wb)) H1 → va_D A (wa ++ (wf u ++ wb)) → va_S A H0 H1 locs1 → W p l e R s m args below meth c H1 locs1 (cells + mc) (slots + ms) Q (F0 m (pc + 3) ls rest))
    (kx : ∀ (E : String) (ce : Cell) (q : Addr) (u : S2) (H1 : Heap) (locs1 : List Loc), xp E u → va_P D vwCl (wa ++ (wfx u ++ wb)) H1 → va_D A (wa ++ (wfx u ++ wb)) → va_S A H0 H1 locs1 → H1[q]? = some ce → ce.vm = .none → s.vm.findClass E = some ce.cls → ex_W p l e R s m args below meth c H1 locs1 (cells + mc) (slots + ms) Q (F0 m pc ls rest) q) :
    W p l e R s m args below meth c H locs cells slots Q (F0 m pc ls st0) := by
  refine ex_callV Sx hM cw hp hn hsize hstack hW hdg hf (fun v st t L hst _ hL hq => ?_) (eg_x hP hD hS hA kx)
  obtain ⟨⟨u, hv, hpo, hB⟩, hF⟩ := hq
  cases hv
  obtain ⟨hP1, hD1⟩ := eg_J hP hD hS hA hst hF hB
  exact kr u t.heap (locs ++ L) hpo hP1 hD1 (eg_S hD hS hA hst hL hF)
end LR
section RL
variable {p : Program} {l : Launch} {e : Env} {R : Room} {s : State} {m : MethodId} {args : Array Value} {below : List Frame} {meth : Method} {c : Code} {H : Heap} {locs : List Loc} {cells slots : Nat} {Q : State → Prop}
variable {cc : ByteArray} {pc : Nat} {ls : Array Slot} {rest : List Value} {D : va_G} {cl : List vw_C} {A : Nat → Prop} {a : Nat} {tys : List (ClassId × FieldType)} {ws : va_W} {H0 : Heap}
theorem rw_ald_l (hexec : p.tables.exec = Jvm.exec) (hb : c.code = cc) (hK : va_K D cl tys s) (hP : va_P D cl ws H) (q0 t0 : Nat) {cA : ClassId} {n : Nat} {f : Nat → Int64} (ha : ws[q0]? = some (a, .inl (cA, n, .inr (.inl f)))) (ht : tys[t0]? = some (cA, .long)) {k : Nat} (hk : k < n) (hn : n < 2 ^ 31) (hdg : decode cc pc = .ok (.laload, 1))
    (kk : W p l e R s m args below meth c H locs cells slots Q (F0 m (pc + 1) ls (.long (f k) :: rest))) : W p l e R s m args below meth c H locs cells slots Q (F0 m pc ls (.int (nI k) :: .ref a :: rest)) := by
  refine va_lald hexec hb hK hP q0 t0 ha ht (vp_in_nI hk hn) hdg ?_
  rw [nI_clamp (by omega)]
  exact kk
theorem rw_ast_l (hexec : p.tables.exec = Jvm.exec) (hb : c.code = cc) (hK : va_K D cl tys s) (hP : va_P D cl ws H) (hD : va_D A ws) (hS : va_S A H0 H locs) (q0 t0 : Nat) {cA : ClassId} {n : Nat} {f : Nat → Int64} (ha : ws[q0]? = some (a, .inl (cA, n, .inr (.inl f)))) (ht : tys[t0]? = some (cA, .long)) {k : Nat} {x : Int64} (hk : k < n) (hn : n < 2 ^ 31) (hdg : decode cc pc = .ok (.lastore, 1))
    (kk : ∀ (H1 : Heap) (locs1 : List Loc), va_P D cl (ws.set q0 (a, .inl (cA, n, .inr (.inl (vp_updL f k x))))) H1 → va_D A (ws.set q0 (a, .inl (cA, n, .inr (.inl (vp_updL f k x))))) → va_S A H0 H1 locs1 → W p l e R s m args below meth c H1 locs1 cells slots Q (F0 m (pc + 1) ls rest)) : W p l e R s m args below meth c H locs cells slots Q (F0 m pc ls (.long x :: .int (nI k) :: .ref a :: rest)) := by
  refine va_last hexec hb hK hP hD hS q0 t0 ha ht (vp_in_nI hk hn) hdg ?_
  rw [nI_clamp (by omega)]
  exact kk
end RL
