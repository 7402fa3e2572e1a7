-- the statics that a throw reads, the words that it needs, in any state with these tables and these statics
def st_w1 : Cond := .laysStatic Bundle.tN "UNASSIGNED_STACK" Bundle.steD
def st_w2 : Cond := .laysStatic Bundle.tN "SUPPRESSED_SENTINEL" Bundle.listD
def st_w3 : Cond := .isRef (.static Bundle.tN "UNASSIGNED_STACK" Bundle.steD)
def st_w4 : Cond := .isRef (.static Bundle.tN "SUPPRESSED_SENTINEL" Bundle.listD)
def st_ok (U : State) : Prop := st_w1.before #[] U = true ∧ st_w2.before #[] U = true ∧ st_w3.before #[] U = true ∧ st_w4.before #[] U = true
def st_same (u U : State) : Prop := ∀ (a : Nat) (cell : Cell), u.heap[a]? = some cell → cell.vm.isStatics = true → U.heap[a]? = some cell
theorem st_ff {u U : State} (hv : u.vm = U.vm) (o n d : String) : U.fieldFound? o n d = u.fieldFound? o n d := by
  unfold State.fieldFound?
  rw [hv]
theorem st_lays {u U : State} {A A' : Array Value} (hv : u.vm = U.vm) (hk : st_same u U) {o n d : String} (h : (Cond.laysStatic o n d).before A u = true) : (Cond.laysStatic o n d).before A' U = true := by
  obtain ⟨c, k, i, f, a, cell, hc, hi, hst, ha, hcell, hs, hcls, hlt, hty⟩ := Cond.laysStatic_spec h
  have hi' : U.fieldFound? o n d = some (c, k, i, f) := (st_ff hv o n d).trans hi
  have hc' : U.vm.findClass o = some c := by rw [← hv]; exact hc
  simp [Cond.before, Cond.holds, Cond.value, hi', hc', ha, hk a cell hcell hs, hst, hs, hcls, hlt, hty]
theorem st_ref {u U : State} {A A' : Array Value} (hv : u.vm = U.vm) (hk : st_same u U) {o n d : String} (hl : (Cond.laysStatic o n d).before A u = true) (h : (Cond.isRef (.static o n d)).before A u = true) : (Cond.isRef (.static o n d)).before A' U = true := by
  obtain ⟨c, k, i, f, a, cell, hc, hi, hst, ha, hcell, hs, hcls, hlt, hty⟩ := Cond.laysStatic_spec hl
  obtain ⟨v, hev, hr⟩ := Cond.isRef_spec (show (Cond.isRef (.static o n d)).holds A u none u [] = true from h)
  obtain ⟨-, a', cell', ha', hcell', -, hslot⟩ := Term.static_spec hi hev
  cases ha.symm.trans ha'
  cases hcell.symm.trans hcell'
  have e9 : (Term.static o n d).eval A' U none [] U = some v := Term.static_eval (s := U) ((st_ff hv o n d).trans hi) hst ha (hk a cell hcell hs) hs hslot
  simp [Cond.before, Cond.holds, Cond.value, e9]
  cases v <;> first | rfl | (exact absurd (show false = true from hr) Bool.false_ne_true)
theorem st_ok.heap {u U : State} (hv : u.vm = U.vm) (hk : st_same u U) (h : st_ok u) : st_ok U := ⟨st_lays hv hk h.1, st_lays hv hk h.2.1, st_ref hv hk h.1 h.2.2.1, st_ref hv hk h.2.1 h.2.2.2⟩
theorem st_ok.warm {s U : State} (hW : s.WarmedH U.vm) (h : st_ok s) : st_ok (s.setVm U.vm) :=
  ⟨Cond.before_shiftedFace (State.Shifted.of_warmed hW) _ rfl h.1, Cond.before_shiftedFace (State.Shifted.of_warmed hW) _ rfl h.2.1, Cond.before_shiftedFace (State.Shifted.of_warmed hW) _ rfl h.2.2.1, Cond.before_shiftedFace (State.Shifted.of_warmed hW) _ rfl h.2.2.2⟩
def thK : Cond → Bool
  | .declares _ | .castable .. | .stringRef .. => true
  | _ => false
theorem th_str {u U : State} {A A' : Array Value} (hv : u.vm = U.vm) {o t : String} {n : Nat} (h : (Cond.stringRef o n t).before A u = true) : (Cond.stringRef o n t).before A' U = true := by
  simp only [Cond.before, Cond.holds, Cond.value, State.names, State.resolvedAt?] at h ⊢
  have hp : U.poolOf? o = u.poolOf? o := by unfold State.poolOf?; rw [hv]
  rw [hp, ← hv]
  exact h
theorem th_vm {u U : State} {A A' : Array Value} (hv : u.vm = U.vm) {w : Cond} (hw : thK w = true) (h : w.before A u = true) : w.before A' U = true := by
  cases w <;> first | (exact absurd (show false = true from hw) Bool.false_ne_true) | (exact th_str hv h) | (exact va_tabs rfl hv h)
def ev_T (U : State) : Prop := (∀ w ∈ lw_tbl, thK w = true → va_Nw w U) ∧ st_ok U
theorem ev_T.to {s U : State} (hW : s.WarmedH U.vm) (hk : st_same s U) (h : ev_T s) : ev_T U := by
  refine ⟨fun w hw ht => ?_, st_ok.heap (u := s.setVm U.vm) rfl hk (h.2.warm hW)⟩
  have h1 := h.1 w hw ht
  cases w <;> first | (exact absurd (show false = true from ht) Bool.false_ne_true) | (exact va_Nw.warmD hW h1) | (exact va_Nw.warmC hW h1) | (exact th_str (u := s.setVm U.vm) (U := U) (A' := #[]) rfl (Cond.stringRef_warmed (args := #[]) hW h1))
theorem ev_T.same {s U : State} (hv : s.vm = U.vm) (hk : st_same s U) (h : ev_T s) : ev_T U := ⟨fun w hw ht => th_vm hv ht (h.1 w hw ht), h.2.heap hv hk⟩
def thG (w : Cond) : Bool := (w.onTables && goodWord w && decide (w ∈ lw_tbl)) || (thK w && decide (w ∈ lw_tbl)) || decide (w = st_w1) || decide (w = st_w2) || decide (w = st_w3) || decide (w = st_w4)
theorem th_use {s U : State} {args A' : Array Value} (hv : s.vm = U.vm) (hk : st_same s U) (hts : ∀ w ∈ W0, w.before args s = true) (hT : ev_T s) {w : Cond} (hw : thG w = true) : w.before A' U = true := by
  unfold thG at hw
  simp only [Bool.or_eq_true, Bool.and_eq_true, decide_eq_true_eq] at hw
  rcases hw with ((((⟨⟨h1, h2⟩, h3⟩ | ⟨h1, h2⟩) | rfl) | rfl) | rfl) | rfl
  · exact va_tabs h1 hv (hts w (List.mem_filter.mpr ⟨h3, h2⟩))
  · exact th_vm hv h1 (hT.1 w h2 h1)
  · exact st_lays hv hk hT.2.1
  · exact st_lays hv hk hT.2.2.1
  · exact st_ref hv hk hT.2.1 hT.2.2.2.1
  · exact st_ref hv hk hT.2.2.1 hT.2.2.2.2
def th_up : List String := ["java/lang/RuntimeException", "java/lang/Exception"]
def th_IA : String := "java/lang/IllegalArgumentException"
def th_IO : String := "java/lang/IndexOutOfBoundsException"
def th_IS : String := "java/lang/IllegalStateException"
def th_NS : String := "java/util/NoSuchElementException"
set_option maxRecDepth 100000 in
theorem th_IA_w : (Bundle.ownAtoms "HearingDesk" 71 th_IA th_up).all thG = true := by decide +kernel
set_option maxRecDepth 100000 in
theorem th_IO_w : (Bundle.ownAtoms "HearingDesk" 81 th_IO th_up).all thG = true := by decide +kernel
set_option maxRecDepth 100000 in
theorem th_IS_w : (Bundle.ownAtoms "HearingDesk" 189 th_IS th_up).all thG = true := by decide +kernel
def th_Nx : ByteArray := prog_20_method_4_code
set_option maxRecDepth 100000 in
theorem th_NS_w : (ex_atoms "HearingDesk" 166 th_NS 13 th_Nx "java/lang/RuntimeException" ["java/lang/Exception"]).all thG = true := by decide +kernel
theorem th_N0 : decode th_Nx 0 = .ok (.aload_n 0, 1) := by decide +kernel
theorem th_N1 : decode th_Nx 1 = .ok (.aload_n 1, 1) := by decide +kernel
theorem th_N2 : decode th_Nx 2 = .ok (.invokespecial 13, 3) := by decide +kernel
theorem th_N5 : decode th_Nx 5 = .ok (.return_, 1) := by decide +kernel
