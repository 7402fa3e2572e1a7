set_option maxHeartbeats 4000000 in
set_option maxRecDepth 100000 in
theorem kWo_begin9 (l : Launch) (dC : Nat → ClassId) (dI : Nat → Nat → Nat) (k : Nat → ClassId) (b P : Nat → Nat) (I : Nat → Nat → Int32) (D : Nat → Nat → UInt64) (sz : Nat) (x : Nat) (f9 : Int32) (hx9 : x < 19) : Met l yWo_begin wWo_begin ({ frames := 0, cells := 0, slots := 0, locals := 0 }) (va_Pc [.ref (b (29 + x)), .int f9] (ct_pre (dC, dI) (de_ty k) (fun _ => True) (wd k b P I D) sz)) (va_Qv (fun (u : (Nat → Nat → Int32) × (Nat → Nat → UInt64)) => u = (ui (ui (ui (ui I 4 x f9) 5 x (nI 1)) 6 x (-1)) 7 x (nI 63), ud D 9 x 0)) (fun u t => ct_at (dC, dI) (va_A (wd k b P I D) sz) ((fun u => wd k b P u.1 u.2) u) t) (va_A (wd k b P I D) sz)) 0 0 (va_A (wd k b P I D) sz) := by
  refine Met.ofW (cc := cWo_begin) (maxL := 2) (ret := none) (by decide) rfl ?_
  intro p e s m args below meth c s₁ B hml hv
  obtain ⟨rfl, hsz, hP, hK, hD0, hE⟩ := hv
  have hx := B.exec
  have hb := B.bytes
  have hr := B.returns
  have hts : ∀ w ∈ W0, w.before [.ref (b (29 + x)), .int f9].toArray s = true := fun w h => atoms_spec (ws := wWo_begin) B.pre w (List.mem_cons_of_mem _ h)
  have hown : s.vm.findClass RWo = some m.cls := findClass_of_methodNamed B.named
  have hlocks := B.notSynchronized
  subst hsz
  have hP0 := hP
  have hD := hD0.self (sz := s.heap.size)
  generalize hAe : va_A (wd k b P I D) s.heap.size = A at hD ⊢
  have hA : ∀ q : Nat, s.heap.size ≤ q → A q := fun q h => by rw [← hAe]; exact Or.inr h
  have hS : va_S A s.heap s.heap [] := va_S.rf
  have hl := lv_entry ([.ref (b (29 + x)), .int f9]) (n := 2) (Nat.le_of_ble_eq_true rfl)
  rw [lg_entry_eq]
  generalize (lg_sl ([.ref (b (29 + x)), .int f9]) ++ List.replicate (2 - (lg_sl ([.ref (b (29 + x)), .int f9])).length) Slot.unset).toArray = ls at hl ⊢
  have hl : lv_has ls 2 [(0, .ref (b (29 + x))), (1, .int f9)] := hl
  refine lv_aload_n hx hb dWo_begin_0 rfl (lv_at hl 0 rfl) ?_
  refine lv_iload_n hx hb dWo_begin_1 rfl (lv_at hl 1 rfl) ?_
  refine va_put (D := (dC, dI)) (ci := 5) (fs := wo_f x b I D) (v := .int f9) (ty := .int) (C := RWo) (T := TWo) (N := 5) hx hb hts inWo tyWo tyWo_ok nmWo hown hK hP hD hS (29 + x) (wd_wo hx9) rfl 0 (by decide) (hts _ tw_160) (fun _ h9 => h9) rfl (by decide +kernel) rfl rfl (Nat.le_of_ble_eq_true rfl) dWo_begin_2 (fun H locs hP hD hS => ?_)
  rw [wd_pw0 hx9] at hP hD
  obtain ⟨I1, eI1⟩ : ∃ z, z = ui I 4 x f9 := ⟨_, rfl⟩
  rw [← eI1] at hP hD
  refine lv_aload_n hx hb dWo_begin_5 rfl (lv_at hl 0 rfl) ?_
  refine lv_iconst (v := nI 1) hx hb dWo_begin_6 (by decide +kernel) ?_
  refine va_put (D := (dC, dI)) (ci := 5) (fs := wo_f x b I1 D) (v := .int (nI 1)) (ty := .int) (C := RWo) (T := TWo) (N := 5) hx hb hts inWo tyWo tyWo_ok nmWo hown hK hP hD hS (29 + x) (wd_wo hx9) rfl 1 (by decide) (hts _ tw_162) (fun _ h9 => h9) rfl (by decide +kernel) rfl rfl (Nat.le_of_ble_eq_true rfl) dWo_begin_7 (fun H locs hP hD hS => ?_)
  rw [wd_pw1 hx9] at hP hD
  obtain ⟨I2, eI2⟩ : ∃ z, z = ui I1 5 x (nI 1) := ⟨_, rfl⟩
  rw [← eI2] at hP hD
  refine lv_aload_n hx hb dWo_begin_10 rfl (lv_at hl 0 rfl) ?_
  refine lv_iconst (v := (-1)) hx hb dWo_begin_11 (by decide +kernel) ?_
  refine va_put (D := (dC, dI)) (ci := 5) (fs := wo_f x b I2 D) (v := .int (-1)) (ty := .int) (C := RWo) (T := TWo) (N := 5) hx hb hts inWo tyWo tyWo_ok nmWo hown hK hP hD hS (29 + x) (wd_wo hx9) rfl 2 (by decide) (hts _ tw_164) (fun _ h9 => h9) rfl (by decide +kernel) rfl rfl (Nat.le_of_ble_eq_true rfl) dWo_begin_12 (fun H locs hP hD hS => ?_)
  rw [wd_pw2 hx9] at hP hD
  obtain ⟨I3, eI3⟩ : ∃ z, z = ui I2 6 x (-1) := ⟨_, rfl⟩
  rw [← eI3] at hP hD
  refine lv_aload_n hx hb dWo_begin_15 rfl (lv_at hl 0 rfl) ?_
  refine lv_bipush (v := nI 63) hx hb dWo_begin_16 (by decide +kernel) ?_
  refine va_put (D := (dC, dI)) (ci := 5) (fs := wo_f x b I3 D) (v := .int (nI 63)) (ty := .int) (C := RWo) (T := TWo) (N := 5) hx hb hts inWo tyWo tyWo_ok nmWo hown hK hP hD hS (29 + x) (wd_wo hx9) rfl 3 (by decide) (hts _ tw_166) (fun _ h9 => h9) rfl (by decide +kernel) rfl rfl (Nat.le_of_ble_eq_true rfl) dWo_begin_18 (fun H locs hP hD hS => ?_)
  rw [wd_pw3 hx9] at hP hD
  obtain ⟨I4, eI4⟩ : ∃ z, z = ui I3 7 x (nI 63) := ⟨_, rfl⟩
  rw [← eI4] at hP hD
  refine lv_aload_n hx hb dWo_begin_21 rfl (lv_at hl 0 rfl) ?_
  refine lv_dconst0 hx hb dWo_begin_22 ?_
  refine rw_d (y := 0) rfl ?_
  refine va_put (D := (dC, dI)) (ci := 5) (fs := wo_f x b I4 D) (v := .double 0) (ty := .double) (C := RWo) (T := TWo) (N := 5) hx hb hts inWo tyWo tyWo_ok nmWo hown hK hP hD hS (29 + x) (wd_wo hx9) rfl 4 (by decide) (hts _ tw_168) (fun _ h9 => h9) rfl (by decide +kernel) rfl rfl (Nat.le_of_ble_eq_true rfl) dWo_begin_23 (fun H locs hP hD hS => ?_)
  rw [wd_pw4 hx9] at hP hD
  obtain ⟨D5, eD5⟩ : ∃ z, z = ud D 9 x 0 := ⟨_, rfl⟩
  rw [← eD5] at hP hD
  exact ct_rv hx hb hr hlocks (I4, D5) (by rw [eI4, eI3, eI2, eI1, eD5]) hP hD hS (Nat.le_refl _) (Nat.le_refl _) dWo_begin_26
set_option maxHeartbeats 4000000 in
set_option maxRecDepth 100000 in
theorem kWo_reach (l : Launch) (dC : Nat → ClassId) (dI : Nat → Nat → Nat) (k : Nat → ClassId) (b P : Nat → Nat) (I : Nat → Nat → Int32) (D : Nat → Nat → UInt64) (sz : Nat) (x f f0 : Nat) (hx9 : x < 19) (h9 : I 4 x = nI f0) (hf : f0 ≤ f) : Met l yWo_reach wWo_reach ({ frames := 0, cells := 0, slots := 0, locals := 0 }) (va_Pc [.ref (b (29 + x)), .int (nI f)] (ct_pre (dC, dI) (de_ty k) (fun _ => True) (wd k b P I D) sz)) (va_Qv (fun (u : Nat → Nat → Int32) => u = ui I 5 x (nI (f - f0 + 1))) (fun u t => ct_at (dC, dI) (va_A (wd k b P I D) sz) ((fun u => wd k b P u D) u) t) (va_A (wd k b P I D) sz)) 0 0 (va_A (wd k b P I D) sz) := by
  refine Met.ofW (cc := cWo_reach) (maxL := 2) (ret := none) (by decide) rfl ?_
  intro p e s m args below meth c s₁ B hml hv
  obtain ⟨rfl, hsz, hP, hK, hD0, hE⟩ := hv
  have hx := B.exec
  have hb := B.bytes
  have hr := B.returns
  have hts : ∀ w ∈ W0, w.before [.ref (b (29 + x)), .int (nI f)].toArray s = true := fun w h => atoms_spec (ws := wWo_reach) B.pre w (List.mem_cons_of_mem _ h)
  have hown : s.vm.findClass RWo = some m.cls := findClass_of_methodNamed B.named
  have hlocks := B.notSynchronized
  subst hsz
  have hP0 := hP
  have hD := hD0.self (sz := s.heap.size)
  generalize hAe : va_A (wd k b P I D) s.heap.size = A at hD ⊢
  have hA : ∀ q : Nat, s.heap.size ≤ q → A q := fun q h => by rw [← hAe]; exact Or.inr h
  have hS : va_S A s.heap s.heap [] := va_S.rf
  have hl := lv_entry ([.ref (b (29 + x)), .int (nI f)]) (n := 2) (Nat.le_of_ble_eq_true rfl)
  rw [lg_entry_eq]
  generalize (lg_sl ([.ref (b (29 + x)), .int (nI f)]) ++ List.replicate (2 - (lg_sl ([.ref (b (29 + x)), .int (nI f)])).length) Slot.unset).toArray = ls at hl ⊢
  have hl : lv_has ls 2 [(0, .ref (b (29 + x))), (1, .int (nI f))] := hl
  refine lv_aload_n hx hb dWo_reach_0 rfl (lv_at hl 0 rfl) ?_
  refine lv_iload_n hx hb dWo_reach_1 rfl (lv_at hl 1 rfl) ?_
  refine lv_aload_n hx hb dWo_reach_2 rfl (lv_at hl 0 rfl) ?_
  refine va_get (D := (dC, dI)) (ci := 5) (v := .int (I 4 x)) (C := RWo) (T := TWo) (N := 5) hx hb hts inWo hown hK hP (29 + x) (wd_wo hx9) rfl 0 (by decide) (hts _ tw_160) (fun _ h9 => h9) rfl dWo_reach_3 ?_
  refine rw_i (y := nI f0) h9 ?_
  refine lv_isub hx hb dWo_reach_6 ?_
  refine rw_i (y := nI (f - f0)) (pk_sub (by omega)) ?_
  refine lv_iconst (v := nI 1) hx hb dWo_reach_7 (by decide +kernel) ?_
  refine lv_iadd hx hb dWo_reach_8 ?_
  refine rw_i (y := nI ((f - f0) + 1)) (nI_add _ _) ?_
  refine va_put (D := (dC, dI)) (ci := 5) (fs := wo_f x b I D) (v := .int (nI ((f - f0) + 1))) (ty := .int) (C := RWo) (T := TWo) (N := 5) hx hb hts inWo tyWo tyWo_ok nmWo hown hK hP hD hS (29 + x) (wd_wo hx9) rfl 1 (by decide) (hts _ tw_162) (fun _ h9 => h9) rfl (by decide +kernel) rfl rfl (Nat.le_of_ble_eq_true rfl) dWo_reach_9 (fun H locs hP hD hS => ?_)
  rw [wd_pw1 hx9] at hP hD
  obtain ⟨I1, eI1⟩ : ∃ z, z = ui I 5 x (nI ((f - f0) + 1)) := ⟨_, rfl⟩
  rw [← eI1] at hP hD
  exact ct_rv hx hb hr hlocks I1 (by rw [eI1]) hP hD hS (Nat.le_refl _) (Nat.le_refl _) dWo_reach_12
set_option maxHeartbeats 4000000 in
set_option maxRecDepth 100000 in
theorem kLi_cutOut (l : Launch) (dC : Nat → ClassId) (dI : Nat → Nat → Nat) (k : Nat → ClassId) (b P : Nat → Nat) (I : Nat → Nat → Int32) (D : Nat → Nat → UInt64) (sz : Nat) (ns : Nat) (hn : ns ≤ 320) (h4 : I 0 4 = nI ns) (hsm : ∀ i, i < ns → fb_ 1057 (D 1 i)) (th : UInt64) (gp : Nat) (hg1 : 1 ≤ gp) (hg4 : gp ≤ 4) (hj3 : ∀ q, q < 4 * hd_nf ns → D 3 q = hw_su (D 1) q) : Met l yLi_cutOut wLi_cutOut ({ frames := 1, cells := 0, slots := 0, locals := 24 }) (va_Pc [.ref (b 15), .ref (b 7), .double th, .int (nI gp)] (ct_pre (dC, dI) (de_ty k) ev_N (wd k b P I D) sz)) (va_Qv (fun (u : (Nat → Nat → Int32) × (Nat → Nat → UInt64)) => ∃ L, L = hs_w (D 1) th (hd_nf ns) gp 20 0 ∧ L.length ≤ 19 ∧ u.1 0 7 = nI L.length ∧ (∀ z, z ≠ 7 → u.1 0 z = I 0 z) ∧ (∀ c, c ≠ 0 → c ≠ 4 → c ≠ 5 → c ≠ 6 → c ≠ 7 → u.1 c = I c) ∧ (∀ c, c ≠ 9 → u.2 c = D c) ∧ ∀ k9 f9 m9, L[k9]? = some (f9, m9) → wk_0 u.1 u.2 (hd_nf ns) k9 f9 m9) (fun u t => ct_at (dC, dI) (va_A (wd k b P I D) sz) ((fun u => wd k b P u.1 u.2) u) t) (va_A (wd k b P I D) sz)) 0 0 (va_A (wd k b P I D) sz) := by
  refine Met.ofW (cc := cLi_cutOut) (maxL := 9) (ret := none) (by decide) rfl ?_
  intro p e s m args below meth c s₁ B hml hv
  obtain ⟨rfl, hsz, hP, hK, hD0, hE⟩ := hv
  have hx := B.exec
  have hb := B.bytes
  have hr := B.returns
  have hts : ∀ w ∈ W0, w.before [.ref (b 15), .ref (b 7), .double th, .int (nI gp)].toArray s = true := fun w h => atoms_spec (ws := wLi_cutOut) B.pre w (List.mem_cons_of_mem _ h)
  have hown : s.vm.findClass RLi = some m.cls := findClass_of_methodNamed B.named
  have hlocks := B.notSynchronized
  subst hsz
  have hP0 := hP
  have hD := hD0.self (sz := s.heap.size)
  generalize hAe : va_A (wd k b P I D) s.heap.size = A at hD ⊢
  have hA : ∀ q : Nat, s.heap.size ≤ q → A q := fun q h => by rw [← hAe]; exact Or.inr h
  have hS : va_S A s.heap s.heap [] := va_S.rf
  have hl := lv_entry ([.ref (b 15), .ref (b 7), .double th, .int (nI gp)]) (n := 9) (Nat.le_of_ble_eq_true rfl)
  rw [lg_entry_eq]
  generalize (lg_sl ([.ref (b 15), .ref (b 7), .double th, .int (nI gp)]) ++ List.replicate (9 - (lg_sl ([.ref (b 15), .ref (b 7), .double th, .int (nI gp)])).length) Slot.unset).toArray = ls at hl ⊢
  have hl : lv_has ls 9 [(0, .ref (b 15)), (1, .ref (b 7)), (2, .double th), (4, .int (nI gp))] := hl
  refine lp_q (fun Q9 hQ9 => ?_)
  have hnf := nf_le hn
  refine lv_aload_n hx hb dLi_cutOut_0 rfl (lv_at hl 0 rfl) ?_
  refine lv_iconst (v := nI 0) hx hb dLi_cutOut_1 (by decide +kernel) ?_
  refine va_put (D := (dC, dI)) (ci := 6) (fs := li_f b I D) (v := .int (nI 0)) (ty := .int) (C := RLi) (T := TLi) (N := 2) hx hb hts inLi tyLi tyLi_ok nmLi hown hK hP hD hS 15 rfl rfl 1 (by decide) (hts _ tw_183) (fun _ h9 => h9) rfl (by decide +kernel) rfl rfl (Nat.le_of_ble_eq_true rfl) dLi_cutOut_2 (fun H locs hP hD hS => ?_)
  rw [wd_p15_1] at hP hD
  obtain ⟨I1, eI1⟩ : ∃ z, z = ui I 0 7 (nI 0) := ⟨_, rfl⟩
  rw [← eI1] at hP hD
  refine lv_iconst (v := nI 0) hx hb dLi_cutOut_5 (by decide +kernel) ?_
  refine lv_istore (lv' := [(5, .int (nI 0)), (0, .ref (b 15)), (1, .ref (b 7)), (2, .double th), (4, .int (nI gp))]) hx hb dLi_cutOut_6 hl (by decide) rfl (fun ls hl => ?_)
  refine lv_iconst (v := nI 0) hx hb dLi_cutOut_8 (by decide +kernel) ?_
  refine lv_istore (lv' := [(6, .int (nI 0)), (5, .int (nI 0)), (0, .ref (b 15)), (1, .ref (b 7)), (2, .double th), (4, .int (nI gp))]) hx hb dLi_cutOut_9 hl (by decide) rfl (fun ls hl => ?_)
  refine lv_iconst (v := nI 0) hx hb dLi_cutOut_11 (by decide +kernel) ?_
  refine lv_istore (lv' := [(7, .int (nI 0)), (6, .int (nI 0)), (5, .int (nI 0)), (0, .ref (b 15)), (1, .ref (b 7)), (2, .double th), (4, .int (nI gp))]) hx hb dLi_cutOut_12 hl (by decide) rfl (fun ls hl => ?_)
  have i0 : ∀ z, z ≠ 7 → I1 0 z = I 0 z := fun z z7 => by rw [eI1, ui_n _ _ _ z7]
  have i1 : ∀ c, c ≠ 0 → I1 c = I c := fun c z0 => by rw [eI1, ui_o _ _ _ z0]
  have L14 : ∀ (n14 : Nat) (f : Nat) (lk : Nat) (q : Nat) (Ld : List (Nat × Nat)) (J : Nat → Nat → Int32) (E : Nat → Nat → UInt64) (fu : Nat) (f0 : Nat) (la : Nat) (fw : Nat), hd_nf ns - f < n14 → f ≤ hd_nf ns → q ≤ 30 → ((lk = 0 ∧ Ld ++ hs_w (D 1) th (hd_nf ns) gp fu f = hs_w (D 1) th (hd_nf ns) gp 20 0 ∧ hd_nf ns ≤ f + fu ∧ Ld.length ≤ f ∧ J 0 7 = nI Ld.length) ∨ (0 < lk ∧ lk < 10 ∧ q < gp ∧ f0 + lk = f ∧ f0 ≤ la ∧ la < f ∧ Ld.length ≤ f0 ∧ Ld ++ ((f0, (hs_in (D 1) th (hd_nf ns) gp fw f la q lk).1 - f0 + 1) :: hs_w (D 1) th (hd_nf ns) gp fu (hs_in (D 1) th (hd_nf ns) gp fw f la q lk).2) = hs_w (D 1) th (hd_nf ns) gp 20 0 ∧ 10 ≤ lk + fw ∧ hd_nf ns ≤ f + fu ∧ J 0 7 = nI (Ld.length + 1) ∧ J 4 Ld.length = nI f0 ∧ J 5 Ld.length = nI (la - f0 + 1) ∧ J 6 Ld.length = -1 ∧ J 7 Ld.length = nI 63 ∧ E 9 Ld.length = 0)) → (∀ z, z ≠ 7 → J 0 z = I 0 z) → (∀ c, c ≠ 0 → c ≠ 4 → c ≠ 5 → c ≠ 6 → c ≠ 7 → J c = I c) → (∀ c, c ≠ 9 → E c = D c) → (∀ k9 f9 m9, Ld[k9]? = some (f9, m9) → wk_0 J E (hd_nf ns) k9 f9 m9) → ∀ (H : Heap) (locs : List Loc), va_P (dC, dI) vwCl (wd k b P J E) H → va_D A (wd k b P J E) → va_S A s.heap H locs → ∀ ls : Array Slot, lv_has ls 9 [(0, .ref (b 15)), (1, .ref (b 7)), (2, .double th), (4, .int (nI gp)), (5, .int (nI lk)), (6, .int (nI q)), (7, .int (nI f))] → W p l e (headSpec wLi_cutOut ({ frames := 1, cells := 0, slots := 0, locals := 24 })).room s m [.ref (b 15), .ref (b 7), .double th, .int (nI gp)].toArray below meth c H locs 0 0 Q9 (F0 m 14 ls []) := by
    intro n14
    induction n14 with
    | zero => intro f lk q Ld J E fu f0 la fw hm; exact absurd hm (Nat.not_lt_zero _)
    | succ n14 ih14 =>
      intro f lk q Ld J E fu f0 la fw hm14 hf hq9 hst hJ0 hJ hE9 hWo H locs hP hD hS ls hl
      refine lv_iload hx hb dLi_cutOut_14 (lv_at hl 6 rfl) ?_
      refine lv_aload_n hx hb dLi_cutOut_16 rfl (lv_at hl 1 rfl) ?_
      refine ct_i (va_runV (As := []) (rest := [.int (nI f)]) ⟨hx, hb, hml, hown, hts⟩ (kSo_frames l dC dI k b P J E _ ns hn (by rw [hJ0 4 (by decide)]; exact h4)) (cwV 0 hts (gw_V tw_589 tw_447 tw_448 tw_4 tw_449) rfl rfl rfl (by decide +kernel) ⟨Nat.le_of_ble_eq_true rfl, Nat.le_of_ble_eq_true rfl⟩) ⟨ct_blind (ev := (fun _ => True)) (fun _ _ _ _ h => h), va_recv hK hP (ci := 3) (q0 := 7) rfl rfl, ct_now (ev := (fun _ => True)) (fun _ _ _ => trivial) hP hK hD⟩ rfl rfl hl.1 rfl (lv_room (Nat.le_of_ble_eq_true rfl)) dLi_cutOut_17 ⟨Nat.le_of_ble_eq_true rfl, Nat.le_of_ble_eq_true rfl⟩) hD hS hA (fun r2 u2 H locs hw2 hP hD hS => ?_)
      subst hw2
      refine lv_icmp_ge (tgt := 145) hx hb dLi_cutOut_20 (by decide) (fun c20 => ?_) (fun c20 => ?_)
      · have c20 : (hd_nf ns) ≤ f := (nI_leI (a := (hd_nf ns)) (b := f) (by omega) (by omega)).mp (show nI (hd_nf ns) ≤ nI f from c20)
        have fin : ∃ L, L = hs_w (D 1) th (hd_nf ns) gp 20 0 ∧ L.length ≤ 19 ∧ J 0 7 = nI L.length ∧ (∀ z, z ≠ 7 → J 0 z = I 0 z) ∧ (∀ c, c ≠ 0 → c ≠ 4 → c ≠ 5 → c ≠ 6 → c ≠ 7 → J c = I c) ∧ (∀ c, c ≠ 9 → E c = D c) ∧ ∀ k9 f9 m9, L[k9]? = some (f9, m9) → wk_0 J E (hd_nf ns) k9 f9 m9 := by
          rcases hst with ⟨a0, a1, a2, a3, a4⟩ | ⟨b1, b2, b3, b4, b5, b6, b7, b8, b9, b10, b11, b12, b13, b14, b15, b16⟩
          · rw [hs_w_e fu (by omega), List.append_nil] at a1
            exact ⟨Ld, a1, by omega, a4, hJ0, hJ, hE9, hWo⟩
          · rw [hs_in_e fw (by omega), hs_w_e fu (by omega)] at b8
            have n2 : (Ld ++ [(f0, la - f0 + 1)]).length = Ld.length + 1 := List.length_append
            refine ⟨Ld ++ [(f0, la - f0 + 1)], b8, by omega, by rw [n2]; exact b11, hJ0, hJ, hE9, fun k9 f9 m9 h => ?_⟩
            rcases la_app h with ⟨h1, h2⟩ | ⟨h1, h2⟩
            · exact hWo k9 f9 m9 h2
            · cases h2; subst h1; exact ⟨b12, b13, b14, b15, b16, by omega, by omega, by omega⟩
        rw [hQ9]
        exact ct_rv hx hb hr hlocks (J, E) fin hP hD hS (Nat.le_refl _) (Nat.le_refl _) dLi_cutOut_145
      · have c20 : ¬ (hd_nf ns) ≤ f := fun q9 => c20 (show nI (hd_nf ns) ≤ nI f from (nI_leI (a := (hd_nf ns)) (b := f) (by omega) (by omega)).mpr q9)
        rcases hst with ⟨a0, a1, a2, a3, a4⟩ | ⟨b1, b2, b3, b4, b5, b6, b7, b8, b9, b10, b11, b12, b13, b14, b15, b16⟩
        · subst a0
          have c20b : f < hd_nf ns := by omega
          obtain ⟨fv, rfl⟩ : ∃ fv, fu = fv + 1 := ⟨fu - 1, by omega⟩
          refine lv_aload_n hx hb dLi_cutOut_23 rfl (lv_at hl 1 rfl) ?_
          refine lv_iload hx hb dLi_cutOut_24 (lv_at hl 6 rfl) ?_
          have hfi := nf_lt (n := ns) (j := f) (by omega)
          refine ct_d (va_runV (As := [.int (nI f)]) (rest := []) ⟨hx, hb, hml, hown, hts⟩ (kSo_loudness l dC dI k b P J E _ f (D 1) (by omega) (fun i hi => hsm _ (by omega)) (fun j hj => by rw [hE9 3 (by decide)]; exact (hj3 _ (by omega)).trans (hw_su_e (D 1) f j hj))) (cwV 1 hts (gw_V tw_590 tw_591 tw_592 tw_4 tw_593) rfl rfl rfl (by decide +kernel) ⟨Nat.le_of_ble_eq_true rfl, Nat.le_of_ble_eq_true rfl⟩) ⟨ct_blind (ev := (fun _ => True)) (fun _ _ _ _ h => h), va_recv hK hP (ci := 3) (q0 := 7) rfl rfl, ct_now (ev := (fun _ => True)) (fun _ _ _ => trivial) hP hK hD⟩ rfl rfl hl.1 rfl (lv_room (Nat.le_of_ble_eq_true rfl)) dLi_cutOut_26 ⟨Nat.le_of_ble_eq_true rfl, Nat.le_of_ble_eq_true rfl⟩) hD hS hA (fun r3 u3 H locs hw3 hP hD hS => ?_)
          subst hw3
          refine lv_dload_n hx hb dLi_cutOut_29 rfl (lv_at hl 2 rfl) ?_
          refine lv_dcmp hx hb dLi_cutOut_30 ?_
          refine lv_if_lt (tgt := 38) hx hb dLi_cutOut_31 (by decide) (fun c31 => ?_) (fun c31 => ?_)
          · have g9 := ld_0 c31
            refine lv_iconst (v := nI 0) hx hb dLi_cutOut_38 (by decide +kernel) ?_
            refine lv_istore (lv' := [(8, .int (nI 0)), (0, .ref (b 15)), (1, .ref (b 7)), (2, .double th), (4, .int (nI gp)), (5, .int (nI 0)), (6, .int (nI q)), (7, .int (nI f))]) hx hb dLi_cutOut_39 hl (by decide) rfl (fun ls hl => ?_)
            refine lv_iload hx hb dLi_cutOut_41 (lv_at hl 5 rfl) ?_
            refine lv_if_ne (tgt := 54) hx hb dLi_cutOut_43 (by decide) (fun c43 => ?_) (fun c43 => ?_)
            · have c43 : ¬ 0 = 0 := fun q9 => c43 (show nI 0 = nI 0 from (nI_eq (a := 0) (b := 0) (by omega) (by omega)).mpr q9)
              exact absurd (by decide) c43
            · have c43 : 0 = 0 := (nI_eq (a := 0) (b := 0) (by omega) (by omega)).mp (show nI 0 = nI 0 from c43)
              refine lv_iload hx hb dLi_cutOut_46 (lv_at hl 0 rfl) ?_
              refine lv_if_ne (tgt := 54) hx hb dLi_cutOut_48 (by decide) (fun c48 => ?_) (fun c48 => ?_)
              · have c48 : ¬ 0 = 0 := fun q9 => c48 (show nI 0 = nI 0 from (nI_eq (a := 0) (b := 0) (by omega) (by omega)).mpr q9)
                exact absurd (by decide) c48
              · have c48 : 0 = 0 := (nI_eq (a := 0) (b := 0) (by omega) (by omega)).mp (show nI 0 = nI 0 from c48)
                refine lv_goto (tgt := 139) hx hb dLi_cutOut_51 (by decide) ?_
                refine lv_iinc (v := nI (f + 1)) (lv' := [(7, .int (nI (f + 1))), (8, .int (nI 0)), (0, .ref (b 15)), (1, .ref (b 7)), (2, .double th), (4, .int (nI gp)), (5, .int (nI 0)), (6, .int (nI q))]) hx hb dLi_cutOut_139 hl (k := 7) rfl (nI_1 _) (by decide) rfl (fun ls hl => ?_)
                refine lv_goto (tgt := 14) hx hb dLi_cutOut_142 (by decide) ?_
                have n9 : (0 = 0 ∧ Ld ++ hs_w (D 1) th (hd_nf ns) gp fv (f + 1) = hs_w (D 1) th (hd_nf ns) gp 20 0 ∧ hd_nf ns ≤ f + 1 + fv ∧ Ld.length ≤ f + 1 ∧ J 0 7 = nI Ld.length) ∨ (0 < 0 ∧ 0 < 10 ∧ q < gp ∧ f0 + 0 = f + 1 ∧ f0 ≤ la ∧ la < f + 1 ∧ Ld.length ≤ f0 ∧ Ld ++ ((f0, (hs_in (D 1) th (hd_nf ns) gp fw (f + 1) la q 0).1 - f0 + 1) :: hs_w (D 1) th (hd_nf ns) gp fv (hs_in (D 1) th (hd_nf ns) gp fw (f + 1) la q 0).2) = hs_w (D 1) th (hd_nf ns) gp 20 0 ∧ 10 ≤ 0 + fw ∧ hd_nf ns ≤ f + 1 + fv ∧ J 0 7 = nI (Ld.length + 1) ∧ J 4 Ld.length = nI f0 ∧ J 5 Ld.length = nI (la - f0 + 1) ∧ J 6 Ld.length = -1 ∧ J 7 Ld.length = nI 63 ∧ E 9 Ld.length = 0) := Or.inl ⟨rfl, by rw [← a1, hs_w_q c20b g9], by omega, by omega, a4⟩
                exact ih14 (f + 1) 0 q Ld J E fv f0 la fw (by omega) (by omega) (by omega) n9 hJ0 hJ hE9 hWo _ _ hP hD hS ls (lv_sub hl [2, 3, 4, 5, 6, 7, 0] rfl)
          · have g9 := ld_1 c31
            refine lv_iconst (v := nI 1) hx hb dLi_cutOut_34 (by decide +kernel) ?_
            refine lv_goto (tgt := 39) hx hb dLi_cutOut_35 (by decide) ?_
            refine lv_istore (lv' := [(8, .int (nI 1)), (0, .ref (b 15)), (1, .ref (b 7)), (2, .double th), (4, .int (nI gp)), (5, .int (nI 0)), (6, .int (nI q)), (7, .int (nI f))]) hx hb dLi_cutOut_39 hl (by decide) rfl (fun ls hl => ?_)
            refine lv_iload hx hb dLi_cutOut_41 (lv_at hl 5 rfl) ?_
            refine lv_if_ne (tgt := 54) hx hb dLi_cutOut_43 (by decide) (fun c43 => ?_) (fun c43 => ?_)
            · have c43 : ¬ 0 = 0 := fun q9 => c43 (show nI 0 = nI 0 from (nI_eq (a := 0) (b := 0) (by omega) (by omega)).mpr q9)
              exact absurd (by decide) c43
            · have c43 : 0 = 0 := (nI_eq (a := 0) (b := 0) (by omega) (by omega)).mp (show nI 0 = nI 0 from c43)
              refine lv_iload hx hb dLi_cutOut_46 (lv_at hl 0 rfl) ?_
              refine lv_if_ne (tgt := 54) hx hb dLi_cutOut_48 (by decide) (fun c48 => ?_) (fun c48 => ?_)
              · have c48 : ¬ 1 = 0 := fun q9 => c48 (show nI 1 = nI 0 from (nI_eq (a := 1) (b := 0) (by omega) (by omega)).mpr q9)
                refine lv_iload hx hb dLi_cutOut_54 (lv_at hl 5 rfl) ?_
                refine lv_if_ne (tgt := 83) hx hb dLi_cutOut_56 (by decide) (fun c56 => ?_) (fun c56 => ?_)
                · have c56 : ¬ 0 = 0 := fun q9 => c56 (show nI 0 = nI 0 from (nI_eq (a := 0) (b := 0) (by omega) (by omega)).mpr q9)
                  exact absurd (by decide) c56
                · have c56 : 0 = 0 := (nI_eq (a := 0) (b := 0) (by omega) (by omega)).mp (show nI 0 = nI 0 from c56)
                  refine lv_aload_n hx hb dLi_cutOut_59 rfl (lv_at hl 1 rfl) ?_
                  refine va_get (D := (dC, dI)) (ci := 6) (v := .ref (b 16)) (C := RLi) (T := TLi) (N := 2) hx hb hts inLi hown hK hP 15 rfl rfl 0 (by decide) (hts _ tw_181) (fun _ h9 => h9) rfl dLi_cutOut_60 ?_
                  refine lv_aload_n hx hb dLi_cutOut_63 rfl (lv_at hl 1 rfl) ?_
                  refine va_get (D := (dC, dI)) (ci := 6) (v := .int (J 0 7)) (C := RLi) (T := TLi) (N := 2) hx hb hts inLi hown hK hP 15 rfl rfl 1 (by decide) (hts _ tw_183) (fun _ h9 => h9) rfl dLi_cutOut_64 ?_
                  refine rw_i (y := nI Ld.length) a4 ?_
                  refine rw_ald_q (x := b (29 + Ld.length)) hx hb hK hP 16 3 rfl rfl (if_pos (by omega)) (by omega) (by decide) dLi_cutOut_67 ?_
                  refine lv_iload hx hb dLi_cutOut_68 (lv_at hl 7 rfl) ?_
                  refine ct_v (va_runVN (As := [.int (nI f)]) (rest := []) ⟨hx, hb, hml, hown, hts⟩ (kWo_begin9 l dC dI k b P J E _ Ld.length (nI f) (by omega)) ⟨va_cnB 1 hts (gw_N tw_159) rfl rfl rfl (hE _ en_594) (hts _ tw_8) (by decide +kernel) ⟨Nat.le_of_ble_eq_true rfl, Nat.le_of_ble_eq_true rfl⟩, hts _ tw_158, hts _ sl_Wo_begin⟩ ⟨ct_blind (ev := (fun _ => True)) (fun _ _ _ _ h => h), va_recv hK hP (ci := 5) (q0 := 29 + Ld.length) rfl (wd_wo (by omega)), ct_now (ev := (fun _ => True)) (fun _ _ _ => trivial) hP hK hD⟩ rfl rfl hl.1 rfl (lv_room (Nat.le_of_ble_eq_true rfl)) dLi_cutOut_70 ⟨Nat.le_of_ble_eq_true rfl, Nat.le_of_ble_eq_true rfl⟩) hD hS hA (fun u4 H locs hw4 hP hD hS => ?_)
                  obtain ⟨J1, eJ1⟩ : ∃ z, z = ui (ui (ui (ui J 4 Ld.length (nI f)) 5 Ld.length (nI 1)) 6 Ld.length (-1)) 7 Ld.length (nI 63) := ⟨_, rfl⟩
                  obtain ⟨E1, eE1⟩ : ∃ z, z = ud E 9 Ld.length 0 := ⟨_, rfl⟩
                  rw [← eJ1, ← eE1] at hw4
                  have hP : va_P (dC, dI) vwCl (wd k b P J1 E1) H := by rw [hw4] at hP; exact hP
                  have hD : va_D A (wd k b P J1 E1) := by rw [hw4] at hD; exact hD
                  refine lv_aload_n hx hb dLi_cutOut_73 rfl (lv_at hl 1 rfl) ?_
                  refine lv_dup hx hb dLi_cutOut_74 rfl ?_
                  refine va_get (D := (dC, dI)) (ci := 6) (v := .int (J1 0 7)) (C := RLi) (T := TLi) (N := 2) hx hb hts inLi hown hK hP 15 rfl rfl 1 (by decide) (hts _ tw_183) (fun _ h9 => h9) rfl dLi_cutOut_75 ?_
                  refine rw_i (y := nI Ld.length) (by rw [eJ1, ui_o _ _ _ (by decide), ui_o _ _ _ (by decide), ui_o _ _ _ (by decide), ui_o _ _ _ (by decide)]; exact a4) ?_
                  refine lv_iconst (v := nI 1) hx hb dLi_cutOut_78 (by decide +kernel) ?_
                  refine lv_iadd hx hb dLi_cutOut_79 ?_
                  refine rw_i (y := nI (Ld.length + 1)) (nI_add _ _) ?_
                  refine va_put (D := (dC, dI)) (ci := 6) (fs := li_f b J1 E1) (v := .int (nI (Ld.length + 1))) (ty := .int) (C := RLi) (T := TLi) (N := 2) hx hb hts inLi tyLi tyLi_ok nmLi hown hK hP hD hS 15 rfl rfl 1 (by decide) (hts _ tw_183) (fun _ h9 => h9) rfl (by decide +kernel) rfl rfl (Nat.le_of_ble_eq_true rfl) dLi_cutOut_80 (fun H locs hP hD hS => ?_)
                  rw [wd_p15_1] at hP hD
                  obtain ⟨I5, eI5⟩ : ∃ z, z = ui J1 0 7 (nI (Ld.length + 1)) := ⟨_, rfl⟩
                  rw [← eI5] at hP hD
                  refine lv_iinc (v := nI 1) (lv' := [(5, .int (nI 1)), (8, .int (nI 1)), (0, .ref (b 15)), (1, .ref (b 7)), (2, .double th), (4, .int (nI gp)), (6, .int (nI q)), (7, .int (nI f))]) hx hb dLi_cutOut_83 hl (k := 5) rfl (nI_1 _) (by decide) rfl (fun ls hl => ?_)
                  refine lv_iload hx hb dLi_cutOut_86 (lv_at hl 1 rfl) ?_
                  refine lv_if_eq (tgt := 95) hx hb dLi_cutOut_88 (by decide) (fun c88 => ?_) (fun c88 => ?_)
                  · have c88 : 1 = 0 := (nI_eq (a := 1) (b := 0) (by omega) (by omega)).mp (show nI 1 = nI 0 from c88)
                    exact absurd c88 (by decide)
                  · have c88 : ¬ 1 = 0 := fun q9 => c88 (show nI 1 = nI 0 from (nI_eq (a := 1) (b := 0) (by omega) (by omega)).mpr q9)
                    refine lv_iconst (v := nI 0) hx hb dLi_cutOut_91 (by decide +kernel) ?_
                    refine lv_goto (tgt := 99) hx hb dLi_cutOut_92 (by decide) ?_
                    refine lv_istore (lv' := [(6, .int (nI 0)), (5, .int (nI 1)), (8, .int (nI 1)), (0, .ref (b 15)), (1, .ref (b 7)), (2, .double th), (4, .int (nI gp)), (7, .int (nI f))]) hx hb dLi_cutOut_99 hl (by decide) rfl (fun ls hl => ?_)
                    refine lv_iload hx hb dLi_cutOut_101 (lv_at hl 2 rfl) ?_
                    refine lv_if_eq (tgt := 122) hx hb dLi_cutOut_103 (by decide) (fun c103 => ?_) (fun c103 => ?_)
                    · have c103 : 1 = 0 := (nI_eq (a := 1) (b := 0) (by omega) (by omega)).mp (show nI 1 = nI 0 from c103)
                      exact absurd c103 (by decide)
                    · have c103 : ¬ 1 = 0 := fun q9 => c103 (show nI 1 = nI 0 from (nI_eq (a := 1) (b := 0) (by omega) (by omega)).mpr q9)
                      refine lv_aload_n hx hb dLi_cutOut_106 rfl (lv_at hl 3 rfl) ?_
                      refine va_get (D := (dC, dI)) (ci := 6) (v := .ref (b 16)) (C := RLi) (T := TLi) (N := 2) hx hb hts inLi hown hK hP 15 rfl rfl 0 (by decide) (hts _ tw_181) (fun _ h9 => h9) rfl dLi_cutOut_107 ?_
                      refine lv_aload_n hx hb dLi_cutOut_110 rfl (lv_at hl 3 rfl) ?_
                      refine va_get (D := (dC, dI)) (ci := 6) (v := .int (I5 0 7)) (C := RLi) (T := TLi) (N := 2) hx hb hts inLi hown hK hP 15 rfl rfl 1 (by decide) (hts _ tw_183) (fun _ h9 => h9) rfl dLi_cutOut_111 ?_
                      refine rw_i (y := nI (Ld.length + 1)) (by rw [eI5, ui_s]) ?_
                      refine lv_iconst (v := nI 1) hx hb dLi_cutOut_114 (by decide +kernel) ?_
                      refine lv_isub hx hb dLi_cutOut_115 ?_
                      refine rw_i (y := nI Ld.length) ((pk_sub (by omega)).trans (congrArg nI (by omega))) ?_
                      refine rw_ald_q (x := b (29 + Ld.length)) hx hb hK hP 16 3 rfl rfl (if_pos (by omega)) (by omega) (by decide) dLi_cutOut_116 ?_
                      refine lv_iload hx hb dLi_cutOut_117 (lv_at hl 7 rfl) ?_
                      refine ct_v (va_runVN (As := [.int (nI f)]) (rest := []) ⟨hx, hb, hml, hown, hts⟩ (kWo_reach l dC dI k b P I5 E1 _ Ld.length f f (by omega) (by rw [eI5, ui_o _ _ _ (by decide), eJ1, ui_o _ _ _ (by decide), ui_o _ _ _ (by decide), ui_o _ _ _ (by decide), ui_s]) (by omega)) ⟨va_cnB 1 hts (gw_N tw_598) rfl rfl rfl (hE _ en_595) (hts _ tw_8) (by decide +kernel) ⟨Nat.le_of_ble_eq_true rfl, Nat.le_of_ble_eq_true rfl⟩, hts _ tw_597, hts _ sl_Wo_reach⟩ ⟨ct_blind (ev := (fun _ => True)) (fun _ _ _ _ h => h), va_recv hK hP (ci := 5) (q0 := 29 + Ld.length) rfl (wd_wo (by omega)), ct_now (ev := (fun _ => True)) (fun _ _ _ => trivial) hP hK hD⟩ rfl rfl hl.1 rfl (lv_room (Nat.le_of_ble_eq_true rfl)) dLi_cutOut_119 ⟨Nat.le_of_ble_eq_true rfl, Nat.le_of_ble_eq_true rfl⟩) hD hS hA (fun u6 H locs hw6 hP hD hS => ?_)
                      have eu6 := hw6
                      refine lv_iload hx hb dLi_cutOut_122 (lv_at hl 0 rfl) ?_
                      refine lv_iload hx hb dLi_cutOut_124 (lv_at hl 6 rfl) ?_
                      refine lv_icmp_eq (tgt := 136) hx hb dLi_cutOut_126 (by decide) (fun c126 => ?_) (fun c126 => ?_)
                      · have c126 : 0 = gp := (nI_eq (a := 0) (b := gp) (by omega) (by omega)).mp (show nI 0 = nI gp from c126)
                        exact absurd c126 (by omega)
                      · have c126 : ¬ 0 = gp := fun q9 => c126 (show nI 0 = nI gp from (nI_eq (a := 0) (b := gp) (by omega) (by omega)).mpr q9)
                        refine lv_iload hx hb dLi_cutOut_129 (lv_at hl 1 rfl) ?_
                        refine lv_bipush (v := nI 10) hx hb dLi_cutOut_131 (by decide +kernel) ?_
                        refine lv_icmp_ne (tgt := 139) hx hb dLi_cutOut_133 (by decide) (fun c133 => ?_) (fun c133 => ?_)
                        · have c133 : ¬ 1 = 10 := fun q9 => c133 (show nI 1 = nI 10 from (nI_eq (a := 1) (b := 10) (by omega) (by omega)).mpr q9)
                          refine lv_iinc (v := nI (f + 1)) (lv' := [(7, .int (nI (f + 1))), (6, .int (nI 0)), (5, .int (nI 1)), (8, .int (nI 1)), (0, .ref (b 15)), (1, .ref (b 7)), (2, .double th), (4, .int (nI gp))]) hx hb dLi_cutOut_139 hl (k := 7) rfl (nI_1 _) (by decide) rfl (fun ls hl => ?_)
                          refine lv_goto (tgt := 14) hx hb dLi_cutOut_142 (by decide) ?_
                          have p7 : u6 0 7 = nI (Ld.length + 1) := by rw [eu6, ui_o _ _ _ (by decide), eI5, ui_s]
                          have p4 : u6 4 Ld.length = nI f := by rw [eu6, ui_o _ _ _ (by decide), eI5, ui_o _ _ _ (by decide), eJ1, ui_o _ _ _ (by decide), ui_o _ _ _ (by decide), ui_o _ _ _ (by decide), ui_s]
                          have p5 : u6 5 Ld.length = nI (f - f + 1) := by rw [eu6, ui_s]
                          have p6 : u6 6 Ld.length = -1 := by rw [eu6, ui_o _ _ _ (by decide), eI5, ui_o _ _ _ (by decide), eJ1, ui_o _ _ _ (by decide), ui_s]
                          have p8 : u6 7 Ld.length = nI 63 := by rw [eu6, ui_o _ _ _ (by decide), eI5, ui_o _ _ _ (by decide), eJ1, ui_s]
                          have p9 : E1 9 Ld.length = 0 := by rw [eE1, ud_s]
                          have n9 : (1 = 0 ∧ Ld ++ hs_w (D 1) th (hd_nf ns) gp fv (f + 1) = hs_w (D 1) th (hd_nf ns) gp 20 0 ∧ hd_nf ns ≤ f + 1 + fv ∧ Ld.length ≤ f + 1 ∧ u6 0 7 = nI Ld.length) ∨ (0 < 1 ∧ 1 < 10 ∧ 0 < gp ∧ f + 1 = f + 1 ∧ f ≤ f ∧ f < f + 1 ∧ Ld.length ≤ f ∧ Ld ++ ((f, (hs_in (D 1) th (hd_nf ns) gp 10 (f + 1) f 0 1).1 - f + 1) :: hs_w (D 1) th (hd_nf ns) gp fv (hs_in (D 1) th (hd_nf ns) gp 10 (f + 1) f 0 1).2) = hs_w (D 1) th (hd_nf ns) gp 20 0 ∧ 10 ≤ 1 + 10 ∧ hd_nf ns ≤ f + 1 + fv ∧ u6 0 7 = nI (Ld.length + 1) ∧ u6 4 Ld.length = nI f ∧ u6 5 Ld.length = nI (f - f + 1) ∧ u6 6 Ld.length = -1 ∧ u6 7 Ld.length = nI 63 ∧ E1 9 Ld.length = 0) := Or.inr ⟨by omega, by omega, by omega, by omega, by omega, by omega, a3, by rw [← a1, hs_w_l c20b g9], by omega, by omega, p7, p4, p5, p6, p8, p9⟩
                          have q1 : ∀ c, c ≠ 0 → ∀ z, z ≠ Ld.length → u6 c z = J c z := fun c z0 z zn => by rw [eu6, ui_z _ _ _ _ zn, eI5, ui_o _ _ _ z0, eJ1, ui_z _ _ _ _ zn, ui_z _ _ _ _ zn, ui_z _ _ _ _ zn, ui_z _ _ _ _ zn]
                          have q2 : ∀ z, z ≠ 7 → u6 0 z = I 0 z := fun z z7 => by rw [eu6, ui_o _ _ _ (by decide), eI5, ui_n _ _ _ z7, eJ1, ui_o _ _ _ (by decide), ui_o _ _ _ (by decide), ui_o _ _ _ (by decide), ui_o _ _ _ (by decide)]; exact hJ0 z z7
                          have q3 : ∀ c, c ≠ 0 → c ≠ 4 → c ≠ 5 → c ≠ 6 → c ≠ 7 → u6 c = I c := fun c z0 z4 z5 z6 z7 => by rw [eu6, ui_o _ _ _ z5, eI5, ui_o _ _ _ z0, eJ1, ui_o _ _ _ z7, ui_o _ _ _ z6, ui_o _ _ _ z5, ui_o _ _ _ z4]; exact hJ c z0 z4 z5 z6 z7
                          have q4 : ∀ c, c ≠ 9 → E1 c = D c := fun c z9 => by rw [eE1, ud_o _ _ _ z9]; exact hE9 c z9
                          have q5 : ∀ k9 f9 m9, Ld[k9]? = some (f9, m9) → wk_0 u6 E1 (hd_nf ns) k9 f9 m9 := fun k9 f9 m9 h => by
                            obtain ⟨o1, o2, o3, o4, o5, o6⟩ := hWo k9 f9 m9 h
                            have zn : k9 ≠ Ld.length := by have := la_lt h; omega
                            exact ⟨(q1 4 (by decide) k9 zn).trans o1, (q1 5 (by decide) k9 zn).trans o2, (q1 6 (by decide) k9 zn).trans o3, (q1 7 (by decide) k9 zn).trans o4, by rw [eE1, ud_n _ _ _ zn]; exact o5, o6⟩
                          exact ih14 (f + 1) 1 0 Ld u6 E1 fv f f 10 (by omega) (by omega) (by omega) n9 q2 q3 q4 q5 _ _ hP hD hS ls (lv_sub hl [4, 5, 6, 7, 2, 1, 0] rfl)
                        · have c133 : 1 = 10 := (nI_eq (a := 1) (b := 10) (by omega) (by omega)).mp (show nI 1 = nI 10 from c133)
                          exact absurd c133 (by decide)
              · have c48 : 1 = 0 := (nI_eq (a := 1) (b := 0) (by omega) (by omega)).mp (show nI 1 = nI 0 from c48)
                exact absurd c48 (by decide)
        · have c20b : f < hd_nf ns := by omega
          obtain ⟨fx, rfl⟩ : ∃ fx, fw = fx + 1 := ⟨fw - 1, by omega⟩
          refine lv_aload_n hx hb dLi_cutOut_23 rfl (lv_at hl 1 rfl) ?_
          refine lv_iload hx hb dLi_cutOut_24 (lv_at hl 6 rfl) ?_
          have hfi := nf_lt (n := ns) (j := f) (by omega)
          refine ct_d (va_runV (As := [.int (nI f)]) (rest := []) ⟨hx, hb, hml, hown, hts⟩ (kSo_loudness l dC dI k b P J E _ f (D 1) (by omega) (fun i hi => hsm _ (by omega)) (fun j hj => by rw [hE9 3 (by decide)]; exact (hj3 _ (by omega)).trans (hw_su_e (D 1) f j hj))) (cwV 1 hts (gw_V tw_590 tw_591 tw_592 tw_4 tw_593) rfl rfl rfl (by decide +kernel) ⟨Nat.le_of_ble_eq_true rfl, Nat.le_of_ble_eq_true rfl⟩) ⟨ct_blind (ev := (fun _ => True)) (fun _ _ _ _ h => h), va_recv hK hP (ci := 3) (q0 := 7) rfl rfl, ct_now (ev := (fun _ => True)) (fun _ _ _ => trivial) hP hK hD⟩ rfl rfl hl.1 rfl (lv_room (Nat.le_of_ble_eq_true rfl)) dLi_cutOut_26 ⟨Nat.le_of_ble_eq_true rfl, Nat.le_of_ble_eq_true rfl⟩) hD hS hA (fun r7 u7 H locs hw7 hP hD hS => ?_)
          subst hw7
          refine lv_dload_n hx hb dLi_cutOut_29 rfl (lv_at hl 2 rfl) ?_
          refine lv_dcmp hx hb dLi_cutOut_30 ?_
          refine lv_if_lt (tgt := 38) hx hb dLi_cutOut_31 (by decide) (fun c31 => ?_) (fun c31 => ?_)
          · have g9 := ld_0 c31
            refine lv_iconst (v := nI 0) hx hb dLi_cutOut_38 (by decide +kernel) ?_
            refine lv_istore (lv' := [(8, .int (nI 0)), (0, .ref (b 15)), (1, .ref (b 7)), (2, .double th), (4, .int (nI gp)), (5, .int (nI lk)), (6, .int (nI q)), (7, .int (nI f))]) hx hb dLi_cutOut_39 hl (by decide) rfl (fun ls hl => ?_)
            refine lv_iload hx hb dLi_cutOut_41 (lv_at hl 5 rfl) ?_
            refine lv_if_ne (tgt := 54) hx hb dLi_cutOut_43 (by decide) (fun c43 => ?_) (fun c43 => ?_)
            · have c43 : ¬ lk = 0 := fun q9 => c43 (show nI lk = nI 0 from (nI_eq (a := lk) (b := 0) (by omega) (by omega)).mpr q9)
              refine lv_iload hx hb dLi_cutOut_54 (lv_at hl 5 rfl) ?_
              refine lv_if_ne (tgt := 83) hx hb dLi_cutOut_56 (by decide) (fun c56 => ?_) (fun c56 => ?_)
              · have c56 : ¬ lk = 0 := fun q9 => c56 (show nI lk = nI 0 from (nI_eq (a := lk) (b := 0) (by omega) (by omega)).mpr q9)
                refine lv_iinc (v := nI (lk + 1)) (lv' := [(5, .int (nI (lk + 1))), (8, .int (nI 0)), (0, .ref (b 15)), (1, .ref (b 7)), (2, .double th), (4, .int (nI gp)), (6, .int (nI q)), (7, .int (nI f))]) hx hb dLi_cutOut_83 hl (k := 5) rfl (nI_1 _) (by decide) rfl (fun ls hl => ?_)
                refine lv_iload hx hb dLi_cutOut_86 (lv_at hl 1 rfl) ?_
                refine lv_if_eq (tgt := 95) hx hb dLi_cutOut_88 (by decide) (fun c88 => ?_) (fun c88 => ?_)
                · have c88 : 0 = 0 := (nI_eq (a := 0) (b := 0) (by omega) (by omega)).mp (show nI 0 = nI 0 from c88)
                  refine lv_iload hx hb dLi_cutOut_95 (lv_at hl 6 rfl) ?_
                  refine lv_iconst (v := nI 1) hx hb dLi_cutOut_97 (by decide +kernel) ?_
                  refine lv_iadd hx hb dLi_cutOut_98 ?_
                  refine rw_i (y := nI (q + 1)) (nI_add _ _) ?_
                  refine lv_istore (lv' := [(6, .int (nI (q + 1))), (5, .int (nI (lk + 1))), (8, .int (nI 0)), (0, .ref (b 15)), (1, .ref (b 7)), (2, .double th), (4, .int (nI gp)), (7, .int (nI f))]) hx hb dLi_cutOut_99 hl (by decide) rfl (fun ls hl => ?_)
                  refine lv_iload hx hb dLi_cutOut_101 (lv_at hl 2 rfl) ?_
                  refine lv_if_eq (tgt := 122) hx hb dLi_cutOut_103 (by decide) (fun c103 => ?_) (fun c103 => ?_)
                  · have c103 : 0 = 0 := (nI_eq (a := 0) (b := 0) (by omega) (by omega)).mp (show nI 0 = nI 0 from c103)
                    refine lv_iload hx hb dLi_cutOut_122 (lv_at hl 0 rfl) ?_
                    refine lv_iload hx hb dLi_cutOut_124 (lv_at hl 6 rfl) ?_
                    refine lv_icmp_eq (tgt := 136) hx hb dLi_cutOut_126 (by decide) (fun c126 => ?_) (fun c126 => ?_)
                    · have c126 : (q + 1) = gp := (nI_eq (a := (q + 1)) (b := gp) (by omega) (by omega)).mp (show nI (q + 1) = nI gp from c126)
                      refine lv_iconst (v := nI 0) hx hb dLi_cutOut_136 (by decide +kernel) ?_
                      refine lv_istore (lv' := [(5, .int (nI 0)), (6, .int (nI (q + 1))), (8, .int (nI 0)), (0, .ref (b 15)), (1, .ref (b 7)), (2, .double th), (4, .int (nI gp)), (7, .int (nI f))]) hx hb dLi_cutOut_137 hl (by decide) rfl (fun ls hl => ?_)
                      refine lv_iinc (v := nI (f + 1)) (lv' := [(7, .int (nI (f + 1))), (5, .int (nI 0)), (6, .int (nI (q + 1))), (8, .int (nI 0)), (0, .ref (b 15)), (1, .ref (b 7)), (2, .double th), (4, .int (nI gp))]) hx hb dLi_cutOut_139 hl (k := 7) rfl (nI_1 _) (by decide) rfl (fun ls hl => ?_)
                      refine lv_goto (tgt := 14) hx hb dLi_cutOut_142 (by decide) ?_
                      rw [hs_in_q ⟨by omega, by omega, by omega⟩ g9] at b8
                      have r4 : J 4 Ld.length = nI f0 ∧ J 5 Ld.length = nI (la - f0 + 1) ∧ J 6 Ld.length = -1 ∧ J 7 Ld.length = nI 63 ∧ J 0 7 = nI (Ld.length + 1) := ⟨b12, b13, b14, b15, b11⟩
                      have q2 := hJ0
                      have q3 := hJ
                      have q5 := hWo
                      rw [hs_in_e fx (by omega)] at b8
                      have n2 : (Ld ++ [(f0, la - f0 + 1)]).length = Ld.length + 1 := List.length_append
                      have n9 : (0 = 0 ∧ (Ld ++ [(f0, la - f0 + 1)]) ++ hs_w (D 1) th (hd_nf ns) gp fu (f + 1) = hs_w (D 1) th (hd_nf ns) gp 20 0 ∧ hd_nf ns ≤ f + 1 + fu ∧ (Ld ++ [(f0, la - f0 + 1)]).length ≤ f + 1 ∧ J 0 7 = nI (Ld ++ [(f0, la - f0 + 1)]).length) ∨ (0 < 0 ∧ 0 < 10 ∧ q + 1 < gp ∧ f0 + 0 = f + 1 ∧ f0 ≤ la ∧ la < f + 1 ∧ (Ld ++ [(f0, la - f0 + 1)]).length ≤ f0 ∧ (Ld ++ [(f0, la - f0 + 1)]) ++ ((f0, (hs_in (D 1) th (hd_nf ns) gp 0 (f + 1) la (q + 1) 0).1 - f0 + 1) :: hs_w (D 1) th (hd_nf ns) gp fu (hs_in (D 1) th (hd_nf ns) gp 0 (f + 1) la (q + 1) 0).2) = hs_w (D 1) th (hd_nf ns) gp 20 0 ∧ 10 ≤ 0 + 0 ∧ hd_nf ns ≤ f + 1 + fu ∧ J 0 7 = nI ((Ld ++ [(f0, la - f0 + 1)]).length + 1) ∧ J 4 (Ld ++ [(f0, la - f0 + 1)]).length = nI f0 ∧ J 5 (Ld ++ [(f0, la - f0 + 1)]).length = nI (la - f0 + 1) ∧ J 6 (Ld ++ [(f0, la - f0 + 1)]).length = -1 ∧ J 7 (Ld ++ [(f0, la - f0 + 1)]).length = nI 63 ∧ E 9 (Ld ++ [(f0, la - f0 + 1)]).length = 0) := Or.inl ⟨rfl, by rw [← b8, List.append_assoc]; rfl, by omega, by omega, by rw [n2]; exact r4.2.2.2.2⟩
                      have q6 : ∀ k9 f9 m9, (Ld ++ [(f0, la - f0 + 1)])[k9]? = some (f9, m9) → wk_0 J E (hd_nf ns) k9 f9 m9 := fun k9 f9 m9 h => by
                        rcases la_app h with ⟨h1, h2⟩ | ⟨h1, h2⟩
                        · exact q5 k9 f9 m9 h2
                        · cases h2; subst h1; exact ⟨r4.1, r4.2.1, r4.2.2.1, r4.2.2.2.1, b16, by omega, by omega, by omega⟩
                      exact ih14 (f + 1) 0 (q + 1) (Ld ++ [(f0, la - f0 + 1)]) J E fu f0 la 0 (by omega) (by omega) (by omega) n9 q2 q3 hE9 q6 _ _ hP hD hS ls (lv_sub hl [4, 5, 6, 7, 1, 2, 0] rfl)
                    · have c126 : ¬ (q + 1) = gp := fun q9 => c126 (show nI (q + 1) = nI gp from (nI_eq (a := (q + 1)) (b := gp) (by omega) (by omega)).mpr q9)
                      refine lv_iload hx hb dLi_cutOut_129 (lv_at hl 1 rfl) ?_
                      refine lv_bipush (v := nI 10) hx hb dLi_cutOut_131 (by decide +kernel) ?_
                      refine lv_icmp_ne (tgt := 139) hx hb dLi_cutOut_133 (by decide) (fun c133 => ?_) (fun c133 => ?_)
                      · have c133 : ¬ (lk + 1) = 10 := fun q9 => c133 (show nI (lk + 1) = nI 10 from (nI_eq (a := (lk + 1)) (b := 10) (by omega) (by omega)).mpr q9)
                        refine lv_iinc (v := nI (f + 1)) (lv' := [(7, .int (nI (f + 1))), (6, .int (nI (q + 1))), (5, .int (nI (lk + 1))), (8, .int (nI 0)), (0, .ref (b 15)), (1, .ref (b 7)), (2, .double th), (4, .int (nI gp))]) hx hb dLi_cutOut_139 hl (k := 7) rfl (nI_1 _) (by decide) rfl (fun ls hl => ?_)
                        refine lv_goto (tgt := 14) hx hb dLi_cutOut_142 (by decide) ?_
                        rw [hs_in_q ⟨by omega, by omega, by omega⟩ g9] at b8
                        have r4 : J 4 Ld.length = nI f0 ∧ J 5 Ld.length = nI (la - f0 + 1) ∧ J 6 Ld.length = -1 ∧ J 7 Ld.length = nI 63 ∧ J 0 7 = nI (Ld.length + 1) := ⟨b12, b13, b14, b15, b11⟩
                        have q2 := hJ0
                        have q3 := hJ
                        have q5 := hWo
                        have n9 : (lk + 1 = 0 ∧ Ld ++ hs_w (D 1) th (hd_nf ns) gp fu (f + 1) = hs_w (D 1) th (hd_nf ns) gp 20 0 ∧ hd_nf ns ≤ f + 1 + fu ∧ Ld.length ≤ f + 1 ∧ J 0 7 = nI Ld.length) ∨ (0 < lk + 1 ∧ lk + 1 < 10 ∧ q + 1 < gp ∧ f0 + lk + 1 = f + 1 ∧ f0 ≤ la ∧ la < f + 1 ∧ Ld.length ≤ f0 ∧ Ld ++ ((f0, (hs_in (D 1) th (hd_nf ns) gp fx (f + 1) la (q + 1) (lk + 1)).1 - f0 + 1) :: hs_w (D 1) th (hd_nf ns) gp fu (hs_in (D 1) th (hd_nf ns) gp fx (f + 1) la (q + 1) (lk + 1)).2) = hs_w (D 1) th (hd_nf ns) gp 20 0 ∧ 10 ≤ lk + 1 + fx ∧ hd_nf ns ≤ f + 1 + fu ∧ J 0 7 = nI (Ld.length + 1) ∧ J 4 Ld.length = nI f0 ∧ J 5 Ld.length = nI (la - f0 + 1) ∧ J 6 Ld.length = -1 ∧ J 7 Ld.length = nI 63 ∧ E 9 Ld.length = 0) := Or.inr ⟨by omega, by omega, by omega, by omega, by omega, by omega, b7, b8, by omega, by omega, r4.2.2.2.2, r4.1, r4.2.1, r4.2.2.1, r4.2.2.2.1, b16⟩
                        exact ih14 (f + 1) (lk + 1) (q + 1) Ld J E fu f0 la fx (by omega) (by omega) (by omega) n9 q2 q3 hE9 q5 _ _ hP hD hS ls (lv_sub hl [4, 5, 6, 7, 2, 1, 0] rfl)
                      · have c133 : (lk + 1) = 10 := (nI_eq (a := (lk + 1)) (b := 10) (by omega) (by omega)).mp (show nI (lk + 1) = nI 10 from c133)
                        refine lv_iconst (v := nI 0) hx hb dLi_cutOut_136 (by decide +kernel) ?_
                        refine lv_istore (lv' := [(5, .int (nI 0)), (6, .int (nI (q + 1))), (8, .int (nI 0)), (0, .ref (b 15)), (1, .ref (b 7)), (2, .double th), (4, .int (nI gp)), (7, .int (nI f))]) hx hb dLi_cutOut_137 hl (by decide) rfl (fun ls hl => ?_)
                        refine lv_iinc (v := nI (f + 1)) (lv' := [(7, .int (nI (f + 1))), (5, .int (nI 0)), (6, .int (nI (q + 1))), (8, .int (nI 0)), (0, .ref (b 15)), (1, .ref (b 7)), (2, .double th), (4, .int (nI gp))]) hx hb dLi_cutOut_139 hl (k := 7) rfl (nI_1 _) (by decide) rfl (fun ls hl => ?_)
                        refine lv_goto (tgt := 14) hx hb dLi_cutOut_142 (by decide) ?_
                        rw [hs_in_q ⟨by omega, by omega, by omega⟩ g9] at b8
                        have r4 : J 4 Ld.length = nI f0 ∧ J 5 Ld.length = nI (la - f0 + 1) ∧ J 6 Ld.length = -1 ∧ J 7 Ld.length = nI 63 ∧ J 0 7 = nI (Ld.length + 1) := ⟨b12, b13, b14, b15, b11⟩
                        have q2 := hJ0
                        have q3 := hJ
                        have q5 := hWo
                        rw [hs_in_e fx (by omega)] at b8
                        have n2 : (Ld ++ [(f0, la - f0 + 1)]).length = Ld.length + 1 := List.length_append
                        have n9 : (0 = 0 ∧ (Ld ++ [(f0, la - f0 + 1)]) ++ hs_w (D 1) th (hd_nf ns) gp fu (f + 1) = hs_w (D 1) th (hd_nf ns) gp 20 0 ∧ hd_nf ns ≤ f + 1 + fu ∧ (Ld ++ [(f0, la - f0 + 1)]).length ≤ f + 1 ∧ J 0 7 = nI (Ld ++ [(f0, la - f0 + 1)]).length) ∨ (0 < 0 ∧ 0 < 10 ∧ q + 1 < gp ∧ f0 + 0 = f + 1 ∧ f0 ≤ la ∧ la < f + 1 ∧ (Ld ++ [(f0, la - f0 + 1)]).length ≤ f0 ∧ (Ld ++ [(f0, la - f0 + 1)]) ++ ((f0, (hs_in (D 1) th (hd_nf ns) gp 0 (f + 1) la (q + 1) 0).1 - f0 + 1) :: hs_w (D 1) th (hd_nf ns) gp fu (hs_in (D 1) th (hd_nf ns) gp 0 (f + 1) la (q + 1) 0).2) = hs_w (D 1) th (hd_nf ns) gp 20 0 ∧ 10 ≤ 0 + 0 ∧ hd_nf ns ≤ f + 1 + fu ∧ J 0 7 = nI ((Ld ++ [(f0, la - f0 + 1)]).length + 1) ∧ J 4 (Ld ++ [(f0, la - f0 + 1)]).length = nI f0 ∧ J 5 (Ld ++ [(f0, la - f0 + 1)]).length = nI (la - f0 + 1) ∧ J 6 (Ld ++ [(f0, la - f0 + 1)]).length = -1 ∧ J 7 (Ld ++ [(f0, la - f0 + 1)]).length = nI 63 ∧ E 9 (Ld ++ [(f0, la - f0 + 1)]).length = 0) := Or.inl ⟨rfl, by rw [← b8, List.append_assoc]; rfl, by omega, by omega, by rw [n2]; exact r4.2.2.2.2⟩
                        have q6 : ∀ k9 f9 m9, (Ld ++ [(f0, la - f0 + 1)])[k9]? = some (f9, m9) → wk_0 J E (hd_nf ns) k9 f9 m9 := fun k9 f9 m9 h => by
                          rcases la_app h with ⟨h1, h2⟩ | ⟨h1, h2⟩
                          · exact q5 k9 f9 m9 h2
                          · cases h2; subst h1; exact ⟨r4.1, r4.2.1, r4.2.2.1, r4.2.2.2.1, b16, by omega, by omega, by omega⟩
                        exact ih14 (f + 1) 0 (q + 1) (Ld ++ [(f0, la - f0 + 1)]) J E fu f0 la 0 (by omega) (by omega) (by omega) n9 q2 q3 hE9 q6 _ _ hP hD hS ls (lv_sub hl [4, 5, 6, 7, 1, 2, 0] rfl)
                  · have c103 : ¬ 0 = 0 := fun q9 => c103 (show nI 0 = nI 0 from (nI_eq (a := 0) (b := 0) (by omega) (by omega)).mpr q9)
                    exact absurd (by decide) c103
                · have c88 : ¬ 0 = 0 := fun q9 => c88 (show nI 0 = nI 0 from (nI_eq (a := 0) (b := 0) (by omega) (by omega)).mpr q9)
                  exact absurd (by decide) c88
              · have c56 : lk = 0 := (nI_eq (a := lk) (b := 0) (by omega) (by omega)).mp (show nI lk = nI 0 from c56)
                exact absurd c56 (by omega)
            · have c43 : lk = 0 := (nI_eq (a := lk) (b := 0) (by omega) (by omega)).mp (show nI lk = nI 0 from c43)
              exact absurd c43 (by omega)
          · have g9 := ld_1 c31
            refine lv_iconst (v := nI 1) hx hb dLi_cutOut_34 (by decide +kernel) ?_
            refine lv_goto (tgt := 39) hx hb dLi_cutOut_35 (by decide) ?_
            refine lv_istore (lv' := [(8, .int (nI 1)), (0, .ref (b 15)), (1, .ref (b 7)), (2, .double th), (4, .int (nI gp)), (5, .int (nI lk)), (6, .int (nI q)), (7, .int (nI f))]) hx hb dLi_cutOut_39 hl (by decide) rfl (fun ls hl => ?_)
            refine lv_iload hx hb dLi_cutOut_41 (lv_at hl 5 rfl) ?_
            refine lv_if_ne (tgt := 54) hx hb dLi_cutOut_43 (by decide) (fun c43 => ?_) (fun c43 => ?_)
            · have c43 : ¬ lk = 0 := fun q9 => c43 (show nI lk = nI 0 from (nI_eq (a := lk) (b := 0) (by omega) (by omega)).mpr q9)
              refine lv_iload hx hb dLi_cutOut_54 (lv_at hl 5 rfl) ?_
              refine lv_if_ne (tgt := 83) hx hb dLi_cutOut_56 (by decide) (fun c56 => ?_) (fun c56 => ?_)
              · have c56 : ¬ lk = 0 := fun q9 => c56 (show nI lk = nI 0 from (nI_eq (a := lk) (b := 0) (by omega) (by omega)).mpr q9)
                refine lv_iinc (v := nI (lk + 1)) (lv' := [(5, .int (nI (lk + 1))), (8, .int (nI 1)), (0, .ref (b 15)), (1, .ref (b 7)), (2, .double th), (4, .int (nI gp)), (6, .int (nI q)), (7, .int (nI f))]) hx hb dLi_cutOut_83 hl (k := 5) rfl (nI_1 _) (by decide) rfl (fun ls hl => ?_)
                refine lv_iload hx hb dLi_cutOut_86 (lv_at hl 1 rfl) ?_
                refine lv_if_eq (tgt := 95) hx hb dLi_cutOut_88 (by decide) (fun c88 => ?_) (fun c88 => ?_)
                · have c88 : 1 = 0 := (nI_eq (a := 1) (b := 0) (by omega) (by omega)).mp (show nI 1 = nI 0 from c88)
                  exact absurd c88 (by decide)
                · have c88 : ¬ 1 = 0 := fun q9 => c88 (show nI 1 = nI 0 from (nI_eq (a := 1) (b := 0) (by omega) (by omega)).mpr q9)
                  refine lv_iconst (v := nI 0) hx hb dLi_cutOut_91 (by decide +kernel) ?_
                  refine lv_goto (tgt := 99) hx hb dLi_cutOut_92 (by decide) ?_
                  refine lv_istore (lv' := [(6, .int (nI 0)), (5, .int (nI (lk + 1))), (8, .int (nI 1)), (0, .ref (b 15)), (1, .ref (b 7)), (2, .double th), (4, .int (nI gp)), (7, .int (nI f))]) hx hb dLi_cutOut_99 hl (by decide) rfl (fun ls hl => ?_)
                  refine lv_iload hx hb dLi_cutOut_101 (lv_at hl 2 rfl) ?_
                  refine lv_if_eq (tgt := 122) hx hb dLi_cutOut_103 (by decide) (fun c103 => ?_) (fun c103 => ?_)
                  · have c103 : 1 = 0 := (nI_eq (a := 1) (b := 0) (by omega) (by omega)).mp (show nI 1 = nI 0 from c103)
                    exact absurd c103 (by decide)
                  · have c103 : ¬ 1 = 0 := fun q9 => c103 (show nI 1 = nI 0 from (nI_eq (a := 1) (b := 0) (by omega) (by omega)).mpr q9)
                    refine lv_aload_n hx hb dLi_cutOut_106 rfl (lv_at hl 3 rfl) ?_
                    refine va_get (D := (dC, dI)) (ci := 6) (v := .ref (b 16)) (C := RLi) (T := TLi) (N := 2) hx hb hts inLi hown hK hP 15 rfl rfl 0 (by decide) (hts _ tw_181) (fun _ h9 => h9) rfl dLi_cutOut_107 ?_
                    refine lv_aload_n hx hb dLi_cutOut_110 rfl (lv_at hl 3 rfl) ?_
                    refine va_get (D := (dC, dI)) (ci := 6) (v := .int (J 0 7)) (C := RLi) (T := TLi) (N := 2) hx hb hts inLi hown hK hP 15 rfl rfl 1 (by decide) (hts _ tw_183) (fun _ h9 => h9) rfl dLi_cutOut_111 ?_
                    refine rw_i (y := nI (Ld.length + 1)) b11 ?_
                    refine lv_iconst (v := nI 1) hx hb dLi_cutOut_114 (by decide +kernel) ?_
                    refine lv_isub hx hb dLi_cutOut_115 ?_
                    refine rw_i (y := nI Ld.length) ((pk_sub (by omega)).trans (congrArg nI (by omega))) ?_
                    refine rw_ald_q (x := b (29 + Ld.length)) hx hb hK hP 16 3 rfl rfl (if_pos (by omega)) (by omega) (by decide) dLi_cutOut_116 ?_
                    refine lv_iload hx hb dLi_cutOut_117 (lv_at hl 7 rfl) ?_
                    refine ct_v (va_runVN (As := [.int (nI f)]) (rest := []) ⟨hx, hb, hml, hown, hts⟩ (kWo_reach l dC dI k b P J E _ Ld.length f f0 (by omega) b12 (by omega)) ⟨va_cnB 1 hts (gw_N tw_598) rfl rfl rfl (hE _ en_595) (hts _ tw_8) (by decide +kernel) ⟨Nat.le_of_ble_eq_true rfl, Nat.le_of_ble_eq_true rfl⟩, hts _ tw_597, hts _ sl_Wo_reach⟩ ⟨ct_blind (ev := (fun _ => True)) (fun _ _ _ _ h => h), va_recv hK hP (ci := 5) (q0 := 29 + Ld.length) rfl (wd_wo (by omega)), ct_now (ev := (fun _ => True)) (fun _ _ _ => trivial) hP hK hD⟩ rfl rfl hl.1 rfl (lv_room (Nat.le_of_ble_eq_true rfl)) dLi_cutOut_119 ⟨Nat.le_of_ble_eq_true rfl, Nat.le_of_ble_eq_true rfl⟩) hD hS hA (fun u8 H locs hw8 hP hD hS => ?_)
                    have eu8 := hw8
                    refine lv_iload hx hb dLi_cutOut_122 (lv_at hl 0 rfl) ?_
                    refine lv_iload hx hb dLi_cutOut_124 (lv_at hl 6 rfl) ?_
                    refine lv_icmp_eq (tgt := 136) hx hb dLi_cutOut_126 (by decide) (fun c126 => ?_) (fun c126 => ?_)
                    · have c126 : 0 = gp := (nI_eq (a := 0) (b := gp) (by omega) (by omega)).mp (show nI 0 = nI gp from c126)
                      exact absurd c126 (by omega)
                    · have c126 : ¬ 0 = gp := fun q9 => c126 (show nI 0 = nI gp from (nI_eq (a := 0) (b := gp) (by omega) (by omega)).mpr q9)
                      refine lv_iload hx hb dLi_cutOut_129 (lv_at hl 1 rfl) ?_
                      refine lv_bipush (v := nI 10) hx hb dLi_cutOut_131 (by decide +kernel) ?_
                      refine lv_icmp_ne (tgt := 139) hx hb dLi_cutOut_133 (by decide) (fun c133 => ?_) (fun c133 => ?_)
                      · have c133 : ¬ (lk + 1) = 10 := fun q9 => c133 (show nI (lk + 1) = nI 10 from (nI_eq (a := (lk + 1)) (b := 10) (by omega) (by omega)).mpr q9)
                        refine lv_iinc (v := nI (f + 1)) (lv' := [(7, .int (nI (f + 1))), (6, .int (nI 0)), (5, .int (nI (lk + 1))), (8, .int (nI 1)), (0, .ref (b 15)), (1, .ref (b 7)), (2, .double th), (4, .int (nI gp))]) hx hb dLi_cutOut_139 hl (k := 7) rfl (nI_1 _) (by decide) rfl (fun ls hl => ?_)
                        refine lv_goto (tgt := 14) hx hb dLi_cutOut_142 (by decide) ?_
                        rw [hs_in_l ⟨by omega, by omega, by omega⟩ g9] at b8
                        have r4 : u8 4 Ld.length = nI f0 ∧ u8 5 Ld.length = nI (f - f0 + 1) ∧ u8 6 Ld.length = -1 ∧ u8 7 Ld.length = nI 63 ∧ u8 0 7 = nI (Ld.length + 1) := ⟨by rw [eu8, ui_o _ _ _ (by decide)]; exact b12, by rw [eu8, ui_s], by rw [eu8, ui_o _ _ _ (by decide)]; exact b14, by rw [eu8, ui_o _ _ _ (by decide)]; exact b15, by rw [eu8, ui_o _ _ _ (by decide)]; exact b11⟩
                        have q1 : ∀ c z, z ≠ Ld.length → u8 c z = J c z := fun c z zn => by rw [eu8, ui_z _ _ _ _ zn]
                        have q2 : ∀ z, z ≠ 7 → u8 0 z = I 0 z := fun z z7 => by rw [eu8, ui_o _ _ _ (by decide)]; exact hJ0 z z7
                        have q3 : ∀ c, c ≠ 0 → c ≠ 4 → c ≠ 5 → c ≠ 6 → c ≠ 7 → u8 c = I c := fun c z0 z4 z5 z6 z7 => by rw [eu8, ui_o _ _ _ z5]; exact hJ c z0 z4 z5 z6 z7
                        have q5 : ∀ k9 f9 m9, Ld[k9]? = some (f9, m9) → wk_0 u8 E (hd_nf ns) k9 f9 m9 := fun k9 f9 m9 h => by
                          obtain ⟨o1, o2, o3, o4, o5, o6⟩ := hWo k9 f9 m9 h
                          have zn : k9 ≠ Ld.length := by have := la_lt h; omega
                          exact ⟨(q1 4 k9 zn).trans o1, (q1 5 k9 zn).trans o2, (q1 6 k9 zn).trans o3, (q1 7 k9 zn).trans o4, o5, o6⟩
                        have n9 : (lk + 1 = 0 ∧ Ld ++ hs_w (D 1) th (hd_nf ns) gp fu (f + 1) = hs_w (D 1) th (hd_nf ns) gp 20 0 ∧ hd_nf ns ≤ f + 1 + fu ∧ Ld.length ≤ f + 1 ∧ u8 0 7 = nI Ld.length) ∨ (0 < lk + 1 ∧ lk + 1 < 10 ∧ 0 < gp ∧ f0 + lk + 1 = f + 1 ∧ f0 ≤ f ∧ f < f + 1 ∧ Ld.length ≤ f0 ∧ Ld ++ ((f0, (hs_in (D 1) th (hd_nf ns) gp fx (f + 1) f 0 (lk + 1)).1 - f0 + 1) :: hs_w (D 1) th (hd_nf ns) gp fu (hs_in (D 1) th (hd_nf ns) gp fx (f + 1) f 0 (lk + 1)).2) = hs_w (D 1) th (hd_nf ns) gp 20 0 ∧ 10 ≤ lk + 1 + fx ∧ hd_nf ns ≤ f + 1 + fu ∧ u8 0 7 = nI (Ld.length + 1) ∧ u8 4 Ld.length = nI f0 ∧ u8 5 Ld.length = nI (f - f0 + 1) ∧ u8 6 Ld.length = -1 ∧ u8 7 Ld.length = nI 63 ∧ E 9 Ld.length = 0) := Or.inr ⟨by omega, by omega, by omega, by omega, by omega, by omega, b7, b8, by omega, by omega, r4.2.2.2.2, r4.1, r4.2.1, r4.2.2.1, r4.2.2.2.1, b16⟩
                        exact ih14 (f + 1) (lk + 1) 0 Ld u8 E fu f0 f fx (by omega) (by omega) (by omega) n9 q2 q3 hE9 q5 _ _ hP hD hS ls (lv_sub hl [4, 5, 6, 7, 2, 1, 0] rfl)
                      · have c133 : (lk + 1) = 10 := (nI_eq (a := (lk + 1)) (b := 10) (by omega) (by omega)).mp (show nI (lk + 1) = nI 10 from c133)
                        refine lv_iconst (v := nI 0) hx hb dLi_cutOut_136 (by decide +kernel) ?_
                        refine lv_istore (lv' := [(5, .int (nI 0)), (6, .int (nI 0)), (8, .int (nI 1)), (0, .ref (b 15)), (1, .ref (b 7)), (2, .double th), (4, .int (nI gp)), (7, .int (nI f))]) hx hb dLi_cutOut_137 hl (by decide) rfl (fun ls hl => ?_)
                        refine lv_iinc (v := nI (f + 1)) (lv' := [(7, .int (nI (f + 1))), (5, .int (nI 0)), (6, .int (nI 0)), (8, .int (nI 1)), (0, .ref (b 15)), (1, .ref (b 7)), (2, .double th), (4, .int (nI gp))]) hx hb dLi_cutOut_139 hl (k := 7) rfl (nI_1 _) (by decide) rfl (fun ls hl => ?_)
                        refine lv_goto (tgt := 14) hx hb dLi_cutOut_142 (by decide) ?_
                        rw [hs_in_l ⟨by omega, by omega, by omega⟩ g9] at b8
                        have r4 : u8 4 Ld.length = nI f0 ∧ u8 5 Ld.length = nI (f - f0 + 1) ∧ u8 6 Ld.length = -1 ∧ u8 7 Ld.length = nI 63 ∧ u8 0 7 = nI (Ld.length + 1) := ⟨by rw [eu8, ui_o _ _ _ (by decide)]; exact b12, by rw [eu8, ui_s], by rw [eu8, ui_o _ _ _ (by decide)]; exact b14, by rw [eu8, ui_o _ _ _ (by decide)]; exact b15, by rw [eu8, ui_o _ _ _ (by decide)]; exact b11⟩
                        have q1 : ∀ c z, z ≠ Ld.length → u8 c z = J c z := fun c z zn => by rw [eu8, ui_z _ _ _ _ zn]
                        have q2 : ∀ z, z ≠ 7 → u8 0 z = I 0 z := fun z z7 => by rw [eu8, ui_o _ _ _ (by decide)]; exact hJ0 z z7
                        have q3 : ∀ c, c ≠ 0 → c ≠ 4 → c ≠ 5 → c ≠ 6 → c ≠ 7 → u8 c = I c := fun c z0 z4 z5 z6 z7 => by rw [eu8, ui_o _ _ _ z5]; exact hJ c z0 z4 z5 z6 z7
                        have q5 : ∀ k9 f9 m9, Ld[k9]? = some (f9, m9) → wk_0 u8 E (hd_nf ns) k9 f9 m9 := fun k9 f9 m9 h => by
                          obtain ⟨o1, o2, o3, o4, o5, o6⟩ := hWo k9 f9 m9 h
                          have zn : k9 ≠ Ld.length := by have := la_lt h; omega
                          exact ⟨(q1 4 k9 zn).trans o1, (q1 5 k9 zn).trans o2, (q1 6 k9 zn).trans o3, (q1 7 k9 zn).trans o4, o5, o6⟩
                        rw [hs_in_e fx (by omega)] at b8
                        have n2 : (Ld ++ [(f0, f - f0 + 1)]).length = Ld.length + 1 := List.length_append
                        have n9 : (0 = 0 ∧ (Ld ++ [(f0, f - f0 + 1)]) ++ hs_w (D 1) th (hd_nf ns) gp fu (f + 1) = hs_w (D 1) th (hd_nf ns) gp 20 0 ∧ hd_nf ns ≤ f + 1 + fu ∧ (Ld ++ [(f0, f - f0 + 1)]).length ≤ f + 1 ∧ u8 0 7 = nI (Ld ++ [(f0, f - f0 + 1)]).length) ∨ (0 < 0 ∧ 0 < 10 ∧ 0 < gp ∧ f0 + 0 = f + 1 ∧ f0 ≤ la ∧ la < f + 1 ∧ (Ld ++ [(f0, f - f0 + 1)]).length ≤ f0 ∧ (Ld ++ [(f0, f - f0 + 1)]) ++ ((f0, (hs_in (D 1) th (hd_nf ns) gp 0 (f + 1) la 0 0).1 - f0 + 1) :: hs_w (D 1) th (hd_nf ns) gp fu (hs_in (D 1) th (hd_nf ns) gp 0 (f + 1) la 0 0).2) = hs_w (D 1) th (hd_nf ns) gp 20 0 ∧ 10 ≤ 0 + 0 ∧ hd_nf ns ≤ f + 1 + fu ∧ u8 0 7 = nI ((Ld ++ [(f0, f - f0 + 1)]).length + 1) ∧ u8 4 (Ld ++ [(f0, f - f0 + 1)]).length = nI f0 ∧ u8 5 (Ld ++ [(f0, f - f0 + 1)]).length = nI (la - f0 + 1) ∧ u8 6 (Ld ++ [(f0, f - f0 + 1)]).length = -1 ∧ u8 7 (Ld ++ [(f0, f - f0 + 1)]).length = nI 63 ∧ E 9 (Ld ++ [(f0, f - f0 + 1)]).length = 0) := Or.inl ⟨rfl, by rw [← b8, List.append_assoc]; rfl, by omega, by omega, by rw [n2]; exact r4.2.2.2.2⟩
                        have q6 : ∀ k9 f9 m9, (Ld ++ [(f0, f - f0 + 1)])[k9]? = some (f9, m9) → wk_0 u8 E (hd_nf ns) k9 f9 m9 := fun k9 f9 m9 h => by
                          rcases la_app h with ⟨h1, h2⟩ | ⟨h1, h2⟩
                          · exact q5 k9 f9 m9 h2
                          · cases h2; subst h1; exact ⟨r4.1, r4.2.1, r4.2.2.1, r4.2.2.2.1, b16, by omega, by omega, by omega⟩
                        exact ih14 (f + 1) 0 0 (Ld ++ [(f0, f - f0 + 1)]) u8 E fu f0 la 0 (by omega) (by omega) (by omega) n9 q2 q3 hE9 q6 _ _ hP hD hS ls (lv_sub hl [4, 5, 6, 7, 1, 2, 0] rfl)
              · have c56 : lk = 0 := (nI_eq (a := lk) (b := 0) (by omega) (by omega)).mp (show nI lk = nI 0 from c56)
                exact absurd c56 (by omega)
            · have c43 : lk = 0 := (nI_eq (a := lk) (b := 0) (by omega) (by omega)).mp (show nI lk = nI 0 from c43)
              exact absurd c43 (by omega)
  exact L14 _ 0 0 0 ([]) I1 D 20 0 0 0 (Nat.lt_succ_self _) (by omega) (by omega) (Or.inl ⟨rfl, rfl, by omega, Nat.le_refl 0, by rw [eI1, ui_s]; first | done | rfl⟩) i0 (fun c z0 z4 z5 z6 z7 => i1 c z0) (fun c z9 => rfl) (fun k9 f9 m9 h => by cases h) _ _ hP hD hS ls (lv_sub hl [3, 4, 5, 6, 2, 1, 0] rfl)
