set_option maxHeartbeats 4000000 in
set_option maxRecDepth 100000 in
theorem kFi_append (l : Launch) (dC : Nat → ClassId) (dI : Nat → Nat → Nat) (k : Nat → ClassId) (b P : Nat → Nat) (I : Nat → Nat → Int32) (D : Nat → Nat → UInt64) (sz : Nat) (o : Int32) (n : Nat) (hn : n < 400) (h3 : I 0 3 = nI n) : Met l yFi_append wFi_append ({ frames := 0, cells := 0, slots := 0, locals := 0 }) (va_Pc [.ref (b 1), .int o] (ct_pre (dC, dI) (de_ty k) (fun _ => True) (wd k b P I D) sz)) (va_Qv (fun (u : Nat → Nat → Int32) => u = ui (ui I 1 n o) 0 3 (nI (n + 1))) (fun u t => ct_at (dC, dI) (va_A (wd k b P I D) sz) ((fun u => wd k b P u D) u) t) (va_A (wd k b P I D) sz)) 0 0 (va_A (wd k b P I D) sz) := by
  refine Met.ofW (cc := cFi_append) (maxL := 2) (ret := none) (by decide) rfl ?_
  intro p e s m args below meth c s₁ B hml hv
  obtain ⟨rfl, hsz, hP, hK, hD0, hE⟩ := hv
  have hx := B.exec
  have hb := B.bytes
  have hr := B.returns
  have hts : ∀ w ∈ W0, w.before [.ref (b 1), .int o].toArray s = true := fun w h => atoms_spec (ws := wFi_append) B.pre w (List.mem_cons_of_mem _ h)
  have hown : s.vm.findClass RFi = some m.cls := findClass_of_methodNamed B.named
  have hlocks := B.notSynchronized
  subst hsz
  have hP0 := hP
  have hD := hD0.self (sz := s.heap.size)
  generalize hAe : va_A (wd k b P I D) s.heap.size = A at hD ⊢
  have hA : ∀ q : Nat, s.heap.size ≤ q → A q := fun q h => by rw [← hAe]; exact Or.inr h
  have hS : va_S A s.heap s.heap [] := va_S.rf
  have hl := lv_entry ([.ref (b 1), .int o]) (n := 2) (Nat.le_of_ble_eq_true rfl)
  rw [lg_entry_eq]
  generalize (lg_sl ([.ref (b 1), .int o]) ++ List.replicate (2 - (lg_sl ([.ref (b 1), .int o])).length) Slot.unset).toArray = ls at hl ⊢
  have hl : lv_has ls 2 [(0, .ref (b 1)), (1, .int o)] := hl
  refine lv_aload_n hx hb dFi_append_0 rfl (lv_at hl 0 rfl) ?_
  refine va_get (D := (dC, dI)) (ci := 4) (v := .int (I 0 3)) (C := RFi) (T := TFi) (N := 2) hx hb hts inFi hown hK hP 1 rfl rfl 1 (by decide) (hts _ tw_34) (fun _ h9 => h9) rfl dFi_append_1 ?_
  refine rw_i (y := nI n) h3 ?_
  refine lv_sipush (v := nI 400) hx hb dFi_append_4 (by decide +kernel) ?_
  refine lv_icmp_ge (tgt := 30) hx hb dFi_append_7 (by decide) (fun c7 => ?_) (fun c7 => ?_)
  · have c7 : 400 ≤ n := (nI_leI (a := 400) (b := n) (by omega) (by omega)).mp (show nI 400 ≤ nI n from c7)
    exact absurd c7 (by omega)
  · have c7 : ¬ 400 ≤ n := fun q9 => c7 (show nI 400 ≤ nI n from (nI_leI (a := 400) (b := n) (by omega) (by omega)).mpr q9)
    refine lv_aload_n hx hb dFi_append_10 rfl (lv_at hl 0 rfl) ?_
    refine va_get (D := (dC, dI)) (ci := 4) (v := .ref (b 2)) (C := RFi) (T := TFi) (N := 2) hx hb hts inFi hown hK hP 1 rfl rfl 0 (by decide) (hts _ tw_33) (fun _ h9 => h9) rfl dFi_append_11 ?_
    refine lv_aload_n hx hb dFi_append_14 rfl (lv_at hl 0 rfl) ?_
    refine va_get (D := (dC, dI)) (ci := 4) (v := .int (I 0 3)) (C := RFi) (T := TFi) (N := 2) hx hb hts inFi hown hK hP 1 rfl rfl 1 (by decide) (hts _ tw_34) (fun _ h9 => h9) rfl dFi_append_15 ?_
    refine rw_i (y := nI n) h3 ?_
    refine lv_iload_n hx hb dFi_append_18 rfl (lv_at hl 1 rfl) ?_
    refine rw_ast_i hx hb hK hP hD hS 2 0 rfl rfl (by omega) (by decide) dFi_append_19 (fun H locs hP hD hS => ?_)
    rw [wd_a2] at hP hD
    obtain ⟨I1, eI1⟩ : ∃ z, z = ui I 1 n o := ⟨_, rfl⟩
    rw [← eI1] at hP hD
    refine lv_aload_n hx hb dFi_append_20 rfl (lv_at hl 0 rfl) ?_
    refine lv_dup hx hb dFi_append_21 rfl ?_
    refine va_get (D := (dC, dI)) (ci := 4) (v := .int (I1 0 3)) (C := RFi) (T := TFi) (N := 2) hx hb hts inFi hown hK hP 1 rfl rfl 1 (by decide) (hts _ tw_34) (fun _ h9 => h9) rfl dFi_append_22 ?_
    refine rw_i (y := I 0 3) (by rw [eI1, ui_o _ _ _ (by decide)]) ?_
    refine rw_i (y := nI n) h3 ?_
    refine lv_iconst (v := nI 1) hx hb dFi_append_25 (by decide +kernel) ?_
    refine lv_iadd hx hb dFi_append_26 ?_
    refine rw_i (y := nI (n + 1)) (nI_add _ _) ?_
    refine va_put (D := (dC, dI)) (ci := 4) (fs := fl_f b I1 D) (v := .int (nI (n + 1))) (ty := .int) (C := RFi) (T := TFi) (N := 2) hx hb hts inFi tyFi tyFi_ok nmFi hown hK hP hD hS 1 rfl rfl 1 (by decide) (hts _ tw_34) (fun _ h9 => h9) rfl (by decide +kernel) rfl rfl (Nat.le_of_ble_eq_true rfl) dFi_append_27 (fun H locs hP hD hS => ?_)
    rw [wd_p1_1] at hP hD
    obtain ⟨I2, eI2⟩ : ∃ z, z = ui I1 0 3 (nI (n + 1)) := ⟨_, rfl⟩
    rw [← eI2] at hP hD
    exact ct_rv hx hb hr hlocks I2 (by rw [eI2, eI1]) hP hD hS (Nat.le_refl _) (Nat.le_refl _) dFi_append_30
set_option maxHeartbeats 4000000 in
set_option maxRecDepth 100000 in
theorem kSo_append (l : Launch) (dC : Nat → ClassId) (dI : Nat → Nat → Nat) (k : Nat → ClassId) (b P : Nat → Nat) (I : Nat → Nat → Int32) (D : Nat → Nat → UInt64) (sz : Nat) (x : UInt64) (n : Nat) (hn : n < 320) (h4 : I 0 4 = nI n) : Met l ySo_append wSo_append ({ frames := 0, cells := 0, slots := 0, locals := 0 }) (va_Pc [.ref (b 7), .double x] (ct_pre (dC, dI) (de_ty k) (fun _ => True) (wd k b P I D) sz)) (va_Qv (fun (u : (Nat → Nat → Int32) × (Nat → Nat → UInt64)) => u = (ui I 0 4 (nI (n + 1)), ud D 1 n x)) (fun u t => ct_at (dC, dI) (va_A (wd k b P I D) sz) ((fun u => wd k b P u.1 u.2) u) t) (va_A (wd k b P I D) sz)) 0 0 (va_A (wd k b P I D) sz) := by
  refine Met.ofW (cc := cSo_append) (maxL := 3) (ret := none) (by decide) rfl ?_
  intro p e s m args below meth c s₁ B hml hv
  obtain ⟨rfl, hsz, hP, hK, hD0, hE⟩ := hv
  have hx := B.exec
  have hb := B.bytes
  have hr := B.returns
  have hts : ∀ w ∈ W0, w.before [.ref (b 7), .double x].toArray s = true := fun w h => atoms_spec (ws := wSo_append) B.pre w (List.mem_cons_of_mem _ h)
  have hown : s.vm.findClass RSo = some m.cls := findClass_of_methodNamed B.named
  have hlocks := B.notSynchronized
  subst hsz
  have hP0 := hP
  have hD := hD0.self (sz := s.heap.size)
  generalize hAe : va_A (wd k b P I D) s.heap.size = A at hD ⊢
  have hA : ∀ q : Nat, s.heap.size ≤ q → A q := fun q h => by rw [← hAe]; exact Or.inr h
  have hS : va_S A s.heap s.heap [] := va_S.rf
  have hl := lv_entry ([.ref (b 7), .double x]) (n := 3) (Nat.le_of_ble_eq_true rfl)
  rw [lg_entry_eq]
  generalize (lg_sl ([.ref (b 7), .double x]) ++ List.replicate (3 - (lg_sl ([.ref (b 7), .double x])).length) Slot.unset).toArray = ls at hl ⊢
  have hl : lv_has ls 3 [(0, .ref (b 7)), (1, .double x)] := hl
  refine lv_aload_n hx hb dSo_append_0 rfl (lv_at hl 0 rfl) ?_
  refine va_get (D := (dC, dI)) (ci := 3) (v := .int (I 0 4)) (C := RSo) (T := TSo) (N := 7) hx hb hts inSo hown hK hP 7 rfl rfl 5 (by decide) (hts _ tw_82) (fun _ h9 => h9) rfl dSo_append_1 ?_
  refine rw_i (y := nI n) h4 ?_
  refine lv_sipush (v := nI 320) hx hb dSo_append_4 (by decide +kernel) ?_
  refine lv_icmp_ge (tgt := 30) hx hb dSo_append_7 (by decide) (fun c7 => ?_) (fun c7 => ?_)
  · have c7 : 320 ≤ n := (nI_leI (a := 320) (b := n) (by omega) (by omega)).mp (show nI 320 ≤ nI n from c7)
    exact absurd c7 (by omega)
  · have c7 : ¬ 320 ≤ n := fun q9 => c7 (show nI 320 ≤ nI n from (nI_leI (a := 320) (b := n) (by omega) (by omega)).mpr q9)
    refine lv_aload_n hx hb dSo_append_10 rfl (lv_at hl 0 rfl) ?_
    refine va_get (D := (dC, dI)) (ci := 3) (v := .ref (b 8)) (C := RSo) (T := TSo) (N := 7) hx hb hts inSo hown hK hP 7 rfl rfl 1 (by decide) (hts _ tw_75) (fun _ h9 => h9) rfl dSo_append_11 ?_
    refine lv_aload_n hx hb dSo_append_14 rfl (lv_at hl 0 rfl) ?_
    refine va_get (D := (dC, dI)) (ci := 3) (v := .int (I 0 4)) (C := RSo) (T := TSo) (N := 7) hx hb hts inSo hown hK hP 7 rfl rfl 5 (by decide) (hts _ tw_82) (fun _ h9 => h9) rfl dSo_append_15 ?_
    refine rw_i (y := nI n) h4 ?_
    refine lv_dload_n hx hb dSo_append_18 rfl (lv_at hl 1 rfl) ?_
    refine rw_ast_d hx hb hK hP hD hS 8 1 rfl rfl (by omega) (by decide) dSo_append_19 (fun H locs hP hD hS => ?_)
    rw [wd_a8] at hP hD
    obtain ⟨D1, eD1⟩ : ∃ z, z = ud D 1 n x := ⟨_, rfl⟩
    rw [← eD1] at hP hD
    refine lv_aload_n hx hb dSo_append_20 rfl (lv_at hl 0 rfl) ?_
    refine lv_dup hx hb dSo_append_21 rfl ?_
    refine va_get (D := (dC, dI)) (ci := 3) (v := .int (I 0 4)) (C := RSo) (T := TSo) (N := 7) hx hb hts inSo hown hK hP 7 rfl rfl 5 (by decide) (hts _ tw_82) (fun _ h9 => h9) rfl dSo_append_22 ?_
    refine rw_i (y := nI n) h4 ?_
    refine lv_iconst (v := nI 1) hx hb dSo_append_25 (by decide +kernel) ?_
    refine lv_iadd hx hb dSo_append_26 ?_
    refine rw_i (y := nI (n + 1)) (nI_add _ _) ?_
    refine va_put (D := (dC, dI)) (ci := 3) (fs := so_f b I D1) (v := .int (nI (n + 1))) (ty := .int) (C := RSo) (T := TSo) (N := 7) hx hb hts inSo tySo tySo_ok nmSo hown hK hP hD hS 7 rfl rfl 5 (by decide) (hts _ tw_82) (fun _ h9 => h9) rfl (by decide +kernel) rfl rfl (Nat.le_of_ble_eq_true rfl) dSo_append_27 (fun H locs hP hD hS => ?_)
    rw [wd_p7_5] at hP hD
    obtain ⟨I2, eI2⟩ : ∃ z, z = ui I 0 4 (nI (n + 1)) := ⟨_, rfl⟩
    rw [← eI2] at hP hD
    exact ct_rv hx hb hr hlocks (I2, D1) (by rw [eI2, eD1]) hP hD hS (Nat.le_refl _) (Nat.le_refl _) dSo_append_30
set_option maxHeartbeats 4000000 in
set_option maxRecDepth 100000 in
theorem kSo_empty (l : Launch) (dC : Nat → ClassId) (dI : Nat → Nat → Nat) (k : Nat → ClassId) (b P : Nat → Nat) (I : Nat → Nat → Int32) (D : Nat → Nat → UInt64) (sz : Nat)  : Met l ySo_empty wSo_empty ({ frames := 0, cells := 0, slots := 0, locals := 0 }) (va_Pc [.ref (b 7)] (ct_pre (dC, dI) (de_ty k) (fun _ => True) (wd k b P I D) sz)) (va_Qv (fun (u : Nat → Nat → Int32) => u = ui (ui I 0 4 (nI 0)) 0 5 (nI 0)) (fun u t => ct_at (dC, dI) (va_A (wd k b P I D) sz) ((fun u => wd k b P u D) u) t) (va_A (wd k b P I D) sz)) 0 0 (va_A (wd k b P I D) sz) := by
  refine Met.ofW (cc := cSo_empty) (maxL := 1) (ret := none) (by decide) rfl ?_
  intro p e s m args below meth c s₁ B hml hv
  obtain ⟨rfl, hsz, hP, hK, hD0, hE⟩ := hv
  have hx := B.exec
  have hb := B.bytes
  have hr := B.returns
  have hts : ∀ w ∈ W0, w.before [.ref (b 7)].toArray s = true := fun w h => atoms_spec (ws := wSo_empty) B.pre w (List.mem_cons_of_mem _ h)
  have hown : s.vm.findClass RSo = some m.cls := findClass_of_methodNamed B.named
  have hlocks := B.notSynchronized
  subst hsz
  have hP0 := hP
  have hD := hD0.self (sz := s.heap.size)
  generalize hAe : va_A (wd k b P I D) s.heap.size = A at hD ⊢
  have hA : ∀ q : Nat, s.heap.size ≤ q → A q := fun q h => by rw [← hAe]; exact Or.inr h
  have hS : va_S A s.heap s.heap [] := va_S.rf
  have hl := lv_entry ([.ref (b 7)]) (n := 1) (Nat.le_of_ble_eq_true rfl)
  rw [lg_entry_eq]
  generalize (lg_sl ([.ref (b 7)]) ++ List.replicate (1 - (lg_sl ([.ref (b 7)])).length) Slot.unset).toArray = ls at hl ⊢
  have hl : lv_has ls 1 [(0, .ref (b 7))] := hl
  refine lv_aload_n hx hb dSo_empty_0 rfl (lv_at hl 0 rfl) ?_
  refine lv_iconst (v := nI 0) hx hb dSo_empty_1 (by decide +kernel) ?_
  refine va_put (D := (dC, dI)) (ci := 3) (fs := so_f b I D) (v := .int (nI 0)) (ty := .int) (C := RSo) (T := TSo) (N := 7) hx hb hts inSo tySo tySo_ok nmSo hown hK hP hD hS 7 rfl rfl 5 (by decide) (hts _ tw_82) (fun _ h9 => h9) rfl (by decide +kernel) rfl rfl (Nat.le_of_ble_eq_true rfl) dSo_empty_2 (fun H locs hP hD hS => ?_)
  rw [wd_p7_5] at hP hD
  obtain ⟨I1, eI1⟩ : ∃ z, z = ui I 0 4 (nI 0) := ⟨_, rfl⟩
  rw [← eI1] at hP hD
  refine lv_aload_n hx hb dSo_empty_5 rfl (lv_at hl 0 rfl) ?_
  refine lv_iconst (v := nI 0) hx hb dSo_empty_6 (by decide +kernel) ?_
  refine va_put (D := (dC, dI)) (ci := 3) (fs := so_f b I1 D) (v := .int (nI 0)) (ty := .int) (C := RSo) (T := TSo) (N := 7) hx hb hts inSo tySo tySo_ok nmSo hown hK hP hD hS 7 rfl rfl 6 (by decide) (hts _ tw_84) (fun _ h9 => h9) rfl (by decide +kernel) rfl rfl (Nat.le_of_ble_eq_true rfl) dSo_empty_7 (fun H locs hP hD hS => ?_)
  rw [wd_p7_6] at hP hD
  obtain ⟨I2, eI2⟩ : ∃ z, z = ui I1 0 5 (nI 0) := ⟨_, rfl⟩
  rw [← eI2] at hP hD
  exact ct_rv hx hb hr hlocks I2 (by rw [eI2, eI1]) hP hD hS (Nat.le_refl _) (Nat.le_refl _) dSo_empty_10
set_option maxHeartbeats 4000000 in
set_option maxRecDepth 100000 in
theorem kLi_empty (l : Launch) (dC : Nat → ClassId) (dI : Nat → Nat → Nat) (k : Nat → ClassId) (b P : Nat → Nat) (I : Nat → Nat → Int32) (D : Nat → Nat → UInt64) (sz : Nat)  : Met l yLi_empty wLi_empty ({ frames := 0, cells := 0, slots := 0, locals := 0 }) (va_Pc [.ref (b 15)] (ct_pre (dC, dI) (de_ty k) (fun _ => True) (wd k b P I D) sz)) (va_Qv (fun (u : Nat → Nat → Int32) => u = ui I 0 7 (nI 0)) (fun u t => ct_at (dC, dI) (va_A (wd k b P I D) sz) ((fun u => wd k b P u D) u) t) (va_A (wd k b P I D) sz)) 0 0 (va_A (wd k b P I D) sz) := by
  refine Met.ofW (cc := cLi_empty) (maxL := 1) (ret := none) (by decide) rfl ?_
  intro p e s m args below meth c s₁ B hml hv
  obtain ⟨rfl, hsz, hP, hK, hD0, hE⟩ := hv
  have hx := B.exec
  have hb := B.bytes
  have hr := B.returns
  have hts : ∀ w ∈ W0, w.before [.ref (b 15)].toArray s = true := fun w h => atoms_spec (ws := wLi_empty) B.pre w (List.mem_cons_of_mem _ h)
  have hown : s.vm.findClass RLi = some m.cls := findClass_of_methodNamed B.named
  have hlocks := B.notSynchronized
  subst hsz
  have hP0 := hP
  have hD := hD0.self (sz := s.heap.size)
  generalize hAe : va_A (wd k b P I D) s.heap.size = A at hD ⊢
  have hA : ∀ q : Nat, s.heap.size ≤ q → A q := fun q h => by rw [← hAe]; exact Or.inr h
  have hS : va_S A s.heap s.heap [] := va_S.rf
  have hl := lv_entry ([.ref (b 15)]) (n := 1) (Nat.le_of_ble_eq_true rfl)
  rw [lg_entry_eq]
  generalize (lg_sl ([.ref (b 15)]) ++ List.replicate (1 - (lg_sl ([.ref (b 15)])).length) Slot.unset).toArray = ls at hl ⊢
  have hl : lv_has ls 1 [(0, .ref (b 15))] := hl
  refine lv_aload_n hx hb dLi_empty_0 rfl (lv_at hl 0 rfl) ?_
  refine lv_iconst (v := nI 0) hx hb dLi_empty_1 (by decide +kernel) ?_
  refine va_put (D := (dC, dI)) (ci := 6) (fs := li_f b I D) (v := .int (nI 0)) (ty := .int) (C := RLi) (T := TLi) (N := 2) hx hb hts inLi tyLi tyLi_ok nmLi hown hK hP hD hS 15 rfl rfl 1 (by decide) (hts _ tw_183) (fun _ h9 => h9) rfl (by decide +kernel) rfl rfl (Nat.le_of_ble_eq_true rfl) dLi_empty_2 (fun H locs hP hD hS => ?_)
  rw [wd_p15_1] at hP hD
  obtain ⟨I1, eI1⟩ : ∃ z, z = ui I 0 7 (nI 0) := ⟨_, rfl⟩
  rw [← eI1] at hP hD
  exact ct_rv hx hb hr hlocks I1 (by rw [eI1]) hP hD hS (Nat.le_refl _) (Nat.le_refl _) dLi_empty_5
set_option maxHeartbeats 4000000 in
set_option maxRecDepth 100000 in
theorem kFi_empty (l : Launch) (dC : Nat → ClassId) (dI : Nat → Nat → Nat) (k : Nat → ClassId) (b P : Nat → Nat) (I : Nat → Nat → Int32) (D : Nat → Nat → UInt64) (sz : Nat)  : Met l yFi_empty wFi_empty ({ frames := 0, cells := 0, slots := 0, locals := 0 }) (va_Pc [.ref (b 1)] (ct_pre (dC, dI) (de_ty k) (fun _ => True) (wd k b P I D) sz)) (va_Qv (fun (u : Nat → Nat → Int32) => u = ui I 0 3 (nI 0)) (fun u t => ct_at (dC, dI) (va_A (wd k b P I D) sz) ((fun u => wd k b P u D) u) t) (va_A (wd k b P I D) sz)) 0 0 (va_A (wd k b P I D) sz) := by
  refine Met.ofW (cc := cFi_empty) (maxL := 1) (ret := none) (by decide) rfl ?_
  intro p e s m args below meth c s₁ B hml hv
  obtain ⟨rfl, hsz, hP, hK, hD0, hE⟩ := hv
  have hx := B.exec
  have hb := B.bytes
  have hr := B.returns
  have hts : ∀ w ∈ W0, w.before [.ref (b 1)].toArray s = true := fun w h => atoms_spec (ws := wFi_empty) B.pre w (List.mem_cons_of_mem _ h)
  have hown : s.vm.findClass RFi = some m.cls := findClass_of_methodNamed B.named
  have hlocks := B.notSynchronized
  subst hsz
  have hP0 := hP
  have hD := hD0.self (sz := s.heap.size)
  generalize hAe : va_A (wd k b P I D) s.heap.size = A at hD ⊢
  have hA : ∀ q : Nat, s.heap.size ≤ q → A q := fun q h => by rw [← hAe]; exact Or.inr h
  have hS : va_S A s.heap s.heap [] := va_S.rf
  have hl := lv_entry ([.ref (b 1)]) (n := 1) (Nat.le_of_ble_eq_true rfl)
  rw [lg_entry_eq]
  generalize (lg_sl ([.ref (b 1)]) ++ List.replicate (1 - (lg_sl ([.ref (b 1)])).length) Slot.unset).toArray = ls at hl ⊢
  have hl : lv_has ls 1 [(0, .ref (b 1))] := hl
  refine lv_aload_n hx hb dFi_empty_0 rfl (lv_at hl 0 rfl) ?_
  refine lv_iconst (v := nI 0) hx hb dFi_empty_1 (by decide +kernel) ?_
  refine va_put (D := (dC, dI)) (ci := 4) (fs := fl_f b I D) (v := .int (nI 0)) (ty := .int) (C := RFi) (T := TFi) (N := 2) hx hb hts inFi tyFi tyFi_ok nmFi hown hK hP hD hS 1 rfl rfl 1 (by decide) (hts _ tw_34) (fun _ h9 => h9) rfl (by decide +kernel) rfl rfl (Nat.le_of_ble_eq_true rfl) dFi_empty_2 (fun H locs hP hD hS => ?_)
  rw [wd_p1_1] at hP hD
  obtain ⟨I1, eI1⟩ : ∃ z, z = ui I 0 3 (nI 0) := ⟨_, rfl⟩
  rw [← eI1] at hP hD
  exact ct_rv hx hb hr hlocks I1 (by rw [eI1]) hP hD hS (Nat.le_refl _) (Nat.le_refl _) dFi_empty_5
set_option maxHeartbeats 4000000 in
set_option maxRecDepth 100000 in
theorem kSo_frames (l : Launch) (dC : Nat → ClassId) (dI : Nat → Nat → Nat) (k : Nat → ClassId) (b P : Nat → Nat) (I : Nat → Nat → Int32) (D : Nat → Nat → UInt64) (sz : Nat) (n : Nat) (hn : n ≤ 320) (h4 : I 0 4 = nI n) : Met l ySo_frames wSo_frames ({ frames := 0, cells := 0, slots := 0, locals := 0 }) (va_Pc [.ref (b 7)] (ct_pre (dC, dI) (de_ty k) (fun _ => True) (wd k b P I D) sz)) (va_Qi (fun r (_ : Unit) => r = nI (hd_nf n)) (fun u t => ct_at (dC, dI) (va_A (wd k b P I D) sz) ((fun _ => wd k b P I D) u) t) (va_A (wd k b P I D) sz)) 0 0 (va_A (wd k b P I D) sz) := by
  refine Met.ofW (cc := cSo_frames) (maxL := 1) (ret := (some .int)) (by decide) rfl ?_
  intro p e s m args below meth c s₁ B hml hv
  obtain ⟨rfl, hsz, hP, hK, hD0, hE⟩ := hv
  have hx := B.exec
  have hb := B.bytes
  have hr := B.returns
  have hts : ∀ w ∈ W0, w.before [.ref (b 7)].toArray s = true := fun w h => atoms_spec (ws := wSo_frames) B.pre w (List.mem_cons_of_mem _ h)
  have hown : s.vm.findClass RSo = some m.cls := findClass_of_methodNamed B.named
  have hlocks := B.notSynchronized
  subst hsz
  have hP0 := hP
  have hD := hD0.self (sz := s.heap.size)
  generalize hAe : va_A (wd k b P I D) s.heap.size = A at hD ⊢
  have hA : ∀ q : Nat, s.heap.size ≤ q → A q := fun q h => by rw [← hAe]; exact Or.inr h
  have hS : va_S A s.heap s.heap [] := va_S.rf
  have hl := lv_entry ([.ref (b 7)]) (n := 1) (Nat.le_of_ble_eq_true rfl)
  rw [lg_entry_eq]
  generalize (lg_sl ([.ref (b 7)]) ++ List.replicate (1 - (lg_sl ([.ref (b 7)])).length) Slot.unset).toArray = ls at hl ⊢
  have hl : lv_has ls 1 [(0, .ref (b 7))] := hl
  refine lv_aload_n hx hb dSo_frames_0 rfl (lv_at hl 0 rfl) ?_
  refine va_get (D := (dC, dI)) (ci := 3) (v := .int (I 0 4)) (C := RSo) (T := TSo) (N := 7) hx hb hts inSo hown hK hP 7 rfl rfl 5 (by decide) (hts _ tw_82) (fun _ h9 => h9) rfl dSo_frames_1 ?_
  refine rw_i (y := nI n) h4 ?_
  refine lv_bipush (v := nI 32) hx hb dSo_frames_4 (by decide +kernel) ?_
  refine lv_icmp_ge (tgt := 13) hx hb dSo_frames_6 (by decide) (fun c6 => ?_) (fun c6 => ?_)
  · have c6 : 32 ≤ n := (nI_leI (a := 32) (b := n) (by omega) (by omega)).mp (show nI 32 ≤ nI n from c6)
    refine lv_aload_n hx hb dSo_frames_13 rfl (lv_at hl 0 rfl) ?_
    refine va_get (D := (dC, dI)) (ci := 3) (v := .int (I 0 4)) (C := RSo) (T := TSo) (N := 7) hx hb hts inSo hown hK hP 7 rfl rfl 5 (by decide) (hts _ tw_82) (fun _ h9 => h9) rfl dSo_frames_14 ?_
    refine rw_i (y := nI n) h4 ?_
    refine lv_bipush (v := nI 32) hx hb dSo_frames_17 (by decide +kernel) ?_
    refine lv_isub hx hb dSo_frames_19 ?_
    refine rw_i (y := nI (n - 32)) (pk_sub (by omega)) ?_
    refine lv_bipush (v := nI 16) hx hb dSo_frames_20 (by decide +kernel) ?_
    refine lv_idiv hx hb dSo_frames_22 (by decide +kernel) ?_
    refine rw_i (y := nI ((n - 32) / 16)) (pk_div (by omega) (by omega) (by omega)) ?_
    refine lv_iconst (v := nI 1) hx hb dSo_frames_23 (by decide +kernel) ?_
    refine lv_iadd hx hb dSo_frames_24 ?_
    refine rw_i (y := nI (((n - 32) / 16) + 1)) (nI_add _ _) ?_
    exact ct_ri hx hb hr hlocks () (by first | (unfold hd_nf; rw [if_pos (by omega)]) | (unfold hd_nf; rw [if_neg (by omega)])) hP hD hS (Nat.le_refl _) (Nat.le_refl _) dSo_frames_25
  · have c6 : ¬ 32 ≤ n := fun q9 => c6 (show nI 32 ≤ nI n from (nI_leI (a := 32) (b := n) (by omega) (by omega)).mpr q9)
    refine lv_iconst (v := nI 0) hx hb dSo_frames_9 (by decide +kernel) ?_
    refine lv_goto (tgt := 25) hx hb dSo_frames_10 (by decide) ?_
    exact ct_ri hx hb hr hlocks () (by first | (unfold hd_nf; rw [if_pos (by omega)]) | (unfold hd_nf; rw [if_neg (by omega)])) hP hD hS (Nat.le_refl _) (Nat.le_refl _) dSo_frames_25
set_option maxHeartbeats 4000000 in
set_option maxRecDepth 100000 in
theorem kFi_firstWrong0 (l : Launch) (dC : Nat → ClassId) (dI : Nat → Nat → Nat) (k : Nat → ClassId) (b P : Nat → Nat) (I : Nat → Nat → Int32) (D : Nat → Nat → UInt64) (sz : Nat) (n : Nat) (hn : n < 44) (h3 : I 0 3 = nI n) : Met l yFi_firstWrong wFi_firstWrong ({ frames := 0, cells := 0, slots := 0, locals := 0 }) (va_Pc [.ref (b 1)] (ct_pre (dC, dI) (de_ty k) (fun _ => True) (wd k b P I D) sz)) (va_Qi (fun r (_ : Unit) => r = nI n) (fun u t => ct_at (dC, dI) (va_A (wd k b P I D) sz) ((fun _ => wd k b P I D) u) t) (va_A (wd k b P I D) sz)) 0 0 (va_A (wd k b P I D) sz) := by
  refine Met.ofW (cc := cFi_firstWrong) (maxL := 2) (ret := (some .int)) (by decide) rfl ?_
  intro p e s m args below meth c s₁ B hml hv
  obtain ⟨rfl, hsz, hP, hK, hD0, hE⟩ := hv
  have hx := B.exec
  have hb := B.bytes
  have hr := B.returns
  have hts : ∀ w ∈ W0, w.before [.ref (b 1)].toArray s = true := fun w h => atoms_spec (ws := wFi_firstWrong) B.pre w (List.mem_cons_of_mem _ h)
  have hown : s.vm.findClass RFi = some m.cls := findClass_of_methodNamed B.named
  have hlocks := B.notSynchronized
  subst hsz
  have hP0 := hP
  have hD := hD0.self (sz := s.heap.size)
  generalize hAe : va_A (wd k b P I D) s.heap.size = A at hD ⊢
  have hA : ∀ q : Nat, s.heap.size ≤ q → A q := fun q h => by rw [← hAe]; exact Or.inr h
  have hS : va_S A s.heap s.heap [] := va_S.rf
  have hl := lv_entry ([.ref (b 1)]) (n := 2) (Nat.le_of_ble_eq_true rfl)
  rw [lg_entry_eq]
  generalize (lg_sl ([.ref (b 1)]) ++ List.replicate (2 - (lg_sl ([.ref (b 1)])).length) Slot.unset).toArray = ls at hl ⊢
  have hl : lv_has ls 2 [(0, .ref (b 1))] := hl
  refine lv_aload_n hx hb dFi_firstWrong_0 rfl (lv_at hl 0 rfl) ?_
  refine va_get (D := (dC, dI)) (ci := 4) (v := .int (I 0 3)) (C := RFi) (T := TFi) (N := 2) hx hb hts inFi hown hK hP 1 rfl rfl 1 (by decide) (hts _ tw_34) (fun _ h9 => h9) rfl dFi_firstWrong_1 ?_
  refine rw_i (y := nI n) h3 ?_
  refine lv_bipush (v := nI 44) hx hb dFi_firstWrong_4 (by decide +kernel) ?_
  refine lv_icmp_ge (tgt := 14) hx hb dFi_firstWrong_6 (by decide) (fun c6 => ?_) (fun c6 => ?_)
  · have c6 : 44 ≤ n := (nI_leI (a := 44) (b := n) (by omega) (by omega)).mp (show nI 44 ≤ nI n from c6)
    exact absurd c6 (by omega)
  · have c6 : ¬ 44 ≤ n := fun q9 => c6 (show nI 44 ≤ nI n from (nI_leI (a := 44) (b := n) (by omega) (by omega)).mpr q9)
    refine lv_aload_n hx hb dFi_firstWrong_9 rfl (lv_at hl 0 rfl) ?_
    refine va_get (D := (dC, dI)) (ci := 4) (v := .int (I 0 3)) (C := RFi) (T := TFi) (N := 2) hx hb hts inFi hown hK hP 1 rfl rfl 1 (by decide) (hts _ tw_34) (fun _ h9 => h9) rfl dFi_firstWrong_10 ?_
    refine rw_i (y := nI n) h3 ?_
    exact ct_ri hx hb hr hlocks () rfl hP hD hS (Nat.le_refl _) (Nat.le_refl _) dFi_firstWrong_13
set_option maxHeartbeats 4000000 in
set_option maxRecDepth 100000 in
theorem kDe_place (l : Launch) (dC : Nat → ClassId) (dI : Nat → Nat → Nat) (k : Nat → ClassId) (b P : Nat → Nat) (I : Nat → Nat → Int32) (D : Nat → Nat → UInt64) (sz : Nat)  : Met l yDe_place wDe_place ({ frames := 0, cells := 0, slots := 0, locals := 0 }) (va_Pc [.ref (b 0)] (ct_pre (dC, dI) (de_ty k) (fun _ => True) (wd k b P I D) sz)) (va_Qi (fun r (_ : Unit) => r = I 0 1) (fun u t => ct_at (dC, dI) (va_A (wd k b P I D) sz) ((fun _ => wd k b P I D) u) t) (va_A (wd k b P I D) sz)) 0 0 (va_A (wd k b P I D) sz) := by
  refine Met.ofW (cc := cDe_place) (maxL := 1) (ret := (some .int)) (by decide) rfl ?_
  intro p e s m args below meth c s₁ B hml hv
  obtain ⟨rfl, hsz, hP, hK, hD0, hE⟩ := hv
  have hx := B.exec
  have hb := B.bytes
  have hr := B.returns
  have hts : ∀ w ∈ W0, w.before [.ref (b 0)].toArray s = true := fun w h => atoms_spec (ws := wDe_place) B.pre w (List.mem_cons_of_mem _ h)
  have hown : s.vm.findClass RDe = some m.cls := findClass_of_methodNamed B.named
  have hlocks := B.notSynchronized
  subst hsz
  have hP0 := hP
  have hD := hD0.self (sz := s.heap.size)
  generalize hAe : va_A (wd k b P I D) s.heap.size = A at hD ⊢
  have hA : ∀ q : Nat, s.heap.size ≤ q → A q := fun q h => by rw [← hAe]; exact Or.inr h
  have hS : va_S A s.heap s.heap [] := va_S.rf
  have hl := lv_entry ([.ref (b 0)]) (n := 1) (Nat.le_of_ble_eq_true rfl)
  rw [lg_entry_eq]
  generalize (lg_sl ([.ref (b 0)]) ++ List.replicate (1 - (lg_sl ([.ref (b 0)])).length) Slot.unset).toArray = ls at hl ⊢
  have hl : lv_has ls 1 [(0, .ref (b 0))] := hl
  refine lv_aload_n hx hb dDe_place_0 rfl (lv_at hl 0 rfl) ?_
  refine va_get (D := (dC, dI)) (ci := 7) (v := .int (I 0 1)) (C := RDe) (T := TDe) (N := 10) hx hb hts inDe hown hK hP 0 rfl rfl 6 (by decide) (hts _ tw_198) (fun _ h9 => h9) rfl dDe_place_1 ?_
  exact ct_ri hx hb hr hlocks () rfl hP hD hS (Nat.le_refl _) (Nat.le_refl _) dDe_place_4
